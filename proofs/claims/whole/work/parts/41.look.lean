/-! The reference: look, set, byteOf, unspent, count -/
def lkV (M : MM) (n h t w : Nat) : Int32 := match w with
  | 0 => M 13 t
  | 6 => nI (nP (M 11) t)
  | 7 => nI (nX (M 11) t)
  | 8 => nI (nO (M 11) t)
  | 9 => M 12 t
  | 1 => if hv M t then nI (conf M n h t) else nI 0
  | 2 => if hv M t then bi (chitB M t) else nI 0
  | 3 => if hv M t then bi (liked M n t) else nI 0
  | 4 => if hv M t then nI (cntU (anc M n h t) n) else nI 0
  | _ => if hv M t then nI (cntU (desL M n t h) n) - nI 1 else nI 0
def lkR (M : MM) (n h : Nat) (id w : Int32) : Nat × Int32 := if w < 0 ∨ nI 10 ≤ w then (1, nI 0) else match fdo (M 10) id n with
  | none => (0, nI 0)
  | some t => (0, lkV M n h t w.toNatClampNeg)
theorem bm_le {w : Int32} (h : nI 10 ≤ w) : ¬ w ≤ nI 9 := by
  intro q
  have h1 := Int32.le_iff_toInt_le.mp h
  have h2 := Int32.le_iff_toInt_le.mp q
  have e1 : (nI 10).toInt = 10 := by decide
  have e2 : (nI 9).toInt = 9 := by decide
  omega
section LookP
variable {l : Launch} {g : GG} {S : hS} {mo : Nat} {M F : MM} {G : Nat → Int32} {X : Int64} {n h : Nat} {Post : Option AV → hS → Prop} {J : JJ}
theorem Hq.anc_p (hQ : Hq M n h) {t : Nat} (ht : t < n) (hh : hv M t = true) : Hp M n t := (hQ t ht hh).1.p
theorem cm_look {id w : Int32} (hX : MX S mo M F G X n h) (hQ : Hq M n h) : Sp l g mX10_look 0 0 [vr (some mo), vi id, vi w] S (fun r S' => r = some (vi (lkR M n h id w).2) ∧ MX S' mo M F (upd G 0 (nI (lkR M n h id w).1)) X n h ∧ Rf S S' mo) := by
  have hV := hX.V
  have hC0 : Gch S S mo (Gs S mo) := Gc.rf
  rw [hX.gg] at hC0
  have hn2 := hV.G.1
  generalize hRR : lkR M n h id w = R
  rcases pk_ix w (n := 10) (by omega) with h0 | h0 | ⟨j, hj, rfl⟩
  · have e : (1, nI 0) = R := by rw [← hRR]; simp only [lkR]; rw [if_pos (Or.inl h0)]
    subst e
    refine Sp.start (own := RX10) [(0, vr (some mo)), (1, vi id), (2, vi w)] (by decide +kernel) rfl rfl (Nat.le_of_ble_eq_true rfl) ?_
    intro J C
    refine r_aload_n (pc := 0) C dX10_look_0 rfl ?_
    refine r_iload_n (pc := 1) C dX10_look_1 rfl ?_
    refine r_if_lt (pc := 2) (tgt := 11) C dX10_look_2 (by decide) (fun c2 => ?_) (fun c2 => ?_)
    · refine r_iconst (pc := 11) C (nI 1) dX10_look_11 rfl ?_
      refine r_goto (pc := 12) (tgt := 16) C dX10_look_12 (by decide) ?_
      refine r_mP (pc := 16) (k := 0) C hV dX10_look_16 fx_RX10_145 (fp_11_0 _) (by decide) (fun S16 hC16 hV16 => ?_)
      have hC16r := hC16
      have hC16 := hC0.trs hC16
      refine r_aload_n (pc := 19) C dX10_look_19 rfl ?_
      refine r_iload_n (pc := 20) C dX10_look_20 rfl ?_
      refine r_callV (pc := 21) C (mv_find hV16) iX10_find ml_RX10_198 dX10_look_21 (ci := 11) rfl rfl hV16.1.1 rfl (by decide) rfl (by simp [cv, Value.category, va_rf]) (by omega) (by omega) (fun r21 S21 h21 => ?_)
      obtain ⟨rfl, e21⟩ := h21
      subst S21
      dsimp only [Option.toList, List.cons_append, List.nil_append]
      refine r_istore_n (pc := 24) C dX10_look_24 (by decide) rfl ?_
      refine r_aload_n (pc := 25) C dX10_look_25 rfl ?_
      refine r_mI (pc := 26) (k := 0) C hV16 dX10_look_26 fx_RX10_145 ?_
      rw [show Gs _ mo 0 = nI 1 from by rw [hC16.gs]; rfl]
      refine r_if_gt (pc := 29) (tgt := 36) C dX10_look_29 (by decide) (fun c29 => ?_) (fun c29 => ?_)
      · refine r_iconst (pc := 36) C (nI 0) dX10_look_36 rfl ?_
        refine r_iret (pc := 37) C dX10_look_37 rfl (by omega) (by omega) ?_
        exact ⟨rfl, hX.fin0 hC16 hV16⟩
      · exact absurd (by decide) c29
    · exact absurd h0 c2
  · have e : (1, nI 0) = R := by rw [← hRR]; simp only [lkR]; rw [if_pos (Or.inr h0)]
    subst e
    refine Sp.start (own := RX10) [(0, vr (some mo)), (1, vi id), (2, vi w)] (by decide +kernel) rfl rfl (Nat.le_of_ble_eq_true rfl) ?_
    intro J C
    refine r_aload_n (pc := 0) C dX10_look_0 rfl ?_
    refine r_iload_n (pc := 1) C dX10_look_1 rfl ?_
    refine r_if_lt (pc := 2) (tgt := 11) C dX10_look_2 (by decide) (fun c2 => ?_) (fun c2 => ?_)
    · refine r_iconst (pc := 11) C (nI 1) dX10_look_11 rfl ?_
      refine r_goto (pc := 12) (tgt := 16) C dX10_look_12 (by decide) ?_
      refine r_mP (pc := 16) (k := 0) C hV dX10_look_16 fx_RX10_145 (fp_11_0 _) (by decide) (fun S16 hC16 hV16 => ?_)
      have hC16r := hC16
      have hC16 := hC0.trs hC16
      refine r_aload_n (pc := 19) C dX10_look_19 rfl ?_
      refine r_iload_n (pc := 20) C dX10_look_20 rfl ?_
      refine r_callV (pc := 21) C (mv_find hV16) iX10_find ml_RX10_198 dX10_look_21 (ci := 11) rfl rfl hV16.1.1 rfl (by decide) rfl (by simp [cv, Value.category, va_rf]) (by omega) (by omega) (fun r21 S21 h21 => ?_)
      obtain ⟨rfl, e21⟩ := h21
      subst S21
      dsimp only [Option.toList, List.cons_append, List.nil_append]
      refine r_istore_n (pc := 24) C dX10_look_24 (by decide) rfl ?_
      refine r_aload_n (pc := 25) C dX10_look_25 rfl ?_
      refine r_mI (pc := 26) (k := 0) C hV16 dX10_look_26 fx_RX10_145 ?_
      rw [show Gs _ mo 0 = nI 1 from by rw [hC16.gs]; rfl]
      refine r_if_gt (pc := 29) (tgt := 36) C dX10_look_29 (by decide) (fun c29 => ?_) (fun c29 => ?_)
      · refine r_iconst (pc := 36) C (nI 0) dX10_look_36 rfl ?_
        refine r_iret (pc := 37) C dX10_look_37 rfl (by omega) (by omega) ?_
        exact ⟨rfl, hX.fin0 hC16 hV16⟩
      · exact absurd (by decide) c29
    · refine r_iload_n (pc := 5) C dX10_look_5 rfl ?_
      refine r_bipush (pc := 6) C (nI 9) dX10_look_6 rfl ?_
      refine r_icmp_le (pc := 8) (tgt := 15) C dX10_look_8 (by decide) (fun c8 => ?_) (fun c8 => ?_)
      · exact absurd c8 (bm_le h0)
      · refine r_iconst (pc := 11) C (nI 1) dX10_look_11 rfl ?_
        refine r_goto (pc := 12) (tgt := 16) C dX10_look_12 (by decide) ?_
        refine r_mP (pc := 16) (k := 0) C hV dX10_look_16 fx_RX10_145 (fp_11_0 _) (by decide) (fun S16 hC16 hV16 => ?_)
        have hC16r := hC16
        have hC16 := hC0.trs hC16
        refine r_aload_n (pc := 19) C dX10_look_19 rfl ?_
        refine r_iload_n (pc := 20) C dX10_look_20 rfl ?_
        refine r_callV (pc := 21) C (mv_find hV16) iX10_find ml_RX10_198 dX10_look_21 (ci := 11) rfl rfl hV16.1.1 rfl (by decide) rfl (by simp [cv, Value.category, va_rf]) (by omega) (by omega) (fun r21 S21 h21 => ?_)
        obtain ⟨rfl, e21⟩ := h21
        subst S21
        dsimp only [Option.toList, List.cons_append, List.nil_append]
        refine r_istore_n (pc := 24) C dX10_look_24 (by decide) rfl ?_
        refine r_aload_n (pc := 25) C dX10_look_25 rfl ?_
        refine r_mI (pc := 26) (k := 0) C hV16 dX10_look_26 fx_RX10_145 ?_
        rw [show Gs _ mo 0 = nI 1 from by rw [hC16.gs]; rfl]
        refine r_if_gt (pc := 29) (tgt := 36) C dX10_look_29 (by decide) (fun c29 => ?_) (fun c29 => ?_)
        · refine r_iconst (pc := 36) C (nI 0) dX10_look_36 rfl ?_
          refine r_iret (pc := 37) C dX10_look_37 rfl (by omega) (by omega) ?_
          exact ⟨rfl, hX.fin0 hC16 hV16⟩
        · exact absurd (by decide) c29
  · have hneg : ¬ (nI j < 0 ∨ nI 10 ≤ nI j) := fun q => q.elim (nI_pos (by omega)) (nI_ge hj (by omega))
    have eR : (match fdo (M 10) id n with
      | none => (0, nI 0)
      | some t => (0, lkV M n h t j)) = R := by rw [← hRR]; simp only [lkR]; rw [if_neg hneg, nI_clamp (by omega)]
    cases hf : fdo (M 10) id n with
    | none =>
      rw [hf] at eR
      subst eR
      refine Sp.start (own := RX10) [(0, vr (some mo)), (1, vi id), (2, vi (nI j))] (by decide +kernel) rfl rfl (Nat.le_of_ble_eq_true rfl) ?_
      intro J C
      refine r_aload_n (pc := 0) C dX10_look_0 rfl ?_
      refine r_iload_n (pc := 1) C dX10_look_1 rfl ?_
      refine r_if_lt (pc := 2) (tgt := 11) C dX10_look_2 (by decide) (fun c2 => ?_) (fun c2 => ?_)
      · exact absurd c2 (nI_pos (by omega))
      · refine r_iload_n (pc := 5) C dX10_look_5 rfl ?_
        refine r_bipush (pc := 6) C (nI 9) dX10_look_6 rfl ?_
        refine r_icmp_le (pc := 8) (tgt := 15) C dX10_look_8 (by decide) (fun c8 => ?_) (fun c8 => ?_)
        · refine r_iconst (pc := 15) C (nI 0) dX10_look_15 rfl ?_
          refine r_mP (pc := 16) (k := 0) C hV dX10_look_16 fx_RX10_145 (fp_11_0 _) (by decide) (fun S16 hC16 hV16 => ?_)
          have hC16r := hC16
          have hC16 := hC0.trs hC16
          refine r_aload_n (pc := 19) C dX10_look_19 rfl ?_
          refine r_iload_n (pc := 20) C dX10_look_20 rfl ?_
          refine r_callV (pc := 21) C (mv_find hV16) iX10_find ml_RX10_198 dX10_look_21 (ci := 11) rfl rfl hV16.1.1 rfl (by decide) rfl (by simp [cv, Value.category, va_rf]) (by omega) (by omega) (fun r21 S21 h21 => ?_)
          obtain ⟨rfl, e21⟩ := h21
          subst S21
          dsimp only [Option.toList, List.cons_append, List.nil_append]
          rw [hf]
          refine r_istore_n (pc := 24) C dX10_look_24 (by decide) rfl ?_
          refine r_aload_n (pc := 25) C dX10_look_25 rfl ?_
          refine r_mI (pc := 26) (k := 0) C hV16 dX10_look_26 fx_RX10_145 ?_
          rw [show Gs _ mo 0 = nI 0 from by rw [hC16.gs]; rfl]
          refine r_if_gt (pc := 29) (tgt := 36) C dX10_look_29 (by decide) (fun c29 => ?_) (fun c29 => ?_)
          · exact absurd c29 (by decide)
          · refine r_iload_n (pc := 32) C dX10_look_32 rfl ?_
            refine r_if_ge (pc := 33) (tgt := 38) C dX10_look_33 (by decide) (fun c33 => ?_) (fun c33 => ?_)
            · exact absurd c33 (by decide)
            · refine r_iconst (pc := 36) C (nI 0) dX10_look_36 rfl ?_
              refine r_iret (pc := 37) C dX10_look_37 rfl (by omega) (by omega) ?_
              exact ⟨rfl, hX.fin0 hC16 hV16⟩
        · exact absurd (nI_le (show j ≤ 9 by omega) (by omega)) c8
    | some t =>
      rw [hf] at eR
      subst eR
      have htn := fdo_lt t hf
      have ht140 : t < 140 := by omega
      refine Sp.start (own := RX10) [(0, vr (some mo)), (1, vi id), (2, vi (nI j))] (by decide +kernel) rfl rfl (Nat.le_of_ble_eq_true rfl) ?_
      intro J C
      have LM : ∀ (m : Nat → Bool) (x0 : Int32) (v : Int32), x0 + nI (cntU m n) = v → ∀ S1, Gch S S1 mo (upd G 0 (nI 0)) → MV S1 mo M n h → Bm (mI S1 mo 20) m → (some (vi v) = some (vi (lkV M n h t j))) → ∀ i z, i ≤ n → z = x0 + nI (cntU m i) → J 200 [(0, vr (some mo)), (1, vi id), (2, vi (nI j)), (3, vi (nI t)), (4, vi z), (5, vi (nI i))] [] S1 0 0 := by
        intro m x0 v hv1 S1 hC1 hV1 hB hv2
        refine up_loop _ _ _ ?_ ?_
        · intro z hz
          refine r_iload (pc := 200) C dX10_look_200 rfl ?_
          refine r_aload_n (pc := 202) C dX10_look_202 rfl ?_
          refine r_mn (pc := 203) C hV1 dX10_look_203 fx_RX10_16 ?_
          refine r_icmp_ge (pc := 206) (tgt := 235) C dX10_look_206 (by decide) (fun c206 => ?_) (fun c206 => ?_)
          · refine r_iload (pc := 235) C dX10_look_235 rfl ?_
            refine r_iret (pc := 237) C dX10_look_237 rfl (by omega) (by omega) ?_
            exact ⟨by rw [hz, hv1]; exact hv2, hX.fin0 hC1 hV1⟩
          · exact absurd (Int32.le_refl _) c206
        · intro i z hi hz ih
          subst hz
          refine r_iload (pc := 200) C dX10_look_200 rfl ?_
          refine r_aload_n (pc := 202) C dX10_look_202 rfl ?_
          refine r_mn (pc := 203) C hV1 dX10_look_203 fx_RX10_16 ?_
          refine r_icmp_ge (pc := 206) (tgt := 235) C dX10_look_206 (by decide) (fun c206 => ?_) (fun c206 => ?_)
          · exact absurd c206 (nI_ge hi (by omega))
          · refine r_iload (pc := 209) C dX10_look_209 rfl ?_
            refine r_aload_n (pc := 211) C dX10_look_211 rfl ?_
            refine r_mA (pc := 212) C hV1 dX10_look_212 fx_RX10_52 (len := 140) (by decide) ?_
            refine r_iload (pc := 215) C dX10_look_215 rfl ?_
            refine r_mkL (pc := 217) C hV1 dX10_look_217 (k := 20) (by decide) (by omega) (hB i (by omega)) ?_
            refine r_if_eq (pc := 218) (tgt := 225) C dX10_look_218 (by decide) (fun c218 => ?_) (fun c218 => ?_)
            · rw [bi_0] at c218
              have hv3 := cntU_f (f := m) (n := i) c218
              refine r_iconst (pc := 225) C (nI 0) dX10_look_225 rfl ?_
              refine r_iadd (pc := 226) C dX10_look_226 ?_
              refine r_istore (pc := 227) C dX10_look_227 (by decide) rfl ?_
              refine r_iinc (pc := 229) C _ dX10_look_229 rfl (nI_1 _) (by decide) rfl ?_
              refine r_goto (pc := 232) (tgt := 200) C dX10_look_232 (by decide) ?_
              exact r_lv C [(0, vr (some mo)), (1, vi id), (2, vi (nI j)), (3, vi (nI t)), (4, vi _), (5, vi (nI (i + 1)))] rfl (ih _ (by rw [Int32.add_assoc, nI_add, hv3]))
            · rw [bi_0] at c218
              have hv3 := cntU_t (f := m) (n := i) (ts_nf c218)
              refine r_iconst (pc := 221) C (nI 1) dX10_look_221 rfl ?_
              refine r_goto (pc := 222) (tgt := 226) C dX10_look_222 (by decide) ?_
              refine r_iadd (pc := 226) C dX10_look_226 ?_
              refine r_istore (pc := 227) C dX10_look_227 (by decide) rfl ?_
              refine r_iinc (pc := 229) C _ dX10_look_229 rfl (nI_1 _) (by decide) rfl ?_
              refine r_goto (pc := 232) (tgt := 200) C dX10_look_232 (by decide) ?_
              exact r_lv C [(0, vr (some mo)), (1, vi id), (2, vi (nI j)), (3, vi (nI t)), (4, vi _), (5, vi (nI (i + 1)))] rfl (ih _ (by rw [Int32.add_assoc, nI_add, hv3]))
      have hj10 : j = 0 ∨ j = 1 ∨ j = 2 ∨ j = 3 ∨ j = 4 ∨ j = 5 ∨ j = 6 ∨ j = 7 ∨ j = 8 ∨ j = 9 := by omega
      rcases hj10 with rfl | rfl | rfl | rfl | rfl | rfl | rfl | rfl | rfl | rfl
      · refine r_aload_n (pc := 0) C dX10_look_0 rfl ?_
        refine r_iload_n (pc := 1) C dX10_look_1 rfl ?_
        refine r_if_lt (pc := 2) (tgt := 11) C dX10_look_2 (by decide) (fun c2 => ?_) (fun c2 => ?_)
        · exact absurd c2 (by decide)
        · refine r_iload_n (pc := 5) C dX10_look_5 rfl ?_
          refine r_bipush (pc := 6) C (nI 9) dX10_look_6 rfl ?_
          refine r_icmp_le (pc := 8) (tgt := 15) C dX10_look_8 (by decide) (fun c8 => ?_) (fun c8 => ?_)
          · refine r_iconst (pc := 15) C (nI 0) dX10_look_15 rfl ?_
            refine r_mP (pc := 16) (k := 0) C hV dX10_look_16 fx_RX10_145 (fp_11_0 _) (by decide) (fun S16 hC16 hV16 => ?_)
            have hC16r := hC16
            have hC16 := hC0.trs hC16
            refine r_aload_n (pc := 19) C dX10_look_19 rfl ?_
            refine r_iload_n (pc := 20) C dX10_look_20 rfl ?_
            refine r_callV (pc := 21) C (mv_findS hV16 hf) iX10_find ml_RX10_198 dX10_look_21 (ci := 11) rfl rfl hV16.1.1 rfl (by decide) rfl (by simp [cv, Value.category, va_rf]) (by omega) (by omega) (fun r21 S21 h21 => ?_)
            obtain ⟨rfl, e21⟩ := h21
            subst S21
            dsimp only [Option.toList, List.cons_append, List.nil_append]
            refine r_istore_n (pc := 24) C dX10_look_24 (by decide) rfl ?_
            refine r_aload_n (pc := 25) C dX10_look_25 rfl ?_
            refine r_mI (pc := 26) (k := 0) C hV16 dX10_look_26 fx_RX10_145 ?_
            rw [show Gs _ mo 0 = nI 0 from by rw [hC16.gs]; rfl]
            refine r_if_gt (pc := 29) (tgt := 36) C dX10_look_29 (by decide) (fun c29 => ?_) (fun c29 => ?_)
            · exact absurd c29 (by decide)
            · refine r_iload_n (pc := 32) C dX10_look_32 rfl ?_
              refine r_if_ge (pc := 33) (tgt := 38) C dX10_look_33 (by decide) (fun c33 => ?_) (fun c33 => ?_)
              · refine r_iload_n (pc := 38) C dX10_look_38 rfl ?_
                refine r_if_ne (pc := 39) (tgt := 49) C dX10_look_39 (by decide) (fun c39 => ?_) (fun c39 => ?_)
                · exact absurd (by decide) c39
                · refine r_aload_n (pc := 42) C dX10_look_42 rfl ?_
                  refine r_mA (pc := 43) C hV16 dX10_look_43 fx_RX10_30 (len := 140) (by decide) ?_
                  refine r_iload_n (pc := 46) C dX10_look_46 rfl ?_
                  refine r_mL (pc := 47) C hV16 dX10_look_47 (k := 13) (len := 140) (by decide) (by decide) (by decide) (by omega) (by decide) ?_
                  refine r_iret (pc := 48) C dX10_look_48 rfl (by omega) (by omega) ?_
                  exact ⟨rfl, hX.fin0 hC16 hV16⟩
              · exact absurd (nI_pos' (by omega)) c33
          · exact absurd (by decide) c8
      · cases hh : hv M t with
        | false =>
          refine r_aload_n (pc := 0) C dX10_look_0 rfl ?_
          refine r_iload_n (pc := 1) C dX10_look_1 rfl ?_
          refine r_if_lt (pc := 2) (tgt := 11) C dX10_look_2 (by decide) (fun c2 => ?_) (fun c2 => ?_)
          · exact absurd c2 (by decide)
          · refine r_iload_n (pc := 5) C dX10_look_5 rfl ?_
            refine r_bipush (pc := 6) C (nI 9) dX10_look_6 rfl ?_
            refine r_icmp_le (pc := 8) (tgt := 15) C dX10_look_8 (by decide) (fun c8 => ?_) (fun c8 => ?_)
            · refine r_iconst (pc := 15) C (nI 0) dX10_look_15 rfl ?_
              refine r_mP (pc := 16) (k := 0) C hV dX10_look_16 fx_RX10_145 (fp_11_0 _) (by decide) (fun S16 hC16 hV16 => ?_)
              have hC16r := hC16
              have hC16 := hC0.trs hC16
              refine r_aload_n (pc := 19) C dX10_look_19 rfl ?_
              refine r_iload_n (pc := 20) C dX10_look_20 rfl ?_
              refine r_callV (pc := 21) C (mv_findS hV16 hf) iX10_find ml_RX10_198 dX10_look_21 (ci := 11) rfl rfl hV16.1.1 rfl (by decide) rfl (by simp [cv, Value.category, va_rf]) (by omega) (by omega) (fun r21 S21 h21 => ?_)
              obtain ⟨rfl, e21⟩ := h21
              subst S21
              dsimp only [Option.toList, List.cons_append, List.nil_append]
              refine r_istore_n (pc := 24) C dX10_look_24 (by decide) rfl ?_
              refine r_aload_n (pc := 25) C dX10_look_25 rfl ?_
              refine r_mI (pc := 26) (k := 0) C hV16 dX10_look_26 fx_RX10_145 ?_
              rw [show Gs _ mo 0 = nI 0 from by rw [hC16.gs]; rfl]
              refine r_if_gt (pc := 29) (tgt := 36) C dX10_look_29 (by decide) (fun c29 => ?_) (fun c29 => ?_)
              · exact absurd c29 (by decide)
              · refine r_iload_n (pc := 32) C dX10_look_32 rfl ?_
                refine r_if_ge (pc := 33) (tgt := 38) C dX10_look_33 (by decide) (fun c33 => ?_) (fun c33 => ?_)
                · refine r_iload_n (pc := 38) C dX10_look_38 rfl ?_
                  refine r_if_ne (pc := 39) (tgt := 49) C dX10_look_39 (by decide) (fun c39 => ?_) (fun c39 => ?_)
                  · refine r_iload_n (pc := 49) C dX10_look_49 rfl ?_
                    refine r_iconst (pc := 50) C (nI 5) dX10_look_50 rfl ?_
                    refine r_icmp_le (pc := 51) (tgt := 103) C dX10_look_51 (by decide) (fun c51 => ?_) (fun c51 => ?_)
                    · refine r_aload_n (pc := 103) C dX10_look_103 rfl ?_
                      refine r_iload_n (pc := 104) C dX10_look_104 rfl ?_
                      refine r_callV (pc := 105) C (cm_isHeld (o := some t) hV16 (fun u hu => by cases hu; exact htn)) iX10_isHeld ml_RX10_283 dX10_look_105 (ci := 11) rfl rfl hV16.1.1 rfl (by decide) rfl (by simp [cv, Value.category, va_rf]) (by omega) (by omega) (fun r105 S105 h105 => ?_)
                      obtain ⟨rfl, e105⟩ := h105
                      subst S105
                      dsimp only [Option.toList, List.cons_append, List.nil_append]
                      refine r_if_ne (pc := 108) (tgt := 113) C dX10_look_108 (by decide) (fun c108 => ?_) (fun c108 => ?_)
                      · rw [bi_0, show hvo M (some t) = false from hh] at c108
                        exact absurd rfl c108
                      · refine r_iconst (pc := 111) C (nI 0) dX10_look_111 rfl ?_
                        refine r_iret (pc := 112) C dX10_look_112 rfl (by omega) (by omega) ?_
                        refine ⟨by simp only [lkV, hh, Bool.false_eq_true, if_false], hX.fin0 hC16 hV16⟩
                    · exact absurd (by decide) c51
                  · exact absurd c39 (by decide)
                · exact absurd (nI_pos' (by omega)) c33
            · exact absurd (by decide) c8
        | true =>
          refine r_aload_n (pc := 0) C dX10_look_0 rfl ?_
          refine r_iload_n (pc := 1) C dX10_look_1 rfl ?_
          refine r_if_lt (pc := 2) (tgt := 11) C dX10_look_2 (by decide) (fun c2 => ?_) (fun c2 => ?_)
          · exact absurd c2 (by decide)
          · refine r_iload_n (pc := 5) C dX10_look_5 rfl ?_
            refine r_bipush (pc := 6) C (nI 9) dX10_look_6 rfl ?_
            refine r_icmp_le (pc := 8) (tgt := 15) C dX10_look_8 (by decide) (fun c8 => ?_) (fun c8 => ?_)
            · refine r_iconst (pc := 15) C (nI 0) dX10_look_15 rfl ?_
              refine r_mP (pc := 16) (k := 0) C hV dX10_look_16 fx_RX10_145 (fp_11_0 _) (by decide) (fun S16 hC16 hV16 => ?_)
              have hC16r := hC16
              have hC16 := hC0.trs hC16
              refine r_aload_n (pc := 19) C dX10_look_19 rfl ?_
              refine r_iload_n (pc := 20) C dX10_look_20 rfl ?_
              refine r_callV (pc := 21) C (mv_findS hV16 hf) iX10_find ml_RX10_198 dX10_look_21 (ci := 11) rfl rfl hV16.1.1 rfl (by decide) rfl (by simp [cv, Value.category, va_rf]) (by omega) (by omega) (fun r21 S21 h21 => ?_)
              obtain ⟨rfl, e21⟩ := h21
              subst S21
              dsimp only [Option.toList, List.cons_append, List.nil_append]
              refine r_istore_n (pc := 24) C dX10_look_24 (by decide) rfl ?_
              refine r_aload_n (pc := 25) C dX10_look_25 rfl ?_
              refine r_mI (pc := 26) (k := 0) C hV16 dX10_look_26 fx_RX10_145 ?_
              rw [show Gs _ mo 0 = nI 0 from by rw [hC16.gs]; rfl]
              refine r_if_gt (pc := 29) (tgt := 36) C dX10_look_29 (by decide) (fun c29 => ?_) (fun c29 => ?_)
              · exact absurd c29 (by decide)
              · refine r_iload_n (pc := 32) C dX10_look_32 rfl ?_
                refine r_if_ge (pc := 33) (tgt := 38) C dX10_look_33 (by decide) (fun c33 => ?_) (fun c33 => ?_)
                · refine r_iload_n (pc := 38) C dX10_look_38 rfl ?_
                  refine r_if_ne (pc := 39) (tgt := 49) C dX10_look_39 (by decide) (fun c39 => ?_) (fun c39 => ?_)
                  · refine r_iload_n (pc := 49) C dX10_look_49 rfl ?_
                    refine r_iconst (pc := 50) C (nI 5) dX10_look_50 rfl ?_
                    refine r_icmp_le (pc := 51) (tgt := 103) C dX10_look_51 (by decide) (fun c51 => ?_) (fun c51 => ?_)
                    · refine r_aload_n (pc := 103) C dX10_look_103 rfl ?_
                      refine r_iload_n (pc := 104) C dX10_look_104 rfl ?_
                      refine r_callV (pc := 105) C (cm_isHeld (o := some t) hV16 (fun u hu => by cases hu; exact htn)) iX10_isHeld ml_RX10_283 dX10_look_105 (ci := 11) rfl rfl hV16.1.1 rfl (by decide) rfl (by simp [cv, Value.category, va_rf]) (by omega) (by omega) (fun r105 S105 h105 => ?_)
                      obtain ⟨rfl, e105⟩ := h105
                      subst S105
                      dsimp only [Option.toList, List.cons_append, List.nil_append]
                      refine r_if_ne (pc := 108) (tgt := 113) C dX10_look_108 (by decide) (fun c108 => ?_) (fun c108 => ?_)
                      · refine r_iload_n (pc := 113) C dX10_look_113 rfl ?_
                        refine r_iconst (pc := 114) C (nI 4) dX10_look_114 rfl ?_
                        refine r_icmp_ge (pc := 115) (tgt := 167) C dX10_look_115 (by decide) (fun c115 => ?_) (fun c115 => ?_)
                        · exact absurd c115 (by decide)
                        · refine r_iload_n (pc := 118) C dX10_look_118 rfl ?_
                          refine r_iconst (pc := 119) C (nI 1) dX10_look_119 rfl ?_
                          refine r_icmp_ne (pc := 120) (tgt := 131) C dX10_look_120 (by decide) (fun c120 => ?_) (fun c120 => ?_)
                          · exact absurd (by decide) c120
                          · refine r_aload_n (pc := 123) C dX10_look_123 rfl ?_
                            refine r_iload_n (pc := 124) C dX10_look_124 rfl ?_
                            refine r_callV (pc := 125) C (cx_confidence hV16 htn) iX10_confidence ml_RX10_277 dX10_look_125 (ci := 11) rfl rfl hV16.1.1 rfl (by decide) rfl (by simp [cv, Value.category, va_rf]) (by omega) (by omega) (fun r125 S125 h125 => ?_)
                            obtain ⟨rfl, hCr, hV125⟩ := h125
                            have hC125 := hC16.trk hCr
                            dsimp only [Option.toList, List.cons_append, List.nil_append]
                            refine r_goto (pc := 128) (tgt := 166) C dX10_look_128 (by decide) ?_
                            refine r_iret (pc := 166) C dX10_look_166 rfl (by omega) (by omega) ?_
                            exact ⟨by simp only [lkV, hh, if_true], hX.fin0 hC125 hV125⟩
                      · rw [bi_0, show hvo M (some t) = true from hh] at c108
                        cases c108
                    · exact absurd (by decide) c51
                  · exact absurd c39 (by decide)
                · exact absurd (nI_pos' (by omega)) c33
            · exact absurd (by decide) c8
      · cases hh : hv M t with
        | false =>
          refine r_aload_n (pc := 0) C dX10_look_0 rfl ?_
          refine r_iload_n (pc := 1) C dX10_look_1 rfl ?_
          refine r_if_lt (pc := 2) (tgt := 11) C dX10_look_2 (by decide) (fun c2 => ?_) (fun c2 => ?_)
          · exact absurd c2 (by decide)
          · refine r_iload_n (pc := 5) C dX10_look_5 rfl ?_
            refine r_bipush (pc := 6) C (nI 9) dX10_look_6 rfl ?_
            refine r_icmp_le (pc := 8) (tgt := 15) C dX10_look_8 (by decide) (fun c8 => ?_) (fun c8 => ?_)
            · refine r_iconst (pc := 15) C (nI 0) dX10_look_15 rfl ?_
              refine r_mP (pc := 16) (k := 0) C hV dX10_look_16 fx_RX10_145 (fp_11_0 _) (by decide) (fun S16 hC16 hV16 => ?_)
              have hC16r := hC16
              have hC16 := hC0.trs hC16
              refine r_aload_n (pc := 19) C dX10_look_19 rfl ?_
              refine r_iload_n (pc := 20) C dX10_look_20 rfl ?_
              refine r_callV (pc := 21) C (mv_findS hV16 hf) iX10_find ml_RX10_198 dX10_look_21 (ci := 11) rfl rfl hV16.1.1 rfl (by decide) rfl (by simp [cv, Value.category, va_rf]) (by omega) (by omega) (fun r21 S21 h21 => ?_)
              obtain ⟨rfl, e21⟩ := h21
              subst S21
              dsimp only [Option.toList, List.cons_append, List.nil_append]
              refine r_istore_n (pc := 24) C dX10_look_24 (by decide) rfl ?_
              refine r_aload_n (pc := 25) C dX10_look_25 rfl ?_
              refine r_mI (pc := 26) (k := 0) C hV16 dX10_look_26 fx_RX10_145 ?_
              rw [show Gs _ mo 0 = nI 0 from by rw [hC16.gs]; rfl]
              refine r_if_gt (pc := 29) (tgt := 36) C dX10_look_29 (by decide) (fun c29 => ?_) (fun c29 => ?_)
              · exact absurd c29 (by decide)
              · refine r_iload_n (pc := 32) C dX10_look_32 rfl ?_
                refine r_if_ge (pc := 33) (tgt := 38) C dX10_look_33 (by decide) (fun c33 => ?_) (fun c33 => ?_)
                · refine r_iload_n (pc := 38) C dX10_look_38 rfl ?_
                  refine r_if_ne (pc := 39) (tgt := 49) C dX10_look_39 (by decide) (fun c39 => ?_) (fun c39 => ?_)
                  · refine r_iload_n (pc := 49) C dX10_look_49 rfl ?_
                    refine r_iconst (pc := 50) C (nI 5) dX10_look_50 rfl ?_
                    refine r_icmp_le (pc := 51) (tgt := 103) C dX10_look_51 (by decide) (fun c51 => ?_) (fun c51 => ?_)
                    · refine r_aload_n (pc := 103) C dX10_look_103 rfl ?_
                      refine r_iload_n (pc := 104) C dX10_look_104 rfl ?_
                      refine r_callV (pc := 105) C (cm_isHeld (o := some t) hV16 (fun u hu => by cases hu; exact htn)) iX10_isHeld ml_RX10_283 dX10_look_105 (ci := 11) rfl rfl hV16.1.1 rfl (by decide) rfl (by simp [cv, Value.category, va_rf]) (by omega) (by omega) (fun r105 S105 h105 => ?_)
                      obtain ⟨rfl, e105⟩ := h105
                      subst S105
                      dsimp only [Option.toList, List.cons_append, List.nil_append]
                      refine r_if_ne (pc := 108) (tgt := 113) C dX10_look_108 (by decide) (fun c108 => ?_) (fun c108 => ?_)
                      · rw [bi_0, show hvo M (some t) = false from hh] at c108
                        exact absurd rfl c108
                      · refine r_iconst (pc := 111) C (nI 0) dX10_look_111 rfl ?_
                        refine r_iret (pc := 112) C dX10_look_112 rfl (by omega) (by omega) ?_
                        refine ⟨by simp only [lkV, hh, Bool.false_eq_true, if_false], hX.fin0 hC16 hV16⟩
                    · exact absurd (by decide) c51
                  · exact absurd c39 (by decide)
                · exact absurd (nI_pos' (by omega)) c33
            · exact absurd (by decide) c8
        | true =>
          refine r_aload_n (pc := 0) C dX10_look_0 rfl ?_
          refine r_iload_n (pc := 1) C dX10_look_1 rfl ?_
          refine r_if_lt (pc := 2) (tgt := 11) C dX10_look_2 (by decide) (fun c2 => ?_) (fun c2 => ?_)
          · exact absurd c2 (by decide)
          · refine r_iload_n (pc := 5) C dX10_look_5 rfl ?_
            refine r_bipush (pc := 6) C (nI 9) dX10_look_6 rfl ?_
            refine r_icmp_le (pc := 8) (tgt := 15) C dX10_look_8 (by decide) (fun c8 => ?_) (fun c8 => ?_)
            · refine r_iconst (pc := 15) C (nI 0) dX10_look_15 rfl ?_
              refine r_mP (pc := 16) (k := 0) C hV dX10_look_16 fx_RX10_145 (fp_11_0 _) (by decide) (fun S16 hC16 hV16 => ?_)
              have hC16r := hC16
              have hC16 := hC0.trs hC16
              refine r_aload_n (pc := 19) C dX10_look_19 rfl ?_
              refine r_iload_n (pc := 20) C dX10_look_20 rfl ?_
              refine r_callV (pc := 21) C (mv_findS hV16 hf) iX10_find ml_RX10_198 dX10_look_21 (ci := 11) rfl rfl hV16.1.1 rfl (by decide) rfl (by simp [cv, Value.category, va_rf]) (by omega) (by omega) (fun r21 S21 h21 => ?_)
              obtain ⟨rfl, e21⟩ := h21
              subst S21
              dsimp only [Option.toList, List.cons_append, List.nil_append]
              refine r_istore_n (pc := 24) C dX10_look_24 (by decide) rfl ?_
              refine r_aload_n (pc := 25) C dX10_look_25 rfl ?_
              refine r_mI (pc := 26) (k := 0) C hV16 dX10_look_26 fx_RX10_145 ?_
              rw [show Gs _ mo 0 = nI 0 from by rw [hC16.gs]; rfl]
              refine r_if_gt (pc := 29) (tgt := 36) C dX10_look_29 (by decide) (fun c29 => ?_) (fun c29 => ?_)
              · exact absurd c29 (by decide)
              · refine r_iload_n (pc := 32) C dX10_look_32 rfl ?_
                refine r_if_ge (pc := 33) (tgt := 38) C dX10_look_33 (by decide) (fun c33 => ?_) (fun c33 => ?_)
                · refine r_iload_n (pc := 38) C dX10_look_38 rfl ?_
                  refine r_if_ne (pc := 39) (tgt := 49) C dX10_look_39 (by decide) (fun c39 => ?_) (fun c39 => ?_)
                  · refine r_iload_n (pc := 49) C dX10_look_49 rfl ?_
                    refine r_iconst (pc := 50) C (nI 5) dX10_look_50 rfl ?_
                    refine r_icmp_le (pc := 51) (tgt := 103) C dX10_look_51 (by decide) (fun c51 => ?_) (fun c51 => ?_)
                    · refine r_aload_n (pc := 103) C dX10_look_103 rfl ?_
                      refine r_iload_n (pc := 104) C dX10_look_104 rfl ?_
                      refine r_callV (pc := 105) C (cm_isHeld (o := some t) hV16 (fun u hu => by cases hu; exact htn)) iX10_isHeld ml_RX10_283 dX10_look_105 (ci := 11) rfl rfl hV16.1.1 rfl (by decide) rfl (by simp [cv, Value.category, va_rf]) (by omega) (by omega) (fun r105 S105 h105 => ?_)
                      obtain ⟨rfl, e105⟩ := h105
                      subst S105
                      dsimp only [Option.toList, List.cons_append, List.nil_append]
                      refine r_if_ne (pc := 108) (tgt := 113) C dX10_look_108 (by decide) (fun c108 => ?_) (fun c108 => ?_)
                      · refine r_iload_n (pc := 113) C dX10_look_113 rfl ?_
                        refine r_iconst (pc := 114) C (nI 4) dX10_look_114 rfl ?_
                        refine r_icmp_ge (pc := 115) (tgt := 167) C dX10_look_115 (by decide) (fun c115 => ?_) (fun c115 => ?_)
                        · exact absurd c115 (by decide)
                        · refine r_iload_n (pc := 118) C dX10_look_118 rfl ?_
                          refine r_iconst (pc := 119) C (nI 1) dX10_look_119 rfl ?_
                          refine r_icmp_ne (pc := 120) (tgt := 131) C dX10_look_120 (by decide) (fun c120 => ?_) (fun c120 => ?_)
                          · refine r_iload_n (pc := 131) C dX10_look_131 rfl ?_
                            refine r_iconst (pc := 132) C (nI 2) dX10_look_132 rfl ?_
                            refine r_icmp_ne (pc := 133) (tgt := 153) C dX10_look_133 (by decide) (fun c133 => ?_) (fun c133 => ?_)
                            · exact absurd (by decide) c133
                            · refine r_aload_n (pc := 136) C dX10_look_136 rfl ?_
                              refine r_mA (pc := 137) C hV16 dX10_look_137 fx_RX10_33 (len := 140) (by decide) ?_
                              refine r_iload_n (pc := 140) C dX10_look_140 rfl ?_
                              refine r_mLz (pc := 141) C hV16 dX10_look_141 (k := 14) (len := 140) (by decide) (by decide) (by decide) (by omega) (by decide) ?_
                              refine r_if_eq (pc := 142) (tgt := 149) C dX10_look_142 (by decide) (fun c142 => ?_) (fun c142 => ?_)
                              · have hcv : nI 0 = bi (chitB M t) := by simp only [chitB, decide_eq_true c142]; rfl
                                refine r_iconst (pc := 149) C (nI 0) dX10_look_149 rfl ?_
                                refine r_goto (pc := 150) (tgt := 166) C dX10_look_150 (by decide) ?_
                                refine r_iret (pc := 166) C dX10_look_166 rfl (by omega) (by omega) ?_
                                exact ⟨by simp only [lkV, hh, if_true]; rw [hcv], hX.fin0 hC16 hV16⟩
                              · have hcv : nI 1 = bi (chitB M t) := by simp only [chitB, decide_eq_false c142]; rfl
                                refine r_iconst (pc := 145) C (nI 1) dX10_look_145 rfl ?_
                                refine r_goto (pc := 146) (tgt := 166) C dX10_look_146 (by decide) ?_
                                refine r_iret (pc := 166) C dX10_look_166 rfl (by omega) (by omega) ?_
                                exact ⟨by simp only [lkV, hh, if_true]; rw [hcv], hX.fin0 hC16 hV16⟩
                          · exact absurd c120 (by decide)
                      · rw [bi_0, show hvo M (some t) = true from hh] at c108
                        cases c108
                    · exact absurd (by decide) c51
                  · exact absurd c39 (by decide)
                · exact absurd (nI_pos' (by omega)) c33
            · exact absurd (by decide) c8
      · cases hh : hv M t with
        | false =>
          refine r_aload_n (pc := 0) C dX10_look_0 rfl ?_
          refine r_iload_n (pc := 1) C dX10_look_1 rfl ?_
          refine r_if_lt (pc := 2) (tgt := 11) C dX10_look_2 (by decide) (fun c2 => ?_) (fun c2 => ?_)
          · exact absurd c2 (by decide)
          · refine r_iload_n (pc := 5) C dX10_look_5 rfl ?_
            refine r_bipush (pc := 6) C (nI 9) dX10_look_6 rfl ?_
            refine r_icmp_le (pc := 8) (tgt := 15) C dX10_look_8 (by decide) (fun c8 => ?_) (fun c8 => ?_)
            · refine r_iconst (pc := 15) C (nI 0) dX10_look_15 rfl ?_
              refine r_mP (pc := 16) (k := 0) C hV dX10_look_16 fx_RX10_145 (fp_11_0 _) (by decide) (fun S16 hC16 hV16 => ?_)
              have hC16r := hC16
              have hC16 := hC0.trs hC16
              refine r_aload_n (pc := 19) C dX10_look_19 rfl ?_
              refine r_iload_n (pc := 20) C dX10_look_20 rfl ?_
              refine r_callV (pc := 21) C (mv_findS hV16 hf) iX10_find ml_RX10_198 dX10_look_21 (ci := 11) rfl rfl hV16.1.1 rfl (by decide) rfl (by simp [cv, Value.category, va_rf]) (by omega) (by omega) (fun r21 S21 h21 => ?_)
              obtain ⟨rfl, e21⟩ := h21
              subst S21
              dsimp only [Option.toList, List.cons_append, List.nil_append]
              refine r_istore_n (pc := 24) C dX10_look_24 (by decide) rfl ?_
              refine r_aload_n (pc := 25) C dX10_look_25 rfl ?_
              refine r_mI (pc := 26) (k := 0) C hV16 dX10_look_26 fx_RX10_145 ?_
              rw [show Gs _ mo 0 = nI 0 from by rw [hC16.gs]; rfl]
              refine r_if_gt (pc := 29) (tgt := 36) C dX10_look_29 (by decide) (fun c29 => ?_) (fun c29 => ?_)
              · exact absurd c29 (by decide)
              · refine r_iload_n (pc := 32) C dX10_look_32 rfl ?_
                refine r_if_ge (pc := 33) (tgt := 38) C dX10_look_33 (by decide) (fun c33 => ?_) (fun c33 => ?_)
                · refine r_iload_n (pc := 38) C dX10_look_38 rfl ?_
                  refine r_if_ne (pc := 39) (tgt := 49) C dX10_look_39 (by decide) (fun c39 => ?_) (fun c39 => ?_)
                  · refine r_iload_n (pc := 49) C dX10_look_49 rfl ?_
                    refine r_iconst (pc := 50) C (nI 5) dX10_look_50 rfl ?_
                    refine r_icmp_le (pc := 51) (tgt := 103) C dX10_look_51 (by decide) (fun c51 => ?_) (fun c51 => ?_)
                    · refine r_aload_n (pc := 103) C dX10_look_103 rfl ?_
                      refine r_iload_n (pc := 104) C dX10_look_104 rfl ?_
                      refine r_callV (pc := 105) C (cm_isHeld (o := some t) hV16 (fun u hu => by cases hu; exact htn)) iX10_isHeld ml_RX10_283 dX10_look_105 (ci := 11) rfl rfl hV16.1.1 rfl (by decide) rfl (by simp [cv, Value.category, va_rf]) (by omega) (by omega) (fun r105 S105 h105 => ?_)
                      obtain ⟨rfl, e105⟩ := h105
                      subst S105
                      dsimp only [Option.toList, List.cons_append, List.nil_append]
                      refine r_if_ne (pc := 108) (tgt := 113) C dX10_look_108 (by decide) (fun c108 => ?_) (fun c108 => ?_)
                      · rw [bi_0, show hvo M (some t) = false from hh] at c108
                        exact absurd rfl c108
                      · refine r_iconst (pc := 111) C (nI 0) dX10_look_111 rfl ?_
                        refine r_iret (pc := 112) C dX10_look_112 rfl (by omega) (by omega) ?_
                        refine ⟨by simp only [lkV, hh, Bool.false_eq_true, if_false], hX.fin0 hC16 hV16⟩
                    · exact absurd (by decide) c51
                  · exact absurd c39 (by decide)
                · exact absurd (nI_pos' (by omega)) c33
            · exact absurd (by decide) c8
        | true =>
          refine r_aload_n (pc := 0) C dX10_look_0 rfl ?_
          refine r_iload_n (pc := 1) C dX10_look_1 rfl ?_
          refine r_if_lt (pc := 2) (tgt := 11) C dX10_look_2 (by decide) (fun c2 => ?_) (fun c2 => ?_)
          · exact absurd c2 (by decide)
          · refine r_iload_n (pc := 5) C dX10_look_5 rfl ?_
            refine r_bipush (pc := 6) C (nI 9) dX10_look_6 rfl ?_
            refine r_icmp_le (pc := 8) (tgt := 15) C dX10_look_8 (by decide) (fun c8 => ?_) (fun c8 => ?_)
            · refine r_iconst (pc := 15) C (nI 0) dX10_look_15 rfl ?_
              refine r_mP (pc := 16) (k := 0) C hV dX10_look_16 fx_RX10_145 (fp_11_0 _) (by decide) (fun S16 hC16 hV16 => ?_)
              have hC16r := hC16
              have hC16 := hC0.trs hC16
              refine r_aload_n (pc := 19) C dX10_look_19 rfl ?_
              refine r_iload_n (pc := 20) C dX10_look_20 rfl ?_
              refine r_callV (pc := 21) C (mv_findS hV16 hf) iX10_find ml_RX10_198 dX10_look_21 (ci := 11) rfl rfl hV16.1.1 rfl (by decide) rfl (by simp [cv, Value.category, va_rf]) (by omega) (by omega) (fun r21 S21 h21 => ?_)
              obtain ⟨rfl, e21⟩ := h21
              subst S21
              dsimp only [Option.toList, List.cons_append, List.nil_append]
              refine r_istore_n (pc := 24) C dX10_look_24 (by decide) rfl ?_
              refine r_aload_n (pc := 25) C dX10_look_25 rfl ?_
              refine r_mI (pc := 26) (k := 0) C hV16 dX10_look_26 fx_RX10_145 ?_
              rw [show Gs _ mo 0 = nI 0 from by rw [hC16.gs]; rfl]
              refine r_if_gt (pc := 29) (tgt := 36) C dX10_look_29 (by decide) (fun c29 => ?_) (fun c29 => ?_)
              · exact absurd c29 (by decide)
              · refine r_iload_n (pc := 32) C dX10_look_32 rfl ?_
                refine r_if_ge (pc := 33) (tgt := 38) C dX10_look_33 (by decide) (fun c33 => ?_) (fun c33 => ?_)
                · refine r_iload_n (pc := 38) C dX10_look_38 rfl ?_
                  refine r_if_ne (pc := 39) (tgt := 49) C dX10_look_39 (by decide) (fun c39 => ?_) (fun c39 => ?_)
                  · refine r_iload_n (pc := 49) C dX10_look_49 rfl ?_
                    refine r_iconst (pc := 50) C (nI 5) dX10_look_50 rfl ?_
                    refine r_icmp_le (pc := 51) (tgt := 103) C dX10_look_51 (by decide) (fun c51 => ?_) (fun c51 => ?_)
                    · refine r_aload_n (pc := 103) C dX10_look_103 rfl ?_
                      refine r_iload_n (pc := 104) C dX10_look_104 rfl ?_
                      refine r_callV (pc := 105) C (cm_isHeld (o := some t) hV16 (fun u hu => by cases hu; exact htn)) iX10_isHeld ml_RX10_283 dX10_look_105 (ci := 11) rfl rfl hV16.1.1 rfl (by decide) rfl (by simp [cv, Value.category, va_rf]) (by omega) (by omega) (fun r105 S105 h105 => ?_)
                      obtain ⟨rfl, e105⟩ := h105
                      subst S105
                      dsimp only [Option.toList, List.cons_append, List.nil_append]
                      refine r_if_ne (pc := 108) (tgt := 113) C dX10_look_108 (by decide) (fun c108 => ?_) (fun c108 => ?_)
                      · refine r_iload_n (pc := 113) C dX10_look_113 rfl ?_
                        refine r_iconst (pc := 114) C (nI 4) dX10_look_114 rfl ?_
                        refine r_icmp_ge (pc := 115) (tgt := 167) C dX10_look_115 (by decide) (fun c115 => ?_) (fun c115 => ?_)
                        · exact absurd c115 (by decide)
                        · refine r_iload_n (pc := 118) C dX10_look_118 rfl ?_
                          refine r_iconst (pc := 119) C (nI 1) dX10_look_119 rfl ?_
                          refine r_icmp_ne (pc := 120) (tgt := 131) C dX10_look_120 (by decide) (fun c120 => ?_) (fun c120 => ?_)
                          · refine r_iload_n (pc := 131) C dX10_look_131 rfl ?_
                            refine r_iconst (pc := 132) C (nI 2) dX10_look_132 rfl ?_
                            refine r_icmp_ne (pc := 133) (tgt := 153) C dX10_look_133 (by decide) (fun c133 => ?_) (fun c133 => ?_)
                            · refine r_aload_n (pc := 153) C dX10_look_153 rfl ?_
                              refine r_iload_n (pc := 154) C dX10_look_154 rfl ?_
                              refine r_callV (pc := 155) C (cm_liked hV16 (hQ t htn hh).1) iX10_isLiked ml_RX10_280 dX10_look_155 (ci := 11) rfl rfl hV16.1.1 rfl (by decide) rfl (by simp [cv, Value.category, va_rf]) (by omega) (by omega) (fun r155 S155 h155 => ?_)
                              obtain ⟨rfl, e155⟩ := h155
                              subst S155
                              dsimp only [Option.toList, List.cons_append, List.nil_append]
                              refine r_if_eq (pc := 158) (tgt := 165) C dX10_look_158 (by decide) (fun c158 => ?_) (fun c158 => ?_)
                              · have hcv : nI 0 = bi (liked M n t) := by rw [bi_0] at c158; rw [c158]; rfl
                                refine r_iconst (pc := 165) C (nI 0) dX10_look_165 rfl ?_
                                refine r_iret (pc := 166) C dX10_look_166 rfl (by omega) (by omega) ?_
                                exact ⟨by simp only [lkV, hh, if_true]; rw [hcv], hX.fin0 hC16 hV16⟩
                              · have hcv : nI 1 = bi (liked M n t) := by rw [bi_0] at c158; rw [ts_nf c158]; rfl
                                refine r_iconst (pc := 161) C (nI 1) dX10_look_161 rfl ?_
                                refine r_goto (pc := 162) (tgt := 166) C dX10_look_162 (by decide) ?_
                                refine r_iret (pc := 166) C dX10_look_166 rfl (by omega) (by omega) ?_
                                exact ⟨by simp only [lkV, hh, if_true]; rw [hcv], hX.fin0 hC16 hV16⟩
                            · exact absurd c133 (by decide)
                          · exact absurd c120 (by decide)
                      · rw [bi_0, show hvo M (some t) = true from hh] at c108
                        cases c108
                    · exact absurd (by decide) c51
                  · exact absurd c39 (by decide)
                · exact absurd (nI_pos' (by omega)) c33
            · exact absurd (by decide) c8
      · cases hh : hv M t with
        | false =>
          refine r_aload_n (pc := 0) C dX10_look_0 rfl ?_
          refine r_iload_n (pc := 1) C dX10_look_1 rfl ?_
          refine r_if_lt (pc := 2) (tgt := 11) C dX10_look_2 (by decide) (fun c2 => ?_) (fun c2 => ?_)
          · exact absurd c2 (by decide)
          · refine r_iload_n (pc := 5) C dX10_look_5 rfl ?_
            refine r_bipush (pc := 6) C (nI 9) dX10_look_6 rfl ?_
            refine r_icmp_le (pc := 8) (tgt := 15) C dX10_look_8 (by decide) (fun c8 => ?_) (fun c8 => ?_)
            · refine r_iconst (pc := 15) C (nI 0) dX10_look_15 rfl ?_
              refine r_mP (pc := 16) (k := 0) C hV dX10_look_16 fx_RX10_145 (fp_11_0 _) (by decide) (fun S16 hC16 hV16 => ?_)
              have hC16r := hC16
              have hC16 := hC0.trs hC16
              refine r_aload_n (pc := 19) C dX10_look_19 rfl ?_
              refine r_iload_n (pc := 20) C dX10_look_20 rfl ?_
              refine r_callV (pc := 21) C (mv_findS hV16 hf) iX10_find ml_RX10_198 dX10_look_21 (ci := 11) rfl rfl hV16.1.1 rfl (by decide) rfl (by simp [cv, Value.category, va_rf]) (by omega) (by omega) (fun r21 S21 h21 => ?_)
              obtain ⟨rfl, e21⟩ := h21
              subst S21
              dsimp only [Option.toList, List.cons_append, List.nil_append]
              refine r_istore_n (pc := 24) C dX10_look_24 (by decide) rfl ?_
              refine r_aload_n (pc := 25) C dX10_look_25 rfl ?_
              refine r_mI (pc := 26) (k := 0) C hV16 dX10_look_26 fx_RX10_145 ?_
              rw [show Gs _ mo 0 = nI 0 from by rw [hC16.gs]; rfl]
              refine r_if_gt (pc := 29) (tgt := 36) C dX10_look_29 (by decide) (fun c29 => ?_) (fun c29 => ?_)
              · exact absurd c29 (by decide)
              · refine r_iload_n (pc := 32) C dX10_look_32 rfl ?_
                refine r_if_ge (pc := 33) (tgt := 38) C dX10_look_33 (by decide) (fun c33 => ?_) (fun c33 => ?_)
                · refine r_iload_n (pc := 38) C dX10_look_38 rfl ?_
                  refine r_if_ne (pc := 39) (tgt := 49) C dX10_look_39 (by decide) (fun c39 => ?_) (fun c39 => ?_)
                  · refine r_iload_n (pc := 49) C dX10_look_49 rfl ?_
                    refine r_iconst (pc := 50) C (nI 5) dX10_look_50 rfl ?_
                    refine r_icmp_le (pc := 51) (tgt := 103) C dX10_look_51 (by decide) (fun c51 => ?_) (fun c51 => ?_)
                    · refine r_aload_n (pc := 103) C dX10_look_103 rfl ?_
                      refine r_iload_n (pc := 104) C dX10_look_104 rfl ?_
                      refine r_callV (pc := 105) C (cm_isHeld (o := some t) hV16 (fun u hu => by cases hu; exact htn)) iX10_isHeld ml_RX10_283 dX10_look_105 (ci := 11) rfl rfl hV16.1.1 rfl (by decide) rfl (by simp [cv, Value.category, va_rf]) (by omega) (by omega) (fun r105 S105 h105 => ?_)
                      obtain ⟨rfl, e105⟩ := h105
                      subst S105
                      dsimp only [Option.toList, List.cons_append, List.nil_append]
                      refine r_if_ne (pc := 108) (tgt := 113) C dX10_look_108 (by decide) (fun c108 => ?_) (fun c108 => ?_)
                      · rw [bi_0, show hvo M (some t) = false from hh] at c108
                        exact absurd rfl c108
                      · refine r_iconst (pc := 111) C (nI 0) dX10_look_111 rfl ?_
                        refine r_iret (pc := 112) C dX10_look_112 rfl (by omega) (by omega) ?_
                        refine ⟨by simp only [lkV, hh, Bool.false_eq_true, if_false], hX.fin0 hC16 hV16⟩
                    · exact absurd (by decide) c51
                  · exact absurd c39 (by decide)
                · exact absurd (nI_pos' (by omega)) c33
            · exact absurd (by decide) c8
        | true =>
          refine r_aload_n (pc := 0) C dX10_look_0 rfl ?_
          refine r_iload_n (pc := 1) C dX10_look_1 rfl ?_
          refine r_if_lt (pc := 2) (tgt := 11) C dX10_look_2 (by decide) (fun c2 => ?_) (fun c2 => ?_)
          · exact absurd c2 (by decide)
          · refine r_iload_n (pc := 5) C dX10_look_5 rfl ?_
            refine r_bipush (pc := 6) C (nI 9) dX10_look_6 rfl ?_
            refine r_icmp_le (pc := 8) (tgt := 15) C dX10_look_8 (by decide) (fun c8 => ?_) (fun c8 => ?_)
            · refine r_iconst (pc := 15) C (nI 0) dX10_look_15 rfl ?_
              refine r_mP (pc := 16) (k := 0) C hV dX10_look_16 fx_RX10_145 (fp_11_0 _) (by decide) (fun S16 hC16 hV16 => ?_)
              have hC16r := hC16
              have hC16 := hC0.trs hC16
              refine r_aload_n (pc := 19) C dX10_look_19 rfl ?_
              refine r_iload_n (pc := 20) C dX10_look_20 rfl ?_
              refine r_callV (pc := 21) C (mv_findS hV16 hf) iX10_find ml_RX10_198 dX10_look_21 (ci := 11) rfl rfl hV16.1.1 rfl (by decide) rfl (by simp [cv, Value.category, va_rf]) (by omega) (by omega) (fun r21 S21 h21 => ?_)
              obtain ⟨rfl, e21⟩ := h21
              subst S21
              dsimp only [Option.toList, List.cons_append, List.nil_append]
              refine r_istore_n (pc := 24) C dX10_look_24 (by decide) rfl ?_
              refine r_aload_n (pc := 25) C dX10_look_25 rfl ?_
              refine r_mI (pc := 26) (k := 0) C hV16 dX10_look_26 fx_RX10_145 ?_
              rw [show Gs _ mo 0 = nI 0 from by rw [hC16.gs]; rfl]
              refine r_if_gt (pc := 29) (tgt := 36) C dX10_look_29 (by decide) (fun c29 => ?_) (fun c29 => ?_)
              · exact absurd c29 (by decide)
              · refine r_iload_n (pc := 32) C dX10_look_32 rfl ?_
                refine r_if_ge (pc := 33) (tgt := 38) C dX10_look_33 (by decide) (fun c33 => ?_) (fun c33 => ?_)
                · refine r_iload_n (pc := 38) C dX10_look_38 rfl ?_
                  refine r_if_ne (pc := 39) (tgt := 49) C dX10_look_39 (by decide) (fun c39 => ?_) (fun c39 => ?_)
                  · refine r_iload_n (pc := 49) C dX10_look_49 rfl ?_
                    refine r_iconst (pc := 50) C (nI 5) dX10_look_50 rfl ?_
                    refine r_icmp_le (pc := 51) (tgt := 103) C dX10_look_51 (by decide) (fun c51 => ?_) (fun c51 => ?_)
                    · refine r_aload_n (pc := 103) C dX10_look_103 rfl ?_
                      refine r_iload_n (pc := 104) C dX10_look_104 rfl ?_
                      refine r_callV (pc := 105) C (cm_isHeld (o := some t) hV16 (fun u hu => by cases hu; exact htn)) iX10_isHeld ml_RX10_283 dX10_look_105 (ci := 11) rfl rfl hV16.1.1 rfl (by decide) rfl (by simp [cv, Value.category, va_rf]) (by omega) (by omega) (fun r105 S105 h105 => ?_)
                      obtain ⟨rfl, e105⟩ := h105
                      subst S105
                      dsimp only [Option.toList, List.cons_append, List.nil_append]
                      refine r_if_ne (pc := 108) (tgt := 113) C dX10_look_108 (by decide) (fun c108 => ?_) (fun c108 => ?_)
                      · refine r_iload_n (pc := 113) C dX10_look_113 rfl ?_
                        refine r_iconst (pc := 114) C (nI 4) dX10_look_114 rfl ?_
                        refine r_icmp_ge (pc := 115) (tgt := 167) C dX10_look_115 (by decide) (fun c115 => ?_) (fun c115 => ?_)
                        · refine r_iload_n (pc := 167) C dX10_look_167 rfl ?_
                          refine r_iconst (pc := 168) C (nI 4) dX10_look_168 rfl ?_
                          refine r_icmp_ne (pc := 169) (tgt := 180) C dX10_look_169 (by decide) (fun c169 => ?_) (fun c169 => ?_)
                          · exact absurd (by decide) c169
                          · refine r_aload_n (pc := 172) C dX10_look_172 rfl ?_
                            refine r_iload_n (pc := 173) C dX10_look_173 rfl ?_
                            refine r_callV (pc := 174) C (cx_markAncestors hV16 (hQ t htn hh).1.p) iX10_markAncestors ml_RX10_242 dX10_look_174 (ci := 11) rfl rfl hV16.1.1 rfl (by decide) rfl (by simp [cv, Value.category, va_rf]) (by omega) (by omega) (fun r174 S174 h174 => ?_)
                            obtain ⟨rfl, hCr, hV174, hB⟩ := h174
                            have hC174 := hC16.trk hCr
                            dsimp only [Option.toList, List.cons_append, List.nil_append]
                            refine r_goto (pc := 177) (tgt := 185) C dX10_look_177 (by decide) ?_
                            refine r_iload_n (pc := 185) C dX10_look_185 rfl ?_
                            refine r_iconst (pc := 186) C (nI 4) dX10_look_186 rfl ?_
                            refine r_icmp_ne (pc := 187) (tgt := 194) C dX10_look_187 (by decide) (fun c187 => ?_) (fun c187 => ?_)
                            · exact absurd (by decide) c187
                            · refine r_iconst (pc := 190) C (nI 0) dX10_look_190 rfl ?_
                              refine r_goto (pc := 191) (tgt := 195) C dX10_look_191 (by decide) ?_
                              refine r_istore (pc := 195) C dX10_look_195 (by decide) rfl ?_
                              refine r_iconst (pc := 197) C (nI 0) dX10_look_197 rfl ?_
                              refine r_istore (pc := 198) C dX10_look_198 (by decide) rfl ?_
                              exact r_lv C [(0, vr (some mo)), (1, vi id), (2, vi (nI 4)), (3, vi (nI t)), (4, vi (nI 0)), (5, vi (nI 0))] rfl (LM (anc M n h t) (nI 0) _ (by rw [nI_add, Nat.zero_add]) _ hC174 hV174 hB (by simp only [lkV, hh, if_true]) 0 _ (by omega) (by rw [nI_add]; rfl))
                        · exact absurd (by decide) c115
                      · rw [bi_0, show hvo M (some t) = true from hh] at c108
                        cases c108
                    · exact absurd (by decide) c51
                  · exact absurd c39 (by decide)
                · exact absurd (nI_pos' (by omega)) c33
            · exact absurd (by decide) c8
      · cases hh : hv M t with
        | false =>
          refine r_aload_n (pc := 0) C dX10_look_0 rfl ?_
          refine r_iload_n (pc := 1) C dX10_look_1 rfl ?_
          refine r_if_lt (pc := 2) (tgt := 11) C dX10_look_2 (by decide) (fun c2 => ?_) (fun c2 => ?_)
          · exact absurd c2 (by decide)
          · refine r_iload_n (pc := 5) C dX10_look_5 rfl ?_
            refine r_bipush (pc := 6) C (nI 9) dX10_look_6 rfl ?_
            refine r_icmp_le (pc := 8) (tgt := 15) C dX10_look_8 (by decide) (fun c8 => ?_) (fun c8 => ?_)
            · refine r_iconst (pc := 15) C (nI 0) dX10_look_15 rfl ?_
              refine r_mP (pc := 16) (k := 0) C hV dX10_look_16 fx_RX10_145 (fp_11_0 _) (by decide) (fun S16 hC16 hV16 => ?_)
              have hC16r := hC16
              have hC16 := hC0.trs hC16
              refine r_aload_n (pc := 19) C dX10_look_19 rfl ?_
              refine r_iload_n (pc := 20) C dX10_look_20 rfl ?_
              refine r_callV (pc := 21) C (mv_findS hV16 hf) iX10_find ml_RX10_198 dX10_look_21 (ci := 11) rfl rfl hV16.1.1 rfl (by decide) rfl (by simp [cv, Value.category, va_rf]) (by omega) (by omega) (fun r21 S21 h21 => ?_)
              obtain ⟨rfl, e21⟩ := h21
              subst S21
              dsimp only [Option.toList, List.cons_append, List.nil_append]
              refine r_istore_n (pc := 24) C dX10_look_24 (by decide) rfl ?_
              refine r_aload_n (pc := 25) C dX10_look_25 rfl ?_
              refine r_mI (pc := 26) (k := 0) C hV16 dX10_look_26 fx_RX10_145 ?_
              rw [show Gs _ mo 0 = nI 0 from by rw [hC16.gs]; rfl]
              refine r_if_gt (pc := 29) (tgt := 36) C dX10_look_29 (by decide) (fun c29 => ?_) (fun c29 => ?_)
              · exact absurd c29 (by decide)
              · refine r_iload_n (pc := 32) C dX10_look_32 rfl ?_
                refine r_if_ge (pc := 33) (tgt := 38) C dX10_look_33 (by decide) (fun c33 => ?_) (fun c33 => ?_)
                · refine r_iload_n (pc := 38) C dX10_look_38 rfl ?_
                  refine r_if_ne (pc := 39) (tgt := 49) C dX10_look_39 (by decide) (fun c39 => ?_) (fun c39 => ?_)
                  · refine r_iload_n (pc := 49) C dX10_look_49 rfl ?_
                    refine r_iconst (pc := 50) C (nI 5) dX10_look_50 rfl ?_
                    refine r_icmp_le (pc := 51) (tgt := 103) C dX10_look_51 (by decide) (fun c51 => ?_) (fun c51 => ?_)
                    · refine r_aload_n (pc := 103) C dX10_look_103 rfl ?_
                      refine r_iload_n (pc := 104) C dX10_look_104 rfl ?_
                      refine r_callV (pc := 105) C (cm_isHeld (o := some t) hV16 (fun u hu => by cases hu; exact htn)) iX10_isHeld ml_RX10_283 dX10_look_105 (ci := 11) rfl rfl hV16.1.1 rfl (by decide) rfl (by simp [cv, Value.category, va_rf]) (by omega) (by omega) (fun r105 S105 h105 => ?_)
                      obtain ⟨rfl, e105⟩ := h105
                      subst S105
                      dsimp only [Option.toList, List.cons_append, List.nil_append]
                      refine r_if_ne (pc := 108) (tgt := 113) C dX10_look_108 (by decide) (fun c108 => ?_) (fun c108 => ?_)
                      · rw [bi_0, show hvo M (some t) = false from hh] at c108
                        exact absurd rfl c108
                      · refine r_iconst (pc := 111) C (nI 0) dX10_look_111 rfl ?_
                        refine r_iret (pc := 112) C dX10_look_112 rfl (by omega) (by omega) ?_
                        refine ⟨by simp only [lkV, hh, Bool.false_eq_true, if_false], hX.fin0 hC16 hV16⟩
                    · exact absurd (by decide) c51
                  · exact absurd c39 (by decide)
                · exact absurd (nI_pos' (by omega)) c33
            · exact absurd (by decide) c8
        | true =>
          refine r_aload_n (pc := 0) C dX10_look_0 rfl ?_
          refine r_iload_n (pc := 1) C dX10_look_1 rfl ?_
          refine r_if_lt (pc := 2) (tgt := 11) C dX10_look_2 (by decide) (fun c2 => ?_) (fun c2 => ?_)
          · exact absurd c2 (by decide)
          · refine r_iload_n (pc := 5) C dX10_look_5 rfl ?_
            refine r_bipush (pc := 6) C (nI 9) dX10_look_6 rfl ?_
            refine r_icmp_le (pc := 8) (tgt := 15) C dX10_look_8 (by decide) (fun c8 => ?_) (fun c8 => ?_)
            · refine r_iconst (pc := 15) C (nI 0) dX10_look_15 rfl ?_
              refine r_mP (pc := 16) (k := 0) C hV dX10_look_16 fx_RX10_145 (fp_11_0 _) (by decide) (fun S16 hC16 hV16 => ?_)
              have hC16r := hC16
              have hC16 := hC0.trs hC16
              refine r_aload_n (pc := 19) C dX10_look_19 rfl ?_
              refine r_iload_n (pc := 20) C dX10_look_20 rfl ?_
              refine r_callV (pc := 21) C (mv_findS hV16 hf) iX10_find ml_RX10_198 dX10_look_21 (ci := 11) rfl rfl hV16.1.1 rfl (by decide) rfl (by simp [cv, Value.category, va_rf]) (by omega) (by omega) (fun r21 S21 h21 => ?_)
              obtain ⟨rfl, e21⟩ := h21
              subst S21
              dsimp only [Option.toList, List.cons_append, List.nil_append]
              refine r_istore_n (pc := 24) C dX10_look_24 (by decide) rfl ?_
              refine r_aload_n (pc := 25) C dX10_look_25 rfl ?_
              refine r_mI (pc := 26) (k := 0) C hV16 dX10_look_26 fx_RX10_145 ?_
              rw [show Gs _ mo 0 = nI 0 from by rw [hC16.gs]; rfl]
              refine r_if_gt (pc := 29) (tgt := 36) C dX10_look_29 (by decide) (fun c29 => ?_) (fun c29 => ?_)
              · exact absurd c29 (by decide)
              · refine r_iload_n (pc := 32) C dX10_look_32 rfl ?_
                refine r_if_ge (pc := 33) (tgt := 38) C dX10_look_33 (by decide) (fun c33 => ?_) (fun c33 => ?_)
                · refine r_iload_n (pc := 38) C dX10_look_38 rfl ?_
                  refine r_if_ne (pc := 39) (tgt := 49) C dX10_look_39 (by decide) (fun c39 => ?_) (fun c39 => ?_)
                  · refine r_iload_n (pc := 49) C dX10_look_49 rfl ?_
                    refine r_iconst (pc := 50) C (nI 5) dX10_look_50 rfl ?_
                    refine r_icmp_le (pc := 51) (tgt := 103) C dX10_look_51 (by decide) (fun c51 => ?_) (fun c51 => ?_)
                    · refine r_aload_n (pc := 103) C dX10_look_103 rfl ?_
                      refine r_iload_n (pc := 104) C dX10_look_104 rfl ?_
                      refine r_callV (pc := 105) C (cm_isHeld (o := some t) hV16 (fun u hu => by cases hu; exact htn)) iX10_isHeld ml_RX10_283 dX10_look_105 (ci := 11) rfl rfl hV16.1.1 rfl (by decide) rfl (by simp [cv, Value.category, va_rf]) (by omega) (by omega) (fun r105 S105 h105 => ?_)
                      obtain ⟨rfl, e105⟩ := h105
                      subst S105
                      dsimp only [Option.toList, List.cons_append, List.nil_append]
                      refine r_if_ne (pc := 108) (tgt := 113) C dX10_look_108 (by decide) (fun c108 => ?_) (fun c108 => ?_)
                      · refine r_iload_n (pc := 113) C dX10_look_113 rfl ?_
                        refine r_iconst (pc := 114) C (nI 4) dX10_look_114 rfl ?_
                        refine r_icmp_ge (pc := 115) (tgt := 167) C dX10_look_115 (by decide) (fun c115 => ?_) (fun c115 => ?_)
                        · refine r_iload_n (pc := 167) C dX10_look_167 rfl ?_
                          refine r_iconst (pc := 168) C (nI 4) dX10_look_168 rfl ?_
                          refine r_icmp_ne (pc := 169) (tgt := 180) C dX10_look_169 (by decide) (fun c169 => ?_) (fun c169 => ?_)
                          · refine r_aload_n (pc := 180) C dX10_look_180 rfl ?_
                            refine r_iload_n (pc := 181) C dX10_look_181 rfl ?_
                            refine r_callV (pc := 182) C (cx_markDescendants hV16 htn) iX10_markDescendants ml_RX10_262 dX10_look_182 (ci := 11) rfl rfl hV16.1.1 rfl (by decide) rfl (by simp [cv, Value.category, va_rf]) (by omega) (by omega) (fun r182 S182 h182 => ?_)
                            obtain ⟨rfl, hCr, hV182, hB⟩ := h182
                            have hC182 := hC16.trk hCr
                            dsimp only [Option.toList, List.cons_append, List.nil_append]
                            refine r_iload_n (pc := 185) C dX10_look_185 rfl ?_
                            refine r_iconst (pc := 186) C (nI 4) dX10_look_186 rfl ?_
                            refine r_icmp_ne (pc := 187) (tgt := 194) C dX10_look_187 (by decide) (fun c187 => ?_) (fun c187 => ?_)
                            · refine r_iconst (pc := 194) C (-1) dX10_look_194 rfl ?_
                              refine r_istore (pc := 195) C dX10_look_195 (by decide) rfl ?_
                              refine r_iconst (pc := 197) C (nI 0) dX10_look_197 rfl ?_
                              refine r_istore (pc := 198) C dX10_look_198 (by decide) rfl ?_
                              exact r_lv C [(0, vr (some mo)), (1, vi id), (2, vi (nI 5)), (3, vi (nI t)), (4, vi (-1)), (5, vi (nI 0))] rfl (LM (desL M n t h) (-1) _ (by rw [Int32.add_comm, show (-1 : Int32) = -(nI 1) from rfl, ← Int32.sub_eq_add_neg]) _ hC182 hV182 hB (by simp only [lkV, hh, if_true]) 0 _ (by omega) rfl)
                            · exact absurd c187 (by decide)
                          · exact absurd c169 (by decide)
                        · exact absurd (by decide) c115
                      · rw [bi_0, show hvo M (some t) = true from hh] at c108
                        cases c108
                    · exact absurd (by decide) c51
                  · exact absurd c39 (by decide)
                · exact absurd (nI_pos' (by omega)) c33
            · exact absurd (by decide) c8
      · refine r_aload_n (pc := 0) C dX10_look_0 rfl ?_
        refine r_iload_n (pc := 1) C dX10_look_1 rfl ?_
        refine r_if_lt (pc := 2) (tgt := 11) C dX10_look_2 (by decide) (fun c2 => ?_) (fun c2 => ?_)
        · exact absurd c2 (by decide)
        · refine r_iload_n (pc := 5) C dX10_look_5 rfl ?_
          refine r_bipush (pc := 6) C (nI 9) dX10_look_6 rfl ?_
          refine r_icmp_le (pc := 8) (tgt := 15) C dX10_look_8 (by decide) (fun c8 => ?_) (fun c8 => ?_)
          · refine r_iconst (pc := 15) C (nI 0) dX10_look_15 rfl ?_
            refine r_mP (pc := 16) (k := 0) C hV dX10_look_16 fx_RX10_145 (fp_11_0 _) (by decide) (fun S16 hC16 hV16 => ?_)
            have hC16r := hC16
            have hC16 := hC0.trs hC16
            refine r_aload_n (pc := 19) C dX10_look_19 rfl ?_
            refine r_iload_n (pc := 20) C dX10_look_20 rfl ?_
            refine r_callV (pc := 21) C (mv_findS hV16 hf) iX10_find ml_RX10_198 dX10_look_21 (ci := 11) rfl rfl hV16.1.1 rfl (by decide) rfl (by simp [cv, Value.category, va_rf]) (by omega) (by omega) (fun r21 S21 h21 => ?_)
            obtain ⟨rfl, e21⟩ := h21
            subst S21
            dsimp only [Option.toList, List.cons_append, List.nil_append]
            refine r_istore_n (pc := 24) C dX10_look_24 (by decide) rfl ?_
            refine r_aload_n (pc := 25) C dX10_look_25 rfl ?_
            refine r_mI (pc := 26) (k := 0) C hV16 dX10_look_26 fx_RX10_145 ?_
            rw [show Gs _ mo 0 = nI 0 from by rw [hC16.gs]; rfl]
            refine r_if_gt (pc := 29) (tgt := 36) C dX10_look_29 (by decide) (fun c29 => ?_) (fun c29 => ?_)
            · exact absurd c29 (by decide)
            · refine r_iload_n (pc := 32) C dX10_look_32 rfl ?_
              refine r_if_ge (pc := 33) (tgt := 38) C dX10_look_33 (by decide) (fun c33 => ?_) (fun c33 => ?_)
              · refine r_iload_n (pc := 38) C dX10_look_38 rfl ?_
                refine r_if_ne (pc := 39) (tgt := 49) C dX10_look_39 (by decide) (fun c39 => ?_) (fun c39 => ?_)
                · refine r_iload_n (pc := 49) C dX10_look_49 rfl ?_
                  refine r_iconst (pc := 50) C (nI 5) dX10_look_50 rfl ?_
                  refine r_icmp_le (pc := 51) (tgt := 103) C dX10_look_51 (by decide) (fun c51 => ?_) (fun c51 => ?_)
                  · exact absurd c51 (by decide)
                  · refine r_iload_n (pc := 54) C dX10_look_54 rfl ?_
                    refine r_bipush (pc := 55) C (nI 6) dX10_look_55 rfl ?_
                    refine r_icmp_ne (pc := 57) (tgt := 68) C dX10_look_57 (by decide) (fun c57 => ?_) (fun c57 => ?_)
                    · exact absurd (by decide) c57
                    · refine r_aload_n (pc := 60) C dX10_look_60 rfl ?_
                      refine r_iload_n (pc := 61) C dX10_look_61 rfl ?_
                      refine r_callV (pc := 62) C (mv_parentsOf hV16 ht140) iX10_parentsOf ml_RX10_182 dX10_look_62 (ci := 11) rfl rfl hV16.1.1 rfl (by decide) rfl (by simp [cv, Value.category, va_rf]) (by omega) (by omega) (fun r62 S62 h62 => ?_)
                      obtain ⟨rfl, e62⟩ := h62
                      subst S62
                      dsimp only [Option.toList, List.cons_append, List.nil_append]
                      refine r_goto (pc := 65) (tgt := 102) C dX10_look_65 (by decide) ?_
                      refine r_iret (pc := 102) C dX10_look_102 rfl (by omega) (by omega) ?_
                      exact ⟨rfl, hX.fin0 hC16 hV16⟩
                · exact absurd c39 (by decide)
              · exact absurd (nI_pos' (by omega)) c33
          · exact absurd (by decide) c8
      · refine r_aload_n (pc := 0) C dX10_look_0 rfl ?_
        refine r_iload_n (pc := 1) C dX10_look_1 rfl ?_
        refine r_if_lt (pc := 2) (tgt := 11) C dX10_look_2 (by decide) (fun c2 => ?_) (fun c2 => ?_)
        · exact absurd c2 (by decide)
        · refine r_iload_n (pc := 5) C dX10_look_5 rfl ?_
          refine r_bipush (pc := 6) C (nI 9) dX10_look_6 rfl ?_
          refine r_icmp_le (pc := 8) (tgt := 15) C dX10_look_8 (by decide) (fun c8 => ?_) (fun c8 => ?_)
          · refine r_iconst (pc := 15) C (nI 0) dX10_look_15 rfl ?_
            refine r_mP (pc := 16) (k := 0) C hV dX10_look_16 fx_RX10_145 (fp_11_0 _) (by decide) (fun S16 hC16 hV16 => ?_)
            have hC16r := hC16
            have hC16 := hC0.trs hC16
            refine r_aload_n (pc := 19) C dX10_look_19 rfl ?_
            refine r_iload_n (pc := 20) C dX10_look_20 rfl ?_
            refine r_callV (pc := 21) C (mv_findS hV16 hf) iX10_find ml_RX10_198 dX10_look_21 (ci := 11) rfl rfl hV16.1.1 rfl (by decide) rfl (by simp [cv, Value.category, va_rf]) (by omega) (by omega) (fun r21 S21 h21 => ?_)
            obtain ⟨rfl, e21⟩ := h21
            subst S21
            dsimp only [Option.toList, List.cons_append, List.nil_append]
            refine r_istore_n (pc := 24) C dX10_look_24 (by decide) rfl ?_
            refine r_aload_n (pc := 25) C dX10_look_25 rfl ?_
            refine r_mI (pc := 26) (k := 0) C hV16 dX10_look_26 fx_RX10_145 ?_
            rw [show Gs _ mo 0 = nI 0 from by rw [hC16.gs]; rfl]
            refine r_if_gt (pc := 29) (tgt := 36) C dX10_look_29 (by decide) (fun c29 => ?_) (fun c29 => ?_)
            · exact absurd c29 (by decide)
            · refine r_iload_n (pc := 32) C dX10_look_32 rfl ?_
              refine r_if_ge (pc := 33) (tgt := 38) C dX10_look_33 (by decide) (fun c33 => ?_) (fun c33 => ?_)
              · refine r_iload_n (pc := 38) C dX10_look_38 rfl ?_
                refine r_if_ne (pc := 39) (tgt := 49) C dX10_look_39 (by decide) (fun c39 => ?_) (fun c39 => ?_)
                · refine r_iload_n (pc := 49) C dX10_look_49 rfl ?_
                  refine r_iconst (pc := 50) C (nI 5) dX10_look_50 rfl ?_
                  refine r_icmp_le (pc := 51) (tgt := 103) C dX10_look_51 (by decide) (fun c51 => ?_) (fun c51 => ?_)
                  · exact absurd c51 (by decide)
                  · refine r_iload_n (pc := 54) C dX10_look_54 rfl ?_
                    refine r_bipush (pc := 55) C (nI 6) dX10_look_55 rfl ?_
                    refine r_icmp_ne (pc := 57) (tgt := 68) C dX10_look_57 (by decide) (fun c57 => ?_) (fun c57 => ?_)
                    · refine r_iload_n (pc := 68) C dX10_look_68 rfl ?_
                      refine r_bipush (pc := 69) C (nI 7) dX10_look_69 rfl ?_
                      refine r_icmp_ne (pc := 71) (tgt := 82) C dX10_look_71 (by decide) (fun c71 => ?_) (fun c71 => ?_)
                      · exact absurd (by decide) c71
                      · refine r_aload_n (pc := 74) C dX10_look_74 rfl ?_
                        refine r_iload_n (pc := 75) C dX10_look_75 rfl ?_
                        refine r_callV (pc := 76) C (mv_inputsOf hV16 htn) iX10_inputsOf ml_RX10_188 dX10_look_76 (ci := 11) rfl rfl hV16.1.1 rfl (by decide) rfl (by simp [cv, Value.category, va_rf]) (by omega) (by omega) (fun r76 S76 h76 => ?_)
                        obtain ⟨rfl, e76⟩ := h76
                        subst S76
                        dsimp only [Option.toList, List.cons_append, List.nil_append]
                        refine r_goto (pc := 79) (tgt := 102) C dX10_look_79 (by decide) ?_
                        refine r_iret (pc := 102) C dX10_look_102 rfl (by omega) (by omega) ?_
                        exact ⟨rfl, hX.fin0 hC16 hV16⟩
                    · exact absurd c57 (by decide)
                · exact absurd c39 (by decide)
              · exact absurd (nI_pos' (by omega)) c33
          · exact absurd (by decide) c8
      · refine r_aload_n (pc := 0) C dX10_look_0 rfl ?_
        refine r_iload_n (pc := 1) C dX10_look_1 rfl ?_
        refine r_if_lt (pc := 2) (tgt := 11) C dX10_look_2 (by decide) (fun c2 => ?_) (fun c2 => ?_)
        · exact absurd c2 (by decide)
        · refine r_iload_n (pc := 5) C dX10_look_5 rfl ?_
          refine r_bipush (pc := 6) C (nI 9) dX10_look_6 rfl ?_
          refine r_icmp_le (pc := 8) (tgt := 15) C dX10_look_8 (by decide) (fun c8 => ?_) (fun c8 => ?_)
          · refine r_iconst (pc := 15) C (nI 0) dX10_look_15 rfl ?_
            refine r_mP (pc := 16) (k := 0) C hV dX10_look_16 fx_RX10_145 (fp_11_0 _) (by decide) (fun S16 hC16 hV16 => ?_)
            have hC16r := hC16
            have hC16 := hC0.trs hC16
            refine r_aload_n (pc := 19) C dX10_look_19 rfl ?_
            refine r_iload_n (pc := 20) C dX10_look_20 rfl ?_
            refine r_callV (pc := 21) C (mv_findS hV16 hf) iX10_find ml_RX10_198 dX10_look_21 (ci := 11) rfl rfl hV16.1.1 rfl (by decide) rfl (by simp [cv, Value.category, va_rf]) (by omega) (by omega) (fun r21 S21 h21 => ?_)
            obtain ⟨rfl, e21⟩ := h21
            subst S21
            dsimp only [Option.toList, List.cons_append, List.nil_append]
            refine r_istore_n (pc := 24) C dX10_look_24 (by decide) rfl ?_
            refine r_aload_n (pc := 25) C dX10_look_25 rfl ?_
            refine r_mI (pc := 26) (k := 0) C hV16 dX10_look_26 fx_RX10_145 ?_
            rw [show Gs _ mo 0 = nI 0 from by rw [hC16.gs]; rfl]
            refine r_if_gt (pc := 29) (tgt := 36) C dX10_look_29 (by decide) (fun c29 => ?_) (fun c29 => ?_)
            · exact absurd c29 (by decide)
            · refine r_iload_n (pc := 32) C dX10_look_32 rfl ?_
              refine r_if_ge (pc := 33) (tgt := 38) C dX10_look_33 (by decide) (fun c33 => ?_) (fun c33 => ?_)
              · refine r_iload_n (pc := 38) C dX10_look_38 rfl ?_
                refine r_if_ne (pc := 39) (tgt := 49) C dX10_look_39 (by decide) (fun c39 => ?_) (fun c39 => ?_)
                · refine r_iload_n (pc := 49) C dX10_look_49 rfl ?_
                  refine r_iconst (pc := 50) C (nI 5) dX10_look_50 rfl ?_
                  refine r_icmp_le (pc := 51) (tgt := 103) C dX10_look_51 (by decide) (fun c51 => ?_) (fun c51 => ?_)
                  · exact absurd c51 (by decide)
                  · refine r_iload_n (pc := 54) C dX10_look_54 rfl ?_
                    refine r_bipush (pc := 55) C (nI 6) dX10_look_55 rfl ?_
                    refine r_icmp_ne (pc := 57) (tgt := 68) C dX10_look_57 (by decide) (fun c57 => ?_) (fun c57 => ?_)
                    · refine r_iload_n (pc := 68) C dX10_look_68 rfl ?_
                      refine r_bipush (pc := 69) C (nI 7) dX10_look_69 rfl ?_
                      refine r_icmp_ne (pc := 71) (tgt := 82) C dX10_look_71 (by decide) (fun c71 => ?_) (fun c71 => ?_)
                      · refine r_iload_n (pc := 82) C dX10_look_82 rfl ?_
                        refine r_bipush (pc := 83) C (nI 8) dX10_look_83 rfl ?_
                        refine r_icmp_ne (pc := 85) (tgt := 96) C dX10_look_85 (by decide) (fun c85 => ?_) (fun c85 => ?_)
                        · exact absurd (by decide) c85
                        · refine r_aload_n (pc := 88) C dX10_look_88 rfl ?_
                          refine r_iload_n (pc := 89) C dX10_look_89 rfl ?_
                          refine r_callV (pc := 90) C (mv_outputsOf hV16 htn) iX10_outputsOf ml_RX10_245 dX10_look_90 (ci := 11) rfl rfl hV16.1.1 rfl (by decide) rfl (by simp [cv, Value.category, va_rf]) (by omega) (by omega) (fun r90 S90 h90 => ?_)
                          obtain ⟨rfl, e90⟩ := h90
                          subst S90
                          dsimp only [Option.toList, List.cons_append, List.nil_append]
                          refine r_goto (pc := 93) (tgt := 102) C dX10_look_93 (by decide) ?_
                          refine r_iret (pc := 102) C dX10_look_102 rfl (by omega) (by omega) ?_
                          exact ⟨rfl, hX.fin0 hC16 hV16⟩
                      · exact absurd c71 (by decide)
                    · exact absurd c57 (by decide)
                · exact absurd c39 (by decide)
              · exact absurd (nI_pos' (by omega)) c33
          · exact absurd (by decide) c8
      · refine r_aload_n (pc := 0) C dX10_look_0 rfl ?_
        refine r_iload_n (pc := 1) C dX10_look_1 rfl ?_
        refine r_if_lt (pc := 2) (tgt := 11) C dX10_look_2 (by decide) (fun c2 => ?_) (fun c2 => ?_)
        · exact absurd c2 (by decide)
        · refine r_iload_n (pc := 5) C dX10_look_5 rfl ?_
          refine r_bipush (pc := 6) C (nI 9) dX10_look_6 rfl ?_
          refine r_icmp_le (pc := 8) (tgt := 15) C dX10_look_8 (by decide) (fun c8 => ?_) (fun c8 => ?_)
          · refine r_iconst (pc := 15) C (nI 0) dX10_look_15 rfl ?_
            refine r_mP (pc := 16) (k := 0) C hV dX10_look_16 fx_RX10_145 (fp_11_0 _) (by decide) (fun S16 hC16 hV16 => ?_)
            have hC16r := hC16
            have hC16 := hC0.trs hC16
            refine r_aload_n (pc := 19) C dX10_look_19 rfl ?_
            refine r_iload_n (pc := 20) C dX10_look_20 rfl ?_
            refine r_callV (pc := 21) C (mv_findS hV16 hf) iX10_find ml_RX10_198 dX10_look_21 (ci := 11) rfl rfl hV16.1.1 rfl (by decide) rfl (by simp [cv, Value.category, va_rf]) (by omega) (by omega) (fun r21 S21 h21 => ?_)
            obtain ⟨rfl, e21⟩ := h21
            subst S21
            dsimp only [Option.toList, List.cons_append, List.nil_append]
            refine r_istore_n (pc := 24) C dX10_look_24 (by decide) rfl ?_
            refine r_aload_n (pc := 25) C dX10_look_25 rfl ?_
            refine r_mI (pc := 26) (k := 0) C hV16 dX10_look_26 fx_RX10_145 ?_
            rw [show Gs _ mo 0 = nI 0 from by rw [hC16.gs]; rfl]
            refine r_if_gt (pc := 29) (tgt := 36) C dX10_look_29 (by decide) (fun c29 => ?_) (fun c29 => ?_)
            · exact absurd c29 (by decide)
            · refine r_iload_n (pc := 32) C dX10_look_32 rfl ?_
              refine r_if_ge (pc := 33) (tgt := 38) C dX10_look_33 (by decide) (fun c33 => ?_) (fun c33 => ?_)
              · refine r_iload_n (pc := 38) C dX10_look_38 rfl ?_
                refine r_if_ne (pc := 39) (tgt := 49) C dX10_look_39 (by decide) (fun c39 => ?_) (fun c39 => ?_)
                · refine r_iload_n (pc := 49) C dX10_look_49 rfl ?_
                  refine r_iconst (pc := 50) C (nI 5) dX10_look_50 rfl ?_
                  refine r_icmp_le (pc := 51) (tgt := 103) C dX10_look_51 (by decide) (fun c51 => ?_) (fun c51 => ?_)
                  · exact absurd c51 (by decide)
                  · refine r_iload_n (pc := 54) C dX10_look_54 rfl ?_
                    refine r_bipush (pc := 55) C (nI 6) dX10_look_55 rfl ?_
                    refine r_icmp_ne (pc := 57) (tgt := 68) C dX10_look_57 (by decide) (fun c57 => ?_) (fun c57 => ?_)
                    · refine r_iload_n (pc := 68) C dX10_look_68 rfl ?_
                      refine r_bipush (pc := 69) C (nI 7) dX10_look_69 rfl ?_
                      refine r_icmp_ne (pc := 71) (tgt := 82) C dX10_look_71 (by decide) (fun c71 => ?_) (fun c71 => ?_)
                      · refine r_iload_n (pc := 82) C dX10_look_82 rfl ?_
                        refine r_bipush (pc := 83) C (nI 8) dX10_look_83 rfl ?_
                        refine r_icmp_ne (pc := 85) (tgt := 96) C dX10_look_85 (by decide) (fun c85 => ?_) (fun c85 => ?_)
                        · refine r_aload_n (pc := 96) C dX10_look_96 rfl ?_
                          refine r_mA (pc := 97) C hV16 dX10_look_97 fx_RX10_27 (len := 140) (by decide) ?_
                          refine r_iload_n (pc := 100) C dX10_look_100 rfl ?_
                          refine r_mL (pc := 101) C hV16 dX10_look_101 (k := 12) (len := 140) (by decide) (by decide) (by decide) (by omega) (by decide) ?_
                          refine r_iret (pc := 102) C dX10_look_102 rfl (by omega) (by omega) ?_
                          exact ⟨rfl, hX.fin0 hC16 hV16⟩
                        · exact absurd c85 (by decide)
                      · exact absurd c71 (by decide)
                    · exact absurd c57 (by decide)
                · exact absurd c39 (by decide)
              · exact absurd (nI_pos' (by omega)) c33
          · exact absurd (by decide) c8
end LookP
