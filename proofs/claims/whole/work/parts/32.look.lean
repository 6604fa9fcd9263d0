/-! The reference: looking at a transaction -/
def lkP (M : MM) (n t : Nat) : Nat → Option Bool
  | 0 => some false
  | i + 1 => match lkP M n t i with
    | none => none
    | some w => (match fdo (M 10) (pid (M 11) t i) n with
      | none => some true
      | some p => if M 13 p = nI 5 then none else some (w || decide (M 13 p = nI 1)))
def lok (M : MM) (n h t : Nat) : MM × Nat := match lkP M n t (nP (M 11) t) with
  | none => (um M 13 t (nI 5), h)
  | some w => if w then (M, h) else if badB M n h t then (um M 13 t (nI 5), h) else (hol M n h t, h + 1)
theorem lkP_none {M : MM} {n t : Nat} : ∀ {i}, lkP M n t i = none → ∀ j, i ≤ j → lkP M n t j = none := by
  intro i hi j
  induction j with
  | zero => intro h0; have : i = 0 := by omega
            subst this; exact hi
  | succ j ih =>
    intro hij
    by_cases e : i = j + 1
    · subst e; exact hi
    · simp only [lkP, ih (by omega)]
theorem lkP_found {M : MM} {n t : Nat} : ∀ {i}, lkP M n t i = some false → ∀ j, j < i → fdo (M 10) (pid (M 11) t j) n = some (par M n t j) := by
  intro i
  induction i with
  | zero => intro _ j hj; omega
  | succ i ih =>
    intro h j hj
    simp only [lkP] at h
    cases hw : lkP M n t i with
    | none => rw [hw] at h; cases h
    | some w =>
      rw [hw] at h
      dsimp only at h
      cases hf : fdo (M 10) (pid (M 11) t i) n with
      | none => rw [hf] at h; cases h
      | some p =>
        rw [hf] at h
        dsimp only at h
        split at h
        · cases h
        · simp only [Option.some.injEq, Bool.or_eq_false_iff] at h
          by_cases e : j = i
          · subst e; simp only [par, hf, Option.getD_some]
          · exact ih (by rw [hw, h.1]) j (by omega)
theorem badI_mono {M : MM} {n h t : Nat} : ∀ {k i}, i < k → (badI M n h t k).1 = false → noX M n h t i = false := by
  intro k
  induction k with
  | zero => intro i hi; omega
  | succ k ih =>
    intro i hi hb
    simp only [badI, bad3, Bool.or_eq_false_iff] at hb
    by_cases e : i = k
    · subst e; exact hb.1.2
    · exact ih (by omega) hb.1.1.1
theorem badB_held {M : MM} {n h t : Nat} (hp : Hp M n t) (hb : badB M n h t = false) : Ht M n t := by
  refine ⟨hp.1, hp.2, fun i hi => ?_⟩
  simp only [badB, Bool.or_eq_false_iff] at hb
  have hno := badI_mono hi hb.1
  cases hf : fdo (M 10) (xid (M 11) t i) n with
  | none => rw [noX_none hf] at hno; cases hno
  | some p =>
    rw [noX_some hf] at hno
    have e : src M n t i = p := by simp only [src, hf, Option.getD_some]
    rw [e]
    simp at hno
    exact ⟨rfl, hno.2⟩
theorem upd_id {f : Nat → Int32} {k : Nat} {v : Int32} (h : f k = v) : upd f k v = f := by
  funext j
  simp only [upd]
  split
  · next q => rw [q, h]
  · rfl
section Look
variable {l : Launch} {g : GG} {S : hS} {mo : Nat} {M : MM} {n h : Nat}
theorem cm_lookAt {t : Nat} (hV : MV S mo M n h) (ht : t < n) (ht0 : t ≠ 0) (hh : h < n) : Sp l g mX10_lookAt 0 0 [vr (some mo), vi (nI t)] S (fun r S' => r = none ∧ Gch S S' mo (upd (Gs S mo) 17 (nI (lok M n h t).2)) ∧ MV S' mo (lok M n h t).1 n (lok M n h t).2) := by
  have hG := hV.G
  have hn2 := hG.1
  have hR := hV.R ht
  have hp4 := hR.2.1
  have ht140 := hR.1
  have hG17 : upd (Gs S mo) 17 (nI h) = Gs S mo := upd_id hV.2.2.1
  have hC0 : Gch S S mo (upd (Gs S mo) 17 (nI h)) := by rw [hG17]; exact Gc.rf
  refine Sp.start (own := RX10) [(0, vr (some mo)), (1, vi (nI t))] (by decide +kernel) rfl rfl (Nat.le_of_ble_eq_true rfl) ?_
  intro J C
  have L : ∀ i w, i ≤ nP (M 11) t → lkP M n t i = some w → J 4 [(0, vr (some mo)), (1, vi (nI t)), (2, vi (bi w)), (3, vi (nI i))] [] S 0 0 := by
    refine up_loop _ _ _ ?_ ?_
    · intro w hw
      refine r_iload_n (pc := 4) C dX10_lookAt_4 rfl ?_
      refine r_aload_n (pc := 5) C dX10_lookAt_5 rfl ?_
      refine r_iload_n (pc := 6) C dX10_lookAt_6 rfl ?_
      refine r_callV (pc := 7) C (mv_parentsOf hV ht140) iX10_parentsOf ml_RX10_182 dX10_lookAt_7 (ci := 11) rfl rfl hV.1.1 rfl (by decide) rfl (by simp [cv, Value.category, va_rf]) (by omega) (by omega) (fun r7 S7 h7 => ?_)
      obtain ⟨rfl, e7⟩ := h7
      subst S7
      dsimp only [Option.toList, List.cons_append, List.nil_append]
      refine r_icmp_ge (pc := 10) (tgt := 81) C dX10_lookAt_10 (by decide) (fun c10 => ?_) (fun c10 => ?_)
      · refine r_iload_n (pc := 81) C dX10_lookAt_81 rfl ?_
        refine r_if_eq (pc := 82) (tgt := 86) C dX10_lookAt_82 (by decide) (fun c82 => ?_) (fun c82 => ?_)
        · rw [bi_0] at c82
          subst c82
          have hp : Hp M n t := ⟨ht, lkP_found hw⟩
          refine r_aload_n (pc := 86) C dX10_lookAt_86 rfl ?_
          refine r_iload_n (pc := 87) C dX10_lookAt_87 rfl ?_
          refine r_callV (pc := 88) C (cm_isBad hV hp ht0) iX10_isBad ml_RX10_227 dX10_lookAt_88 (ci := 11) rfl rfl hV.1.1 rfl (by decide) rfl (by simp [cv, Value.category, va_rf]) (by omega) (by omega) (fun r88 S88 h88 => ?_)
          obtain ⟨rfl, hCr, hV88⟩ := h88
          have hC88 := hC0.trk hCr
          dsimp only [Option.toList, List.cons_append, List.nil_append]
          refine r_if_eq (pc := 91) (tgt := 104) C dX10_lookAt_91 (by decide) (fun c91 => ?_) (fun c91 => ?_)
          · rw [bi_0] at c91
            have htt := badB_held hp c91
            have e : lok M n h t = (hol M n h t, h + 1) := by simp only [lok, hw, c91, Bool.false_eq_true, if_false]
            refine r_aload_n (pc := 104) C dX10_lookAt_104 rfl ?_
            refine r_iload_n (pc := 105) C dX10_lookAt_105 rfl ?_
            refine r_callV (pc := 106) C (cm_hold hV88 htt hh) iX10_hold ml_RX10_230 dX10_lookAt_106 (ci := 11) rfl rfl hV88.1.1 rfl (by decide) rfl (by simp [cv, Value.category, va_rf]) (by omega) (by omega) (fun r106 S106 h106 => ?_)
            obtain ⟨rfl, hCr, hV106⟩ := h106
            dsimp only [Option.toList, List.cons_append, List.nil_append]
            refine r_ret (pc := 109) C dX10_lookAt_109 rfl (by omega) (by omega) ?_
            rw [e]
            first
              | exact ⟨rfl, by have := hC88.trs hCr; rw [upd_upd] at this; exact this, hV106⟩
              | exact ⟨rfl, hC88, hV88⟩
          · rw [bi_0] at c91
            have e : lok M n h t = (um M 13 t (nI 5), h) := by simp only [lok, hw, ts_nf c91, Bool.false_eq_true, if_false, if_true]
            refine r_aload_n (pc := 94) C dX10_lookAt_94 rfl ?_
            refine r_mA (pc := 95) C hV88 dX10_lookAt_95 fx_RX10_30 (len := 140) (by decide) ?_
            refine r_iload_n (pc := 98) C dX10_lookAt_98 rfl ?_
            refine r_iconst (pc := 99) C (nI 5) dX10_lookAt_99 rfl ?_
            refine r_mS (pc := 100) C hV88 dX10_lookAt_100 (k := 13) (len := 140) (by decide) (by decide) (by decide) (by decide) (by omega) (by decide) (fun S100 hC100r hV100 => ?_)
            have hC100 := hC88.trk hC100r
            refine r_goto (pc := 101) (tgt := 109) C dX10_lookAt_101 (by decide) ?_
            refine r_ret (pc := 109) C dX10_lookAt_109 rfl (by omega) (by omega) ?_
            rw [e]
            first
              | exact ⟨rfl, by have := hC88.trs hCr; rw [upd_upd] at this; exact this, hV106⟩
              | exact ⟨rfl, hC100, hV100⟩
        · rw [bi_0] at c82
          have c82 := ts_nf c82
          refine r_ret (pc := 85) C dX10_lookAt_85 rfl (by omega) (by omega) ?_
          have e : lok M n h t = (M, h) := by simp only [lok, hw, c82, if_true]
          rw [e]
          exact ⟨rfl, hC0, hV⟩
      · exact absurd (Int32.le_refl _) c10
    · intro i w hi hw ih
      have hol : ∀ u, fdo (M 10) (pid (M 11) t i) n = some u → u < 1000 := fun u hu => by have := (fdo_some hu).1; omega
      have fin : ∀ w2, lkP M n t (i + 1) = some w2 → J 74 [(0, vr (some mo)), (1, vi (nI t)), (3, vi (nI i))] [vi (bi w2)] S 0 0 := by
        intro w2 hw2
        refine r_istore_n (pc := 74) C dX10_lookAt_74 (by decide) rfl ?_
        refine r_iinc (pc := 75) C _ dX10_lookAt_75 rfl (nI_1 _) (by decide) rfl ?_
        refine r_goto (pc := 78) (tgt := 4) C dX10_lookAt_78 (by decide) ?_
        exact r_lv C [(0, vr (some mo)), (1, vi (nI t)), (2, vi (bi w2)), (3, vi (nI (i + 1)))] rfl (ih _ hw2)
      cases hf : fdo (M 10) (pid (M 11) t i) n with
      | none =>
        have hnx : lkP M n t (i + 1) = some true := by simp only [lkP, hw, hf]
        refine r_iload_n (pc := 4) C dX10_lookAt_4 rfl ?_
        refine r_aload_n (pc := 5) C dX10_lookAt_5 rfl ?_
        refine r_iload_n (pc := 6) C dX10_lookAt_6 rfl ?_
        refine r_callV (pc := 7) C (mv_parentsOf hV ht140) iX10_parentsOf ml_RX10_182 dX10_lookAt_7 (ci := 11) rfl rfl hV.1.1 rfl (by decide) rfl (by simp [cv, Value.category, va_rf]) (by omega) (by omega) (fun r7 S7 h7 => ?_)
        obtain ⟨rfl, e7⟩ := h7
        subst S7
        dsimp only [Option.toList, List.cons_append, List.nil_append]
        refine r_icmp_ge (pc := 10) (tgt := 81) C dX10_lookAt_10 (by decide) (fun c10 => ?_) (fun c10 => ?_)
        · exact absurd c10 (nI_ge hi (by omega))
        · refine r_aload_n (pc := 13) C dX10_lookAt_13 rfl ?_
          refine r_aload_n (pc := 14) C dX10_lookAt_14 rfl ?_
          refine r_iload_n (pc := 15) C dX10_lookAt_15 rfl ?_
          refine r_iload_n (pc := 16) C dX10_lookAt_16 rfl ?_
          refine r_callV (pc := 17) C (mv_parentId hV ht140 (by omega)) iX10_parentId ml_RX10_224 dX10_lookAt_17 (ci := 11) rfl rfl hV.1.1 rfl (by decide) rfl (by simp [cv, Value.category, va_rf]) (by omega) (by omega) (fun r17 S17 h17 => ?_)
          obtain ⟨rfl, e17⟩ := h17
          subst S17
          dsimp only [Option.toList, List.cons_append, List.nil_append]
          refine r_callV (pc := 20) C (mv_find hV) iX10_find ml_RX10_198 dX10_lookAt_20 (ci := 11) rfl rfl hV.1.1 rfl (by decide) rfl (by simp [cv, Value.category, va_rf]) (by omega) (by omega) (fun r20 S20 h20 => ?_)
          obtain ⟨rfl, e20⟩ := h20
          subst S20
          dsimp only [Option.toList, List.cons_append, List.nil_append]
          rw [hf]
          simp only [oI]
          refine r_istore (pc := 23) C dX10_lookAt_23 (by decide) rfl ?_
          refine r_iload (pc := 25) C dX10_lookAt_25 rfl ?_
          refine r_if_lt (pc := 27) (tgt := 49) C dX10_lookAt_27 (by decide) (fun c27 => ?_) (fun c27 => ?_)
          · refine r_iload_n (pc := 49) C dX10_lookAt_49 rfl ?_
            refine r_if_ne (pc := 50) (tgt := 69) C dX10_lookAt_50 (by decide) (fun c50 => ?_) (fun c50 => ?_)
            · refine r_iconst (pc := 69) C (nI 1) dX10_lookAt_69 rfl ?_
              refine r_goto (pc := 70) (tgt := 74) C dX10_lookAt_70 (by decide) ?_
              exact r_lv C [(0, vr (some mo)), (1, vi (nI t)), (3, vi (nI i))] rfl (fin true hnx)
            · refine r_iload (pc := 53) C dX10_lookAt_53 rfl ?_
              refine r_if_lt (pc := 55) (tgt := 69) C dX10_lookAt_55 (by decide) (fun c55 => ?_) (fun c55 => ?_)
              · refine r_iconst (pc := 69) C (nI 1) dX10_lookAt_69 rfl ?_
                refine r_goto (pc := 70) (tgt := 74) C dX10_lookAt_70 (by decide) ?_
                exact r_lv C [(0, vr (some mo)), (1, vi (nI t)), (3, vi (nI i))] rfl (fin true hnx)
              · exact absurd (by decide) c55
          · exact absurd (by decide) c27
      | some p =>
        have hpn := (fdo_some hf).1
        refine r_iload_n (pc := 4) C dX10_lookAt_4 rfl ?_
        refine r_aload_n (pc := 5) C dX10_lookAt_5 rfl ?_
        refine r_iload_n (pc := 6) C dX10_lookAt_6 rfl ?_
        refine r_callV (pc := 7) C (mv_parentsOf hV ht140) iX10_parentsOf ml_RX10_182 dX10_lookAt_7 (ci := 11) rfl rfl hV.1.1 rfl (by decide) rfl (by simp [cv, Value.category, va_rf]) (by omega) (by omega) (fun r7 S7 h7 => ?_)
        obtain ⟨rfl, e7⟩ := h7
        subst S7
        dsimp only [Option.toList, List.cons_append, List.nil_append]
        refine r_icmp_ge (pc := 10) (tgt := 81) C dX10_lookAt_10 (by decide) (fun c10 => ?_) (fun c10 => ?_)
        · exact absurd c10 (nI_ge hi (by omega))
        · refine r_aload_n (pc := 13) C dX10_lookAt_13 rfl ?_
          refine r_aload_n (pc := 14) C dX10_lookAt_14 rfl ?_
          refine r_iload_n (pc := 15) C dX10_lookAt_15 rfl ?_
          refine r_iload_n (pc := 16) C dX10_lookAt_16 rfl ?_
          refine r_callV (pc := 17) C (mv_parentId hV ht140 (by omega)) iX10_parentId ml_RX10_224 dX10_lookAt_17 (ci := 11) rfl rfl hV.1.1 rfl (by decide) rfl (by simp [cv, Value.category, va_rf]) (by omega) (by omega) (fun r17 S17 h17 => ?_)
          obtain ⟨rfl, e17⟩ := h17
          subst S17
          dsimp only [Option.toList, List.cons_append, List.nil_append]
          refine r_callV (pc := 20) C (mv_findS hV hf) iX10_find ml_RX10_198 dX10_lookAt_20 (ci := 11) rfl rfl hV.1.1 rfl (by decide) rfl (by simp [cv, Value.category, va_rf]) (by omega) (by omega) (fun r20 S20 h20 => ?_)
          obtain ⟨rfl, e20⟩ := h20
          subst S20
          dsimp only [Option.toList, List.cons_append, List.nil_append]
          refine r_istore (pc := 23) C dX10_lookAt_23 (by decide) rfl ?_
          refine r_iload (pc := 25) C dX10_lookAt_25 rfl ?_
          refine r_if_lt (pc := 27) (tgt := 49) C dX10_lookAt_27 (by decide) (fun c27 => ?_) (fun c27 => ?_)
          · exact absurd c27 (nI_pos (by omega))
          · refine r_aload_n (pc := 30) C dX10_lookAt_30 rfl ?_
            refine r_mA (pc := 31) C hV dX10_lookAt_31 fx_RX10_30 (len := 140) (by decide) ?_
            refine r_iload (pc := 34) C dX10_lookAt_34 rfl ?_
            refine r_mL (pc := 36) C hV dX10_lookAt_36 (k := 13) (len := 140) (by decide) (by decide) (by decide) (by omega) (by decide) ?_
            refine r_iconst (pc := 37) C (nI 5) dX10_lookAt_37 rfl ?_
            refine r_icmp_ne (pc := 38) (tgt := 49) C dX10_lookAt_38 (by decide) (fun c38 => ?_) (fun c38 => ?_)
            · have hnx : lkP M n t (i + 1) = some (w || decide (M 13 p = nI 1)) := by simp only [lkP, hw, hf, if_neg c38]
              refine r_iload_n (pc := 49) C dX10_lookAt_49 rfl ?_
              refine r_if_ne (pc := 50) (tgt := 69) C dX10_lookAt_50 (by decide) (fun c50 => ?_) (fun c50 => ?_)
              · rw [bi_0] at c50
                have hv : nI 1 = bi (w || decide (M 13 p = nI 1)) := by rw [ts_nf c50]; rfl
                refine r_iconst (pc := 69) C (nI 1) dX10_lookAt_69 rfl ?_
                refine r_goto (pc := 70) (tgt := 74) C dX10_lookAt_70 (by decide) ?_
                rw [hv]
                exact r_lv C [(0, vr (some mo)), (1, vi (nI t)), (3, vi (nI i))] rfl (fin _ hnx)
              · rw [bi_0] at c50
                refine r_iload (pc := 53) C dX10_lookAt_53 rfl ?_
                refine r_if_lt (pc := 55) (tgt := 69) C dX10_lookAt_55 (by decide) (fun c55 => ?_) (fun c55 => ?_)
                · exact absurd c55 (nI_pos (by omega))
                · refine r_aload_n (pc := 58) C dX10_lookAt_58 rfl ?_
                  refine r_mA (pc := 59) C hV dX10_lookAt_59 fx_RX10_30 (len := 140) (by decide) ?_
                  refine r_iload (pc := 62) C dX10_lookAt_62 rfl ?_
                  refine r_mL (pc := 64) C hV dX10_lookAt_64 (k := 13) (len := 140) (by decide) (by decide) (by decide) (by omega) (by decide) ?_
                  refine r_iconst (pc := 65) C (nI 1) dX10_lookAt_65 rfl ?_
                  refine r_icmp_ne (pc := 66) (tgt := 73) C dX10_lookAt_66 (by decide) (fun c66 => ?_) (fun c66 => ?_)
                  · have hv : nI 0 = bi (w || decide (M 13 p = nI 1)) := by rw [c50, decide_eq_false c66]; rfl
                    refine r_iconst (pc := 73) C (nI 0) dX10_lookAt_73 rfl ?_
                    rw [hv]
                    exact r_lv C [(0, vr (some mo)), (1, vi (nI t)), (3, vi (nI i))] rfl (fin _ hnx)
                  · have hv : nI 1 = bi (w || decide (M 13 p = nI 1)) := by rw [decide_eq_true c66, Bool.or_true]; rfl
                    refine r_iconst (pc := 69) C (nI 1) dX10_lookAt_69 rfl ?_
                    refine r_goto (pc := 70) (tgt := 74) C dX10_lookAt_70 (by decide) ?_
                    rw [hv]
                    exact r_lv C [(0, vr (some mo)), (1, vi (nI t)), (3, vi (nI i))] rfl (fin _ hnx)
            · have hnx : lkP M n t (i + 1) = none := by simp only [lkP, hw, hf, c38, if_true]
              have e : lok M n h t = (um M 13 t (nI 5), h) := by simp only [lok, lkP_none hnx (nP (M 11) t) (by omega)]
              refine r_aload_n (pc := 41) C dX10_lookAt_41 rfl ?_
              refine r_mA (pc := 42) C hV dX10_lookAt_42 fx_RX10_30 (len := 140) (by decide) ?_
              refine r_iload_n (pc := 45) C dX10_lookAt_45 rfl ?_
              refine r_iconst (pc := 46) C (nI 5) dX10_lookAt_46 rfl ?_
              refine r_mS (pc := 47) C hV dX10_lookAt_47 (k := 13) (len := 140) (by decide) (by decide) (by decide) (by decide) (by omega) (by decide) (fun S47 hC47r hV47 => ?_)
              have hC47 := hC0.trk hC47r
              refine r_ret (pc := 48) C dX10_lookAt_48 rfl (by omega) (by omega) ?_
              rw [e]
              exact ⟨rfl, hC47, hV47⟩
  refine r_iconst (pc := 0) C (nI 0) dX10_lookAt_0 rfl ?_
  refine r_istore_n (pc := 1) C dX10_lookAt_1 (by decide) rfl ?_
  refine r_iconst (pc := 2) C (nI 0) dX10_lookAt_2 rfl ?_
  refine r_istore_n (pc := 3) C dX10_lookAt_3 (by decide) rfl ?_
  exact r_lv C [(0, vr (some mo)), (1, vi (nI t)), (2, vi (bi false)), (3, vi (nI 0))] rfl (L 0 false (by omega) rfl)
end Look
