/-! The class: idOrNone, set, listed -/
section SetC
variable {l : Launch} {g : GG} {S S1 S' : hS} {po x pe tp dg go ch n h a : Nat} {T O : Nat → Nat} {M F : MM} {G : Nat → Int32} {X : Int64} {L L' : List Nat}
theorem cx_idOr {o : Option Nat} (hG : GS S po go T O M n) (ho : ∀ t, o = some t → t < n) : Sp l g mX9_idOrNone 0 0 [vr (o.map T)] S (fun r S' => r = some (vi (idO M o)) ∧ S' = S) := by
  cases o with
  | none =>
    rw [Option.map_none]
    refine Sp.start (own := RX9) [(0, vr none)] (by decide +kernel) rfl rfl (Nat.le_of_ble_eq_true rfl) ?_
    intro J C
    refine r_aload_n (pc := 0) C dX9_idOrNone_0 rfl ?_
    refine r_ifnonnull (pc := 1) (tgt := 8) C dX9_idOrNone_1 (by decide) (fun a1 c1 => ?_) (fun c1 => ?_)
    · cases c1
    · refine r_iconst (pc := 4) C (-1) dX9_idOrNone_4 rfl ?_
      refine r_goto (pc := 5) (tgt := 12) C dX9_idOrNone_5 (by decide) ?_
      refine r_iret (pc := 12) C dX9_idOrNone_12 rfl (by omega) (by omega) ?_
      exact ⟨rfl, rfl⟩
  | some t =>
    have ht := ho t rfl
    rw [Option.map_some]
    refine Sp.start (own := RX9) [(0, vr (some (T t)))] (by decide +kernel) rfl rfl (Nat.le_of_ble_eq_true rfl) ?_
    intro J C
    refine r_aload_n (pc := 0) C dX9_idOrNone_0 rfl ?_
    refine r_ifnonnull (pc := 1) (tgt := 8) C dX9_idOrNone_1 (by decide) (fun a1 c1 => ?_) (fun c1 => ?_)
    · cases c1
      refine r_aload_n (pc := 8) C dX9_idOrNone_8 rfl ?_
      refine r_getI (pc := 9) C dX9_idOrNone_9 fx_RX9_109 (hG.tk ht) ?_
      rw [(hG.t ht).1.2]
      refine r_iret (pc := 12) C dX9_idOrNone_12 rfl (by omega) (by omega) ?_
      exact ⟨rfl, rfl⟩
    · cases c1
theorem cx_setT1 {id ix w : Int32} (hl : l.stackTraces = false) (hN : NB S x pe tp dg go po ch G) (hC : CGr g S po go T O M G n h a) (hPI : PI M n h a) (hno : fdo (M 10) id n = none ∨ ∃ t, fdo (M 10) id n = some t ∧ hdB M h t = false) : SpT l g mX9_set 1 6 [vr (some x), vi id, vi ix, vi w] S Ei (fun S' => S' = S) := by
  have hI := hPI.1
  have hG := hI.1
  have hC1 := hC.1
  have hn := hG.1
  have hh := hG.2.1
  refine SpT.start (own := RX9) [(0, vr (some x)), (1, vi id), (2, vi ix), (3, vi w)] (by decide +kernel) rfl rfl (Nat.le_of_ble_eq_true rfl) ?_
  intro J CT
  have C := CT.cx
  rcases hno with e | ⟨t, e, hb⟩
  · refine r_aload_n (pc := 0) C dX9_set_0 rfl ?_
    refine r_getR (pc := 1) C dX9_set_1 fx_RX9_50 hN.1.1 hN.2.1.2.2.2.1 ?_
    refine r_iload_n (pc := 4) C dX9_set_4 rfl ?_
    refine r_callV (pc := 5) C (cg_find hC1.pG hC1.pL.l0 hPI.2.1 hn) iX2_find ml_RX9_114 dX9_set_5 (ci := 3) rfl rfl hC1.pG.gk rfl (by decide) rfl (by simp [cv, Value.category, va_rf]) (by omega) (by omega) (fun r5 S5 h5 => ?_)
    obtain ⟨rfl, e5⟩ := h5
    subst S5
    dsimp only [Option.toList, List.cons_append, List.nil_append]
    rw [e, Option.map_none]
    refine r_astore (pc := 8) C dX9_set_8 (by decide) rfl ?_
    refine r_aload (pc := 10) C dX9_set_10 rfl ?_
    refine r_ifnull (pc := 12) (tgt := 23) C dX9_set_12 (by decide) (fun c12 => ?_) (fun a12 c12 => ?_)
    · exact r_throwW (pc := 23) CT hl xc_i xs_261 dX9_set_23 dX9_set_26 dX9_set_27 dX9_set_30 dX9_set_33 (by decide) (by decide) (by omega) (by omega) rfl
    · cases c12
  · have ht := fdo_lt t e
    refine r_aload_n (pc := 0) C dX9_set_0 rfl ?_
    refine r_getR (pc := 1) C dX9_set_1 fx_RX9_50 hN.1.1 hN.2.1.2.2.2.1 ?_
    refine r_iload_n (pc := 4) C dX9_set_4 rfl ?_
    refine r_callV (pc := 5) C (cg_find hC1.pG hC1.pL.l0 hPI.2.1 hn) iX2_find ml_RX9_114 dX9_set_5 (ci := 3) rfl rfl hC1.pG.gk rfl (by decide) rfl (by simp [cv, Value.category, va_rf]) (by omega) (by omega) (fun r5 S5 h5 => ?_)
    obtain ⟨rfl, e5⟩ := h5
    subst S5
    dsimp only [Option.toList, List.cons_append, List.nil_append]
    rw [e, Option.map_some]
    refine r_astore (pc := 8) C dX9_set_8 (by decide) rfl ?_
    refine r_aload (pc := 10) C dX9_set_10 rfl ?_
    refine r_ifnull (pc := 12) (tgt := 23) C dX9_set_12 (by decide) (fun c12 => ?_) (fun a12 c12 => ?_)
    · cases c12
    · cases c12
      refine r_aload (pc := 15) C dX9_set_15 rfl ?_
      refine r_callV (pc := 17) C (cg_isHeld hC1.pG hC1.pH (by omega) ht) iX8_isHeld ml_RX9_133 dX9_set_17 (ci := 9) rfl rfl (hC1.pG.tk ht) rfl (by decide) rfl (by simp [cv, Value.category, va_rf]) (by omega) (by omega) (fun r17 S17 h17 => ?_)
      obtain ⟨rfl, e17⟩ := h17
      subst S17
      dsimp only [Option.toList, List.cons_append, List.nil_append]
      rw [hb]
      refine r_if_ne (pc := 20) (tgt := 34) C dX9_set_20 (by decide) (fun c20 => ?_) (fun c20 => ?_)
      · exact absurd rfl c20
      · exact r_throwW (pc := 23) CT hl xc_i xs_261 dX9_set_23 dX9_set_26 dX9_set_27 dX9_set_30 dX9_set_33 (by decide) (by decide) (by omega) (by omega) rfl
theorem cx_setT2 {id ix w : Int32} {t : Nat} (hl : l.stackTraces = false) (hN : NB S x pe tp dg go po ch G) (hC : CGr g S po go T O M G n h a) (hPI : PI M n h a) (e : fdo (M 10) id n = some t) (hb : hdB M h t = true) (hi : ixo M t ix = none) : SpT l g mX9_set 1 6 [vr (some x), vi id, vi ix, vi w] S Ei (fun S' => S' = S) := by
  have hI := hPI.1
  have hG := hI.1
  have hC1 := hC.1
  have hn := hG.1
  have hh := hG.2.1
  have ht := fdo_lt t e
  refine SpT.start (own := RX9) [(0, vr (some x)), (1, vi id), (2, vi ix), (3, vi w)] (by decide +kernel) rfl rfl (Nat.le_of_ble_eq_true rfl) ?_
  intro J CT
  have C := CT.cx
  refine r_aload_n (pc := 0) C dX9_set_0 rfl ?_
  refine r_getR (pc := 1) C dX9_set_1 fx_RX9_50 hN.1.1 hN.2.1.2.2.2.1 ?_
  refine r_iload_n (pc := 4) C dX9_set_4 rfl ?_
  refine r_callV (pc := 5) C (cg_find hC1.pG hC1.pL.l0 hPI.2.1 hn) iX2_find ml_RX9_114 dX9_set_5 (ci := 3) rfl rfl hC1.pG.gk rfl (by decide) rfl (by simp [cv, Value.category, va_rf]) (by omega) (by omega) (fun r5 S5 h5 => ?_)
  obtain ⟨rfl, e5⟩ := h5
  subst S5
  dsimp only [Option.toList, List.cons_append, List.nil_append]
  rw [e, Option.map_some]
  refine r_astore (pc := 8) C dX9_set_8 (by decide) rfl ?_
  refine r_aload (pc := 10) C dX9_set_10 rfl ?_
  refine r_ifnull (pc := 12) (tgt := 23) C dX9_set_12 (by decide) (fun c12 => ?_) (fun a12 c12 => ?_)
  · cases c12
  · cases c12
    refine r_aload (pc := 15) C dX9_set_15 rfl ?_
    refine r_callV (pc := 17) C (cg_isHeld hC1.pG hC1.pH (by omega) ht) iX8_isHeld ml_RX9_133 dX9_set_17 (ci := 9) rfl rfl (hC1.pG.tk ht) rfl (by decide) rfl (by simp [cv, Value.category, va_rf]) (by omega) (by omega) (fun r17 S17 h17 => ?_)
    obtain ⟨rfl, e17⟩ := h17
    subst S17
    dsimp only [Option.toList, List.cons_append, List.nil_append]
    rw [hb]
    refine r_if_ne (pc := 20) (tgt := 34) C dX9_set_20 (by decide) (fun c20 => ?_) (fun c20 => ?_)
    · refine r_aload (pc := 34) C dX9_set_34 rfl ?_
      refine r_iload_n (pc := 36) C dX9_set_36 rfl ?_
      refine r_callV (pc := 37) C (cg_outputAt hC1.pG (hG.2.2.1 t ht) ht) iX8_outputAt ml_RX9_263 dX9_set_37 (ci := 9) rfl rfl (hC1.pG.tk ht) rfl (by decide) rfl (by simp [cv, Value.category, va_rf]) (by omega) (by omega) (fun r37 S37 h37 => ?_)
      obtain ⟨rfl, e37⟩ := h37
      subst S37
      dsimp only [Option.toList, List.cons_append, List.nil_append]
      rw [hi, Option.map_none]
      refine r_astore (pc := 40) C dX9_set_40 (by decide) rfl ?_
      refine r_aload (pc := 42) C dX9_set_42 rfl ?_
      refine r_ifnonnull (pc := 44) (tgt := 58) C dX9_set_44 (by decide) (fun a44 c44 => ?_) (fun c44 => ?_)
      · cases c44
      · exact r_throwW (pc := 47) CT hl xc_i xs_267 dX9_set_47 dX9_set_50 dX9_set_51 dX9_set_54 dX9_set_57 (by decide) (by decide) (by omega) (by omega) rfl
    · exact absurd c20 (by decide)
theorem cx_setT3 {id ix w : Int32} {t i : Nat} (hl : l.stackTraces = false) (hN : NB S x pe tp dg go po ch G) (hC : CGr g S po go T O M G n h a) (hPI : PI M n h a) (e : fdo (M 10) id n = some t) (hb : hdB M h t = true) (hi : ixo M t ix = some i) (hw : w < 0 ∨ nI 5 ≤ w) : SpT l g mX9_set 1 6 [vr (some x), vi id, vi ix, vi w] S Ei (fun S' => S' = S) := by
  have hI := hPI.1
  have hG := hI.1
  have hC1 := hC.1
  have hn := hG.1
  have hh := hG.2.1
  have ht := fdo_lt t e
  refine SpT.start (own := RX9) [(0, vr (some x)), (1, vi id), (2, vi ix), (3, vi w)] (by decide +kernel) rfl rfl (Nat.le_of_ble_eq_true rfl) ?_
  intro J CT
  have C := CT.cx
  refine r_aload_n (pc := 0) C dX9_set_0 rfl ?_
  refine r_getR (pc := 1) C dX9_set_1 fx_RX9_50 hN.1.1 hN.2.1.2.2.2.1 ?_
  refine r_iload_n (pc := 4) C dX9_set_4 rfl ?_
  refine r_callV (pc := 5) C (cg_find hC1.pG hC1.pL.l0 hPI.2.1 hn) iX2_find ml_RX9_114 dX9_set_5 (ci := 3) rfl rfl hC1.pG.gk rfl (by decide) rfl (by simp [cv, Value.category, va_rf]) (by omega) (by omega) (fun r5 S5 h5 => ?_)
  obtain ⟨rfl, e5⟩ := h5
  subst S5
  dsimp only [Option.toList, List.cons_append, List.nil_append]
  rw [e, Option.map_some]
  refine r_astore (pc := 8) C dX9_set_8 (by decide) rfl ?_
  refine r_aload (pc := 10) C dX9_set_10 rfl ?_
  refine r_ifnull (pc := 12) (tgt := 23) C dX9_set_12 (by decide) (fun c12 => ?_) (fun a12 c12 => ?_)
  · cases c12
  · cases c12
    refine r_aload (pc := 15) C dX9_set_15 rfl ?_
    refine r_callV (pc := 17) C (cg_isHeld hC1.pG hC1.pH (by omega) ht) iX8_isHeld ml_RX9_133 dX9_set_17 (ci := 9) rfl rfl (hC1.pG.tk ht) rfl (by decide) rfl (by simp [cv, Value.category, va_rf]) (by omega) (by omega) (fun r17 S17 h17 => ?_)
    obtain ⟨rfl, e17⟩ := h17
    subst S17
    dsimp only [Option.toList, List.cons_append, List.nil_append]
    rw [hb]
    refine r_if_ne (pc := 20) (tgt := 34) C dX9_set_20 (by decide) (fun c20 => ?_) (fun c20 => ?_)
    · refine r_aload (pc := 34) C dX9_set_34 rfl ?_
      refine r_iload_n (pc := 36) C dX9_set_36 rfl ?_
      refine r_callV (pc := 37) C (cg_outputAt hC1.pG (hG.2.2.1 t ht) ht) iX8_outputAt ml_RX9_263 dX9_set_37 (ci := 9) rfl rfl (hC1.pG.tk ht) rfl (by decide) rfl (by simp [cv, Value.category, va_rf]) (by omega) (by omega) (fun r37 S37 h37 => ?_)
      obtain ⟨rfl, e37⟩ := h37
      subst S37
      dsimp only [Option.toList, List.cons_append, List.nil_append]
      rw [hi, Option.map_some]
      refine r_astore (pc := 40) C dX9_set_40 (by decide) rfl ?_
      refine r_aload (pc := 42) C dX9_set_42 rfl ?_
      refine r_ifnonnull (pc := 44) (tgt := 58) C dX9_set_44 (by decide) (fun a44 c44 => ?_) (fun c44 => ?_)
      · cases c44
        refine r_iload_n (pc := 58) C dX9_set_58 rfl ?_
        refine r_swOut (pc := 59) C dX9_set_59 (tgt := 134) (sw_out (k := 4) (by omega) hw) (by decide) ?_
        exact r_throw (pc := 134) CT hl xc_i xs_227 dX9_set_134 dX9_set_137 dX9_set_138 dX9_set_140 dX9_set_143 (by decide) (by decide) (by omega) (by omega) rfl
      · cases c44
    · exact absurd c20 (by decide)
end SetC
