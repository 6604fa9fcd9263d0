/-! The class: poll, refused -/
section PollT
variable {l : Launch} {g : GG} {S S1 S' : hS} {po x pe tp dg go ch n h a k p pp t mi j al mc ms : Nat} {T O Pp : Nat → Nat} {M F : MM} {G : Nat → Int32} {X : Int64} {L Ls : List Nat} {w : Bool} {v y : Int32} {Post : Option AV → hS → Prop} {J : JJ}
theorem hvy_congr {f f' : Nat → Int32} (e : ∀ i, i < 20 → f i = f' i) : hvy f = hvy f' := by
  unfold hvy
  exact cntU_congr (fun i hi => by rw [e i hi])
theorem cx_pollT1 (hl : l.stackTraces = false) (hN : NB S x pe tp dg go po ch G) (hC : CGr g S po go T O M G n h a) (hI : IV M n h a) (hno : abo M h = none) : SpT l g mX9_poll 1 6 [vr (some x)] S En (fun S' => S' = S) := by
  have hG := hI.1
  have hn := hG.1
  have hh := hG.2.1
  refine SpT.start (own := RX9) [(0, vr (some x))] (by decide +kernel) rfl rfl (Nat.le_of_ble_eq_true rfl) ?_
  intro J CT
  have C := CT.cx
  refine r_aload_n (pc := 0) C dX9_poll_0 rfl ?_
  refine r_getR (pc := 1) C dX9_poll_1 fx_RX9_50 hN.1.1 hN.2.1.2.2.2.1 ?_
  refine r_callV (pc := 4) C (cg_toPoll hC.1.pG hC.1.pL.l1 hC.1.pT (by omega) hG.hn) iX2_firstToPoll ml_RX9_143 dX9_poll_4 (ci := 3) rfl rfl hC.1.pG.gk rfl (by decide) rfl (by simp [cv, Value.category, va_rf]) (by omega) (by omega) (fun r4 S4 h4 => ?_)
  obtain ⟨rfl, e4⟩ := h4
  subst S4
  dsimp only [Option.toList, List.cons_append, List.nil_append]
  rw [hno, Option.map_none]
  refine r_astore_n (pc := 7) C dX9_poll_7 (by decide) rfl ?_
  refine r_aload_n (pc := 8) C dX9_poll_8 rfl ?_
  refine r_ifnonnull (pc := 9) (tgt := 22) C dX9_poll_9 (by decide) (fun a9 c9 => ?_) (fun c9 => ?_)
  · cases c9
  · exact r_throwN (pc := 12) CT hl xs_149 dX9_poll_12 dX9_poll_15 dX9_poll_16 dX9_poll_18 dX9_poll_21 (by decide) (by decide) (by omega) (by omega) rfl
theorem cx_pollT2 (hl : l.stackTraces = false) (hN : NB S x pe tp dg go po ch G) (hC : CGr g S po go T O M G n h a) (hP : CPl g S po T F k Ls Pp) (hI : IV M n h a) (hab : abo M h = some t) (h6 : opn (F 25) = 6) : SpT l g mX9_poll 1 6 [vr (some x)] S Es (fun S' => S' = S) := by
  have hG := hI.1
  have hn := hG.1
  have hh := hG.2.1
  have e6 : Ls.length = 6 := by rw [← hP.opn]; exact h6
  refine SpT.start (own := RX9) [(0, vr (some x))] (by decide +kernel) rfl rfl (Nat.le_of_ble_eq_true rfl) ?_
  intro J CT
  have C := CT.cx
  refine r_aload_n (pc := 0) C dX9_poll_0 rfl ?_
  refine r_getR (pc := 1) C dX9_poll_1 fx_RX9_50 hN.1.1 hN.2.1.2.2.2.1 ?_
  refine r_callV (pc := 4) C (cg_toPoll hC.1.pG hC.1.pL.l1 hC.1.pT (by omega) hG.hn) iX2_firstToPoll ml_RX9_143 dX9_poll_4 (ci := 3) rfl rfl hC.1.pG.gk rfl (by decide) rfl (by simp [cv, Value.category, va_rf]) (by omega) (by omega) (fun r4 S4 h4 => ?_)
  obtain ⟨rfl, e4⟩ := h4
  subst S4
  dsimp only [Option.toList, List.cons_append, List.nil_append]
  rw [hab, Option.map_some]
  refine r_astore_n (pc := 7) C dX9_poll_7 (by decide) rfl ?_
  refine r_aload_n (pc := 8) C dX9_poll_8 rfl ?_
  refine r_ifnonnull (pc := 9) (tgt := 22) C dX9_poll_9 (by decide) (fun a9 c9 => ?_) (fun c9 => ?_)
  · cases c9
    refine r_aload_n (pc := 22) C dX9_poll_22 rfl ?_
    refine r_getR (pc := 23) C dX9_poll_23 fx_RX9_57 hN.1.1 hN.2.1.2.2.2.2.1 ?_
    refine r_callV (pc := 26) C (ct_size hP.2.1) iJx4a65c_size_8abf5 ml_RX9_152 dX9_poll_26 (ci := 0) rfl rfl hP.2.1.k rfl (by decide) rfl (by simp [cv, Value.category, va_rf]) (by omega) (by omega) (fun r26 S26 h26 => ?_)
    obtain ⟨rfl, e26⟩ := h26
    subst S26
    dsimp only [Option.toList, List.cons_append, List.nil_append]
    rw [e6]
    refine r_bipush (pc := 29) C (nI 6) dX9_poll_29 rfl ?_
    refine r_icmp_lt (pc := 31) (tgt := 44) C dX9_poll_31 (by decide) (fun c31 => ?_) (fun c31 => ?_)
    · exact absurd c31 (by decide)
    · exact r_throw (pc := 34) CT hl xc_s xs_156 dX9_poll_34 dX9_poll_37 dX9_poll_38 dX9_poll_40 dX9_poll_43 (by decide) (by decide) (by omega) (by omega) rfl
  · cases c9
theorem cx_pollT3 (hl : l.stackTraces = false) (hN : NB S x pe tp dg go po ch G) (hE : CPe S pe F X) (hC : CGr g S po go T O M G n h a) (hP : CPl g S po T F k Ls Pp) (hI : IV M n h a) (hkG : G 2 = nI k) (hk : k ≤ 10) (hab : abo M h = some t) (h6 : opn (F 25) ≠ 6) (hv : hvy (F 6) < k) : SpT l g mX9_poll 1 6 [vr (some x)] S Es (fun S' => S' = S) := by
  have hG := hI.1
  have hn := hG.1
  have hh := hG.2.1
  have e6 : Ls.length < 6 := by have := hP.len; rw [hP.opn] at h6; omega
  obtain ⟨wa, hPE, hw, -⟩ := hE
  have ev : hvy (aI S 30 wa) = hvy (F 6) := hvy_congr hw
  refine SpT.start (own := RX9) [(0, vr (some x))] (by decide +kernel) rfl rfl (Nat.le_of_ble_eq_true rfl) ?_
  intro J CT
  have C := CT.cx
  refine r_aload_n (pc := 0) C dX9_poll_0 rfl ?_
  refine r_getR (pc := 1) C dX9_poll_1 fx_RX9_50 hN.1.1 hN.2.1.2.2.2.1 ?_
  refine r_callV (pc := 4) C (cg_toPoll hC.1.pG hC.1.pL.l1 hC.1.pT (by omega) hG.hn) iX2_firstToPoll ml_RX9_143 dX9_poll_4 (ci := 3) rfl rfl hC.1.pG.gk rfl (by decide) rfl (by simp [cv, Value.category, va_rf]) (by omega) (by omega) (fun r4 S4 h4 => ?_)
  obtain ⟨rfl, e4⟩ := h4
  subst S4
  dsimp only [Option.toList, List.cons_append, List.nil_append]
  rw [hab, Option.map_some]
  refine r_astore_n (pc := 7) C dX9_poll_7 (by decide) rfl ?_
  refine r_aload_n (pc := 8) C dX9_poll_8 rfl ?_
  refine r_ifnonnull (pc := 9) (tgt := 22) C dX9_poll_9 (by decide) (fun a9 c9 => ?_) (fun c9 => ?_)
  · cases c9
    refine r_aload_n (pc := 22) C dX9_poll_22 rfl ?_
    refine r_getR (pc := 23) C dX9_poll_23 fx_RX9_57 hN.1.1 hN.2.1.2.2.2.2.1 ?_
    refine r_callV (pc := 26) C (ct_size hP.2.1) iJx4a65c_size_8abf5 ml_RX9_152 dX9_poll_26 (ci := 0) rfl rfl hP.2.1.k rfl (by decide) rfl (by simp [cv, Value.category, va_rf]) (by omega) (by omega) (fun r26 S26 h26 => ?_)
    obtain ⟨rfl, e26⟩ := h26
    subst S26
    dsimp only [Option.toList, List.cons_append, List.nil_append]
    refine r_bipush (pc := 29) C (nI 6) dX9_poll_29 rfl ?_
    refine r_icmp_lt (pc := 31) (tgt := 44) C dX9_poll_31 (by decide) (fun c31 => ?_) (fun c31 => ?_)
    · refine r_aload_n (pc := 44) C dX9_poll_44 rfl ?_
      refine r_getR (pc := 45) C dX9_poll_45 fx_RX9_27 hN.1.1 hN.2.1.1 ?_
      refine r_callV (pc := 48) C (cl_heavy hPE) iX4_countWithWeight ml_RX9_158 dX9_poll_48 (ci := 5) rfl rfl hPE.1 rfl (by decide) rfl (by simp [cv, Value.category, va_rf]) (by omega) (by omega) (fun r48 S48 h48 => ?_)
      obtain ⟨rfl, e48⟩ := h48
      subst S48
      dsimp only [Option.toList, List.cons_append, List.nil_append]
      rw [ev]
      refine r_aload_n (pc := 51) C dX9_poll_51 rfl ?_
      refine r_getI (pc := 52) C dX9_poll_52 fx_RX9_7 hN.1.1 ?_
      rw [hN.1.2.1, hkG]
      refine r_icmp_ge (pc := 55) (tgt := 68) C dX9_poll_55 (by decide) (fun c55 => ?_) (fun c55 => ?_)
      · exact absurd c55 (Int32.not_le.mpr (nI_lt hv (by omega)))
      · exact r_throw (pc := 58) CT hl xc_s xs_161 dX9_poll_58 dX9_poll_61 dX9_poll_62 dX9_poll_64 dX9_poll_67 (by decide) (by decide) (by omega) (by omega) rfl
    · exact absurd (nI_lt e6 (by omega)) c31
  · cases c9
end PollT
