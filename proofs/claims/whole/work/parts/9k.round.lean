/-! The class: round, refused -/
section RoundT
variable {l : Launch} {g : GG} {S S1 S' : hS} {po x pe tp dg go ch n h a k co j : Nat} {F : MM} {G : Nat → Int32} {L : List Nat} {c col : Int32}
theorem cx_roundT (hl : l.stackTraces = false) (hN : NB S x pe tp dg go po ch G) (hP : CCh S ch F G) (hno : chN F c = none ∨ ∃ j, chN F c = some j ∧ F 36 j ≠ 0) : SpT l g mX9_round 1 6 [vr (some x), vi c] S Ea (fun S' => S' = S) := by
  refine SpT.start (own := RX9) [(0, vr (some x)), (1, vi c)] (by decide +kernel) rfl rfl (Nat.le_of_ble_eq_true rfl) ?_
  intro J CT
  have C := CT.cx
  rcases hno with hch | ⟨j, hch, hd⟩
  · refine r_aload_n (pc := 0) C dX9_round_0 rfl ?_
    refine r_iload_n (pc := 1) C dX9_round_1 rfl ?_
    refine r_callV (pc := 2) C (cx_findCh hN hP) iX9_findChoice ml_RX9_306 dX9_round_2 (ci := 10) rfl rfl hN.1.1 rfl (by decide) rfl (by simp [cv, Value.category, va_rf]) (by omega) (by omega) (fun r2 S2 h2 => ?_)
    obtain ⟨rfl, e2⟩ := h2
    subst S2
    dsimp only [Option.toList, List.cons_append, List.nil_append]
    rw [hch, Option.bind_none]
    refine r_astore_n (pc := 5) C dX9_round_5 (by decide) rfl ?_
    refine r_aload_n (pc := 6) C dX9_round_6 rfl ?_
    refine r_ifnull (pc := 7) (tgt := 17) C dX9_round_7 (by decide) (fun c7 => ?_) (fun a7 c7 => ?_)
    · exact r_throwW (pc := 17) CT hl xc_a xs_321 dX9_round_17 dX9_round_20 dX9_round_21 dX9_round_24 dX9_round_27 (by decide) (by decide) (by omega) (by omega) rfl
    · cases c7
  · obtain ⟨-, hj, co, hco, hC⟩ := hP.at hch
    refine r_aload_n (pc := 0) C dX9_round_0 rfl ?_
    refine r_iload_n (pc := 1) C dX9_round_1 rfl ?_
    refine r_callV (pc := 2) C (cx_findCh hN hP) iX9_findChoice ml_RX9_306 dX9_round_2 (ci := 10) rfl rfl hN.1.1 rfl (by decide) rfl (by simp [cv, Value.category, va_rf]) (by omega) (by omega) (fun r2 S2 h2 => ?_)
    obtain ⟨rfl, e2⟩ := h2
    subst S2
    dsimp only [Option.toList, List.cons_append, List.nil_append]
    rw [hch, Option.bind_some, hco]
    refine r_astore_n (pc := 5) C dX9_round_5 (by decide) rfl ?_
    refine r_aload_n (pc := 6) C dX9_round_6 rfl ?_
    refine r_ifnull (pc := 7) (tgt := 17) C dX9_round_7 (by decide) (fun c7 => ?_) (fun a7 c7 => ?_)
    · cases c7
    · cases c7
      refine r_aload_n (pc := 10) C dX9_round_10 rfl ?_
      refine r_getI (pc := 11) C dX9_round_11 fx_RX9_318 hC.1.1 ?_
      rw [hC.2.1.2.2.2.2.2.2.2.2]
      refine r_if_eq (pc := 14) (tgt := 28) C dX9_round_14 (by decide) (fun c14 => ?_) (fun c14 => ?_)
      · exact absurd c14 hd
      · exact r_throwW (pc := 17) CT hl xc_a xs_321 dX9_round_17 dX9_round_20 dX9_round_21 dX9_round_24 dX9_round_27 (by decide) (by decide) (by omega) (by omega) rfl
end RoundT
