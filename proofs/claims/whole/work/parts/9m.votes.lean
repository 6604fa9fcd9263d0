/-! The class: votes, too many -/
section VotesT2
variable {l : Launch} {g : GG} {S S1 S' : hS} {po x pe tp dg go ch n h a k co j : Nat} {F : MM} {G : Nat → Int32} {L : List Nat} {c col y : Int32}
theorem cx_votesT2 (hl : l.stackTraces = false) (hN : NB S x pe tp dg go po ch G) (hP : CCh S ch F G) (hH : CH F) (hco : coL F c col = some (j, k)) (hd : F 36 j = 0) (hy : ¬ y < nI 1) (hno : G 2 - vts (F 38) j 8 < y) : SpT l g mX9_votes 1 6 [vr (some x), vi c, vi col, vi y] S Es (fun S' => S' = S) := by
  have hch := (coL_some hco hH).2.2.1
  obtain ⟨-, hj, co, hc2, hC⟩ := hP.at hch
  have hcol := col_ok (col := col) hH hj hch
  rw [hco] at hcol
  refine SpT.start (own := RX9) [(0, vr (some x)), (1, vi c), (2, vi col), (3, vi y)] (by decide +kernel) rfl rfl (Nat.le_of_ble_eq_true rfl) ?_
  intro J CT
  have C := CT.cx
  refine r_aload_n (pc := 0) C dX9_votes_0 rfl ?_
  refine r_iload_n (pc := 1) C dX9_votes_1 rfl ?_
  refine r_callV (pc := 2) C (cx_findCh hN hP) iX9_findChoice ml_RX9_306 dX9_votes_2 (ci := 10) rfl rfl hN.1.1 rfl (by decide) rfl (by simp [cv, Value.category, va_rf]) (by omega) (by omega) (fun r2 S2 h2 => ?_)
  obtain ⟨rfl, e2⟩ := h2
  subst S2
  dsimp only [Option.toList, List.cons_append, List.nil_append]
  rw [hch, Option.bind_some, hc2]
  refine r_astore (pc := 5) C dX9_votes_5 (by decide) rfl ?_
  refine r_aload (pc := 7) C dX9_votes_7 rfl ?_
  refine r_ifnull (pc := 9) (tgt := 20) C dX9_votes_9 (by decide) (fun c9 => ?_) (fun a9 c9 => ?_)
  · cases c9
  · cases c9
    refine r_aload (pc := 12) C dX9_votes_12 rfl ?_
    refine r_getI (pc := 14) C dX9_votes_14 fx_RX9_318 hC.1.1 ?_
    rw [hC.2.1.2.2.2.2.2.2.2.2]
    refine r_if_eq (pc := 17) (tgt := 31) C dX9_votes_17 (by decide) (fun c17 => ?_) (fun c17 => ?_)
    · refine r_aload (pc := 31) C dX9_votes_31 rfl ?_
      refine r_iload_n (pc := 33) C dX9_votes_33 rfl ?_
      refine r_callV (pc := 34) C (cx_hasC hC) iX0_hasColour ml_RX9_310 dX9_votes_34 (ci := 1) rfl rfl hC.1.1 rfl (by decide) rfl (by simp [cv, Value.category, va_rf]) (by omega) (by omega) (fun r34 S34 h34 => ?_)
      obtain ⟨rfl, e34⟩ := h34
      subst S34
      dsimp only [Option.toList, List.cons_append, List.nil_append]
      rw [hcol]
      refine r_if_eq (pc := 37) (tgt := 45) C dX9_votes_37 (by decide) (fun c37 => ?_) (fun c37 => ?_)
      · exact absurd (show bi true = 0 from c37) (by decide)
      · refine r_iload_n (pc := 40) C dX9_votes_40 rfl ?_
        refine r_iconst (pc := 41) C (nI 1) dX9_votes_41 rfl ?_
        refine r_icmp_ge (pc := 42) (tgt := 56) C dX9_votes_42 (by decide) (fun c42 => ?_) (fun c42 => ?_)
        · refine r_iload_n (pc := 56) C dX9_votes_56 rfl ?_
          refine r_aload_n (pc := 57) C dX9_votes_57 rfl ?_
          refine r_getI (pc := 58) C dX9_votes_58 fx_RX9_7 hN.1.1 ?_
          rw [hN.1.2.1]
          refine r_aload (pc := 61) C dX9_votes_61 rfl ?_
          refine r_getI (pc := 63) C dX9_votes_63 fx_RX9_325 hC.1.1 ?_
          rw [hC.2.1.2.2.2.2.2.2.2.1]
          refine r_isub (pc := 66) C dX9_votes_66 ?_
          refine r_icmp_le (pc := 67) (tgt := 81) C dX9_votes_67 (by decide) (fun c67 => ?_) (fun c67 => ?_)
          · exact absurd c67 (Int32.not_le.mpr hno)
          · exact r_throwW (pc := 70) CT hl xc_s xs_328 dX9_votes_70 dX9_votes_73 dX9_votes_74 dX9_votes_77 dX9_votes_80 (by decide) (by decide) (by omega) (by omega) rfl
        · exact absurd (Int32.not_lt.mp hy) c42
    · exact absurd hd c17
end VotesT2
