/-! The class: votes, refused -/
section VotesT
variable {l : Launch} {g : GG} {S S1 S' : hS} {po x pe tp dg go ch n h a k co j : Nat} {F : MM} {G : Nat → Int32} {L : List Nat} {c col y : Int32}
/-- a colour of the choice j -/
theorem col_ok (hH : CH F) (hj : j < 8) (hch : chN F c = some j) : (!dlt col 0 && dlt col (F 33 j)) = (coL F c col).isSome := by
  unfold coL
  rw [hch, (hH j hj).1.1]
  show _ = (if col < 0 ∨ nI (coN F j) ≤ col then none else some (j, col.toNatClampNeg)).isSome
  split
  · next q =>
    rcases q with q | q
    · rw [show dlt col 0 = true from decide_eq_true q]; rfl
    · rw [show dlt col (nI (coN F j)) = false from decide_eq_false (Int32.not_lt.mpr q), Bool.and_false]; rfl
  · next q =>
    rw [show dlt col 0 = false from decide_eq_false (fun z => q (Or.inl z)), show dlt col (nI (coN F j)) = true from decide_eq_true (Int32.not_le.mp (fun z => q (Or.inr z)))]
    rfl
theorem cx_votesT1 (hl : l.stackTraces = false) (hN : NB S x pe tp dg go po ch G) (hP : CCh S ch F G) (hH : CH F) (hno : coL F c col = none ∨ ∃ j k, coL F c col = some (j, k) ∧ (F 36 j ≠ 0 ∨ y < nI 1)) : SpT l g mX9_votes 1 6 [vr (some x), vi c, vi col, vi y] S Ea (fun S' => S' = S) := by
  refine SpT.start (own := RX9) [(0, vr (some x)), (1, vi c), (2, vi col), (3, vi y)] (by decide +kernel) rfl rfl (Nat.le_of_ble_eq_true rfl) ?_
  intro J CT
  have C := CT.cx
  cases hch : chN F c with
  | none =>
    refine r_aload_n (pc := 0) C dX9_votes_0 rfl ?_
    refine r_iload_n (pc := 1) C dX9_votes_1 rfl ?_
    refine r_callV (pc := 2) C (cx_findCh hN hP) iX9_findChoice ml_RX9_306 dX9_votes_2 (ci := 10) rfl rfl hN.1.1 rfl (by decide) rfl (by simp [cv, Value.category, va_rf]) (by omega) (by omega) (fun r2 S2 h2 => ?_)
    obtain ⟨rfl, e2⟩ := h2
    subst S2
    dsimp only [Option.toList, List.cons_append, List.nil_append]
    rw [hch, Option.bind_none]
    refine r_astore (pc := 5) C dX9_votes_5 (by decide) rfl ?_
    refine r_aload (pc := 7) C dX9_votes_7 rfl ?_
    refine r_ifnull (pc := 9) (tgt := 20) C dX9_votes_9 (by decide) (fun c9 => ?_) (fun a9 c9 => ?_)
    · exact r_throwW (pc := 20) CT hl xc_a xs_321 dX9_votes_20 dX9_votes_23 dX9_votes_24 dX9_votes_27 dX9_votes_30 (by decide) (by decide) (by omega) (by omega) rfl
    · cases c9
  | some j =>
    obtain ⟨-, hj, co, hco, hC⟩ := hP.at hch
    have hcol := col_ok (col := col) hH hj hch
    refine r_aload_n (pc := 0) C dX9_votes_0 rfl ?_
    refine r_iload_n (pc := 1) C dX9_votes_1 rfl ?_
    refine r_callV (pc := 2) C (cx_findCh hN hP) iX9_findChoice ml_RX9_306 dX9_votes_2 (ci := 10) rfl rfl hN.1.1 rfl (by decide) rfl (by simp [cv, Value.category, va_rf]) (by omega) (by omega) (fun r2 S2 h2 => ?_)
    obtain ⟨rfl, e2⟩ := h2
    subst S2
    dsimp only [Option.toList, List.cons_append, List.nil_append]
    rw [hch, Option.bind_some, hco]
    refine r_astore (pc := 5) C dX9_votes_5 (by decide) rfl ?_
    refine r_aload (pc := 7) C dX9_votes_7 rfl ?_
    refine r_ifnull (pc := 9) (tgt := 20) C dX9_votes_9 (by decide) (fun c9 => ?_) (fun a9 c9 => ?_)
    · cases c9
    · cases c9
      refine r_aload (pc := 12) C dX9_votes_12 rfl ?_
      refine r_getI (pc := 14) C dX9_votes_14 fx_RX9_318 hC.1.1 ?_
      rw [hC.2.1.2.2.2.2.2.2.2.2]
      refine r_if_eq (pc := 17) (tgt := 31) C dX9_votes_17 (by decide) (fun c17 => ?_) (fun c17 => ?_)
      · refine r_aload (pc := 31) C dX9_votes_31 rfl ?_
        refine r_iload_n (pc := 33) C dX9_votes_33 rfl ?_
        refine r_callV (pc := 34) C (cx_hasC hC) iX0_hasColour ml_RX9_310 dX9_votes_34 (ci := 1) rfl rfl hC.1.1 rfl (by decide) rfl (by simp [cv, Value.category, va_rf]) (by omega) (by omega) (fun r34 S34 h34 => ?_)
        obtain ⟨rfl, e34⟩ := h34
        subst S34
        dsimp only [Option.toList, List.cons_append, List.nil_append]
        rw [hcol]
        refine r_if_eq (pc := 37) (tgt := 45) C dX9_votes_37 (by decide) (fun c37 => ?_) (fun c37 => ?_)
        · exact r_throwW (pc := 45) CT hl xc_a xs_323 dX9_votes_45 dX9_votes_48 dX9_votes_49 dX9_votes_52 dX9_votes_55 (by decide) (by decide) (by omega) (by omega) rfl
        · refine r_iload_n (pc := 40) C dX9_votes_40 rfl ?_
          refine r_iconst (pc := 41) C (nI 1) dX9_votes_41 rfl ?_
          refine r_icmp_ge (pc := 42) (tgt := 56) C dX9_votes_42 (by decide) (fun c42 => ?_) (fun c42 => ?_)
          · rcases hno with q | ⟨j2, k2, q1, q2⟩
            · rw [q] at c37; exact absurd rfl c37
            have ej : j2 = j := by have := (coL_some q1 hH).2.2.1; rw [hch] at this; cases this; rfl
            subst ej
            exact absurd c42 (Int32.not_le.mpr (q2.resolve_left (fun z => z c17)))
          · exact r_throwW (pc := 45) CT hl xc_a xs_323 dX9_votes_45 dX9_votes_48 dX9_votes_49 dX9_votes_52 dX9_votes_55 (by decide) (by decide) (by omega) (by omega) rfl
      · exact r_throwW (pc := 20) CT hl xc_a xs_321 dX9_votes_20 dX9_votes_23 dX9_votes_24 dX9_votes_27 dX9_votes_30 (by decide) (by decide) (by omega) (by omega) rfl
end VotesT
