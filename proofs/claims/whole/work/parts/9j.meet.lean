/-! The class: hasColour; meet, refused -/
section MeetT
variable {l : Launch} {g : GG} {S S1 S' : hS} {po x pe tp dg go ch n h a k co j : Nat} {F : MM} {G : Nat → Int32} {L : List Nat} {c col : Int32}
theorem cx_hasC (hC : CHO S F G co j) : Sp l g mX0_hasColour 0 0 [vr (some co), vi col] S (fun r S' => r = some (vi (bi (!dlt col 0 && dlt col (F 33 j)))) ∧ S' = S) := by
  have q := cl_hasCol (l := l) (g := g) (G := fun k => sI S (100 + k) co) (V := aI S 41 (rA S 101 co)) (W := aI S 44 (rA S 102 co)) (c := col) hC.1
  rw [cp_id] at q
  refine q.mono ?_
  rintro r S' ⟨rfl, rfl⟩
  refine ⟨?_, rfl⟩
  unfold hcB
  rw [show (fun k => sI S' (100 + k) co) 4 = F 33 j from hC.2.1.2.2.1]
theorem cx_meetT (hl : l.stackTraces = false) (hN : NB S x pe tp dg go po ch G) (hP : CCh S ch F G) (hH : CH F) (hno : coL F c col = none) : SpT l g mX9_meet 1 6 [vr (some x), vi c, vi col] S Ea (fun S' => S' = S) := by
  refine SpT.start (own := RX9) [(0, vr (some x)), (1, vi c), (2, vi col)] (by decide +kernel) rfl rfl (Nat.le_of_ble_eq_true rfl) ?_
  intro J CT
  have C := CT.cx
  cases hch : chN F c with
  | none =>
    refine r_aload_n (pc := 0) C dX9_meet_0 rfl ?_
    refine r_iload_n (pc := 1) C dX9_meet_1 rfl ?_
    refine r_callV (pc := 2) C (cx_findCh hN hP) iX9_findChoice ml_RX9_306 dX9_meet_2 (ci := 10) rfl rfl hN.1.1 rfl (by decide) rfl (by simp [cv, Value.category, va_rf]) (by omega) (by omega) (fun r2 S2 h2 => ?_)
    obtain ⟨rfl, e2⟩ := h2
    subst S2
    dsimp only [Option.toList, List.cons_append, List.nil_append]
    rw [hch, Option.bind_none]
    refine r_astore_n (pc := 5) C dX9_meet_5 (by decide) rfl ?_
    refine r_aload_n (pc := 6) C dX9_meet_6 rfl ?_
    refine r_ifnull (pc := 7) (tgt := 18) C dX9_meet_7 (by decide) (fun c7 => ?_) (fun a7 c7 => ?_)
    · exact r_throwW (pc := 18) CT hl xc_a xs_313 dX9_meet_18 dX9_meet_21 dX9_meet_22 dX9_meet_25 dX9_meet_28 (by decide) (by decide) (by omega) (by omega) rfl
    · cases c7
  | some j =>
    obtain ⟨-, hj, co, hco, hC⟩ := hP.at hch
    have hf : (!dlt col 0 && dlt col (F 33 j)) = false := by
      unfold coL at hno
      rw [hch] at hno
      rw [(hH j hj).1.1]
      have hno2 : (if col < 0 ∨ nI (coN F j) ≤ col then none else some (j, col.toNatClampNeg)) = none := hno
      split at hno2
      · next q =>
        rcases q with q | q
        · rw [show dlt col 0 = true from decide_eq_true q]; rfl
        · rw [show dlt col (nI (coN F j)) = false from decide_eq_false (Int32.not_lt.mpr q), Bool.and_false]
      · cases hno2
    refine r_aload_n (pc := 0) C dX9_meet_0 rfl ?_
    refine r_iload_n (pc := 1) C dX9_meet_1 rfl ?_
    refine r_callV (pc := 2) C (cx_findCh hN hP) iX9_findChoice ml_RX9_306 dX9_meet_2 (ci := 10) rfl rfl hN.1.1 rfl (by decide) rfl (by simp [cv, Value.category, va_rf]) (by omega) (by omega) (fun r2 S2 h2 => ?_)
    obtain ⟨rfl, e2⟩ := h2
    subst S2
    dsimp only [Option.toList, List.cons_append, List.nil_append]
    rw [hch, Option.bind_some, hco]
    refine r_astore_n (pc := 5) C dX9_meet_5 (by decide) rfl ?_
    refine r_aload_n (pc := 6) C dX9_meet_6 rfl ?_
    refine r_ifnull (pc := 7) (tgt := 18) C dX9_meet_7 (by decide) (fun c7 => ?_) (fun a7 c7 => ?_)
    · cases c7
    · cases c7
      refine r_aload_n (pc := 10) C dX9_meet_10 rfl ?_
      refine r_iload_n (pc := 11) C dX9_meet_11 rfl ?_
      refine r_callV (pc := 12) C (cx_hasC hC) iX0_hasColour ml_RX9_310 dX9_meet_12 (ci := 1) rfl rfl hC.1.1 rfl (by decide) rfl (by simp [cv, Value.category, va_rf]) (by omega) (by omega) (fun r12 S12 h12 => ?_)
      obtain ⟨rfl, e12⟩ := h12
      subst S12
      dsimp only [Option.toList, List.cons_append, List.nil_append]
      rw [hf]
      refine r_if_ne (pc := 15) (tgt := 29) C dX9_meet_15 (by decide) (fun c15 => ?_) (fun c15 => ?_)
      · exact absurd rfl c15
      · exact r_throwW (pc := 18) CT hl xc_a xs_313 dX9_meet_18 dX9_meet_21 dX9_meet_22 dX9_meet_25 dX9_meet_28 (by decide) (by decide) (by omega) (by omega) rfl
end MeetT
