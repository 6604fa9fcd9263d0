/-! The class: findChoice -/
section FindCh
variable {l : Launch} {g : GG} {S S1 S' : hS} {po x pe tp dg go ch n h a k co j : Nat} {F : MM} {G : Nat → Int32} {L : List Nat} {c : Int32}
theorem CCh.at (hP : CCh S ch F G) (hj : chN F c = some j) : c = nI j ∧ j < 8 ∧ ∃ co, aR S 100 ch j = some co ∧ CHO S F G co j := by
  obtain ⟨h1, h2, h3⟩ := chN_some hj
  rcases hP.2.1 j h2 with q | ⟨co, q1, -, q3⟩
  · rw [q.2] at h3; cases h3
  · exact ⟨h1, h2, co, q1, q3⟩
theorem cx_findCh (hN : NB S x pe tp dg go po ch G) (hP : CCh S ch F G) : Sp l g mX9_findChoice 0 0 [vr (some x), vi c] S (fun r S' => r = some (vr ((chN F c).bind (fun j => aR S 100 ch j))) ∧ S' = S) := by
  refine Sp.start (own := RX9) [(0, vr (some x)), (1, vi c)] (by decide +kernel) rfl rfl (Nat.le_of_ble_eq_true rfl) ?_
  intro J C
  by_cases h0 : c < 0 ∨ nI 8 ≤ c
  · have e : chN F c = none := by unfold chN; rw [if_pos h0]
    refine r_iload_n (pc := 0) C dX9_findChoice_0 rfl ?_
    refine r_if_lt (pc := 1) (tgt := 10) C dX9_findChoice_1 (by decide) (fun c1 => ?_) (fun c1 => ?_)
    · refine r_null (pc := 10) C dX9_findChoice_10 ?_
      refine r_goto (pc := 11) (tgt := 20) C dX9_findChoice_11 (by decide) ?_
      refine r_aret (pc := 20) C dX9_findChoice_20 rfl (Or.inl ⟨_, rfl⟩) (by omega) (by omega) ?_
      exact ⟨by rw [e]; rfl, rfl⟩
    · refine r_iload_n (pc := 4) C dX9_findChoice_4 rfl ?_
      refine r_bipush (pc := 5) C (nI 8) dX9_findChoice_5 rfl ?_
      refine r_icmp_lt (pc := 7) (tgt := 14) C dX9_findChoice_7 (by decide) (fun c7 => ?_) (fun c7 => ?_)
      · exact absurd c7 (Int32.not_lt.mpr (h0.resolve_left c1))
      · refine r_null (pc := 10) C dX9_findChoice_10 ?_
        refine r_goto (pc := 11) (tgt := 20) C dX9_findChoice_11 (by decide) ?_
        refine r_aret (pc := 20) C dX9_findChoice_20 rfl (Or.inl ⟨_, rfl⟩) (by omega) (by omega) ?_
        exact ⟨by rw [e]; rfl, rfl⟩
  · rcases pk_ix c (n := 8) (by omega) with h1 | h1 | ⟨j, hj, rfl⟩
    · exact absurd (Or.inl h1) h0
    · exact absurd (Or.inr h1) h0
    have e : (chN F (nI j)).bind (fun j => aR S 100 ch j) = aR S 100 ch j := by
      unfold chN
      rw [if_neg h0, nI_clamp (by omega)]
      rcases hP.2.1 j hj with q | ⟨co, q1, q2, -⟩
      · rw [q.2, if_neg (by decide), q.1]; rfl
      · rw [q2, if_pos rfl]; rfl
    refine r_iload_n (pc := 0) C dX9_findChoice_0 rfl ?_
    refine r_if_lt (pc := 1) (tgt := 10) C dX9_findChoice_1 (by decide) (fun c1 => ?_) (fun c1 => ?_)
    · exact absurd (Or.inl c1) h0
    · refine r_iload_n (pc := 4) C dX9_findChoice_4 rfl ?_
      refine r_bipush (pc := 5) C (nI 8) dX9_findChoice_5 rfl ?_
      refine r_icmp_lt (pc := 7) (tgt := 14) C dX9_findChoice_7 (by decide) (fun c7 => ?_) (fun c7 => ?_)
      · refine r_aload_n (pc := 14) C dX9_findChoice_14 rfl ?_
        refine r_getR (pc := 15) C dX9_findChoice_15 fx_RX9_63 hN.1.1 hN.2.1.2.2.2.2.2 ?_
        refine r_iload_n (pc := 18) C dX9_findChoice_18 rfl ?_
        refine r_aald (pc := 19) C dX9_findChoice_19 hP.1.1 (by decide) hP.1.2 (by first | assumption | exact vp_in_nI (by omega) (by omega)) (by first | exact nI_clamp (by omega) | rfl) ?_
        refine r_aret (pc := 20) C dX9_findChoice_20 rfl (Or.inl ⟨_, rfl⟩) (by omega) (by omega) ?_
        exact ⟨by rw [e], rfl⟩
      · exact absurd (Or.inr (Int32.not_lt.mp c7)) h0
end FindCh
