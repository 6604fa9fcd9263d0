/-! The class: sampled, count -/
section SampledC
variable {l : Launch} {g : GG} {S S1 S' : hS} {po x pe tp dg go ch n h a k p pp : Nat} {T O Pp : Nat → Nat} {M F : MM} {G : Nat → Int32} {X : Int64} {L Ls : List Nat}
theorem cnt_list {f : Nat → Bool} : ∀ (N : Nat) (Q : List Nat), Q.Nodup → (∀ p ∈ Q, p < N) → (∀ p, p < N → (p ∈ Q ↔ f p = true)) → cntU f N = Q.length
  | 0, Q, _, h2, _ => by
    cases Q with
    | nil => rfl
    | cons q Q => exact absurd (h2 q List.mem_cons_self) (by omega)
  | N + 1, Q, h1, h2, h3 => by
    by_cases e : f N = true
    · have hm := (h3 N (by omega)).mpr e
      have h1' : (Q.erase N).Nodup := h1.erase N
      have hme : ∀ p, p ∈ Q.erase N ↔ p ≠ N ∧ p ∈ Q := fun p => h1.mem_erase_iff
      have ih := cnt_list (f := f) N (Q.erase N) h1' (fun p hp => by
        have q := (hme p).mp hp
        have := h2 p q.2
        omega) (fun p hp => by
        rw [hme p, h3 p (by omega)]
        exact ⟨fun q => q.2, fun q => ⟨by omega, q⟩⟩)
      have hl := List.length_erase_of_mem hm
      have hpos := List.length_pos_of_mem hm
      simp only [cntU]
      rw [if_pos e, ih]
      omega
    · have ih := cnt_list (f := f) N Q h1 (fun p hp => by
        have := h2 p hp
        have hne : p ≠ N := fun q => e ((h3 N (by omega)).mp (by rw [← q]; exact hp))
        omega) (fun p hp => h3 p (by omega))
      simp only [cntU]
      rw [if_neg e, ih, Nat.add_zero]
theorem CPl.opn (hP : CPl g S po T F k Ls Pp) : opn (F 25) = Ls.length := by
  unfold _root_.Jvm.Pilot.CSnowNodeLaw_law_r5193_5b532e.opn
  refine cnt_list 6 Ls hP.1.2.1 hP.1.2.2 (fun p hp => ?_)
  rw [hP.1.1 p hp]
  show ¬ F 25 p < 0 ↔ (!decide (F 25 p < nI 0)) = true
  constructor
  · intro q
    rw [decide_eq_false (show ¬ F 25 p < nI 0 from q)]
    rfl
  · intro q c
    rw [decide_eq_true (show F 25 p < nI 0 from c)] at q
    cases q
theorem CPl.len (hP : CPl g S po T F k Ls Pp) : Ls.length ≤ 6 := by
  rw [← hP.opn]
  exact cntU_le
theorem cx_sampledT1 {v j : Int32} (hl : l.stackTraces = false) (hN : NB S x pe tp dg go po ch G) (hP : CPl g S po T F k Ls Pp) (hu : Nu F) (hno : plc (F 25) v = none) : SpT l g mX9_sampled 1 6 [vr (some x), vi v, vi j] S Ei (fun S' => S' = S) := by
  refine SpT.start (own := RX9) [(0, vr (some x)), (1, vi v), (2, vi j)] (by decide +kernel) rfl rfl (Nat.le_of_ble_eq_true rfl) ?_
  intro J CT
  have C := CT.cx
  refine r_aload_n (pc := 0) C dX9_sampled_0 rfl ?_
  refine r_iload_n (pc := 1) C dX9_sampled_1 rfl ?_
  refine r_callV (pc := 2) C (cx_findOpen hN hP hu hP.len) iX9_findOpenPoll ml_RX9_179 dX9_sampled_2 (ci := 10) rfl rfl hN.1.1 rfl (by decide) rfl (by simp [cv, Value.category, va_rf]) (by omega) (by omega) (fun r2 S2 h2 => ?_)
  obtain ⟨rfl, e2⟩ := h2
  subst S2
  dsimp only [Option.toList, List.cons_append, List.nil_append]
  rw [hno, Option.map_none]
  refine r_astore_n (pc := 5) C dX9_sampled_5 (by decide) rfl ?_
  refine r_aload_n (pc := 6) C dX9_sampled_6 rfl ?_
  refine r_ifnonnull (pc := 7) (tgt := 20) C dX9_sampled_7 (by decide) (fun a7 c7 => ?_) (fun c7 => ?_)
  · cases c7
  · exact r_throw (pc := 10) CT hl xc_i xs_185 dX9_sampled_10 dX9_sampled_13 dX9_sampled_14 dX9_sampled_16 dX9_sampled_19 (by decide) (by decide) (by omega) (by omega) rfl
theorem cx_sampledT2 {v j : Int32} (hl : l.stackTraces = false) (hN : NB S x pe tp dg go po ch G) (hP : CPl g S po T F k Ls Pp) (hu : Nu F) (hk : k ≤ 10) (hp : plc (F 25) v = some p) (hj : j ≠ -1) (hj2 : j < 0 ∨ nI k ≤ j) : SpT l g mX9_sampled 1 6 [vr (some x), vi v, vi j] S Ei (fun S' => S' = S) := by
  have hm := (hP.1.1 p (plc_lt hp).1).mpr (by rw [(plc_lt hp).2.1]; exact (plc_lt hp).2.2)
  have hq := hP.2.2.1 p hm
  refine SpT.start (own := RX9) [(0, vr (some x)), (1, vi v), (2, vi j)] (by decide +kernel) rfl rfl (Nat.le_of_ble_eq_true rfl) ?_
  intro J CT
  have C := CT.cx
  refine r_aload_n (pc := 0) C dX9_sampled_0 rfl ?_
  refine r_iload_n (pc := 1) C dX9_sampled_1 rfl ?_
  refine r_callV (pc := 2) C (cx_findOpen hN hP hu hP.len) iX9_findOpenPoll ml_RX9_179 dX9_sampled_2 (ci := 10) rfl rfl hN.1.1 rfl (by decide) rfl (by simp [cv, Value.category, va_rf]) (by omega) (by omega) (fun r2 S2 h2 => ?_)
  obtain ⟨rfl, e2⟩ := h2
  subst S2
  dsimp only [Option.toList, List.cons_append, List.nil_append]
  rw [hp, Option.map_some]
  refine r_astore_n (pc := 5) C dX9_sampled_5 (by decide) rfl ?_
  refine r_aload_n (pc := 6) C dX9_sampled_6 rfl ?_
  refine r_ifnonnull (pc := 7) (tgt := 20) C dX9_sampled_7 (by decide) (fun a7 c7 => ?_) (fun c7 => ?_)
  · cases c7
    refine r_iload_n (pc := 20) C dX9_sampled_20 rfl ?_
    refine r_iconst (pc := 21) C (-1) dX9_sampled_21 rfl ?_
    refine r_icmp_ne (pc := 22) (tgt := 33) C dX9_sampled_22 (by decide) (fun c22 => ?_) (fun c22 => ?_)
    · refine r_iload_n (pc := 33) C dX9_sampled_33 rfl ?_
      refine r_if_lt (pc := 34) (tgt := 46) C dX9_sampled_34 (by decide) (fun c34 => ?_) (fun c34 => ?_)
      · exact r_throw (pc := 46) CT hl xc_i xs_196 dX9_sampled_46 dX9_sampled_49 dX9_sampled_50 dX9_sampled_52 dX9_sampled_55 (by decide) (by decide) (by omega) (by omega) rfl
      · refine r_iload_n (pc := 37) C dX9_sampled_37 rfl ?_
        refine r_aload_n (pc := 38) C dX9_sampled_38 rfl ?_
        refine r_getR (pc := 39) C dX9_sampled_39 fx_RX9_192 hq.1.1 hq.1.2.1 ?_
        refine r_alen (pc := 42) C dX9_sampled_42 hq.1.2.2.2.1.1 (by first | decide | omega) ?_
        rw [hq.1.2.2.2.1.2]
        refine r_icmp_lt (pc := 43) (tgt := 56) C dX9_sampled_43 (by decide) (fun c43 => ?_) (fun c43 => ?_)
        · exact absurd c43 (Int32.not_lt.mpr (hj2.resolve_left c34))
        · exact r_throw (pc := 46) CT hl xc_i xs_196 dX9_sampled_46 dX9_sampled_49 dX9_sampled_50 dX9_sampled_52 dX9_sampled_55 (by decide) (by decide) (by omega) (by omega) rfl
    · exact absurd c22 hj
  · cases c7
theorem cx_sampled {v j : Int32} (hN : NB S x pe tp dg go po ch G) (hC : CGr g S po go T O M G n h a) (hP : CPl g S po T F k Ls Pp) (hu : Nu F) (hk : k ≤ 10) (hp : plc (F 25) v = some p) (hb : ∀ t, t < 140 → F 26 p = nI t → t < n) (hn : n ≤ 140) (hj : j = -1 ∨ ¬ (j < 0 ∨ nI k ≤ j)) : Sp l g mX9_sampled 0 0 [vr (some x), vi v, vi j] S (fun r S' => r = some (vi (sdR M F k v j).2) ∧ S' = S) := by
  have hm := (hP.1.1 p (plc_lt hp).1).mpr (by rw [(plc_lt hp).2.1]; exact (plc_lt hp).2.2)
  have hq := hP.2.2.1 p hm
  obtain ⟨t, ht0, ht1, ht2⟩ := hq.2.2.1
  have ht := hb t ht0 ht2
  refine Sp.start (own := RX9) [(0, vr (some x)), (1, vi v), (2, vi j)] (by decide +kernel) rfl rfl (Nat.le_of_ble_eq_true rfl) ?_
  intro J C
  refine r_aload_n (pc := 0) C dX9_sampled_0 rfl ?_
  refine r_iload_n (pc := 1) C dX9_sampled_1 rfl ?_
  refine r_callV (pc := 2) C (cx_findOpen hN hP hu hP.len) iX9_findOpenPoll ml_RX9_179 dX9_sampled_2 (ci := 10) rfl rfl hN.1.1 rfl (by decide) rfl (by simp [cv, Value.category, va_rf]) (by omega) (by omega) (fun r2 S2 h2 => ?_)
  obtain ⟨rfl, e2⟩ := h2
  subst S2
  dsimp only [Option.toList, List.cons_append, List.nil_append]
  rw [hp, Option.map_some]
  refine r_astore_n (pc := 5) C dX9_sampled_5 (by decide) rfl ?_
  refine r_aload_n (pc := 6) C dX9_sampled_6 rfl ?_
  refine r_ifnonnull (pc := 7) (tgt := 20) C dX9_sampled_7 (by decide) (fun a7 c7 => ?_) (fun c7 => ?_)
  · cases c7
    refine r_iload_n (pc := 20) C dX9_sampled_20 rfl ?_
    refine r_iconst (pc := 21) C (-1) dX9_sampled_21 rfl ?_
    refine r_icmp_ne (pc := 22) (tgt := 33) C dX9_sampled_22 (by decide) (fun c22 => ?_) (fun c22 => ?_)
    · refine r_iload_n (pc := 33) C dX9_sampled_33 rfl ?_
      refine r_if_lt (pc := 34) (tgt := 46) C dX9_sampled_34 (by decide) (fun c34 => ?_) (fun c34 => ?_)
      · exact absurd (Or.inl c34) (hj.resolve_left c22)
      · refine r_iload_n (pc := 37) C dX9_sampled_37 rfl ?_
        refine r_aload_n (pc := 38) C dX9_sampled_38 rfl ?_
        refine r_getR (pc := 39) C dX9_sampled_39 fx_RX9_192 hq.1.1 hq.1.2.1 ?_
        refine r_alen (pc := 42) C dX9_sampled_42 hq.1.2.2.2.1.1 (by first | decide | omega) ?_
        rw [hq.1.2.2.2.1.2]
        refine r_icmp_lt (pc := 43) (tgt := 56) C dX9_sampled_43 (by decide) (fun c43 => ?_) (fun c43 => ?_)
        · obtain ⟨i, hi, rfl⟩ : ∃ i, i < k ∧ j = nI i := by
            rcases pk_ix j (n := k) (by omega) with q | q | q
            · exact absurd q c34
            · exact absurd c43 (Int32.not_lt.mpr q)
            · exact q
          refine r_aload_n (pc := 56) C dX9_sampled_56 rfl ?_
          refine r_getR (pc := 57) C dX9_sampled_57 fx_RX9_192 hq.1.1 hq.1.2.1 ?_
          refine r_iload_n (pc := 60) C dX9_sampled_60 rfl ?_
          refine r_iald (pc := 61) C dX9_sampled_61 hq.1.2.2.2.1.1 (by decide) hq.1.2.2.2.1.2 (by first | assumption | exact vp_in_nI (by omega) (by omega)) (by first | exact nI_clamp (by omega) | rfl) ?_
          refine r_iret (pc := 62) C dX9_sampled_62 rfl (by omega) (by omega) ?_
          refine ⟨?_, rfl⟩
          simp only [sdR, hp]
          rw [if_neg c22, if_neg (hj.resolve_left c22), nI_clamp (by omega)]
          show some (vi (aI S 39 (rA S 602 (Pp p)) i)) = _
          rw [hq.2.2.2.1 i hi]
        · exact absurd (Or.inr (Int32.not_lt.mp c43)) (hj.resolve_left c22)
    · refine r_aload_n (pc := 25) C dX9_sampled_25 rfl ?_
      refine r_getR (pc := 26) C dX9_sampled_26 fx_RX9_188 hq.1.1 ht1 ?_
      refine r_getI (pc := 29) C dX9_sampled_29 fx_RX9_109 (hC.1.pG.tk ht) ?_
      rw [(hC.1.pG.t ht).1.2]
      refine r_iret (pc := 32) C dX9_sampled_32 rfl (by omega) (by omega) ?_
      refine ⟨?_, rfl⟩
      simp only [sdR, hp]
      rw [if_pos c22, ht2, nI_clamp (by omega)]
  · cases c7
theorem cx_count {w : Int32} (hN : NB S x pe tp dg go po ch G) (hT : CTp S tp F G) (hC : CGr g S po go T O M G n h a) (hP : CPl g S po T F k Ls Pp) (hPI : PI M n h a) (ha : a ≤ 140) : Sp l g mX9_count 0 0 [vr (some x), vi w] S (fun r S' => r = some (vi (cnR M F G n h a w)) ∧ S' = S) := by
  have hI := hPI.1
  have hG := hI.1
  have hC1 := hC.1
  have hn := hG.1
  have hh := hG.2.1
  obtain ⟨ba, tl, hTP, t1, t2, t3, -⟩ := hT
  refine Sp.start (own := RX9) [(0, vr (some x)), (1, vi w)] (by decide +kernel) rfl rfl (Nat.le_of_ble_eq_true rfl) ?_
  intro J C
  by_cases h0 : w < 0 ∨ nI 11 ≤ w
  · refine r_iload_n (pc := 0) C dX9_count_0 rfl ?_
    refine r_swOut (pc := 1) C dX9_count_1 (tgt := 154) (sw_out (k := 10) (by omega) h0) (by decide) ?_
    refine r_iconst (pc := 154) C (-1) dX9_count_154 rfl ?_
    refine r_iret (pc := 155) C dX9_count_155 rfl (by omega) (by omega) ?_
    exact ⟨by unfold cnR; rw [if_pos h0], rfl⟩
  · rcases pk_ix w (n := 11) (by omega) with h1 | h1 | ⟨j, hj, rfl⟩
    · exact absurd (Or.inl h1) h0
    · exact absurd (Or.inr h1) h0
    have hR : cnR M F G n h a (nI j) = cnV M F G n h a j := by unfold cnR; rw [if_neg h0, nI_clamp (by omega)]
    rw [hR] at C
    have hj11 : j = 0 ∨ j = 1 ∨ j = 2 ∨ j = 3 ∨ j = 4 ∨ j = 5 ∨ j = 6 ∨ j = 7 ∨ j = 8 ∨ j = 9 ∨ j = 10 := by omega
    rcases hj11 with rfl | rfl | rfl | rfl | rfl | rfl | rfl | rfl | rfl | rfl | rfl
    · refine r_iload_n (pc := 0) C dX9_count_0 rfl ?_
      refine r_swIn (pc := 1) C dX9_count_1 (tgt := 60) (by decide) (by decide) (off := 59) rfl (by decide) ?_
      refine r_aload_n (pc := 60) C dX9_count_60 rfl ?_
      refine r_getR (pc := 61) C dX9_count_61 fx_RX9_50 hN.1.1 hN.2.1.2.2.2.1 ?_
      refine r_getR (pc := 64) C dX9_count_64 fx_RX9_340 hC1.pG.gk hC1.pG.1.2.1 ?_
      refine r_callV (pc := 67) C (ct_size hC1.pL.l0) iJx4a65c_size_8abf5 ml_RX9_152 dX9_count_67 (ci := 0) rfl rfl hC1.pL.l0.k rfl (by decide) rfl (by simp [cv, Value.category, va_rf]) (by omega) (by omega) (fun r67 S67 h67 => ?_)
      obtain ⟨rfl, e67⟩ := h67
      subst S67
      dsimp only [Option.toList, List.cons_append, List.nil_append]
      refine r_iret (pc := 70) C dX9_count_70 rfl (by omega) (by omega) ?_
      exact ⟨rfl, rfl⟩
    · refine r_iload_n (pc := 0) C dX9_count_0 rfl ?_
      refine r_swIn (pc := 1) C dX9_count_1 (tgt := 71) (by decide) (by decide) (off := 70) rfl (by decide) ?_
      refine r_aload_n (pc := 71) C dX9_count_71 rfl ?_
      refine r_getR (pc := 72) C dX9_count_72 fx_RX9_50 hN.1.1 hN.2.1.2.2.2.1 ?_
      refine r_iconst (pc := 75) C (nI 1) dX9_count_75 rfl ?_
      refine r_callV (pc := 76) C (cg_countStatus hC1.pG hC1.pL.l0 hC1.pT hn) iX2_countStatus ml_RX9_343 dX9_count_76 (ci := 3) rfl rfl hC1.pG.gk rfl (by decide) rfl (by simp [cv, Value.category, va_rf]) (by omega) (by omega) (fun r76 S76 h76 => ?_)
      obtain ⟨rfl, e76⟩ := h76
      subst S76
      dsimp only [Option.toList, List.cons_append, List.nil_append]
      refine r_iret (pc := 79) C dX9_count_79 rfl (by omega) (by omega) ?_
      exact ⟨rfl, rfl⟩
    · refine r_iload_n (pc := 0) C dX9_count_0 rfl ?_
      refine r_swIn (pc := 1) C dX9_count_1 (tgt := 80) (by decide) (by decide) (off := 79) rfl (by decide) ?_
      refine r_aload_n (pc := 80) C dX9_count_80 rfl ?_
      refine r_getR (pc := 81) C dX9_count_81 fx_RX9_50 hN.1.1 hN.2.1.2.2.2.1 ?_
      refine r_getR (pc := 84) C dX9_count_84 fx_RX9_346 hC1.pG.gk hC1.pG.1.2.2.1 ?_
      refine r_callV (pc := 87) C (ct_size hC1.pL.l1) iJx4a65c_size_8abf5 ml_RX9_152 dX9_count_87 (ci := 0) rfl rfl hC1.pL.l1.k rfl (by decide) rfl (by simp [cv, Value.category, va_rf]) (by omega) (by omega) (fun r87 S87 h87 => ?_)
      obtain ⟨rfl, e87⟩ := h87
      subst S87
      dsimp only [Option.toList, List.cons_append, List.nil_append]
      refine r_iret (pc := 90) C dX9_count_90 rfl (by omega) (by omega) ?_
      exact ⟨rfl, rfl⟩
    · refine r_iload_n (pc := 0) C dX9_count_0 rfl ?_
      refine r_swIn (pc := 1) C dX9_count_1 (tgt := 91) (by decide) (by decide) (off := 90) rfl (by decide) ?_
      refine r_aload_n (pc := 91) C dX9_count_91 rfl ?_
      refine r_getR (pc := 92) C dX9_count_92 fx_RX9_50 hN.1.1 hN.2.1.2.2.2.1 ?_
      refine r_getR (pc := 95) C dX9_count_95 fx_RX9_349 hC1.pG.gk hC1.pG.1.2.2.2.1 ?_
      refine r_callV (pc := 98) C (ct_size hC1.pL.l2) iJx4a65c_size_8abf5 ml_RX9_152 dX9_count_98 (ci := 0) rfl rfl hC1.pL.l2.k rfl (by decide) rfl (by simp [cv, Value.category, va_rf]) (by omega) (by omega) (fun r98 S98 h98 => ?_)
      obtain ⟨rfl, e98⟩ := h98
      subst S98
      dsimp only [Option.toList, List.cons_append, List.nil_append]
      refine r_iret (pc := 101) C dX9_count_101 rfl (by omega) (by omega) ?_
      exact ⟨rfl, rfl⟩
    · refine r_iload_n (pc := 0) C dX9_count_0 rfl ?_
      refine r_swIn (pc := 1) C dX9_count_1 (tgt := 102) (by decide) (by decide) (off := 101) rfl (by decide) ?_
      refine r_aload_n (pc := 102) C dX9_count_102 rfl ?_
      refine r_getR (pc := 103) C dX9_count_103 fx_RX9_50 hN.1.1 hN.2.1.2.2.2.1 ?_
      refine r_iconst (pc := 106) C (nI 4) dX9_count_106 rfl ?_
      refine r_callV (pc := 107) C (cg_countStatus hC1.pG hC1.pL.l0 hC1.pT hn) iX2_countStatus ml_RX9_343 dX9_count_107 (ci := 3) rfl rfl hC1.pG.gk rfl (by decide) rfl (by simp [cv, Value.category, va_rf]) (by omega) (by omega) (fun r107 S107 h107 => ?_)
      obtain ⟨rfl, e107⟩ := h107
      subst S107
      dsimp only [Option.toList, List.cons_append, List.nil_append]
      refine r_iret (pc := 110) C dX9_count_110 rfl (by omega) (by omega) ?_
      exact ⟨rfl, rfl⟩
    · refine r_iload_n (pc := 0) C dX9_count_0 rfl ?_
      refine r_swIn (pc := 1) C dX9_count_1 (tgt := 111) (by decide) (by decide) (off := 110) rfl (by decide) ?_
      refine r_aload_n (pc := 111) C dX9_count_111 rfl ?_
      refine r_getR (pc := 112) C dX9_count_112 fx_RX9_50 hN.1.1 hN.2.1.2.2.2.1 ?_
      refine r_iconst (pc := 115) C (nI 5) dX9_count_115 rfl ?_
      refine r_callV (pc := 116) C (cg_countStatus hC1.pG hC1.pL.l0 hC1.pT hn) iX2_countStatus ml_RX9_343 dX9_count_116 (ci := 3) rfl rfl hC1.pG.gk rfl (by decide) rfl (by simp [cv, Value.category, va_rf]) (by omega) (by omega) (fun r116 S116 h116 => ?_)
      obtain ⟨rfl, e116⟩ := h116
      subst S116
      dsimp only [Option.toList, List.cons_append, List.nil_append]
      refine r_iret (pc := 119) C dX9_count_119 rfl (by omega) (by omega) ?_
      exact ⟨rfl, rfl⟩
    · refine r_iload_n (pc := 0) C dX9_count_0 rfl ?_
      refine r_swIn (pc := 1) C dX9_count_1 (tgt := 120) (by decide) (by decide) (off := 119) rfl (by decide) ?_
      refine r_aload_n (pc := 120) C dX9_count_120 rfl ?_
      refine r_getR (pc := 121) C dX9_count_121 fx_RX9_57 hN.1.1 hN.2.1.2.2.2.2.1 ?_
      refine r_callV (pc := 124) C (ct_size hP.2.1) iJx4a65c_size_8abf5 ml_RX9_152 dX9_count_124 (ci := 0) rfl rfl hP.2.1.k rfl (by decide) rfl (by simp [cv, Value.category, va_rf]) (by omega) (by omega) (fun r124 S124 h124 => ?_)
      obtain ⟨rfl, e124⟩ := h124
      subst S124
      dsimp only [Option.toList, List.cons_append, List.nil_append]
      refine r_iret (pc := 127) C dX9_count_127 rfl (by omega) (by omega) ?_
      exact ⟨by rw [← hP.opn]; rfl, rfl⟩
    · refine r_iload_n (pc := 0) C dX9_count_0 rfl ?_
      refine r_swIn (pc := 1) C dX9_count_1 (tgt := 128) (by decide) (by decide) (off := 127) rfl (by decide) ?_
      refine r_aload_n (pc := 128) C dX9_count_128 rfl ?_
      refine r_getI (pc := 129) C dX9_count_129 fx_RX9_67 hN.1.1 ?_
      rw [hN.2.2.1]
      refine r_iret (pc := 132) C dX9_count_132 rfl (by omega) (by omega) ?_
      exact ⟨rfl, rfl⟩
    · refine r_iload_n (pc := 0) C dX9_count_0 rfl ?_
      refine r_swIn (pc := 1) C dX9_count_1 (tgt := 133) (by decide) (by decide) (off := 132) rfl (by decide) ?_
      refine r_aload_n (pc := 133) C dX9_count_133 rfl ?_
      refine r_getI (pc := 134) C dX9_count_134 fx_RX9_70 hN.1.1 ?_
      rw [hN.2.2.2]
      refine r_iret (pc := 137) C dX9_count_137 rfl (by omega) (by omega) ?_
      exact ⟨rfl, rfl⟩
    · refine r_iload_n (pc := 0) C dX9_count_0 rfl ?_
      refine r_swIn (pc := 1) C dX9_count_1 (tgt := 138) (by decide) (by decide) (off := 137) rfl (by decide) ?_
      refine r_aload_n (pc := 138) C dX9_count_138 rfl ?_
      refine r_getR (pc := 139) C dX9_count_139 fx_RX9_34 hN.1.1 hN.2.1.2.1 ?_
      refine r_getI (pc := 142) C dX9_count_142 fx_RX9_81 hTP.1 ?_
      rw [t1, ← t3]
      refine r_iret (pc := 145) C dX9_count_145 rfl (by omega) (by omega) ?_
      exact ⟨rfl, rfl⟩
    · refine r_iload_n (pc := 0) C dX9_count_0 rfl ?_
      refine r_swIn (pc := 1) C dX9_count_1 (tgt := 146) (by decide) (by decide) (off := 145) rfl (by decide) ?_
      refine r_aload_n (pc := 146) C dX9_count_146 rfl ?_
      refine r_getR (pc := 147) C dX9_count_147 fx_RX9_50 hN.1.1 hN.2.1.2.2.2.1 ?_
      refine r_callV (pc := 150) C (cg_unspA hC1.pG hG hC1.pT hC1.pO hC1.pL.l2 ha hI.2.2.2.2.2.1) iX2_allUnspent ml_RX9_351 dX9_count_150 (ci := 3) rfl rfl hC1.pG.gk rfl (by decide) rfl (by simp [cv, Value.category, va_rf]) (by omega) (by omega) (fun r150 S150 h150 => ?_)
      obtain ⟨rfl, e150⟩ := h150
      subst S150
      dsimp only [Option.toList, List.cons_append, List.nil_append]
      refine r_iret (pc := 153) C dX9_count_153 rfl (by omega) (by omega) ?_
      exact ⟨rfl, rfl⟩
end SampledC
