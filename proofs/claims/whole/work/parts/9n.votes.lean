/-! The class: one choice changed; meet, votes -/
def sv (v : Nat → Nat) : Nat → Nat
  | 0 => 0
  | m + 1 => sv v m + v m
/-- the votes of a choice: none below zero, all together at most k, none for a colour that it has not -/
def VI (F : MM) (k : Nat) : Prop := ∀ j, j < 8 → ∃ v : Nat → Nat, (∀ c, c < 8 → F 38 (8 * j + c) = nI (v c)) ∧ sv v 8 ≤ k ∧ ∀ c, coN F j ≤ c → c < 8 → v c = 0
section ChoicePut
variable {l : Launch} {g : GG} {S S1 S' : hS} {po x pe tp dg go ch n h a k co j : Nat} {F F' : MM} {G : Nat → Int32} {L : List Nat} {c col y : Int32} {A V W : Nat → Int32}
theorem cf_cput {va wa : Nat} : Cf po [6] S (cput S co va wa A V W) := by
  intro y _
  refine ⟨rfl, rfl, fun f hf => ⟨?_, rfl⟩, fun f _ => rfl, fun r hr => ⟨?_, rfl, rfl⟩⟩
  · show (if (100 ≤ f ∧ f < 200) ∧ y = co then A (f - 100) else sI S f y) = _
    rw [if_neg (fun q => hf (by rw [kf_6 q.1.1 q.1.2]; decide))]
  · show (if r = 41 ∧ y = va then V else if r = 44 ∧ y = wa then W else aI S r y) = aI S r y
    rw [if_neg (fun q => hr (by rw [q.1]; decide)), if_neg (fun q => hr (by rw [q.1]; decide))]
theorem vts_congr {f f' : Nat → Int32} {j : Nat} : ∀ m, (∀ c, c < m → f' (8 * j + c) = f (8 * j + c)) → vts f' j m = vts f j m
  | 0, _ => rfl
  | m + 1, q => by
    show vts f' j m + f' (8 * j + m) = vts f j m + f (8 * j + m)
    rw [vts_congr m (fun c hc => q c (by omega)), q m (by omega)]
theorem vts_upd {f : Nat → Int32} {j k : Nat} {y : Int32} : ∀ m, k < m → vts (upd f (8 * j + k) (f (8 * j + k) + y)) j m = vts f j m + y
  | 0, q => absurd q (by omega)
  | m + 1, q => by
    show vts (upd f (8 * j + k) (f (8 * j + k) + y)) j m + upd f (8 * j + k) (f (8 * j + k) + y) (8 * j + m) = vts f j m + f (8 * j + m) + y
    by_cases e : m = k
    · subst e
      rw [pk_us, vts_congr m (fun c hc => pk_un (by omega)), Int32.add_assoc]
    · rw [pk_un (by omega), vts_upd m (by omega), Int32.add_assoc, Int32.add_assoc, Int32.add_comm y]
theorem um_at {F : MM} {k k' i j : Nat} {v : Int32} (h : i ≠ j) : um F k j v k' i = F k' i := by
  by_cases e : k' = k
  · subst e; exact um_sn h
  · rw [um_n e]
theorem set_cp {va wa : Nat} {k : Nat} {v : Int32} (hk : k < 100) : setI S (100 + k) co v = cput S co va wa (upd (fun k => sI S (100 + k) co) k v) (aI S 41 va) (aI S 44 wa) := by
  rw [← cp_s hk, cp_id]
theorem cp_o {va wa f y : Nat} (hy : y ≠ co) : sI (cput S co va wa A V W) f y = sI S f y := by
  show (if (100 ≤ f ∧ f < 200) ∧ y = co then A (f - 100) else sI S f y) = _
  rw [if_neg (fun q => hy q.2)]
theorem cp_ov {va wa y : Nat} (hy : y ≠ va) : aI (cput S co va wa A V W) 41 y = aI S 41 y := by
  show (if 41 = 41 ∧ y = va then V else if 41 = 44 ∧ y = wa then W else aI S 41 y) = _
  rw [if_neg (fun q => hy q.2), if_neg (by omega)]
theorem cp_ow {va wa y : Nat} (hy : y ≠ wa) : aI (cput S co va wa A V W) 44 y = aI S 44 y := by
  show (if 44 = 41 ∧ y = va then V else if 44 = 44 ∧ y = wa then W else aI S 44 y) = _
  rw [if_neg (by omega), if_neg (fun q => hy q.2)]
/-- the choices but one -/
def CCx (S : hS) (ch : Nat) (F : MM) (G : Nat → Int32) (j : Nat) : Prop := (sK S ch = 100 ∧ sN S ch = 8) ∧ (∀ i, i < 8 → i ≠ j → (aR S 100 ch i = none ∧ dlt (nI 0) (F 33 i) = false) ∨ ∃ co, aR S 100 ch i = some co ∧ dlt (nI 0) (F 33 i) = true ∧ CHO S F G co i) ∧ ∀ i j co co', i < 8 → j < 8 → aR S 100 ch i = some co → aR S 100 ch j = some co' → co = co' ∨ rA S 101 co = rA S 101 co' ∨ rA S 102 co = rA S 102 co' → i = j
theorem CCh.ex (hP : CCh S ch F G) : CCx S ch F G j := ⟨hP.1, fun i hi _ => hP.2.1 i hi, hP.2.2⟩
theorem CCx.put (hP : CCx S ch F G j) (hj : j < 8) (hco : aR S 100 ch j = some co) (hC : CO S co (rA S 101 co) (rA S 102 co)) (h1 : ∀ i, i < 8 → i ≠ j → ∀ k, 32 ≤ k → k ≤ 37 → F' k i = F k i) (h8 : ∀ i, i < 8 → i ≠ j → ∀ c, c < 8 → F' 38 (8 * i + c) = F 38 (8 * i + c) ∧ F' 39 (8 * i + c) = F 39 (8 * i + c)) (hp : dlt (nI 0) (F' 33 j) = true) (hA : A 0 = G 3 ∧ A 3 = F' 32 j ∧ A 4 = F' 33 j ∧ A 5 = (if F' 32 j = nI 1 then G 4 else G 5) ∧ A 6 = F' 34 j ∧ A 7 = F' 37 j ∧ A 8 = F' 35 j ∧ A 9 = vts (F' 38) j 8 ∧ A 10 = F' 36 j) (hV : ∀ c, c < 8 → V c = F' 38 (8 * j + c)) (hW : ∀ c, c < 8 → W c = F' 39 (8 * j + c)) : CCh (cput S co (rA S 101 co) (rA S 102 co) A V W) ch F' G := by
  obtain ⟨p1, p2, p3⟩ := hP
  refine ⟨p1, fun i hi => ?_, p3⟩
  by_cases e : i = j
  · subst e
    refine Or.inr ⟨co, hco, hp, hC, ?_, fun c hc => ?_, fun c hc => ?_⟩
    · rw [cg_0, cg_3, cg_4, cg_5, cg_6, cg_7, cg_8, cg_9, cg_10]; exact hA
    · show aI (cput S co (rA S 101 co) (rA S 102 co) A V W) 41 (rA S 101 co) c = _
      rw [cp_v]; exact hV c hc
    · show aI (cput S co (rA S 101 co) (rA S 102 co) A V W) 44 (rA S 102 co) c = _
      rw [cp_w]; exact hW c hc
  · have hF := h1 i hi e
    rcases p2 i hi e with q | ⟨co', q1, q2, q3, ⟨b0, b1, b2, b3, b4, b5, b6, b7, b8⟩, c1, c2⟩
    · exact Or.inl ⟨q.1, by rw [hF 33 (by omega) (by omega)]; exact q.2⟩
    · have n1 : co' ≠ co := fun z => e (p3 i j co' co hi hj q1 hco (Or.inl z))
      have n2 : rA S 101 co' ≠ rA S 101 co := fun z => e (p3 i j co' co hi hj q1 hco (Or.inr (Or.inl z)))
      have n3 : rA S 102 co' ≠ rA S 102 co := fun z => e (p3 i j co' co hi hj q1 hco (Or.inr (Or.inr z)))
      refine Or.inr ⟨co', q1, by rw [hF 33 (by omega) (by omega)]; exact q2, q3, ?_, fun c hc => ?_, fun c hc => ?_⟩
      · rw [cp_o n1, cp_o n1, cp_o n1, cp_o n1, cp_o n1, cp_o n1, cp_o n1, cp_o n1, cp_o n1, hF 32 (by omega) (by omega), hF 33 (by omega) (by omega), hF 34 (by omega) (by omega), hF 35 (by omega) (by omega), hF 36 (by omega) (by omega), hF 37 (by omega) (by omega), vts_congr (f := F 38) (f' := F' 38) 8 (fun c hc => (h8 i hi e c hc).1)]
        exact ⟨b0, b1, b2, b3, b4, b5, b6, b7, b8⟩
      · show aI (cput S co (rA S 101 co) (rA S 102 co) A V W) 41 (rA S 101 co') c = _
        rw [cp_ov n2, (h8 i hi e c hc).1]; exact c1 c hc
      · show aI (cput S co (rA S 101 co) (rA S 102 co) A V W) 44 (rA S 102 co') c = _
        rw [cp_ow n3, (h8 i hi e c hc).2]; exact c2 c hc
theorem neg_m1 (hH : CH F) (hj : j < 8) : F 34 j < 0 ↔ F 34 j = -1 := by
  obtain ⟨h1, h2⟩ := (hH j hj).2
  rw [h1]
  constructor
  · intro q
    cases e : clO F j with
    | none => rfl
    | some u => rw [e] at q; exact absurd q (nI_pos (by have := h2 u e; omega))
  · intro q; rw [q]; decide
theorem cx_meet (hN : NB S x pe tp dg go po ch G) (hP : CCh S ch F G) (hH : CH F) (hco : coL F c col = some (j, k)) : Sp l g mX9_meet 0 0 [vr (some x), vi c, vi col] S (fun r S' => r = some (vi (if F 34 j < 0 then nI k else F 34 j)) ∧ CCh S' ch (um F 34 j (if F 34 j < 0 then nI k else F 34 j)) G ∧ Cf po [6] S S') := by
  obtain ⟨-, hj8, hch, ecol, hk⟩ := coL_some hco hH
  obtain ⟨-, hj, co, hc2, hC⟩ := hP.at hch
  obtain ⟨b0, b1, b2, b3, b4, b5, b6, b7, b8⟩ := hC.2.1
  have hcol := col_ok (col := col) hH hj hch
  rw [hco] at hcol
  have hpos : dlt (nI 0) (F 33 j) = true := (chN_some hch).2.2
  have fr : ∀ v, CCh (setI S 106 co v) ch (um F 34 j v) G := fun v => by
    rw [show setI S 106 co v = _ from set_cp (va := rA S 101 co) (wa := rA S 102 co) (k := 6) (by omega)]
    exact hP.ex.put hj hc2 hC.1 (fun i _ hne k _ _ => um_at hne) (fun i _ hne c hc => ⟨by rw [um_n (by decide)], by rw [um_n (by decide)]⟩) (by rw [um_n (by decide)]; exact hpos) ⟨b0, b1, b2, b3, by rw [um_s]; rfl, b5, b6, b7, b8⟩ hC.2.2.1 hC.2.2.2
  refine Sp.start (own := RX9) [(0, vr (some x)), (1, vi c), (2, vi col)] (by decide +kernel) rfl rfl (Nat.le_of_ble_eq_true rfl) ?_
  intro J C
  refine r_aload_n (pc := 0) C dX9_meet_0 rfl ?_
  refine r_iload_n (pc := 1) C dX9_meet_1 rfl ?_
  refine r_callV (pc := 2) C (cx_findCh hN hP) iX9_findChoice ml_RX9_306 dX9_meet_2 (ci := 10) rfl rfl hN.1.1 rfl (by decide) rfl (by simp [cv, Value.category, va_rf]) (by omega) (by omega) (fun r2 S2 h2 => ?_)
  obtain ⟨rfl, e2⟩ := h2
  subst S2
  dsimp only [Option.toList, List.cons_append, List.nil_append]
  rw [hch, Option.bind_some, hc2]
  refine r_astore_n (pc := 5) C dX9_meet_5 (by decide) rfl ?_
  refine r_aload_n (pc := 6) C dX9_meet_6 rfl ?_
  refine r_ifnull (pc := 7) (tgt := 18) C dX9_meet_7 (by decide) (fun c7 => ?_) (fun a7 c7 => ?_)
  · cases c7
  · cases c7
    refine r_aload_n (pc := 10) C dX9_meet_10 rfl ?_
    refine r_iload_n (pc := 11) C dX9_meet_11 rfl ?_
    refine r_callV (pc := 12) C (cx_hasC hC) iX0_hasColour ml_RX9_310 dX9_meet_12 (ci := 1) rfl rfl hC.1.1 rfl (by decide) rfl (by simp [cv, Value.category, va_rf]) (by omega) (by omega) (fun r12 S12 h12 => ?_)
    obtain ⟨rfl, e12⟩ := h12
    subst S12
    dsimp only [Option.toList, List.cons_append, List.nil_append]
    rw [hcol]
    refine r_if_ne (pc := 15) (tgt := 29) C dX9_meet_15 (by decide) (fun c15 => ?_) (fun c15 => ?_)
    · refine r_aload_n (pc := 29) C dX9_meet_29 rfl ?_
      refine r_getI (pc := 30) C dX9_meet_30 fx_RX9_315 hC.1.1 ?_
      rw [b4]
      refine r_iconst (pc := 33) C (-1) dX9_meet_33 rfl ?_
      refine r_icmp_ne (pc := 34) (tgt := 42) C dX9_meet_34 (by decide) (fun c34 => ?_) (fun c34 => ?_)
      · have ev : (if F 34 j < 0 then nI k else F 34 j) = F 34 j := if_neg (fun q => c34 ((neg_m1 hH hj).mp q))
        refine r_aload_n (pc := 42) C dX9_meet_42 rfl ?_
        refine r_getI (pc := 43) C dX9_meet_43 fx_RX9_315 hC.1.1 ?_
        first | rw [show sI (setI S 106 co col) 106 co = col from sI_s] | rw [b4]
        refine r_iret (pc := 46) C dX9_meet_46 rfl (by omega) (by omega) ?_
        first | exact ⟨by rw [ev, ecol], by rw [ev, ← ecol]; exact fr col, Ag.si (fun z => z (by rw [kf_6 (by omega) (by omega)]; decide))⟩ | exact ⟨by rw [ev], by rw [ev, um_id]; exact hP, Ag.rf⟩
      · have ev : (if F 34 j < 0 then nI k else F 34 j) = nI k := if_pos ((neg_m1 hH hj).mpr c34)
        refine r_aload_n (pc := 37) C dX9_meet_37 rfl ?_
        refine r_iload_n (pc := 38) C dX9_meet_38 rfl ?_
        refine r_putI (pc := 39) C dX9_meet_39 fx_RX9_315 (fp_1_6 _) hC.1.1 ?_
        refine r_aload_n (pc := 42) C dX9_meet_42 rfl ?_
        refine r_getI (pc := 43) C dX9_meet_43 fx_RX9_315 hC.1.1 ?_
        first | rw [show sI (setI S 106 co col) 106 co = col from sI_s] | rw [b4]
        refine r_iret (pc := 46) C dX9_meet_46 rfl (by omega) (by omega) ?_
        first | exact ⟨by rw [ev, ecol], by rw [ev, ← ecol]; exact fr col, Ag.si (fun z => z (by rw [kf_6 (by omega) (by omega)]; decide))⟩ | exact ⟨by rw [ev], by rw [ev, um_id]; exact hP, Ag.rf⟩
    · exact absurd (show bi true = 0 from c15) (by decide)
theorem cx_votes (hN : NB S x pe tp dg go po ch G) (hP : CCh S ch F G) (hH : CH F) (hco : coL F c col = some (j, k)) (hd : F 36 j = 0) (hy : ¬ y < nI 1) (hno : ¬ G 2 - vts (F 38) j 8 < y) : Sp l g mX9_votes 0 0 [vr (some x), vi c, vi col, vi y] S (fun r S' => r = none ∧ CCh S' ch (um F 38 (8 * j + k) (F 38 (8 * j + k) + y)) G ∧ Cf po [6] S S') := by
  obtain ⟨-, hj8, hch, ecol, hk⟩ := coL_some hco hH
  obtain ⟨-, hj, co, hc2, hC⟩ := hP.at hch
  obtain ⟨b0, b1, b2, b3, b4, b5, b6, b7, b8⟩ := hC.2.1
  have hcol := col_ok (col := col) hH hj hch
  rw [hco] at hcol
  have hk8 : k < 8 := by have := (hH j hj).1.2; omega
  have hpos : dlt (nI 0) (F 33 j) = true := (chN_some hch).2.2
  have q := cl_addVotes (l := l) (g := g) (G := fun k => sI S (100 + k) co) (V := aI S 41 (rA S 101 co)) (W := aI S 44 (rA S 102 co)) (n := y) hC.1 hk8
  rw [cp_id, ← ecol] at q
  refine Sp.start (own := RX9) [(0, vr (some x)), (1, vi c), (2, vi col), (3, vi y)] (by decide +kernel) rfl rfl (Nat.le_of_ble_eq_true rfl) ?_
  intro J C
  refine r_aload_n (pc := 0) C dX9_votes_0 rfl ?_
  refine r_iload_n (pc := 1) C dX9_votes_1 rfl ?_
  refine r_callV (pc := 2) C (cx_findCh hN hP) iX9_findChoice ml_RX9_306 dX9_votes_2 (ci := 10) rfl rfl hN.1.1 rfl (by decide) rfl (by simp [cv, Value.category, va_rf]) (by omega) (by omega) (fun r2 S2 h2 => ?_)
  obtain ⟨rfl, e2⟩ := h2
  subst S2
  dsimp only [Option.toList, List.cons_append, List.nil_append]
  rw [hch, Option.bind_some, hc2]
  refine r_astore (pc := 5) C dX9_votes_5 (by decide) rfl ?_
  refine r_aload (pc := 7) C dX9_votes_7 rfl ?_
  refine r_ifnull (pc := 9) (tgt := 20) C dX9_votes_9 (by decide) (fun c9 => ?_) (fun a9 c9 => ?_)
  · cases c9
  · cases c9
    refine r_aload (pc := 12) C dX9_votes_12 rfl ?_
    refine r_getI (pc := 14) C dX9_votes_14 fx_RX9_318 hC.1.1 ?_
    rw [b8]
    refine r_if_eq (pc := 17) (tgt := 31) C dX9_votes_17 (by decide) (fun c17 => ?_) (fun c17 => ?_)
    · refine r_aload (pc := 31) C dX9_votes_31 rfl ?_
      refine r_iload_n (pc := 33) C dX9_votes_33 rfl ?_
      refine r_callV (pc := 34) C (cx_hasC hC) iX0_hasColour ml_RX9_310 dX9_votes_34 (ci := 1) rfl rfl hC.1.1 rfl (by decide) rfl (by simp [cv, Value.category, va_rf]) (by omega) (by omega) (fun r34 S34 h34 => ?_)
      obtain ⟨rfl, e34⟩ := h34
      subst S34
      dsimp only [Option.toList, List.cons_append, List.nil_append]
      rw [hcol]
      refine r_if_eq (pc := 37) (tgt := 45) C dX9_votes_37 (by decide) (fun c37 => ?_) (fun c37 => ?_)
      · exact absurd (show bi true = 0 from c37) (by decide)
      · refine r_iload_n (pc := 40) C dX9_votes_40 rfl ?_
        refine r_iconst (pc := 41) C (nI 1) dX9_votes_41 rfl ?_
        refine r_icmp_ge (pc := 42) (tgt := 56) C dX9_votes_42 (by decide) (fun c42 => ?_) (fun c42 => ?_)
        · refine r_iload_n (pc := 56) C dX9_votes_56 rfl ?_
          refine r_aload_n (pc := 57) C dX9_votes_57 rfl ?_
          refine r_getI (pc := 58) C dX9_votes_58 fx_RX9_7 hN.1.1 ?_
          rw [hN.1.2.1]
          refine r_aload (pc := 61) C dX9_votes_61 rfl ?_
          refine r_getI (pc := 63) C dX9_votes_63 fx_RX9_325 hC.1.1 ?_
          rw [b7]
          refine r_isub (pc := 66) C dX9_votes_66 ?_
          refine r_icmp_le (pc := 67) (tgt := 81) C dX9_votes_67 (by decide) (fun c67 => ?_) (fun c67 => ?_)
          · refine r_aload (pc := 81) C dX9_votes_81 rfl ?_
            refine r_iload_n (pc := 83) C dX9_votes_83 rfl ?_
            refine r_iload_n (pc := 84) C dX9_votes_84 rfl ?_
            refine r_callV (pc := 85) C (q) iX0_addVotes ml_RX9_330 dX9_votes_85 (ci := 1) rfl rfl hC.1.1 rfl (by decide) rfl (by simp [cv, Value.category, va_rf]) (by omega) (by omega) (fun r85 S85 h85 => ?_)
            obtain ⟨rfl, e85⟩ := h85
            subst S85
            dsimp only [Option.toList, List.cons_append, List.nil_append]
            refine r_ret (pc := 88) C dX9_votes_88 rfl (by omega) (by omega) ?_
            refine ⟨rfl, hP.ex.put hj hc2 hC.1 (fun i _ hne k h1 h2 => by rw [um_n (by omega)]) (fun i _ hne c hc => ⟨um_sn (by omega), by rw [um_n (by decide)]⟩) (by rw [um_n (by decide)]; exact hpos) ⟨b0, b1, b2, b3, b4, b5, b6, ?_, b8⟩ (fun c hc => ?_) hC.2.2.2, cf_cput⟩
            · show sI S 109 co + y = vts (um F 38 (8 * j + k) (F 38 (8 * j + k) + y) 38) j 8
              simp only [um, uk_s]
              rw [vts_upd 8 hk8, b7]
            · rw [hC.2.2.1 k hk8]
              by_cases e : c = k
              · subst e; rw [pk_us, um_s]
              · rw [pk_un e, um_sn (by omega)]; exact hC.2.2.1 c hc
          · exact absurd (Int32.not_lt.mp hno) c67
        · exact absurd (Int32.not_lt.mp hy) c42
    · exact absurd hd c17
theorem cx_state {w : Int32} (hN : NB S x pe tp dg go po ch G) (hP : CCh S ch F G) (hH : CH F) : Sp l g mX9_state 0 0 [vr (some x), vi c, vi w] S (fun r S' => r = some (vi (sttR F c w)) ∧ S' = S) := by
  generalize hRR : sttR F c w = R
  refine Sp.start (own := RX9) [(0, vr (some x)), (1, vi c), (2, vi w)] (by decide +kernel) rfl rfl (Nat.le_of_ble_eq_true rfl) ?_
  intro J C
  cases hch : chN F c with
  | none =>
    have e : -1 = R := by rw [← hRR]; simp only [sttR, hch]
    subst e
    refine r_aload_n (pc := 0) C dX9_state_0 rfl ?_
    refine r_iload_n (pc := 1) C dX9_state_1 rfl ?_
    refine r_callV (pc := 2) C (cx_findCh hN hP) iX9_findChoice ml_RX9_306 dX9_state_2 (ci := 10) rfl rfl hN.1.1 rfl (by decide) rfl (by simp [cv, Value.category, va_rf]) (by omega) (by omega) (fun r2 S2 h2 => ?_)
    obtain ⟨rfl, e2⟩ := h2
    subst S2
    dsimp only [Option.toList, List.cons_append, List.nil_append]
    rw [hch, Option.bind_none]
    refine r_astore_n (pc := 5) C dX9_state_5 (by decide) rfl ?_
    refine r_aload_n (pc := 6) C dX9_state_6 rfl ?_
    refine r_ifnonnull (pc := 7) (tgt := 12) C dX9_state_7 (by decide) (fun a7 c7 => ?_) (fun c7 => ?_)
    · cases c7
    · refine r_iconst (pc := 10) C (-1) dX9_state_10 rfl ?_
      refine r_iret (pc := 11) C dX9_state_11 rfl (by omega) (by omega) ?_
      exact ⟨rfl, rfl⟩
  | some j =>
    obtain ⟨-, hj, co, hc2, hC⟩ := hP.at hch
    obtain ⟨b0, b1, b2, b3, b4, b5, b6, b7, b8⟩ := hC.2.1
    obtain ⟨e33, hk8⟩ := (hH j hj).1
    have wq : ∀ c, Sp l g mX0_weightAt 0 0 [vr (some co), vi c] S (fun r S' => r = some (vi (if !dlt c 0 && dlt c (F 33 j) then F 39 (8 * j + c.toNatClampNeg) else -1)) ∧ S' = S) := fun c => by
      have q := cl_weightAt (l := l) (g := g) (G := fun k => sI S (100 + k) co) (V := aI S 41 (rA S 101 co)) (W := aI S 44 (rA S 102 co)) (c := c) (cs := coN F j) hC.1 (by rw [← e33]; exact b2) hk8
      rw [cp_id] at q
      refine q.mono ?_
      rintro r S' ⟨rfl, rfl⟩
      refine ⟨?_, rfl⟩
      have e4 : hcB (fun k => sI S' (100 + k) co) c = (!dlt c 0 && dlt c (F 33 j)) := by
        unfold hcB
        rw [show (fun k => sI S' (100 + k) co) 4 = F 33 j from b2]
      rw [e4]
      split
      · next hq =>
        rw [Bool.and_eq_true, Bool.not_eq_true'] at hq
        obtain ⟨i, hi, rfl⟩ := nI_of (of_decide_eq_false hq.1)
        have h2 := hq.2
        rw [e33] at h2
        have h3 := (nI_ltI hi (by omega)).mp (of_decide_eq_true h2)
        rw [nI_clamp hi, hC.2.2.2 i (by omega)]
      · rfl
    by_cases hw : w < 0
    · have e : -1 = R := by rw [← hRR]; simp only [sttR, hch]; rw [if_pos hw]
      subst e
      refine r_aload_n (pc := 0) C dX9_state_0 rfl ?_
      refine r_iload_n (pc := 1) C dX9_state_1 rfl ?_
      refine r_callV (pc := 2) C (cx_findCh hN hP) iX9_findChoice ml_RX9_306 dX9_state_2 (ci := 10) rfl rfl hN.1.1 rfl (by decide) rfl (by simp [cv, Value.category, va_rf]) (by omega) (by omega) (fun r2 S2 h2 => ?_)
      obtain ⟨rfl, e2⟩ := h2
      subst S2
      dsimp only [Option.toList, List.cons_append, List.nil_append]
      rw [hch, Option.bind_some, hc2]
      refine r_astore_n (pc := 5) C dX9_state_5 (by decide) rfl ?_
      refine r_aload_n (pc := 6) C dX9_state_6 rfl ?_
      refine r_ifnonnull (pc := 7) (tgt := 12) C dX9_state_7 (by decide) (fun a7 c7 => ?_) (fun c7 => ?_)
      · cases c7
        refine r_iload_n (pc := 12) C dX9_state_12 rfl ?_
        refine r_swOut (pc := 13) C dX9_state_13 (tgt := 72) (sw_out (k := 3) (by omega) (Or.inl hw)) (by decide) ?_
        refine r_iload_n (pc := 72) C dX9_state_72 rfl ?_
        refine r_iconst (pc := 73) C (nI 4) dX9_state_73 rfl ?_
        refine r_icmp_ge (pc := 74) (tgt := 81) C dX9_state_74 (by decide) (fun c74 => ?_) (fun c74 => ?_)
        · exact absurd hw (Int32.not_lt.mpr (Int32.le_trans (show (0 : Int32) ≤ nI 4 by decide) c74))
        · refine r_iconst (pc := 77) C (-1) dX9_state_77 rfl ?_
          refine r_goto (pc := 78) (tgt := 88) C dX9_state_78 (by decide) ?_
          refine r_iret (pc := 88) C dX9_state_88 rfl (by omega) (by omega) ?_
          exact ⟨rfl, rfl⟩
      · cases c7
    · obtain ⟨m, hm, rfl⟩ := nI_of hw
      have e : sttV F j m = R := by rw [← hRR]; simp only [sttR, hch]; rw [if_neg hw, nI_clamp hm]
      subst e
      have hm5 : m = 0 ∨ m = 1 ∨ m = 2 ∨ m = 3 ∨ ∃ q, m = q + 4 := by
        by_cases q : m < 4
        · omega
        · exact Or.inr (Or.inr (Or.inr (Or.inr ⟨m - 4, by omega⟩)))
      rcases hm5 with rfl | rfl | rfl | rfl | ⟨q, rfl⟩
      · refine r_aload_n (pc := 0) C dX9_state_0 rfl ?_
        refine r_iload_n (pc := 1) C dX9_state_1 rfl ?_
        refine r_callV (pc := 2) C (cx_findCh hN hP) iX9_findChoice ml_RX9_306 dX9_state_2 (ci := 10) rfl rfl hN.1.1 rfl (by decide) rfl (by simp [cv, Value.category, va_rf]) (by omega) (by omega) (fun r2 S2 h2 => ?_)
        obtain ⟨rfl, e2⟩ := h2
        subst S2
        dsimp only [Option.toList, List.cons_append, List.nil_append]
        rw [hch, Option.bind_some, hc2]
        refine r_astore_n (pc := 5) C dX9_state_5 (by decide) rfl ?_
        refine r_aload_n (pc := 6) C dX9_state_6 rfl ?_
        refine r_ifnonnull (pc := 7) (tgt := 12) C dX9_state_7 (by decide) (fun a7 c7 => ?_) (fun c7 => ?_)
        · cases c7
          refine r_iload_n (pc := 12) C dX9_state_12 rfl ?_
          refine r_swIn (pc := 13) C dX9_state_13 (tgt := 44) (by decide) (by decide) (off := 31) rfl (by decide) ?_
          refine r_aload_n (pc := 44) C dX9_state_44 rfl ?_
          refine r_getI (pc := 45) C dX9_state_45 fx_RX9_315 hC.1.1 ?_
          rw [b4]
          refine r_iret (pc := 48) C dX9_state_48 rfl (by omega) (by omega) ?_
          exact ⟨rfl, rfl⟩
        · cases c7
      · refine r_aload_n (pc := 0) C dX9_state_0 rfl ?_
        refine r_iload_n (pc := 1) C dX9_state_1 rfl ?_
        refine r_callV (pc := 2) C (cx_findCh hN hP) iX9_findChoice ml_RX9_306 dX9_state_2 (ci := 10) rfl rfl hN.1.1 rfl (by decide) rfl (by simp [cv, Value.category, va_rf]) (by omega) (by omega) (fun r2 S2 h2 => ?_)
        obtain ⟨rfl, e2⟩ := h2
        subst S2
        dsimp only [Option.toList, List.cons_append, List.nil_append]
        rw [hch, Option.bind_some, hc2]
        refine r_astore_n (pc := 5) C dX9_state_5 (by decide) rfl ?_
        refine r_aload_n (pc := 6) C dX9_state_6 rfl ?_
        refine r_ifnonnull (pc := 7) (tgt := 12) C dX9_state_7 (by decide) (fun a7 c7 => ?_) (fun c7 => ?_)
        · cases c7
          refine r_iload_n (pc := 12) C dX9_state_12 rfl ?_
          refine r_swIn (pc := 13) C dX9_state_13 (tgt := 49) (by decide) (by decide) (off := 36) rfl (by decide) ?_
          refine r_aload_n (pc := 49) C dX9_state_49 rfl ?_
          refine r_getI (pc := 50) C dX9_state_50 fx_RX9_336 hC.1.1 ?_
          rw [b6]
          refine r_iret (pc := 53) C dX9_state_53 rfl (by omega) (by omega) ?_
          exact ⟨rfl, rfl⟩
        · cases c7
      · refine r_aload_n (pc := 0) C dX9_state_0 rfl ?_
        refine r_iload_n (pc := 1) C dX9_state_1 rfl ?_
        refine r_callV (pc := 2) C (cx_findCh hN hP) iX9_findChoice ml_RX9_306 dX9_state_2 (ci := 10) rfl rfl hN.1.1 rfl (by decide) rfl (by simp [cv, Value.category, va_rf]) (by omega) (by omega) (fun r2 S2 h2 => ?_)
        obtain ⟨rfl, e2⟩ := h2
        subst S2
        dsimp only [Option.toList, List.cons_append, List.nil_append]
        rw [hch, Option.bind_some, hc2]
        refine r_astore_n (pc := 5) C dX9_state_5 (by decide) rfl ?_
        refine r_aload_n (pc := 6) C dX9_state_6 rfl ?_
        refine r_ifnonnull (pc := 7) (tgt := 12) C dX9_state_7 (by decide) (fun a7 c7 => ?_) (fun c7 => ?_)
        · cases c7
          refine r_iload_n (pc := 12) C dX9_state_12 rfl ?_
          refine r_swIn (pc := 13) C dX9_state_13 (tgt := 54) (by decide) (by decide) (off := 41) rfl (by decide) ?_
          refine r_aload_n (pc := 54) C dX9_state_54 rfl ?_
          refine r_getI (pc := 55) C dX9_state_55 fx_RX9_318 hC.1.1 ?_
          rw [b8]
          refine r_if_eq (pc := 58) (tgt := 65) C dX9_state_58 (by decide) (fun c58 => ?_) (fun c58 => ?_)
          · have hv : nI 0 = sttV F j 2 := by simp only [sttV, decide_eq_true c58]; rfl
            refine r_iconst (pc := 65) C (nI 0) dX9_state_65 rfl ?_
            refine r_iret (pc := 66) C dX9_state_66 rfl (by omega) (by omega) ?_
            exact ⟨by rw [hv], rfl⟩
          · have hv : nI 1 = sttV F j 2 := by simp only [sttV, decide_eq_false c58]; rfl
            refine r_iconst (pc := 61) C (nI 1) dX9_state_61 rfl ?_
            refine r_goto (pc := 62) (tgt := 66) C dX9_state_62 (by decide) ?_
            refine r_iret (pc := 66) C dX9_state_66 rfl (by omega) (by omega) ?_
            exact ⟨by rw [hv], rfl⟩
        · cases c7
      · refine r_aload_n (pc := 0) C dX9_state_0 rfl ?_
        refine r_iload_n (pc := 1) C dX9_state_1 rfl ?_
        refine r_callV (pc := 2) C (cx_findCh hN hP) iX9_findChoice ml_RX9_306 dX9_state_2 (ci := 10) rfl rfl hN.1.1 rfl (by decide) rfl (by simp [cv, Value.category, va_rf]) (by omega) (by omega) (fun r2 S2 h2 => ?_)
        obtain ⟨rfl, e2⟩ := h2
        subst S2
        dsimp only [Option.toList, List.cons_append, List.nil_append]
        rw [hch, Option.bind_some, hc2]
        refine r_astore_n (pc := 5) C dX9_state_5 (by decide) rfl ?_
        refine r_aload_n (pc := 6) C dX9_state_6 rfl ?_
        refine r_ifnonnull (pc := 7) (tgt := 12) C dX9_state_7 (by decide) (fun a7 c7 => ?_) (fun c7 => ?_)
        · cases c7
          refine r_iload_n (pc := 12) C dX9_state_12 rfl ?_
          refine r_swIn (pc := 13) C dX9_state_13 (tgt := 67) (by decide) (by decide) (off := 54) rfl (by decide) ?_
          refine r_aload_n (pc := 67) C dX9_state_67 rfl ?_
          refine r_getI (pc := 68) C dX9_state_68 fx_RX9_325 hC.1.1 ?_
          rw [b7]
          refine r_iret (pc := 71) C dX9_state_71 rfl (by omega) (by omega) ?_
          exact ⟨rfl, rfl⟩
        · cases c7
      · refine r_aload_n (pc := 0) C dX9_state_0 rfl ?_
        refine r_iload_n (pc := 1) C dX9_state_1 rfl ?_
        refine r_callV (pc := 2) C (cx_findCh hN hP) iX9_findChoice ml_RX9_306 dX9_state_2 (ci := 10) rfl rfl hN.1.1 rfl (by decide) rfl (by simp [cv, Value.category, va_rf]) (by omega) (by omega) (fun r2 S2 h2 => ?_)
        obtain ⟨rfl, e2⟩ := h2
        subst S2
        dsimp only [Option.toList, List.cons_append, List.nil_append]
        rw [hch, Option.bind_some, hc2]
        refine r_astore_n (pc := 5) C dX9_state_5 (by decide) rfl ?_
        refine r_aload_n (pc := 6) C dX9_state_6 rfl ?_
        refine r_ifnonnull (pc := 7) (tgt := 12) C dX9_state_7 (by decide) (fun a7 c7 => ?_) (fun c7 => ?_)
        · cases c7
          refine r_iload_n (pc := 12) C dX9_state_12 rfl ?_
          refine r_swOut (pc := 13) C dX9_state_13 (tgt := 72) (sw_out (k := 3) (by omega) (Or.inr (nI_le (by omega) hm))) (by decide) ?_
          refine r_iload_n (pc := 72) C dX9_state_72 rfl ?_
          refine r_iconst (pc := 73) C (nI 4) dX9_state_73 rfl ?_
          refine r_icmp_ge (pc := 74) (tgt := 81) C dX9_state_74 (by decide) (fun c74 => ?_) (fun c74 => ?_)
          · refine r_aload_n (pc := 81) C dX9_state_81 rfl ?_
            refine r_iload_n (pc := 82) C dX9_state_82 rfl ?_
            refine r_iconst (pc := 83) C (nI 4) dX9_state_83 rfl ?_
            refine r_isub (pc := 84) C dX9_state_84 ?_
            rw [pk_sub (by omega), show q + 4 - 4 = q by omega]
            refine r_callV (pc := 85) C (wq _) iX0_weightAt ml_RX9_337 dX9_state_85 (ci := 1) rfl rfl hC.1.1 rfl (by decide) rfl (by simp [cv, Value.category, va_rf]) (by omega) (by omega) (fun r85 S85 h85 => ?_)
            obtain ⟨rfl, e85⟩ := h85
            subst S85
            dsimp only [Option.toList, List.cons_append, List.nil_append]
            refine r_iret (pc := 88) C dX9_state_88 rfl (by omega) (by omega) ?_
            refine ⟨?_, rfl⟩
            rw [e33, show dlt (nI q) 0 = false from dlt_f (Int32.not_lt.mp (nI_pos (by omega))), nI_clamp (by omega)]
            simp only [sttV]
            by_cases hq : q < coN F j
            · rw [if_pos hq, dlt_t (nI_lt hq (by omega))]; rfl
            · rw [if_neg hq, dlt_f (nI_le (by omega) (by omega))]; rfl
          · exact absurd (nI_le (by omega) hm) c74
        · cases c7
end ChoicePut
