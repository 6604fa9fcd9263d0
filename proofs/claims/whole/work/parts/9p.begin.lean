/-! The class: begin -/
section BeginC
variable {l : Launch} {g : GG} {S S1 S' : hS} {po x pe tp dg go ch n h a k co j r : Nat} {F F' R : MM} {G : Nat → Int32} {L : List Nat} {c col y : Int32}
theorem CHO.ag (hP : CHO S F G co j) (hc : Ag (fun f _ => 100 ≤ f ∧ f < 200) (fun f _ => 100 ≤ f ∧ f < 200) (fun r _ => r = 41 ∨ r = 44) S S1) : CHO S1 F G co j ∧ rA S1 101 co = rA S 101 co ∧ rA S1 102 co = rA S 102 co := by
  obtain ⟨⟨a0, a1, a2, ⟨a3, a4⟩, a5, a6⟩, ⟨b0, b1, b2, b3, b4, b5, b6, b7, b8⟩, c1, c2⟩ := hP
  have hx : sK S co ≠ 0 := by rw [a0]; decide
  have hv : sK S (rA S 101 co) ≠ 0 := by rw [a3]; decide
  have hw : sK S (rA S 102 co) ≠ 0 := by rw [a5]; decide
  have hr : ∀ f, 100 ≤ f → f < 200 → sR S1 f co = sR S f co := fun f f1 f2 => hc.r hx ⟨f1, f2⟩
  have hi : ∀ f, 100 ≤ f → f < 200 → sI S1 f co = sI S f co := fun f f1 f2 => hc.i hx ⟨f1, f2⟩
  have e1 := rA_eq (S := S) (S1 := S1) (hr 101 (by omega) (by omega))
  have e2 := rA_eq (S := S) (S1 := S1) (hr 102 (by omega) (by omega))
  refine ⟨⟨⟨by rw [hc.k hx]; exact a0, by rw [hr 101 (by omega) (by omega), e1]; exact a1, by rw [hr 102 (by omega) (by omega), e2]; exact a2, ⟨by rw [e1, hc.k hv]; exact a3, by rw [e1, hc.n hv]; exact a4⟩, by rw [e2, hc.k hw]; exact a5, by rw [e2, hc.n hw]; exact a6⟩, ⟨?_, ?_, ?_, ?_, ?_, ?_, ?_, ?_, ?_⟩, fun c hc2 => ?_, fun c hc2 => ?_⟩, e1, e2⟩
  · rw [hi 100 (by omega) (by omega)]; exact b0
  · rw [hi 103 (by omega) (by omega)]; exact b1
  · rw [hi 104 (by omega) (by omega)]; exact b2
  · rw [hi 105 (by omega) (by omega)]; exact b3
  · rw [hi 106 (by omega) (by omega)]; exact b4
  · rw [hi 107 (by omega) (by omega)]; exact b5
  · rw [hi 108 (by omega) (by omega)]; exact b6
  · rw [hi 109 (by omega) (by omega)]; exact b7
  · rw [hi 110 (by omega) (by omega)]; exact b8
  · rw [e1, hc.ai hv (Or.inl rfl)]; exact c1 c hc2
  · rw [e2, hc.ai hw (Or.inr rfl)]; exact c2 c hc2
/-- a new choice is laid at a free place -/
theorem CCh.add (hP : CCh S ch F G) (hj : j < 8) (hc : Ag (fun f _ => 100 ≤ f ∧ f < 200) (fun f _ => 100 ≤ f ∧ f < 200) (fun r _ => r = 41 ∨ r = 44) S S1) (hR : aR S1 100 ch = va_up (aR S 100 ch) j (some co)) (z1 : sK S co = 0) (z2 : sK S (rA S1 101 co) = 0) (z3 : sK S (rA S1 102 co) = 0) : CCx S1 ch F G j ∧ aR S1 100 ch j = some co := by
  obtain ⟨p1, p2, p3⟩ := hP
  have hx : sK S ch ≠ 0 := by rw [p1.1]; decide
  have ej : aR S1 100 ch j = some co := by rw [hR]; exact va_up_self _ _ _
  have eo : ∀ i, i ≠ j → aR S1 100 ch i = aR S 100 ch i := fun i hi => by rw [hR]; exact va_up_ne _ _ hi
  have od : ∀ i co', i < 8 → aR S 100 ch i = some co' → CHO S F G co' i := fun i co' hi q => by
    rcases p2 i hi with z | ⟨c, q1, -, q3⟩
    · rw [z.1] at q; cases q
    · rw [q1] at q; cases q; exact q3
  have nw : ∀ i co', i < 8 → i ≠ j → aR S1 100 ch i = some co' → (co' = co ∨ rA S1 101 co' = rA S1 101 co ∨ rA S1 102 co' = rA S1 102 co) → False := fun i co' hi hne q z => by
    rw [eo i hne] at q
    have o := od i co' hi q
    obtain ⟨-, e1, e2⟩ := o.ag hc
    obtain ⟨a0, a1, a2, ⟨a3, a4⟩, a5, a6⟩ := o.1
    rcases z with z | z | z
    · rw [z, z1] at a0; cases a0
    · rw [e1] at z; rw [z, z2] at a3; cases a3
    · rw [e2] at z; rw [z, z3] at a5; cases a5
  refine ⟨⟨⟨by rw [hc.k hx]; exact p1.1, by rw [hc.n hx]; exact p1.2⟩, fun i hi hne => ?_, fun i i' c1 c2 hi hi' q1 q2 q3 => ?_⟩, ej⟩
  · rw [eo i hne]
    rcases p2 i hi with z | ⟨c, q1, q2, q3⟩
    · exact Or.inl z
    · exact Or.inr ⟨c, q1, q2, (q3.ag hc).1⟩
  · by_cases e1 : i = j
    · by_cases e2 : i' = j
      · rw [e1, e2]
      · subst e1
        rw [ej] at q1; cases q1
        exact (nw i' c2 hi' e2 q2 (q3.elim (fun z => Or.inl z.symm) (fun z => Or.inr (z.elim (fun z => Or.inl z.symm) (fun z => Or.inr z.symm))))).elim
    · by_cases e2 : i' = j
      · subst e2
        rw [ej] at q2; cases q2
        exact (nw i c1 hi e1 q1 q3).elim
      · have r1 := q1
        have r2 := q2
        rw [eo i e1] at r1
        rw [eo i' e2] at r2
        obtain ⟨-, u1, u2⟩ := (od i c1 hi r1).ag hc
        obtain ⟨-, w1, w2⟩ := (od i' c2 hi' r2).ag hc
        rw [u1, u2, w1, w2] at q3
        exact p3 i i' c1 c2 hi hi' r1 r2 q3
theorem begF_k {r k : Int32} {q : Nat} (hq : q < 38) : begF F j r k q = um (um (um (um (um (um F 32 j r) 33 j k) 34 j (-1)) 35 j (nI 0)) 36 j (nI 0)) 37 j (-1) q := by
  unfold begF
  rw [uk_n (by omega), uk_n (by omega)]
theorem begF_o {r k : Int32} {q i : Nat} (hq : q < 38) (hi : i ≠ j) : begF F j r k q i = F q i := by
  rw [begF_k hq, um_at hi, um_at hi, um_at hi, um_at hi, um_at hi, um_at hi]
theorem begF_32 {r k : Int32} : begF F j r k 32 j = r := by rw [begF_k (by omega), um_n (by decide), um_n (by decide), um_n (by decide), um_n (by decide), um_n (by decide), um_s]
theorem begF_33 {r k : Int32} : begF F j r k 33 j = k := by rw [begF_k (by omega), um_n (by decide), um_n (by decide), um_n (by decide), um_n (by decide), um_s]
theorem begF_34 {r k : Int32} : begF F j r k 34 j = -1 := by rw [begF_k (by omega), um_n (by decide), um_n (by decide), um_n (by decide), um_s]
theorem begF_35 {r k : Int32} : begF F j r k 35 j = nI 0 := by rw [begF_k (by omega), um_n (by decide), um_n (by decide), um_s]
theorem begF_36 {r k : Int32} : begF F j r k 36 j = nI 0 := by rw [begF_k (by omega), um_n (by decide), um_s]
theorem begF_37 {r k : Int32} : begF F j r k 37 j = -1 := by rw [begF_k (by omega), um_s]
theorem begF_38 {r k : Int32} : begF F j r k 38 = zr8 (F 38) j 8 := by unfold begF; rw [uk_n (by decide), uk_s]
theorem begF_39 {r k : Int32} : begF F j r k 39 = zr8 (F 39) j 8 := by unfold begF; rw [uk_s]
theorem cx_beginN {c r k : Int32} (hb : begB c r k = false) : Sp l g mX9_begin 0 0 [vr (some x), vi c, vi r, vi k] S (fun z S' => z = some (vi (bi false)) ∧ S' = S) := by
  simp only [begB, Bool.not_eq_false', decide_eq_true_eq] at hb
  have g2 : ∀ {z : Int32}, ¬ nI 2 < z → nI 3 ≤ z → False := fun h1 h2 => nI_le1 (k := 2) (by omega) h2 (Int32.not_lt.mp h1)
  refine Sp.start (own := RX9) [(0, vr (some x)), (1, vi c), (2, vi r), (3, vi k)] (by decide +kernel) rfl rfl (Nat.le_of_ble_eq_true rfl) ?_
  intro J C
  refine r_iload_n (pc := 0) C dX9_begin_0 rfl ?_
  refine r_if_lt (pc := 1) (tgt := 34) C dX9_begin_1 (by decide) (fun c1 => ?_) (fun c1 => ?_)
  · refine r_iconst (pc := 34) C (nI 0) dX9_begin_34 rfl ?_
    refine r_istore (pc := 35) C dX9_begin_35 (by decide) rfl ?_
    refine r_iload (pc := 37) C dX9_begin_37 rfl ?_
    refine r_if_ne (pc := 39) (tgt := 44) C dX9_begin_39 (by decide) (fun c39 => ?_) (fun c39 => ?_)
    · exact absurd rfl c39
    · refine r_iconst (pc := 42) C (nI 0) dX9_begin_42 rfl ?_
      refine r_zret (pc := 43) C dX9_begin_43 rfl (by first | exact Or.inl rfl | exact Or.inr rfl | assumption) (by omega) (by omega) ?_
      exact ⟨rfl, rfl⟩
  · refine r_iload_n (pc := 4) C dX9_begin_4 rfl ?_
    refine r_bipush (pc := 5) C (nI 8) dX9_begin_5 rfl ?_
    refine r_icmp_ge (pc := 7) (tgt := 34) C dX9_begin_7 (by decide) (fun c7 => ?_) (fun c7 => ?_)
    · refine r_iconst (pc := 34) C (nI 0) dX9_begin_34 rfl ?_
      refine r_istore (pc := 35) C dX9_begin_35 (by decide) rfl ?_
      refine r_iload (pc := 37) C dX9_begin_37 rfl ?_
      refine r_if_ne (pc := 39) (tgt := 44) C dX9_begin_39 (by decide) (fun c39 => ?_) (fun c39 => ?_)
      · exact absurd rfl c39
      · refine r_iconst (pc := 42) C (nI 0) dX9_begin_42 rfl ?_
        refine r_zret (pc := 43) C dX9_begin_43 rfl (by first | exact Or.inl rfl | exact Or.inr rfl | assumption) (by omega) (by omega) ?_
        exact ⟨rfl, rfl⟩
    · refine r_iload_n (pc := 10) C dX9_begin_10 rfl ?_
      refine r_if_lt (pc := 11) (tgt := 34) C dX9_begin_11 (by decide) (fun c11 => ?_) (fun c11 => ?_)
      · refine r_iconst (pc := 34) C (nI 0) dX9_begin_34 rfl ?_
        refine r_istore (pc := 35) C dX9_begin_35 (by decide) rfl ?_
        refine r_iload (pc := 37) C dX9_begin_37 rfl ?_
        refine r_if_ne (pc := 39) (tgt := 44) C dX9_begin_39 (by decide) (fun c39 => ?_) (fun c39 => ?_)
        · exact absurd rfl c39
        · refine r_iconst (pc := 42) C (nI 0) dX9_begin_42 rfl ?_
          refine r_zret (pc := 43) C dX9_begin_43 rfl (by first | exact Or.inl rfl | exact Or.inr rfl | assumption) (by omega) (by omega) ?_
          exact ⟨rfl, rfl⟩
      · refine r_iload_n (pc := 14) C dX9_begin_14 rfl ?_
        refine r_iconst (pc := 15) C (nI 2) dX9_begin_15 rfl ?_
        refine r_icmp_gt (pc := 16) (tgt := 34) C dX9_begin_16 (by decide) (fun c16 => ?_) (fun c16 => ?_)
        · refine r_iconst (pc := 34) C (nI 0) dX9_begin_34 rfl ?_
          refine r_istore (pc := 35) C dX9_begin_35 (by decide) rfl ?_
          refine r_iload (pc := 37) C dX9_begin_37 rfl ?_
          refine r_if_ne (pc := 39) (tgt := 44) C dX9_begin_39 (by decide) (fun c39 => ?_) (fun c39 => ?_)
          · exact absurd rfl c39
          · refine r_iconst (pc := 42) C (nI 0) dX9_begin_42 rfl ?_
            refine r_zret (pc := 43) C dX9_begin_43 rfl (by first | exact Or.inl rfl | exact Or.inr rfl | assumption) (by omega) (by omega) ?_
            exact ⟨rfl, rfl⟩
        · refine r_iload_n (pc := 19) C dX9_begin_19 rfl ?_
          refine r_iconst (pc := 20) C (nI 2) dX9_begin_20 rfl ?_
          refine r_icmp_lt (pc := 21) (tgt := 34) C dX9_begin_21 (by decide) (fun c21 => ?_) (fun c21 => ?_)
          · refine r_iconst (pc := 34) C (nI 0) dX9_begin_34 rfl ?_
            refine r_istore (pc := 35) C dX9_begin_35 (by decide) rfl ?_
            refine r_iload (pc := 37) C dX9_begin_37 rfl ?_
            refine r_if_ne (pc := 39) (tgt := 44) C dX9_begin_39 (by decide) (fun c39 => ?_) (fun c39 => ?_)
            · exact absurd rfl c39
            · refine r_iconst (pc := 42) C (nI 0) dX9_begin_42 rfl ?_
              refine r_zret (pc := 43) C dX9_begin_43 rfl (by first | exact Or.inl rfl | exact Or.inr rfl | assumption) (by omega) (by omega) ?_
              exact ⟨rfl, rfl⟩
          · refine r_iload_n (pc := 24) C dX9_begin_24 rfl ?_
            refine r_bipush (pc := 25) C (nI 8) dX9_begin_25 rfl ?_
            refine r_icmp_gt (pc := 27) (tgt := 34) C dX9_begin_27 (by decide) (fun c27 => ?_) (fun c27 => ?_)
            · refine r_iconst (pc := 34) C (nI 0) dX9_begin_34 rfl ?_
              refine r_istore (pc := 35) C dX9_begin_35 (by decide) rfl ?_
              refine r_iload (pc := 37) C dX9_begin_37 rfl ?_
              refine r_if_ne (pc := 39) (tgt := 44) C dX9_begin_39 (by decide) (fun c39 => ?_) (fun c39 => ?_)
              · exact absurd rfl c39
              · refine r_iconst (pc := 42) C (nI 0) dX9_begin_42 rfl ?_
                refine r_zret (pc := 43) C dX9_begin_43 rfl (by first | exact Or.inl rfl | exact Or.inr rfl | assumption) (by omega) (by omega) ?_
                exact ⟨rfl, rfl⟩
            · exact (hb.elim (fun q => q.elim c1 (fun z => c7 z)) (fun q => q.elim (fun q => q.elim c11 (g2 c16)) (fun q => q.elim c21 c27))).elim
theorem cx_begin (hN : NB S x pe tp dg go po ch G) (hP : CCh S ch F G) (hj : j < 8) (hr : r < 3) (hk : 2 ≤ k) (hk2 : k ≤ 8) : Sp l g mX9_begin 3 40 [vr (some x), vi (nI j), vi (nI r), vi (nI k)] S (fun z S' => z = some (vi (bi true)) ∧ CCh S' ch (begF F j (nI r) (nI k)) G ∧ Cf po [6] S S') := by
  have fin : ∀ S1 co, CCx S1 ch F G j → aR S1 100 ch j = some co → CO S1 co (rA S1 101 co) (rA S1 102 co) → sI S1 100 co = G 3 → CCh (cput S1 co (rA S1 101 co) (rA S1 102 co) (upd (upd (upd (upd (upd (upd (upd (upd (fun k => sI S1 (100 + k) co) 3 (nI r)) 4 (nI k)) 5 (if nI r = nI 1 then G 4 else G 5)) 6 (-1)) 7 (-1)) 8 (nI 0)) 10 (nI 0)) 9 (nI 0)) (filF (aI S1 41 (rA S1 101 co)) (nI 0) 8) (filF (aI S1 44 (rA S1 102 co)) (nI 0) 8)) ch (begF F j (nI r) (nI k)) G := by
    intro S1 co hX hco hC h0
    refine hX.put hj hco hC (fun i _ hne q g1 g2 => begF_o (by omega) hne) (fun i _ hne c hc => ⟨?_, ?_⟩) (by rw [begF_33]; exact dlt_t (nI_lt (by omega) (by omega))) ⟨h0, ?_, ?_, ?_, ?_, ?_, ?_, ?_, ?_⟩ (fun c hc => ?_) (fun c hc => ?_)
    · rw [begF_38, zr8_o (by omega)]
    · rw [begF_39, zr8_o (by omega)]
    · rw [begF_32]; rfl
    · rw [begF_33]; rfl
    · rw [begF_32]; rfl
    · rw [begF_34]; rfl
    · rw [begF_37]; rfl
    · rw [begF_35]; rfl
    · rw [begF_38, vts_0 8 (fun c hc => zr8_i hc)]; rfl
    · rw [begF_36]; rfl
    · rw [begF_38, zr8_i hc]; exact if_pos hc
    · rw [begF_39, zr8_i hc]; exact if_pos hc
  refine Sp.start (own := RX9) [(0, vr (some x)), (1, vi (nI j)), (2, vi (nI r)), (3, vi (nI k))] (by decide +kernel) rfl rfl (Nat.le_of_ble_eq_true rfl) ?_
  intro J C
  have K70 : ∀ S1 co, NB S1 x pe tp dg go po ch G → CCx S1 ch F G j → aR S1 100 ch j = some co → CO S1 co (rA S1 101 co) (rA S1 102 co) → sI S1 100 co = G 3 → Cf po [6] S S1 → J 70 [(0, vr (some x)), (1, vi (nI j)), (2, vi (nI r)), (3, vi (nI k))] [] S1 3 40 := by
    intro S1 co hN1 hX hco hC h0 hF
    have q : ∀ nd, Sp l g mX0_restart 0 0 [vr (some co), vi (nI r), vi (nI k), vi nd] S1 _ := fun nd => by
      have q := cl_restart (l := l) (g := g) (G := fun k => sI S1 (100 + k) co) (V := aI S1 41 (rA S1 101 co)) (W := aI S1 44 (rA S1 102 co)) (ru := nI r) (cs := nI k) (nd := nd) hC
      rw [cp_id] at q
      exact q
    have f1 := fin S1 co hX hco hC h0
    refine r_aload_n (pc := 70) C dX9_begin_70 rfl ?_
    refine r_getR (pc := 71) C dX9_begin_71 fx_RX9_63 hN1.1.1 hN1.2.1.2.2.2.2.2 ?_
    refine r_iload_n (pc := 74) C dX9_begin_74 rfl ?_
    refine r_aald (pc := 75) C dX9_begin_75 hX.1.1 (by decide) hX.1.2 (by first | assumption | exact vp_in_nI (by omega) (by omega)) (by first | exact nI_clamp (by omega) | rfl) ?_
    rw [hco]
    refine r_iload_n (pc := 76) C dX9_begin_76 rfl ?_
    refine r_iload_n (pc := 77) C dX9_begin_77 rfl ?_
    refine r_iload_n (pc := 78) C dX9_begin_78 rfl ?_
    refine r_iconst (pc := 79) C (nI 1) dX9_begin_79 rfl ?_
    refine r_icmp_ne (pc := 80) (tgt := 90) C dX9_begin_80 (by decide) (fun c80 => ?_) (fun c80 => ?_)
    · rw [if_neg c80] at f1
      refine r_aload_n (pc := 90) C dX9_begin_90 rfl ?_
      refine r_getI (pc := 91) C dX9_begin_91 fx_RX9_19 hN1.1.1 ?_
      rw [hN1.1.2.2.2.2]
      refine r_callV (pc := 94) C (q _) iX0_restart ml_RX9_302 dX9_begin_94 (ci := 1) rfl rfl hC.1 rfl (by decide) rfl (by simp [cv, Value.category, va_rf]) (by omega) (by omega) (fun r94 S94 h94 => ?_)
      obtain ⟨rfl, e94⟩ := h94
      subst S94
      dsimp only [Option.toList, List.cons_append, List.nil_append]
      refine r_iconst (pc := 97) C (nI 1) dX9_begin_97 rfl ?_
      refine r_zret (pc := 98) C dX9_begin_98 rfl (by first | exact Or.inl rfl | exact Or.inr rfl | assumption) (by omega) (by omega) ?_
      exact ⟨rfl, f1, hF.tr cf_cput⟩
    · rw [if_pos c80] at f1
      refine r_aload_n (pc := 83) C dX9_begin_83 rfl ?_
      refine r_getI (pc := 84) C dX9_begin_84 fx_RX9_16 hN1.1.1 ?_
      rw [hN1.1.2.2.2.1]
      refine r_goto (pc := 87) (tgt := 94) C dX9_begin_87 (by decide) ?_
      refine r_callV (pc := 94) C (q _) iX0_restart ml_RX9_302 dX9_begin_94 (ci := 1) rfl rfl hC.1 rfl (by decide) rfl (by simp [cv, Value.category, va_rf]) (by omega) (by omega) (fun r94 S94 h94 => ?_)
      obtain ⟨rfl, e94⟩ := h94
      subst S94
      dsimp only [Option.toList, List.cons_append, List.nil_append]
      refine r_iconst (pc := 97) C (nI 1) dX9_begin_97 rfl ?_
      refine r_zret (pc := 98) C dX9_begin_98 rfl (by first | exact Or.inl rfl | exact Or.inr rfl | assumption) (by omega) (by omega) ?_
      exact ⟨rfl, f1, hF.tr cf_cput⟩
  refine r_iload_n (pc := 0) C dX9_begin_0 rfl ?_
  refine r_if_lt (pc := 1) (tgt := 34) C dX9_begin_1 (by decide) (fun c1 => ?_) (fun c1 => ?_)
  · exact absurd c1 (nI_pos (by omega))
  · refine r_iload_n (pc := 4) C dX9_begin_4 rfl ?_
    refine r_bipush (pc := 5) C (nI 8) dX9_begin_5 rfl ?_
    refine r_icmp_ge (pc := 7) (tgt := 34) C dX9_begin_7 (by decide) (fun c7 => ?_) (fun c7 => ?_)
    · exact absurd c7 (nI_ge hj (by omega))
    · refine r_iload_n (pc := 10) C dX9_begin_10 rfl ?_
      refine r_if_lt (pc := 11) (tgt := 34) C dX9_begin_11 (by decide) (fun c11 => ?_) (fun c11 => ?_)
      · exact absurd c11 (nI_pos (by omega))
      · refine r_iload_n (pc := 14) C dX9_begin_14 rfl ?_
        refine r_iconst (pc := 15) C (nI 2) dX9_begin_15 rfl ?_
        refine r_icmp_gt (pc := 16) (tgt := 34) C dX9_begin_16 (by decide) (fun c16 => ?_) (fun c16 => ?_)
        · exact absurd c16 (nI_nlt (by omega) (by omega))
        · refine r_iload_n (pc := 19) C dX9_begin_19 rfl ?_
          refine r_iconst (pc := 20) C (nI 2) dX9_begin_20 rfl ?_
          refine r_icmp_lt (pc := 21) (tgt := 34) C dX9_begin_21 (by decide) (fun c21 => ?_) (fun c21 => ?_)
          · exact absurd c21 (nI_nlt (by omega) (by omega))
          · refine r_iload_n (pc := 24) C dX9_begin_24 rfl ?_
            refine r_bipush (pc := 25) C (nI 8) dX9_begin_25 rfl ?_
            refine r_icmp_gt (pc := 27) (tgt := 34) C dX9_begin_27 (by decide) (fun c27 => ?_) (fun c27 => ?_)
            · exact absurd c27 (nI_nlt (by omega) (by omega))
            · refine r_iconst (pc := 30) C (nI 1) dX9_begin_30 rfl ?_
              refine r_goto (pc := 31) (tgt := 35) C dX9_begin_31 (by decide) ?_
              refine r_istore (pc := 35) C dX9_begin_35 (by decide) rfl ?_
              refine r_iload (pc := 37) C dX9_begin_37 rfl ?_
              refine r_if_ne (pc := 39) (tgt := 44) C dX9_begin_39 (by decide) (fun c39 => ?_) (fun c39 => ?_)
              · refine r_aload_n (pc := 44) C dX9_begin_44 rfl ?_
                refine r_getR (pc := 45) C dX9_begin_45 fx_RX9_63 hN.1.1 hN.2.1.2.2.2.2.2 ?_
                refine r_iload_n (pc := 48) C dX9_begin_48 rfl ?_
                refine r_aald (pc := 49) C dX9_begin_49 hP.1.1 (by decide) hP.1.2 (by first | assumption | exact vp_in_nI (by omega) (by omega)) (by first | exact nI_clamp (by omega) | rfl) ?_
                refine r_ifnonnull (pc := 50) (tgt := 70) C dX9_begin_50 (by decide) (fun a50 c50 => ?_) (fun c50 => ?_)
                · obtain ⟨co, hco⟩ : ∃ co, aR S 100 ch j = some co := ⟨_, c50⟩
                  have hC : CHO S F G co j := by
                    rcases hP.2.1 j hj with z | ⟨c, q1, -, q3⟩
                    · rw [z.1] at hco; cases hco
                    · rw [q1] at hco; cases hco; exact q3
                  refine r_widen C (k2 := 3) (n2 := 40) (by omega) (by omega) ?_
                  first
                    | exact r_lv C [(0, vr (some x)), (1, vi (nI j)), (2, vi (nI r)), (3, vi (nI k))] rfl (K70 S co hN hP.ex hco hC.1 hC.2.1.1 Ag.rf)
                    | (have A7 : Ag (fun f _ => 100 ≤ f ∧ f < 200) (fun f _ => 100 ≤ f ∧ f < 200) (fun r _ => r = 41 ∨ r = 44) S (putR S66 100 ch (va_up (aR S66 100 ch) j (some q58))) := (A6 _ _ _).tr (Ag.pr (by omega))
                       have C7 : Cf po [6] S (putR S66 100 ch (va_up (aR S66 100 ch) j (some q58))) := (A6 _ _ _).tr (Ag.pr (fun z => z (by decide)))
                       have r1 : rA (putR S66 100 ch (va_up (aR S66 100 ch) j (some q58))) 101 q58 = va := by unfold rA; rw [show sR (putR S66 100 ch (va_up (aR S66 100 ch) j (some q58))) 101 q58 = some va from p6.1.2.1]; rfl
                       have r2 : rA (putR S66 100 ch (va_up (aR S66 100 ch) j (some q58))) 102 q58 = wa := by unfold rA; rw [show sR (putR S66 100 ch (va_up (aR S66 100 ch) j (some q58))) 102 q58 = some wa from p6.1.2.2.1]; rfl
                       obtain ⟨X1, X2⟩ := hP.add (co := q58) hj A7 (by rw [aR_ps, p6.2.2.2.2]) hq58 (by rw [r1]; exact zva) (by rw [r2]; exact zwa)
                       exact r_lv C [(0, vr (some x)), (1, vi (nI j)), (2, vi (nI r)), (3, vi (nI k))] rfl (K70 _ q58 (hN.kp C7 (by decide)) X1 X2 (by rw [r1, r2]; exact p6.1) p6.2.1 C7))
                · refine r_aload_n (pc := 53) C dX9_begin_53 rfl ?_
                  refine r_getR (pc := 54) C dX9_begin_54 fx_RX9_63 hN.1.1 hN.2.1.2.2.2.2.2 ?_
                  refine r_iload_n (pc := 57) C dX9_begin_57 rfl ?_
                  refine r_new (pc := 58) C dX9_begin_58 (ci := 1) (n := 11) rfl kl_RX9_61 rfl (by omega) (by omega) (fun q58 hq58 => ?_)
                  have f1 : Cf po [] S (newO S q58 2) := (Fx.no hq58).ag
                  have hN1 := hN.kp f1 (by decide)
                  refine r_dup (pc := 61) C dX9_begin_61 rfl ?_
                  refine r_aload_n (pc := 62) C dX9_begin_62 rfl ?_
                  refine r_getI (pc := 63) C dX9_begin_63 fx_RX9_13 hN1.1.1 ?_
                  rw [hN1.1.2.2.1]
                  refine r_callI (pc := 66) C (cl_coinit (al := G 3) (sK_nos (S := S) (q := q58) (k := 2))) iX0_init ml_RX9_301 dX9_begin_66 rfl (by decide) rfl (by simp [cv, Value.category, va_rf]) (by omega) (by omega) (fun r66 S66 h66 => ?_)
                  obtain ⟨rfl, va, wa, hva, hwa, hne, e66⟩ := h66
                  dsimp only [Option.toList, List.cons_append, List.nil_append]
                  have n1 : q58 ≠ va := fun e => by rw [← e, sK_nos] at hva; cases hva
                  have n2 : q58 ≠ wa := fun e => by rw [← e, sK_nos] at hwa; cases hwa
                  have zva : sK S va = 0 := by rw [← sK_no (S := S) (q := q58) (k := 2) n1.symm]; exact hva
                  have zwa : sK S wa = 0 := by rw [← sK_no (S := S) (q := q58) (k := 2) n2.symm]; exact hwa
                  have kk : ∀ f, 100 ≤ f → f < 200 → ¬ (kf po f q58 ∉ [6]) := fun f f1 f2 z => z (by rw [kf_6 f1 f2]; decide)
                  have A6 : ∀ P R A : Nat → Nat → Prop, Ag P R A S S66 := fun P R A => by
                    rw [e66]
                    have a1 : Ag P R A S (setR (newA (setI (newO S q58 2) 100 q58 (G 3)) va 41 8) 101 q58 (some va)) := ((((Fx.no hq58).ag).iz hq58).naz hva).rz hq58
                    exact (a1.naz (by show sK (newA (setI (newO S q58 2) 100 q58 (G 3)) va 41 8) wa = 0; rw [sK_na hne.symm]; exact hwa)).rz hq58
                  have hchne : ch ≠ q58 ∧ ch ≠ va ∧ ch ≠ wa := ⟨ne_fr hq58 (by rw [hP.1.1]; decide), ne_fr zva (by rw [hP.1.1]; decide), ne_fr zwa (by rw [hP.1.1]; decide)⟩
                  have p6 : CO S66 q58 va wa ∧ sI S66 100 q58 = G 3 ∧ sK S66 ch = 100 ∧ sN S66 ch = 8 ∧ aR S66 100 ch = aR S 100 ch := by
                    have hA := A6 (fun _ _ => False) (fun _ _ => False) (fun _ _ => True)
                    have hx : sK S ch ≠ 0 := by rw [hP.1.1]; decide
                    refine ⟨?_, ?_, by rw [hA.k hx]; exact hP.1.1, by rw [hA.n hx]; exact hP.1.2, hA.ar hx trivial⟩
                    · rw [e66]
                      refine ⟨?_, ?_, sR_s, ⟨?_, ?_⟩, sK_nas (n := 8), sN_nas (k := 44)⟩
                      · show sK (newA (setR (newA (setI (newO S q58 2) 100 q58 (G 3)) va 41 8) 101 q58 (some va)) wa 44 8) q58 = 2
                        rw [sK_na n2]; show sK (newA (setI (newO S q58 2) 100 q58 (G 3)) va 41 8) q58 = 2; rw [sK_na n1]; exact sK_nos
                      · rw [sR_n (Or.inl (by decide))]; show sR (setR (newA (setI (newO S q58 2) 100 q58 (G 3)) va 41 8) 101 q58 (some va)) 101 q58 = _; exact sR_s
                      · show sK (newA (setR (newA (setI (newO S q58 2) 100 q58 (G 3)) va 41 8) 101 q58 (some va)) wa 44 8) va = 41
                        rw [sK_na hne]; exact sK_nas (n := 8)
                      · show sN (newA (setR (newA (setI (newO S q58 2) 100 q58 (G 3)) va 41 8) 101 q58 (some va)) wa 44 8) va = 8
                        rw [sN_na hne]; exact sN_nas (k := 41)
                    · rw [e66]
                      show sI (setI (newO S q58 2) 100 q58 (G 3)) 100 q58 = G 3
                      exact sI_s
                  clear e66
                  refine r_aast (pc := 69) C dX9_begin_69 p6.2.2.1 (by decide) (ci := 1) rfl rfl p6.1.1 p6.2.2.2.1 (vp_in_nI hj (by omega)) (nI_clamp (by omega)) ?_
                  refine r_widen C (k2 := 3) (n2 := 40) (by omega) (by omega) ?_
                  first
                    | exact r_lv C [(0, vr (some x)), (1, vi (nI j)), (2, vi (nI r)), (3, vi (nI k))] rfl (K70 S co hN hP.ex hco hC.1 hC.2.1.1 Ag.rf)
                    | (have A7 : Ag (fun f _ => 100 ≤ f ∧ f < 200) (fun f _ => 100 ≤ f ∧ f < 200) (fun r _ => r = 41 ∨ r = 44) S (putR S66 100 ch (va_up (aR S66 100 ch) j (some q58))) := (A6 _ _ _).tr (Ag.pr (by omega))
                       have C7 : Cf po [6] S (putR S66 100 ch (va_up (aR S66 100 ch) j (some q58))) := (A6 _ _ _).tr (Ag.pr (fun z => z (by decide)))
                       have r1 : rA (putR S66 100 ch (va_up (aR S66 100 ch) j (some q58))) 101 q58 = va := by unfold rA; rw [show sR (putR S66 100 ch (va_up (aR S66 100 ch) j (some q58))) 101 q58 = some va from p6.1.2.1]; rfl
                       have r2 : rA (putR S66 100 ch (va_up (aR S66 100 ch) j (some q58))) 102 q58 = wa := by unfold rA; rw [show sR (putR S66 100 ch (va_up (aR S66 100 ch) j (some q58))) 102 q58 = some wa from p6.1.2.2.1]; rfl
                       obtain ⟨X1, X2⟩ := hP.add (co := q58) hj A7 (by rw [aR_ps, p6.2.2.2.2]) hq58 (by rw [r1]; exact zva) (by rw [r2]; exact zwa)
                       exact r_lv C [(0, vr (some x)), (1, vi (nI j)), (2, vi (nI r)), (3, vi (nI k))] rfl (K70 _ q58 (hN.kp C7 (by decide)) X1 X2 (by rw [r1, r2]; exact p6.1) p6.2.1 C7))
              · exact absurd (show nI 1 = 0 from c39) (by decide)
end BeginC
