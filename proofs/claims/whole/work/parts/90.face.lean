/-! The class: feed, query, byteOf, unspent -/
theorem fB_b8 (v : Nat) : fB (b8 v) := by
  unfold fB b8
  generalize (nI v).toInt8 = y
  have h1 := Int8.le_toInt y
  have h2 := Int8.toInt_lt y
  show (decide (-128 ≤ y.toInt32) && decide (y.toInt32 ≤ 127)) = true
  have e1 : (-128 : Int32).toInt = -128 := by decide
  have e2 : (127 : Int32).toInt = 127 := by decide
  rw [Bool.and_eq_true, decide_eq_true_iff, decide_eq_true_iff, Int32.le_iff_toInt_le, Int32.le_iff_toInt_le, Int8.toInt_toInt32, e1, e2]
  omega
section Face
variable {l : Launch} {g : GG} {S S1 S' : hS} {po x pe tp dg go ch n h a : Nat} {T O : Nat → Nat} {M F : MM} {G : Nat → Int32} {X : Int64} {L L' : List Nat}
theorem af_at {f : Nat → Int32} {b : Int32} {i : Nat} : ∀ m, af f tp b m i = if tp ≤ i ∧ i < tp + m then b8 (by4 b (i - tp)) else f i
  | 0 => by rw [if_neg (by omega)]; rfl
  | m + 1 => by
    show upd (af f tp b m) (tp + m) (b8 (by4 b m)) i = _
    simp only [upd]
    by_cases e : i = tp + m
    · rw [if_pos e, if_pos (by omega), show i - tp = m by omega]
    · rw [if_neg e, af_at m]
      by_cases e2 : tp ≤ i ∧ i < tp + m
      · rw [if_pos e2, if_pos (by omega)]
      · rw [if_neg e2, if_neg (by omega)]
theorem fd_at {f : Nat → Int32} {b : Int32} {i : Nat} : ∀ m, fd f tp b m i = if tp ≤ i ∧ i < tp + m then nI (by4 b (i - tp)) else f i
  | 0 => by rw [if_neg (by omega)]; rfl
  | m + 1 => by
    show upd (fd f tp b m) (tp + m) (nI (by4 b m)) i = _
    simp only [upd]
    by_cases e : i = tp + m
    · rw [if_pos e, if_pos (by omega), show i - tp = m by omega]
    · rw [if_neg e, fd_at m]
      by_cases e2 : tp ≤ i ∧ i < tp + m
      · rw [if_pos e2, if_pos (by omega)]
      · rw [if_neg e2, if_neg (by omega)]
theorem CTp.len {tl : Nat} (hT : CTp S tp F G) (h8 : G 8 = nI tl) (ht : tl ≤ 128) : ∃ ba, TP S tp ba ∧ sI S 801 tp = nI tl ∧ (∀ i, i < tl → ∃ b, b < 256 ∧ aI S 21 ba i = b8 b ∧ F 7 i = nI b) ∧ ∀ i, i < 128 → fB (aI S 21 ba i) := by
  obtain ⟨ba, t2, h1, h2, h3, h4, h5, h6⟩ := hT
  have e : t2 = tl := nI_inj' (h4.symm.trans h8) (by omega) (by omega)
  subst e
  exact ⟨ba, h1, h2, h5, h6⟩
theorem cx_feedN {b : Int32} {tl : Nat} (hN : NB S x pe tp dg go po ch G) (hT : CTp S tp F G) (h8 : G 8 = nI tl) (h1 : 124 < tl) (h2 : tl ≤ 128) : Sp l g mX9_feed 0 0 [vr (some x), vi b] S (fun r S' => r = some (vi (bi false)) ∧ S' = S) := by
  obtain ⟨ba, hTP, ht, hb, hfb⟩ := hT.len h8 h2
  refine Sp.start (own := RX9) [(0, vr (some x)), (1, vi b)] (by decide +kernel) rfl rfl (Nat.le_of_ble_eq_true rfl) ?_
  intro J C
  refine r_aload_n (pc := 0) C dX9_feed_0 rfl ?_
  refine r_getR (pc := 1) C dX9_feed_1 fx_RX9_34 hN.1.1 hN.2.1.2.1 ?_
  refine r_iload_n (pc := 4) C dX9_feed_4 rfl ?_
  refine r_callV (pc := 5) C (cl_appendN hTP ht h1 h2) iX7_append ml_RX9_77 dX9_feed_5 (ci := 8) rfl rfl hTP.1 rfl (by decide) rfl (by simp [cv, Value.category, va_rf]) (by omega) (by omega) (fun r5 S5 h5 => ?_)
  obtain ⟨rfl, e5⟩ := h5
  subst S5
  dsimp only [Option.toList, List.cons_append, List.nil_append]
  refine r_zret (pc := 8) C dX9_feed_8 rfl (bi_01 false) (by omega) (by omega) ?_
  exact ⟨rfl, rfl⟩
theorem cx_feed {b : Int32} {tl : Nat} (hN : NB S x pe tp dg go po ch G) (hT : CTp S tp F G) (h8 : G 8 = nI tl) (h1 : tl ≤ 124) : Sp l g mX9_feed 0 0 [vr (some x), vi b] S (fun r S' => r = some (vi (bi true)) ∧ CTp S' tp (uk F 7 (fd (F 7) tl b 4)) (upd G 8 (nI (tl + 4))) ∧ Cf po [2] S S') := by
  obtain ⟨ba, hTP, ht, hb, hfb⟩ := hT.len h8 (by omega)
  refine Sp.start (own := RX9) [(0, vr (some x)), (1, vi b)] (by decide +kernel) rfl rfl (Nat.le_of_ble_eq_true rfl) ?_
  intro J C
  refine r_aload_n (pc := 0) C dX9_feed_0 rfl ?_
  refine r_getR (pc := 1) C dX9_feed_1 fx_RX9_34 hN.1.1 hN.2.1.2.1 ?_
  refine r_iload_n (pc := 4) C dX9_feed_4 rfl ?_
  refine r_callV (pc := 5) C (cl_append hTP ht h1) iX7_append ml_RX9_77 dX9_feed_5 (ci := 8) rfl rfl hTP.1 rfl (by decide) rfl (by simp [cv, Value.category, va_rf]) (by omega) (by omega) (fun r5 S5 h5 => ?_)
  obtain ⟨rfl, e5⟩ := h5
  subst S5
  dsimp only [Option.toList, List.cons_append, List.nil_append]
  refine r_zret (pc := 8) C dX9_feed_8 rfl (bi_01 true) (by omega) (by omega) ?_
  refine ⟨rfl, ⟨ba, tl + 4, hTP, tput_n, by omega, by simp [upd], fun i hi => ?_, fun i hi => ?_⟩, (Ag.pi (fun z => z (by decide))).tr (Ag.si (fun z => z (by rw [kf_2 (by omega) (by omega)]; decide)))⟩
  · rw [tput_f, uk_s, af_at, fd_at]
    by_cases e : tl ≤ i ∧ i < tl + 4
    · rw [if_pos e, if_pos e]
      exact ⟨_, Nat.mod_lt _ (by decide), rfl, rfl⟩
    · rw [if_neg e, if_neg e]
      exact hb i (by omega)
  · rw [tput_f, af_at]
    split
    · exact fB_b8 _
    · exact hfb i hi
theorem cx_query {id : Int32} (hN : NB S x pe tp dg go po ch G) (hC : CGr g S po go T O M G n h a) (hPI : PI M n h a) : Sp l g mX9_query 0 0 [vr (some x), vi id] S (fun r S' => r = some (vi (qry M n h id)) ∧ CGr g S' po go T O M G n h a ∧ Cf po [4] S S') := by
  have hI := hPI.1
  have hG := hI.1
  have hC1 := hC.1
  have hh := hG.2.1
  have hn := hG.1
  refine Sp.start (own := RX9) [(0, vr (some x)), (1, vi id)] (by decide +kernel) rfl rfl (Nat.le_of_ble_eq_true rfl) ?_
  intro J C
  cases e : fdo (M 10) id n with
  | none =>
    refine r_aload_n (pc := 0) C dX9_query_0 rfl ?_
    refine r_getR (pc := 1) C dX9_query_1 fx_RX9_50 hN.1.1 hN.2.1.2.2.2.1 ?_
    refine r_iload_n (pc := 4) C dX9_query_4 rfl ?_
    refine r_callV (pc := 5) C (cg_find hC1.pG hC1.pL.l0 hPI.2.1 hn) iX2_find ml_RX9_114 dX9_query_5 (ci := 3) rfl rfl hC1.pG.gk rfl (by decide) rfl (by simp [cv, Value.category, va_rf]) (by omega) (by omega) (fun r5 S5 h5 => ?_)
    obtain ⟨rfl, e5⟩ := h5
    subst S5
    dsimp only [Option.toList, List.cons_append, List.nil_append]
    rw [e, Option.map_none]
    refine r_astore_n (pc := 8) C dX9_query_8 (by decide) rfl ?_
    refine r_aload_n (pc := 9) C dX9_query_9 rfl ?_
    refine r_ifnull (pc := 10) (tgt := 20) C dX9_query_10 (by decide) (fun c10 => ?_) (fun a10 c10 => ?_)
    · refine r_iconst (pc := 20) C (-1) dX9_query_20 rfl ?_
      refine r_iret (pc := 21) C dX9_query_21 rfl (by omega) (by omega) ?_
      exact ⟨by unfold qry; rw [e], hC, Ag.rf⟩
    · cases c10
  | some t =>
    have ht := fdo_lt t e
    have hv := hPI.hv ht
    cases hb : hdB M h t with
    | false =>
      refine r_aload_n (pc := 0) C dX9_query_0 rfl ?_
      refine r_getR (pc := 1) C dX9_query_1 fx_RX9_50 hN.1.1 hN.2.1.2.2.2.1 ?_
      refine r_iload_n (pc := 4) C dX9_query_4 rfl ?_
      refine r_callV (pc := 5) C (cg_find hC1.pG hC1.pL.l0 hPI.2.1 hn) iX2_find ml_RX9_114 dX9_query_5 (ci := 3) rfl rfl hC1.pG.gk rfl (by decide) rfl (by simp [cv, Value.category, va_rf]) (by omega) (by omega) (fun r5 S5 h5 => ?_)
      obtain ⟨rfl, e5⟩ := h5
      subst S5
      dsimp only [Option.toList, List.cons_append, List.nil_append]
      rw [e, Option.map_some]
      refine r_astore_n (pc := 8) C dX9_query_8 (by decide) rfl ?_
      refine r_aload_n (pc := 9) C dX9_query_9 rfl ?_
      refine r_ifnull (pc := 10) (tgt := 20) C dX9_query_10 (by decide) (fun c10 => ?_) (fun a10 c10 => ?_)
      · cases c10
      · cases c10
        refine r_aload_n (pc := 13) C dX9_query_13 rfl ?_
        refine r_callV (pc := 14) C (cg_isHeld hC1.pG hC1.pH (by omega) ht) iX8_isHeld ml_RX9_133 dX9_query_14 (ci := 9) rfl rfl (hC1.pG.tk ht) rfl (by decide) rfl (by simp [cv, Value.category, va_rf]) (by omega) (by omega) (fun r14 S14 h14 => ?_)
        obtain ⟨rfl, e14⟩ := h14
        subst S14
        dsimp only [Option.toList, List.cons_append, List.nil_append]
        rw [hb]
        refine r_if_ne (pc := 17) (tgt := 22) C dX9_query_17 (by decide) (fun c17 => ?_) (fun c17 => ?_)
        · exact absurd rfl c17
        · refine r_iconst (pc := 20) C (-1) dX9_query_20 rfl ?_
          refine r_iret (pc := 21) C dX9_query_21 rfl (by omega) (by omega) ?_
          exact ⟨by simp only [qry, e]; rw [hv, hb]; rfl, hC, Ag.rf⟩
    | true =>
      refine r_aload_n (pc := 0) C dX9_query_0 rfl ?_
      refine r_getR (pc := 1) C dX9_query_1 fx_RX9_50 hN.1.1 hN.2.1.2.2.2.1 ?_
      refine r_iload_n (pc := 4) C dX9_query_4 rfl ?_
      refine r_callV (pc := 5) C (cg_find hC1.pG hC1.pL.l0 hPI.2.1 hn) iX2_find ml_RX9_114 dX9_query_5 (ci := 3) rfl rfl hC1.pG.gk rfl (by decide) rfl (by simp [cv, Value.category, va_rf]) (by omega) (by omega) (fun r5 S5 h5 => ?_)
      obtain ⟨rfl, e5⟩ := h5
      subst S5
      dsimp only [Option.toList, List.cons_append, List.nil_append]
      rw [e, Option.map_some]
      refine r_astore_n (pc := 8) C dX9_query_8 (by decide) rfl ?_
      refine r_aload_n (pc := 9) C dX9_query_9 rfl ?_
      refine r_ifnull (pc := 10) (tgt := 20) C dX9_query_10 (by decide) (fun c10 => ?_) (fun a10 c10 => ?_)
      · cases c10
      · cases c10
        refine r_aload_n (pc := 13) C dX9_query_13 rfl ?_
        refine r_callV (pc := 14) C (cg_isHeld hC1.pG hC1.pH (by omega) ht) iX8_isHeld ml_RX9_133 dX9_query_14 (ci := 9) rfl rfl (hC1.pG.tk ht) rfl (by decide) rfl (by simp [cv, Value.category, va_rf]) (by omega) (by omega) (fun r14 S14 h14 => ?_)
        obtain ⟨rfl, e14⟩ := h14
        subst S14
        dsimp only [Option.toList, List.cons_append, List.nil_append]
        rw [hb]
        refine r_if_ne (pc := 17) (tgt := 22) C dX9_query_17 (by decide) (fun c17 => ?_) (fun c17 => ?_)
        · refine r_aload_n (pc := 22) C dX9_query_22 rfl ?_
          refine r_getR (pc := 23) C dX9_query_23 fx_RX9_50 hN.1.1 hN.2.1.2.2.2.1 ?_
          refine r_callV (pc := 26) C (cg_markStrong hC1 hI.2.1 hG hI.2.2.2.1) iX2_markStrong ml_RX9_136 dX9_query_26 (ci := 3) rfl rfl hC1.pG.gk rfl (by decide) rfl (by simp [cv, Value.category, va_rf]) (by omega) (by omega) (fun r26 S26 h26 => ?_)
          obtain ⟨rfl, hC2, hg2, hm2⟩ := h26
          dsimp only [Option.toList, List.cons_append, List.nil_append]
          have hs : sI S26 914 (T t) = bi (stg M n h t) := by
            obtain ⟨j, hj, ej⟩ := hdB_iff.mp hb
            rw [← ej]
            exact hm2.1 j hj
          refine r_aload_n (pc := 29) C dX9_query_29 rfl ?_
          refine r_getI (pc := 30) C dX9_query_30 fx_RX9_139 (hC2.pG.tk ht) ?_
          rw [hs]
          refine r_if_eq (pc := 33) (tgt := 40) C dX9_query_33 (by decide) (fun c33 => ?_) (fun c33 => ?_)
          · refine r_iconst (pc := 40) C (nI 0) dX9_query_40 rfl ?_
            refine r_iret (pc := 41) C dX9_query_41 rfl (by omega) (by omega) ?_
            refine ⟨?_, ⟨hC2, by rw [hg2.i (by rw [hC1.pG.gk]; decide) (by unfold oP; omega)]; exact hC.2.1, by rw [hg2.i (by rw [hC1.pG.gk]; decide) (by unfold oP; omega)]; exact hC.2.2⟩, Cf.gr hg2⟩
            simp only [qry, e]
            rw [hv, hb, if_pos rfl]
            cases eb : stg M n h t <;> rw [eb] at c33 <;> first | rfl | exact absurd rfl c33 | exact absurd c33 (by decide)
          · refine r_iconst (pc := 36) C (nI 1) dX9_query_36 rfl ?_
            refine r_goto (pc := 37) (tgt := 41) C dX9_query_37 (by decide) ?_
            refine r_iret (pc := 41) C dX9_query_41 rfl (by omega) (by omega) ?_
            refine ⟨?_, ⟨hC2, by rw [hg2.i (by rw [hC1.pG.gk]; decide) (by unfold oP; omega)]; exact hC.2.1, by rw [hg2.i (by rw [hC1.pG.gk]; decide) (by unfold oP; omega)]; exact hC.2.2⟩, Cf.gr hg2⟩
            simp only [qry, e]
            rw [hv, hb, if_pos rfl]
            cases eb : stg M n h t <;> rw [eb] at c33 <;> first | rfl | exact absurd rfl c33 | exact absurd c33 (by decide)
        · exact absurd c17 (by decide)
theorem cx_unspent {id ix : Int32} (hN : NB S x pe tp dg go po ch G) (hC : CGr g S po go T O M G n h a) (hPI : PI M n h a) : Sp l g mX9_unspent 0 0 [vr (some x), vi id, vi ix] S (fun r S' => r = some (vi (unR M n h id ix)) ∧ S' = S) := by
  have hI := hPI.1
  have hG := hI.1
  have hC1 := hC.1
  have hn := hG.1
  refine Sp.start (own := RX9) [(0, vr (some x)), (1, vi id), (2, vi ix)] (by decide +kernel) rfl rfl (Nat.le_of_ble_eq_true rfl) ?_
  intro J C
  cases e : fdo (M 10) id n with
  | none =>
    refine r_aload_n (pc := 0) C dX9_unspent_0 rfl ?_
    refine r_getR (pc := 1) C dX9_unspent_1 fx_RX9_50 hN.1.1 hN.2.1.2.2.2.1 ?_
    refine r_iload_n (pc := 4) C dX9_unspent_4 rfl ?_
    refine r_callV (pc := 5) C (cg_find hC1.pG hC1.pL.l0 hPI.2.1 hn) iX2_find ml_RX9_114 dX9_unspent_5 (ci := 3) rfl rfl hC1.pG.gk rfl (by decide) rfl (by simp [cv, Value.category, va_rf]) (by omega) (by omega) (fun r5 S5 h5 => ?_)
    obtain ⟨rfl, e5⟩ := h5
    subst S5
    dsimp only [Option.toList, List.cons_append, List.nil_append]
    rw [e, Option.map_none]
    refine r_astore_n (pc := 8) C dX9_unspent_8 (by decide) rfl ?_
    refine r_aload_n (pc := 9) C dX9_unspent_9 rfl ?_
    refine r_ifnonnull (pc := 10) (tgt := 17) C dX9_unspent_10 (by decide) (fun a10 c10 => ?_) (fun c10 => ?_)
    · cases c10
    · refine r_iconst (pc := 13) C (nI 0) dX9_unspent_13 rfl ?_
      refine r_goto (pc := 14) (tgt := 22) C dX9_unspent_14 (by decide) ?_
      refine r_iret (pc := 22) C dX9_unspent_22 rfl (by omega) (by omega) ?_
      exact ⟨by unfold unR; rw [e], rfl⟩
  | some t =>
    have ht := fdo_lt t e
    have hv := hPI.hv ht
    have hun : unR M n h id ix = (match ixo M t ix with
      | none => nI 0
      | some i => if M 13 t = nI 3 ∧ acO M n h (onum t i) = none then amt (M 11) t i else nI 0) := by
      simp only [unR, e]
      rw [hv]
      cases hb : hdB M h t with
      | true => rfl
      | false =>
        have h3 : M 13 t ≠ nI 3 := fun q => by
          rcases (hPI.2.2.2.1 t ht hb).1 with q2 | q2 <;> rw [q] at q2 <;> exact absurd q2 (by decide)
        rw [if_neg (by decide)]
        cases ixo M t ix with
        | none => rfl
        | some i => show nI 0 = if M 13 t = nI 3 ∧ _ then _ else nI 0; rw [if_neg (fun q => h3 q.1)]
    refine r_aload_n (pc := 0) C dX9_unspent_0 rfl ?_
    refine r_getR (pc := 1) C dX9_unspent_1 fx_RX9_50 hN.1.1 hN.2.1.2.2.2.1 ?_
    refine r_iload_n (pc := 4) C dX9_unspent_4 rfl ?_
    refine r_callV (pc := 5) C (cg_find hC1.pG hC1.pL.l0 hPI.2.1 hn) iX2_find ml_RX9_114 dX9_unspent_5 (ci := 3) rfl rfl hC1.pG.gk rfl (by decide) rfl (by simp [cv, Value.category, va_rf]) (by omega) (by omega) (fun r5 S5 h5 => ?_)
    obtain ⟨rfl, e5⟩ := h5
    subst S5
    dsimp only [Option.toList, List.cons_append, List.nil_append]
    rw [e, Option.map_some]
    refine r_astore_n (pc := 8) C dX9_unspent_8 (by decide) rfl ?_
    refine r_aload_n (pc := 9) C dX9_unspent_9 rfl ?_
    refine r_ifnonnull (pc := 10) (tgt := 17) C dX9_unspent_10 (by decide) (fun a10 c10 => ?_) (fun c10 => ?_)
    · cases c10
      refine r_aload_n (pc := 17) C dX9_unspent_17 rfl ?_
      refine r_iload_n (pc := 18) C dX9_unspent_18 rfl ?_
      refine r_callV (pc := 19) C (cg_unspAt hC1.pG (hG.2.2.1 t ht) hC1.pT hC1.pO ht) iX8_unspentAt ml_RX9_298 dX9_unspent_19 (ci := 9) rfl rfl (hC1.pG.tk ht) rfl (by decide) rfl (by simp [cv, Value.category, va_rf]) (by omega) (by omega) (fun r19 S19 h19 => ?_)
      obtain ⟨rfl, e19⟩ := h19
      subst S19
      dsimp only [Option.toList, List.cons_append, List.nil_append]
      refine r_iret (pc := 22) C dX9_unspent_22 rfl (by omega) (by omega) ?_
      refine ⟨?_, rfl⟩
      rw [hun]
      cases ixo M t ix <;> rfl
    · cases c10
theorem cx_byteOf {id i : Int32} (hN : NB S x pe tp dg go po ch G) (hC : CGr g S po go T O M G n h a) (hPI : PI M n h a) : Sp l g mX9_byteOf 0 0 [vr (some x), vi id, vi i] S (fun r S' => r = some (vi (byR M n id i)) ∧ S' = S) := by
  have hI := hPI.1
  have hG := hI.1
  have hC1 := hC.1
  have hn := hG.1
  refine Sp.start (own := RX9) [(0, vr (some x)), (1, vi id), (2, vi i)] (by decide +kernel) rfl rfl (Nat.le_of_ble_eq_true rfl) ?_
  intro J C
  cases e : fdo (M 10) id n with
  | none =>
    refine r_aload_n (pc := 0) C dX9_byteOf_0 rfl ?_
    refine r_getR (pc := 1) C dX9_byteOf_1 fx_RX9_50 hN.1.1 hN.2.1.2.2.2.1 ?_
    refine r_iload_n (pc := 4) C dX9_byteOf_4 rfl ?_
    refine r_callV (pc := 5) C (cg_find hC1.pG hC1.pL.l0 hPI.2.1 hn) iX2_find ml_RX9_114 dX9_byteOf_5 (ci := 3) rfl rfl hC1.pG.gk rfl (by decide) rfl (by simp [cv, Value.category, va_rf]) (by omega) (by omega) (fun r5 S5 h5 => ?_)
    obtain ⟨rfl, e5⟩ := h5
    subst S5
    dsimp only [Option.toList, List.cons_append, List.nil_append]
    rw [e, Option.map_none]
    refine r_astore_n (pc := 8) C dX9_byteOf_8 (by decide) rfl ?_
    refine r_aload_n (pc := 9) C dX9_byteOf_9 rfl ?_
    refine r_ifnull (pc := 10) (tgt := 26) C dX9_byteOf_10 (by decide) (fun c10 => ?_) (fun a10 c10 => ?_)
    · refine r_iconst (pc := 26) C (-1) dX9_byteOf_26 rfl ?_
      refine r_iret (pc := 27) C dX9_byteOf_27 rfl (by omega) (by omega) ?_
      exact ⟨by unfold byR; rw [e], rfl⟩
    · cases c10
  | some t =>
    have ht := fdo_lt t e
    obtain ⟨r1, r2⟩ := (hC1.pG.t ht).2.1
    have hs := (hPI.2.2.1 t ht).2
    refine r_aload_n (pc := 0) C dX9_byteOf_0 rfl ?_
    refine r_getR (pc := 1) C dX9_byteOf_1 fx_RX9_50 hN.1.1 hN.2.1.2.2.2.1 ?_
    refine r_iload_n (pc := 4) C dX9_byteOf_4 rfl ?_
    refine r_callV (pc := 5) C (cg_find hC1.pG hC1.pL.l0 hPI.2.1 hn) iX2_find ml_RX9_114 dX9_byteOf_5 (ci := 3) rfl rfl hC1.pG.gk rfl (by decide) rfl (by simp [cv, Value.category, va_rf]) (by omega) (by omega) (fun r5 S5 h5 => ?_)
    obtain ⟨rfl, e5⟩ := h5
    subst S5
    dsimp only [Option.toList, List.cons_append, List.nil_append]
    rw [e, Option.map_some]
    refine r_astore_n (pc := 8) C dX9_byteOf_8 (by decide) rfl ?_
    refine r_aload_n (pc := 9) C dX9_byteOf_9 rfl ?_
    refine r_ifnull (pc := 10) (tgt := 26) C dX9_byteOf_10 (by decide) (fun c10 => ?_) (fun a10 c10 => ?_)
    · cases c10
    · cases c10
      refine r_iload_n (pc := 13) C dX9_byteOf_13 rfl ?_
      refine r_if_lt (pc := 14) (tgt := 26) C dX9_byteOf_14 (by decide) (fun c14 => ?_) (fun c14 => ?_)
      · refine r_iconst (pc := 26) C (-1) dX9_byteOf_26 rfl ?_
        refine r_iret (pc := 27) C dX9_byteOf_27 rfl (by omega) (by omega) ?_
        refine ⟨?_, rfl⟩
        simp only [byR, e]
        first
          | rw [if_pos (Or.inl c14)]
          | rw [if_pos (Or.inr (Int32.not_lt.mp c23))]
      · refine r_iload_n (pc := 17) C dX9_byteOf_17 rfl ?_
        refine r_aload_n (pc := 18) C dX9_byteOf_18 rfl ?_
        refine r_getR (pc := 19) C dX9_byteOf_19 fx_RX9_258 (hC1.pG.tk ht) r1.1 ?_
        refine r_alen (pc := 22) C dX9_byteOf_22 r1.2.1 (by first | decide | omega) ?_
        rw [r1.2.2]
        refine r_icmp_lt (pc := 23) (tgt := 28) C dX9_byteOf_23 (by decide) (fun c23 => ?_) (fun c23 => ?_)
        · obtain ⟨i', hi', rfl⟩ : ∃ i', i' < szN M t ∧ i = nI i' := by
            rcases pk_ix i (n := szN M t) (by omega) with q | q | q
            · exact absurd q c14
            · exact absurd c23 (Int32.not_lt.mpr q)
            · exact q
          refine r_aload_n (pc := 28) C dX9_byteOf_28 rfl ?_
          refine r_getR (pc := 29) C dX9_byteOf_29 fx_RX9_258 (hC1.pG.tk ht) r1.1 ?_
          refine r_iload_n (pc := 32) C dX9_byteOf_32 rfl ?_
          refine r_bald (pc := 33) C dX9_byteOf_33 r1.2.1 (by decide) r1.2.2 (by first | assumption | exact vp_in_nI (by omega) (by omega)) (by first | exact nI_clamp (by omega) | rfl) ?_
          refine r_sipush (pc := 34) C (nI 255) dX9_byteOf_34 rfl ?_
          refine r_iand (pc := 37) C dX9_byteOf_37 ?_
          refine r_iret (pc := 38) C dX9_byteOf_38 rfl (by omega) (by omega) ?_
          refine ⟨?_, rfl⟩
          simp only [byR, e]
          rw [if_neg (by rintro (q | q); exact c14 q; exact absurd c23 (Int32.not_lt.mpr q)), nI_clamp (by omega), ← r2 i' hi']
        · refine r_iconst (pc := 26) C (-1) dX9_byteOf_26 rfl ?_
          refine r_iret (pc := 27) C dX9_byteOf_27 rfl (by omega) (by omega) ?_
          refine ⟨?_, rfl⟩
          simp only [byR, e]
          first
            | rw [if_pos (Or.inl c14)]
            | rw [if_pos (Or.inr (Int32.not_lt.mp c23))]
end Face
