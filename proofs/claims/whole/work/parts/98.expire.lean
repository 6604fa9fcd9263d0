/-! The class: expire, answer -/
section ExpireC
variable {l : Launch} {g : GG} {S S1 S' : hS} {po x pe tp dg go ch n h a k p pp t mi : Nat} {T O Pp : Nat → Nat} {M F : MM} {G : Nat → Int32} {X : Int64} {L Ls : List Nat}
theorem CPl.at (hP : CPl g S po T F k Ls Pp) {v : Int32} (hp : plc (F 25) v = some p) : p ∈ Ls ∧ ∃ i, i < Ls.length ∧ Ls.getD i 0 = p ∧ F 25 (Ls.getD i 0) = v := by
  obtain ⟨h1, h2, h3⟩ := plc_lt hp
  have hm := (hP.1.1 p h1).mpr (by rw [h2]; exact h3)
  obtain ⟨i, hi, e⟩ := gd_ix hm
  exact ⟨hm, i, hi, e, by rw [e]; exact h2⟩
theorem cx_expireN {v : Int32} (hN : NB S x pe tp dg go po ch G) (hP : CPl g S po T F k Ls Pp) (hu : Nu F) (hno : plc (F 25) v = none) : Sp l g mX9_expire 0 0 [vr (some x), vi v] S (fun r S' => r = some (vi (bi false)) ∧ S' = S) := by
  refine Sp.start (own := RX9) [(0, vr (some x)), (1, vi v)] (by decide +kernel) rfl rfl (Nat.le_of_ble_eq_true rfl) ?_
  intro J C
  refine r_aload_n (pc := 0) C dX9_expire_0 rfl ?_
  refine r_iload_n (pc := 1) C dX9_expire_1 rfl ?_
  refine r_callV (pc := 2) C (cx_findOpen hN hP hu hP.len) iX9_findOpenPoll ml_RX9_179 dX9_expire_2 (ci := 10) rfl rfl hN.1.1 rfl (by decide) rfl (by simp [cv, Value.category, va_rf]) (by omega) (by omega) (fun r2 S2 h2 => ?_)
  obtain ⟨rfl, e2⟩ := h2
  subst S2
  dsimp only [Option.toList, List.cons_append, List.nil_append]
  rw [hno, Option.map_none]
  refine r_astore_n (pc := 5) C dX9_expire_5 (by decide) rfl ?_
  refine r_aload_n (pc := 6) C dX9_expire_6 rfl ?_
  refine r_ifnonnull (pc := 7) (tgt := 12) C dX9_expire_7 (by decide) (fun a7 c7 => ?_) (fun c7 => ?_)
  · cases c7
  · refine r_iconst (pc := 10) C (nI 0) dX9_expire_10 rfl ?_
    refine r_zret (pc := 11) C dX9_expire_11 rfl (by first | exact Or.inl rfl | exact Or.inr rfl | assumption) (by omega) (by omega) ?_
    exact ⟨rfl, rfl⟩
/-- the graph learns, and the node keeps its betas -/
theorem CGr.cl {w : Bool} (hC : CGr g S po go T O M G n h a) (hq : CR g S1 po go T O (clo M n h t w (G 4) (G 5) a).1 n h (clo M n h t w (G 4) (G 5) a).2 (fun u => nI (conf (clo M n h t w (G 4) (G 5) a).1 n h u)) (acO (clo M n h t w (G 4) (G 5) a).1 n h) (mem (clo M n h t w (G 4) (G 5) a).1 n h)) (hg : GrF po S S1) : CGr g S1 po go T O (clo M n h t w (G 4) (G 5) a).1 G n h (clo M n h t w (G 4) (G 5) a).2 := ⟨hq, by rw [hg.i (by rw [hC.1.pG.gk]; decide) (by unfold oP; omega)]; exact hC.2.1, by rw [hg.i (by rw [hC.1.pG.gk]; decide) (by unfold oP; omega)]; exact hC.2.2⟩
theorem cx_expire {v : Int32} (hM : MIR g mi) (hN : NB S x pe tp dg go po ch G) (hC : CGr g S po go T O M G n h a) (hP : CPl g S po T F k Ls Pp) (hu : Nu F) (hI : IV M n h a) (hn : n ≤ 65) (hp : plc (F 25) v = some p) (h26 : F 26 p = nI t) (hd : hdB M h t = true) (hc : chitB M t = false) : Sp l g mX9_expire 65 6500 [vr (some x), vi v] S (fun r S' => r = some (vi (bi true)) ∧ (∃ Ls', CPl g S' po T (um F 25 p (-1)) k Ls' Pp) ∧ CGr g S' po go T O (clo M n h t false (G 4) (G 5) a).1 G n h (clo M n h t false (G 4) (G 5) a).2 ∧ Cf po [4, 5] S S') := by
  have hG := hI.1
  have ht := hdB_lt hG hd
  obtain ⟨hm, i0, hi0, ei, ev⟩ := hP.at hp
  have hq := hP.2.2.1 p hm
  obtain ⟨t2, q0, q1, q2⟩ := hq.2.2.1
  have et : t2 = t := nI_inj' (q2.symm.trans h26) (by omega) (by have := hG.1; omega)
  subst et
  refine Sp.start (own := RX9) [(0, vr (some x)), (1, vi v)] (by decide +kernel) rfl rfl (Nat.le_of_ble_eq_true rfl) ?_
  intro J C
  refine r_aload_n (pc := 0) C dX9_expire_0 rfl ?_
  refine r_iload_n (pc := 1) C dX9_expire_1 rfl ?_
  refine r_callV (pc := 2) C (cx_findOpen hN hP hu hP.len) iX9_findOpenPoll ml_RX9_179 dX9_expire_2 (ci := 10) rfl rfl hN.1.1 rfl (by decide) rfl (by simp [cv, Value.category, va_rf]) (by omega) (by omega) (fun r2 S2 h2 => ?_)
  obtain ⟨rfl, e2⟩ := h2
  subst S2
  dsimp only [Option.toList, List.cons_append, List.nil_append]
  rw [hp, Option.map_some]
  refine r_astore_n (pc := 5) C dX9_expire_5 (by decide) rfl ?_
  refine r_aload_n (pc := 6) C dX9_expire_6 rfl ?_
  refine r_ifnonnull (pc := 7) (tgt := 12) C dX9_expire_7 (by decide) (fun a7 c7 => ?_) (fun c7 => ?_)
  · cases c7
    refine r_aload_n (pc := 12) C dX9_expire_12 rfl ?_
    refine r_iload_n (pc := 13) C dX9_expire_13 rfl ?_
    refine r_callV (pc := 14) C (cx_drop hN hP hu hi0 ev) iX9_dropOpenPoll ml_RX9_217 dX9_expire_14 (ci := 10) rfl rfl hN.1.1 rfl (by decide) rfl (by simp [cv, Value.category, va_rf]) (by omega) (by omega) (fun r14 S14 h14 => ?_)
    obtain ⟨rfl, hP1, hA1⟩ := h14
    dsimp only [Option.toList, List.cons_append, List.nil_append]
    have hf1 : Cf po [5] S S14 := hA1.cf
    have hN1 := hN.kp hf1 (by decide)
    have hC1 := hC.kp hG hf1 (by decide)
    rw [ei] at hP1
    have hpk : sK S14 (Pp p) = 7 := by rw [hf1.k (by rw [hq.1.1]; decide)]; exact hq.1.1
    have hpr : sR S14 601 (Pp p) = some (T t2) := (hA1.2.2.2.1 601 (Pp p) (by omega)).trans q1
    refine r_aload_n (pc := 17) C dX9_expire_17 rfl ?_
    refine r_getR (pc := 18) C dX9_expire_18 fx_RX9_50 hN1.1.1 hN1.2.1.2.2.2.1 ?_
    refine r_aload_n (pc := 21) C dX9_expire_21 rfl ?_
    refine r_getR (pc := 22) C dX9_expire_22 fx_RX9_188 hpk hpr ?_
    refine r_iconst (pc := 25) C (nI 0) dX9_expire_25 rfl ?_
    refine r_callV (pc := 26) C (cg_learn (w := false) (b1 := G 4) (b2 := G 5) hM hn hC1.1 rfl rfl rfl hI ⟨hC1.2.1, hC1.2.2⟩ hd hc) iX2_learn ml_RX9_220 dX9_expire_26 (ci := 3) rfl rfl hC1.1.pG.gk rfl (by decide) rfl (by simp [cv, Value.category, va_rf]) (by omega) (by omega) (fun r26 S26 h26 => ?_)
    obtain ⟨rfl, hC2, hg2⟩ := h26
    dsimp only [Option.toList, List.cons_append, List.nil_append]
    refine r_iconst (pc := 29) C (nI 1) dX9_expire_29 rfl ?_
    refine r_zret (pc := 30) C dX9_expire_30 rfl (by first | exact Or.inl rfl | exact Or.inr rfl | assumption) (by omega) (by omega) ?_
    exact ⟨rfl, ⟨_, hP1.kp (Cf.gr hg2) (by decide)⟩, hC1.cl hC2 hg2, (hf1.up (by decide)).tr ((Cf.gr hg2).up (by decide))⟩
  · cases c7
theorem fstU_last {f : Nat → Bool} {k : Nat} (hu : ∀ i j, i < k → j < k → f i = true → f j = true → i = j) : fstU f k = lastU f k := by
  cases e : lastU f k with
  | none =>
    cases e2 : fstU f k with
    | none => rfl
    | some j =>
      obtain ⟨h1, h2, -⟩ := fstU_some e2
      rw [lastU_none e j h1] at h2
      cases h2
  | some i =>
    obtain ⟨h1, h2⟩ := lastU_lt e
    cases e2 : fstU f k with
    | none =>
      have := fstU_none.mp e2 i h1
      rw [h2] at this
      cases this
    | some j =>
      obtain ⟨h3, h4, -⟩ := fstU_some e2
      rw [hu i j h1 h3 h2 h4]
/-- the peers of a sample are apart -/
def Ds (F : MM) (k : Nat) : Prop := ∀ p, p < 6 → ¬ F 25 p < 0 → ∀ i j, i < k → j < k → F 27 (10 * p + i) = F 27 (10 * p + j) → i = j
theorem place_eq (hq : PL S T F k pp p) (hD : Ds F k) (hp6 : p < 6) (hp0 : ¬ F 25 p < 0) {y : Int32} : fstU (fun j => decide (aI S 39 (rA S 602 pp) j = y)) k = anJ F k (some p) y := by
  have e : ∀ j, j < k → decide (aI S 39 (rA S 602 pp) j = y) = decide (F 27 (10 * p + j) = y) := fun j hj => by rw [hq.2.2.2.1 j hj]
  rw [fstU_last (fun i j hi hj e1 e2 => by
    rw [e i hi] at e1
    rw [e j hj] at e2
    exact hD p hp6 hp0 i j hi hj ((of_decide_eq_true e1).trans (of_decide_eq_true e2).symm))]
  exact lastU_congr k e
theorem cx_answerT1 {v y : Int32} {w : Bool} (hl : l.stackTraces = false) (hN : NB S x pe tp dg go po ch G) (hP : CPl g S po T F k Ls Pp) (hu : Nu F) (hD : Ds F k) (hk : k ≤ 10) (hno : anJ F k (plc (F 25) v) y = none) : SpT l g mX9_answer 1 6 [vr (some x), vi v, vi y, vi (bi w)] S Ea (fun S' => S' = S) := by
  refine SpT.start (own := RX9) [(0, vr (some x)), (1, vi v), (2, vi y), (3, vi (bi w))] (by decide +kernel) rfl rfl (Nat.le_of_ble_eq_true rfl) ?_
  intro J CT
  have C := CT.cx
  cases hp : plc (F 25) v with
  | none =>
    refine r_aload_n (pc := 0) C dX9_answer_0 rfl ?_
    refine r_iload_n (pc := 1) C dX9_answer_1 rfl ?_
    refine r_callV (pc := 2) C (cx_findOpen hN hP hu hP.len) iX9_findOpenPoll ml_RX9_179 dX9_answer_2 (ci := 10) rfl rfl hN.1.1 rfl (by decide) rfl (by simp [cv, Value.category, va_rf]) (by omega) (by omega) (fun r2 S2 h2 => ?_)
    obtain ⟨rfl, e2⟩ := h2
    subst S2
    dsimp only [Option.toList, List.cons_append, List.nil_append]
    rw [hp, Option.map_none]
    refine r_astore (pc := 5) C dX9_answer_5 (by decide) rfl ?_
    refine r_aload (pc := 7) C dX9_answer_7 rfl ?_
    refine r_ifnonnull (pc := 9) (tgt := 22) C dX9_answer_9 (by decide) (fun a9 c9 => ?_) (fun c9 => ?_)
    · cases c9
    · exact r_throw (pc := 12) CT hl xc_a xs_185 dX9_answer_12 dX9_answer_15 dX9_answer_16 dX9_answer_18 dX9_answer_21 (by decide) (by decide) (by omega) (by omega) rfl
  | some p =>
    rw [hp] at hno
    have hm := (hP.at hp).1
    have hq := hP.2.2.1 p hm
    have hpl := place_eq hq hD (hP.1.2.2 p hm) ((hP.1.1 p (hP.1.2.2 p hm)).mp hm) (y := y)
    refine r_aload_n (pc := 0) C dX9_answer_0 rfl ?_
    refine r_iload_n (pc := 1) C dX9_answer_1 rfl ?_
    refine r_callV (pc := 2) C (cx_findOpen hN hP hu hP.len) iX9_findOpenPoll ml_RX9_179 dX9_answer_2 (ci := 10) rfl rfl hN.1.1 rfl (by decide) rfl (by simp [cv, Value.category, va_rf]) (by omega) (by omega) (fun r2 S2 h2 => ?_)
    obtain ⟨rfl, e2⟩ := h2
    subst S2
    dsimp only [Option.toList, List.cons_append, List.nil_append]
    rw [hp, Option.map_some]
    refine r_astore (pc := 5) C dX9_answer_5 (by decide) rfl ?_
    refine r_aload (pc := 7) C dX9_answer_7 rfl ?_
    refine r_ifnonnull (pc := 9) (tgt := 22) C dX9_answer_9 (by decide) (fun a9 c9 => ?_) (fun c9 => ?_)
    · cases c9
      refine r_aload (pc := 22) C dX9_answer_22 rfl ?_
      refine r_iload_n (pc := 24) C dX9_answer_24 rfl ?_
      refine r_callV (pc := 25) C (cl_place hq.1 hk) iX5_placeOf ml_RX9_198 dX9_answer_25 (ci := 6) rfl rfl hq.1.1 rfl (by decide) rfl (by simp [cv, Value.category, va_rf]) (by omega) (by omega) (fun r25 S25 h25 => ?_)
      obtain ⟨rfl, e25⟩ := h25
      subst S25
      dsimp only [Option.toList, List.cons_append, List.nil_append]
      rw [hpl, hno]
      refine r_istore (pc := 28) C dX9_answer_28 (by decide) rfl ?_
      refine r_iload (pc := 30) C dX9_answer_30 rfl ?_
      refine r_if_ge (pc := 32) (tgt := 45) C dX9_answer_32 (by decide) (fun c32 => ?_) (fun c32 => ?_)
      · exact absurd c32 (by decide)
      · exact r_throw (pc := 35) CT hl xc_a xs_202 dX9_answer_35 dX9_answer_38 dX9_answer_39 dX9_answer_41 dX9_answer_44 (by decide) (by decide) (by omega) (by omega) rfl
    · cases c9
theorem cx_answerT2 {v y : Int32} {w : Bool} {j : Nat} (hl : l.stackTraces = false) (hN : NB S x pe tp dg go po ch G) (hP : CPl g S po T F k Ls Pp) (hu : Nu F) (hD : Ds F k) (hk : k ≤ 10) (hp : plc (F 25) v = some p) (hj : anJ F k (some p) y = some j) (hsd : F 28 (10 * p + j) ≠ 0) : SpT l g mX9_answer 1 6 [vr (some x), vi v, vi y, vi (bi w)] S Es (fun S' => S' = S) := by
  have hm := (hP.at hp).1
  have hq := hP.2.2.1 p hm
  have hpl := place_eq hq hD (hP.1.2.2 p hm) ((hP.1.1 p (hP.1.2.2 p hm)).mp hm) (y := y)
  have hjk : j < k := (lastU_lt hj).1
  refine SpT.start (own := RX9) [(0, vr (some x)), (1, vi v), (2, vi y), (3, vi (bi w))] (by decide +kernel) rfl rfl (Nat.le_of_ble_eq_true rfl) ?_
  intro J CT
  have C := CT.cx
  refine r_aload_n (pc := 0) C dX9_answer_0 rfl ?_
  refine r_iload_n (pc := 1) C dX9_answer_1 rfl ?_
  refine r_callV (pc := 2) C (cx_findOpen hN hP hu hP.len) iX9_findOpenPoll ml_RX9_179 dX9_answer_2 (ci := 10) rfl rfl hN.1.1 rfl (by decide) rfl (by simp [cv, Value.category, va_rf]) (by omega) (by omega) (fun r2 S2 h2 => ?_)
  obtain ⟨rfl, e2⟩ := h2
  subst S2
  dsimp only [Option.toList, List.cons_append, List.nil_append]
  rw [hp, Option.map_some]
  refine r_astore (pc := 5) C dX9_answer_5 (by decide) rfl ?_
  refine r_aload (pc := 7) C dX9_answer_7 rfl ?_
  refine r_ifnonnull (pc := 9) (tgt := 22) C dX9_answer_9 (by decide) (fun a9 c9 => ?_) (fun c9 => ?_)
  · cases c9
    refine r_aload (pc := 22) C dX9_answer_22 rfl ?_
    refine r_iload_n (pc := 24) C dX9_answer_24 rfl ?_
    refine r_callV (pc := 25) C (cl_place hq.1 hk) iX5_placeOf ml_RX9_198 dX9_answer_25 (ci := 6) rfl rfl hq.1.1 rfl (by decide) rfl (by simp [cv, Value.category, va_rf]) (by omega) (by omega) (fun r25 S25 h25 => ?_)
    obtain ⟨rfl, e25⟩ := h25
    subst S25
    dsimp only [Option.toList, List.cons_append, List.nil_append]
    rw [hpl, hj]
    show J _ _ [vi (nI j)] _ _ _
    refine r_istore (pc := 28) C dX9_answer_28 (by decide) rfl ?_
    refine r_iload (pc := 30) C dX9_answer_30 rfl ?_
    refine r_if_ge (pc := 32) (tgt := 45) C dX9_answer_32 (by decide) (fun c32 => ?_) (fun c32 => ?_)
    · refine r_aload (pc := 45) C dX9_answer_45 rfl ?_
      refine r_getR (pc := 47) C dX9_answer_47 fx_RX9_204 hq.1.1 hq.1.2.2.1 ?_
      refine r_iload (pc := 50) C dX9_answer_50 rfl ?_
      refine r_zald (pc := 52) C dX9_answer_52 hq.1.2.2.2.2.1 (by decide) hq.1.2.2.2.2.2 (by first | assumption | exact vp_in_nI (by omega) (by omega)) (by first | exact nI_clamp (by omega) | rfl) ?_
      rw [hq.2.2.2.2.1 j hjk, decide_eq_false hsd]
      refine r_if_eq (pc := 53) (tgt := 66) C dX9_answer_53 (by decide) (fun c53 => ?_) (fun c53 => ?_)
      · exact absurd c53 (by decide)
      · exact r_throw (pc := 56) CT hl xc_s xs_208 dX9_answer_56 dX9_answer_59 dX9_answer_60 dX9_answer_62 dX9_answer_65 (by decide) (by decide) (by omega) (by omega) rfl
    · exact absurd (Int32.not_lt.mp (fun q => by rw [nI_neg (by omega)] at q; omega)) c32
  · cases c9
end ExpireC
