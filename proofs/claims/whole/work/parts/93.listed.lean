/-! The class: set, listed -/
section ListedC
variable {l : Launch} {g : GG} {S S1 S' : hS} {po x pe tp dg go ch n h a : Nat} {T O : Nat → Nat} {M F : MM} {G : Nat → Int32} {X : Int64} {L L' : List Nat}
theorem tpS_lt {f : Nat → Bool} : ∀ (k b j : Nat), tpS f k b = some j → j < k
  | 0, b, j, h => by cases h
  | k + 1, b, j, h => by
    simp only [tpS] at h
    split at h
    · split at h
      · cases h; omega
      · have := tpS_lt k _ j h; omega
    · have := tpS_lt k _ j h; omega
theorem cx_set {id ix w : Int32} {t i : Nat} (hN : NB S x pe tp dg go po ch G) (hC : CGr g S po go T O M G n h a) (hPI : PI M n h a) (e : fdo (M 10) id n = some t) (hb : hdB M h t = true) (hi : ixo M t ix = some i) (hw : ¬ (w < 0 ∨ nI 5 ≤ w)) : Sp l g mX9_set 0 0 [vr (some x), vi id, vi ix, vi w] S (fun r S' => r = some (vi (stV M n h (onum t i) w.toNatClampNeg)) ∧ S' = S) := by
  have hI := hPI.1
  have hG := hI.1
  have hC1 := hC.1
  have hn := hG.1
  have hh := hG.2.1
  have ht := fdo_lt t e
  have hi2 := (ixo_some hi (by have := (hG.2.2.1 t ht).2.2.2.1; omega)).2
  have hoV : oV M n (onum t i) := ⟨t, i, ht, hi2, rfl⟩
  have ho := hC1.pG.2.2.1 t i ht hi2
  obtain ⟨o1, o2, o3, o4⟩ := hC1.pO _ hoV
  have hlm : LA g S (rA S 401 (O (onum t i))) (108 + onum t i) (mem M n h (onum t i)).length (fun k => T ((mem M n h (onum t i)).getD k 0)) := by
    have q := hC1.pL.2.2.2 _ hoV
    have e4 : lad S po go O (4 + onum t i) = rA S 401 (O (onum t i)) := by
      unfold lad
      rw [if_neg (by omega), if_neg (by omega), if_neg (by omega), if_neg (by omega), show 4 + onum t i - 4 = onum t i by omega]
    rw [e4] at q
    exact q
  rcases pk_ix w (n := 5) (by omega) with h1 | h1 | ⟨j, hj, rfl⟩
  · exact absurd (Or.inl h1) hw
  · exact absurd (Or.inr h1) hw
  rw [nI_clamp (by omega)]
  refine Sp.start (own := RX9) [(0, vr (some x)), (1, vi id), (2, vi ix), (3, vi (nI j))] (by decide +kernel) rfl rfl (Nat.le_of_ble_eq_true rfl) ?_
  intro J C
  have K58 : J 58 [(5, vr (some (O (onum t i)))), (4, vr (some (T t))), (0, vr (some x)), (1, vi id), (2, vi ix), (3, vi (nI j))] [] S 0 0 := by
    have hj11 : j = 0 ∨ j = 1 ∨ j = 2 ∨ j = 3 ∨ j = 4 := by omega
    rcases hj11 with rfl | rfl | rfl | rfl | rfl
    · refine r_iload_n (pc := 58) C dX9_set_58 rfl ?_
      refine r_swIn (pc := 59) C dX9_set_59 (tgt := 92) (by decide) (by decide) (off := 33) rfl (by decide) ?_
      refine r_aload (pc := 92) C dX9_set_92 rfl ?_
      refine r_getR (pc := 94) C dX9_set_94 fx_RX9_269 ho.1 ho.2.2 ?_
      refine r_callV (pc := 97) C (ct_size hlm) iJx4a65c_size_8abf5 ml_RX9_152 dX9_set_97 (ci := 0) rfl rfl hlm.k rfl (by decide) rfl (by simp [cv, Value.category, va_rf]) (by omega) (by omega) (fun r97 S97 h97 => ?_)
      obtain ⟨rfl, e97⟩ := h97
      subst S97
      dsimp only [Option.toList, List.cons_append, List.nil_append]
      refine r_iret (pc := 100) C dX9_set_100 rfl (by omega) (by omega) ?_
      exact ⟨by rw [mem_len]; rfl, rfl⟩
    · refine r_iload_n (pc := 58) C dX9_set_58 rfl ?_
      refine r_swIn (pc := 59) C dX9_set_59 (tgt := 101) (by decide) (by decide) (off := 42) rfl (by decide) ?_
      refine r_aload (pc := 101) C dX9_set_101 rfl ?_
      refine r_getR (pc := 103) C dX9_set_103 fx_RX9_274 ho.1 o1 ?_
      refine r_callS (pc := 106) C (cx_idOr hC1.pG (hI.2.2.2.1 _ (oV.lt hG hoV)).2) iX9_idOrNone ml_RX9_277 dX9_set_106 rfl (by decide) rfl (by simp [cv, Value.category, va_rf]) (by omega) (by omega) (fun r106 S106 h106 => ?_)
      obtain ⟨rfl, e106⟩ := h106
      subst S106
      dsimp only [Option.toList, List.cons_append, List.nil_append]
      refine r_iret (pc := 109) C dX9_set_109 rfl (by omega) (by omega) ?_
      exact ⟨rfl, rfl⟩
    · refine r_iload_n (pc := 58) C dX9_set_58 rfl ?_
      refine r_swIn (pc := 59) C dX9_set_59 (tgt := 110) (by decide) (by decide) (off := 51) rfl (by decide) ?_
      refine r_aload (pc := 110) C dX9_set_110 rfl ?_
      refine r_getR (pc := 112) C dX9_set_112 fx_RX9_280 ho.1 o2 ?_
      refine r_callS (pc := 115) C (cx_idOr hC1.pG (hI.2.2.2.2.1 _ (oV.lt hG hoV)).2) iX9_idOrNone ml_RX9_277 dX9_set_115 rfl (by decide) rfl (by simp [cv, Value.category, va_rf]) (by omega) (by omega) (fun r115 S115 h115 => ?_)
      obtain ⟨rfl, e115⟩ := h115
      subst S115
      dsimp only [Option.toList, List.cons_append, List.nil_append]
      refine r_iret (pc := 118) C dX9_set_118 rfl (by omega) (by omega) ?_
      exact ⟨rfl, rfl⟩
    · refine r_iload_n (pc := 58) C dX9_set_58 rfl ?_
      refine r_swIn (pc := 59) C dX9_set_59 (tgt := 119) (by decide) (by decide) (off := 60) rfl (by decide) ?_
      refine r_aload (pc := 119) C dX9_set_119 rfl ?_
      refine r_getI (pc := 121) C dX9_set_121 fx_RX9_283 ho.1 ?_
      rw [o4]
      refine r_iret (pc := 124) C dX9_set_124 rfl (by omega) (by omega) ?_
      exact ⟨rfl, rfl⟩
    · refine r_iload_n (pc := 58) C dX9_set_58 rfl ?_
      refine r_swIn (pc := 59) C dX9_set_59 (tgt := 125) (by decide) (by decide) (off := 66) rfl (by decide) ?_
      refine r_aload (pc := 125) C dX9_set_125 rfl ?_
      refine r_getR (pc := 127) C dX9_set_127 fx_RX9_286 ho.1 o3 ?_
      refine r_callS (pc := 130) C (cx_idOr hC1.pG (acO_lt hG)) iX9_idOrNone ml_RX9_277 dX9_set_130 rfl (by decide) rfl (by simp [cv, Value.category, va_rf]) (by omega) (by omega) (fun r130 S130 h130 => ?_)
      obtain ⟨rfl, e130⟩ := h130
      subst S130
      dsimp only [Option.toList, List.cons_append, List.nil_append]
      refine r_iret (pc := 133) C dX9_set_133 rfl (by omega) (by omega) ?_
      exact ⟨rfl, rfl⟩
  refine r_aload_n (pc := 0) C dX9_set_0 rfl ?_
  refine r_getR (pc := 1) C dX9_set_1 fx_RX9_50 hN.1.1 hN.2.1.2.2.2.1 ?_
  refine r_iload_n (pc := 4) C dX9_set_4 rfl ?_
  refine r_callV (pc := 5) C (cg_find hC1.pG hC1.pL.l0 hPI.2.1 hn) iX2_find ml_RX9_114 dX9_set_5 (ci := 3) rfl rfl hC1.pG.gk rfl (by decide) rfl (by simp [cv, Value.category, va_rf]) (by omega) (by omega) (fun r5 S5 h5 => ?_)
  obtain ⟨rfl, e5⟩ := h5
  subst S5
  dsimp only [Option.toList, List.cons_append, List.nil_append]
  rw [e, Option.map_some]
  refine r_astore (pc := 8) C dX9_set_8 (by decide) rfl ?_
  refine r_aload (pc := 10) C dX9_set_10 rfl ?_
  refine r_ifnull (pc := 12) (tgt := 23) C dX9_set_12 (by decide) (fun c12 => ?_) (fun a12 c12 => ?_)
  · cases c12
  · cases c12
    refine r_aload (pc := 15) C dX9_set_15 rfl ?_
    refine r_callV (pc := 17) C (cg_isHeld hC1.pG hC1.pH (by omega) ht) iX8_isHeld ml_RX9_133 dX9_set_17 (ci := 9) rfl rfl (hC1.pG.tk ht) rfl (by decide) rfl (by simp [cv, Value.category, va_rf]) (by omega) (by omega) (fun r17 S17 h17 => ?_)
    obtain ⟨rfl, e17⟩ := h17
    subst S17
    dsimp only [Option.toList, List.cons_append, List.nil_append]
    rw [hb]
    refine r_if_ne (pc := 20) (tgt := 34) C dX9_set_20 (by decide) (fun c20 => ?_) (fun c20 => ?_)
    · refine r_aload (pc := 34) C dX9_set_34 rfl ?_
      refine r_iload_n (pc := 36) C dX9_set_36 rfl ?_
      refine r_callV (pc := 37) C (cg_outputAt hC1.pG (hG.2.2.1 t ht) ht) iX8_outputAt ml_RX9_263 dX9_set_37 (ci := 9) rfl rfl (hC1.pG.tk ht) rfl (by decide) rfl (by simp [cv, Value.category, va_rf]) (by omega) (by omega) (fun r37 S37 h37 => ?_)
      obtain ⟨rfl, e37⟩ := h37
      subst S37
      dsimp only [Option.toList, List.cons_append, List.nil_append]
      rw [hi, Option.map_some]
      refine r_astore (pc := 40) C dX9_set_40 (by decide) rfl ?_
      refine r_aload (pc := 42) C dX9_set_42 rfl ?_
      refine r_ifnonnull (pc := 44) (tgt := 58) C dX9_set_44 (by decide) (fun a44 c44 => ?_) (fun c44 => ?_)
      · cases c44
        exact K58
      · cases c44
    · exact absurd c20 (by decide)
theorem cx_listed {w i : Int32} (hN : NB S x pe tp dg go po ch G) (hC : CGr g S po go T O M G n h a) (hPI : PI M n h a) (hn65 : n ≤ 65) (ha : a ≤ 140) : Sp l g mX9_listed 0 0 [vr (some x), vi w, vi i] S (fun r S' => r = some (vi (lsR M n h a w i)) ∧ CGr g S' po go T O M G n h a ∧ Cf po [4] S S') := by
  have hI := hPI.1
  have hG := hI.1
  have hC1 := hC.1
  have hn := hG.1
  have hh := hG.2.1
  have hgr : ∀ S1, CG g S1 po go T O M n h a → GrF po S S1 → CGr g S1 po go T O M G n h a := fun S1 q hg2 => ⟨q, by rw [hg2.i (by rw [hC1.pG.gk]; decide) (by unfold oP; omega)]; exact hC.2.1, by rw [hg2.i (by rw [hC1.pG.gk]; decide) (by unfold oP; omega)]; exact hC.2.2⟩
  refine Sp.start (own := RX9) [(0, vr (some x)), (1, vi w), (2, vi i)] (by decide +kernel) rfl rfl (Nat.le_of_ble_eq_true rfl) ?_
  intro J C
  by_cases h0 : w < 0 ∨ nI 3 ≤ w
  · refine r_iload_n (pc := 0) C dX9_listed_0 rfl ?_
    refine r_swOut (pc := 1) C dX9_listed_1 (tgt := 61) (sw_out (k := 2) (by omega) h0) (by decide) ?_
    refine r_iconst (pc := 61) C (-1) dX9_listed_61 rfl ?_
    refine r_iret (pc := 62) C dX9_listed_62 rfl (by omega) (by omega) ?_
    refine ⟨?_, hC, Ag.rf⟩
    have w0 : ¬ w = 0 := fun q => by rw [q] at h0; exact absurd h0 (by decide)
    have w1 : ¬ w = nI 1 := fun q => by rw [q] at h0; exact absurd h0 (by decide)
    have w2 : ¬ w = nI 2 := fun q => by rw [q] at h0; exact absurd h0 (by decide)
    unfold lsR
    by_cases c : i < 0
    · rw [if_pos c]
    · rw [if_neg c, if_neg w0, if_neg w1, if_neg w2]
  · rcases pk_ix w (n := 3) (by omega) with h1 | h1 | ⟨j, hj, rfl⟩
    · exact absurd (Or.inl h1) h0
    · exact absurd (Or.inr h1) h0
    have hj3 : j = 0 ∨ j = 1 ∨ j = 2 := by omega
    rcases hj3 with rfl | rfl | rfl
    · have ev : (if i < 0 ∨ nI 4 ≤ i then none else (tpS (fun k => tipB M n h (hdN M k)) h i.toNatClampNeg).map (fun k => T (hdN M k))) = (if i < 0 ∨ nI 4 ≤ i then none else (tpS (fun k => tipB M n h (hdN M k)) h i.toNatClampNeg).map (hdN M)).map T := by
        split
        · rfl
        · rw [Option.map_map]; rfl
      refine r_iload_n (pc := 0) C dX9_listed_0 rfl ?_
      refine r_swIn (pc := 1) C dX9_listed_1 (tgt := 28) (by decide) (by decide) (off := 27) rfl (by decide) ?_
      refine r_aload_n (pc := 28) C dX9_listed_28 rfl ?_
      refine r_getR (pc := 29) C dX9_listed_29 fx_RX9_50 hN.1.1 hN.2.1.2.2.2.1 ?_
      refine r_iload_n (pc := 32) C dX9_listed_32 rfl ?_
      refine r_callV (pc := 33) C (cg_newParent hC1 hI.2.1 hG hI.2.2.2.1) iX2_newParent ml_RX9_289 dX9_listed_33 (ci := 3) rfl rfl hC1.pG.gk rfl (by decide) rfl (by simp [cv, Value.category, va_rf]) (by omega) (by omega) (fun r33 S33 h33 => ?_)
      obtain ⟨rfl, hC2, hg2⟩ := h33
      dsimp only [Option.toList, List.cons_append, List.nil_append]
      rw [ev]
      refine r_callS C (cx_idOr hC2.pG (fun t q => by
        split at q
        · cases q
        · obtain ⟨k, q1, q2⟩ := Option.map_eq_some_iff.mp q
          rw [← q2]
          exact hG.hn k (tpS_lt _ _ _ q1))) iX9_idOrNone ml_RX9_277 dX9_listed_36 rfl (by decide) rfl (by simp [cv, Value.category, va_rf]) (by omega) (by omega) (fun r36 S36 h36 => ?_)
      obtain ⟨rfl, e36⟩ := h36
      subst S36
      dsimp only [Option.toList, List.cons_append, List.nil_append]
      refine r_iret (pc := 39) C dX9_listed_39 rfl (by omega) (by omega) ?_
      refine ⟨?_, hgr _ hC2 hg2, Cf.gr hg2⟩
      unfold lsR
      by_cases c : i < 0
      · rw [if_pos (Or.inl c), if_pos c]; rfl
      · rw [if_neg c, if_pos (show nI 0 = 0 from rfl)]
        by_cases c2 : i < nI 4
        · rw [if_pos c2, if_neg (by rintro (q | q); exact c q; exact absurd c2 (Int32.not_lt.mpr q))]; rfl
        · rw [if_neg c2, if_pos (Or.inr (Int32.not_lt.mp c2))]; rfl
    · have ev : (if i < 0 ∨ nI a ≤ i then none else some (T (acN M i.toNatClampNeg))) = (if i < 0 ∨ nI a ≤ i then none else some (acN M i.toNatClampNeg)).map T := by split <;> rfl
      refine r_iload_n (pc := 0) C dX9_listed_0 rfl ?_
      refine r_swIn (pc := 1) C dX9_listed_1 (tgt := 40) (by decide) (by decide) (off := 39) rfl (by decide) ?_
      refine r_aload_n (pc := 40) C dX9_listed_40 rfl ?_
      refine r_getR (pc := 41) C dX9_listed_41 fx_RX9_50 hN.1.1 hN.2.1.2.2.2.1 ?_
      refine r_iload_n (pc := 44) C dX9_listed_44 rfl ?_
      refine r_callV (pc := 45) C (cg_accAt hC1.pG hC1.pL.l2 ha hI.2.2.2.2.2.1) iX2_acceptedAt ml_RX9_292 dX9_listed_45 (ci := 3) rfl rfl hC1.pG.gk rfl (by decide) rfl (by simp [cv, Value.category, va_rf]) (by omega) (by omega) (fun r45 S45 h45 => ?_)
      obtain ⟨rfl, e45⟩ := h45
      subst S45
      dsimp only [Option.toList, List.cons_append, List.nil_append]
      rw [ev]
      refine r_callS C (cx_idOr hC1.pG (fun t q => by
        split at q
        · cases q
        · next c =>
          cases q
          rcases pk_ix i (n := a) (by omega) with q1 | q1 | ⟨u, hu, rfl⟩
          · exact absurd (Or.inl q1) c
          · exact absurd (Or.inr q1) c
          · rw [nI_clamp (by omega)]; exact (hI.2.2.2.2.2.1 u hu).2)) iX9_idOrNone ml_RX9_277 dX9_listed_48 rfl (by decide) rfl (by simp [cv, Value.category, va_rf]) (by omega) (by omega) (fun r48 S48 h48 => ?_)
      obtain ⟨rfl, e48⟩ := h48
      subst S48
      dsimp only [Option.toList, List.cons_append, List.nil_append]
      refine r_iret (pc := 51) C dX9_listed_51 rfl (by omega) (by omega) ?_
      refine ⟨?_, hC, Ag.rf⟩
      unfold lsR
      by_cases c : i < 0
      · rw [if_pos (Or.inl c), if_pos c]; rfl
      · rw [if_neg c, if_neg (show ¬ nI 1 = 0 by decide), if_pos (show nI 1 = nI 1 from rfl)]
        by_cases c2 : i < nI a
        · rw [if_pos c2, if_neg (by rintro (q | q); exact c q; exact absurd c2 (Int32.not_lt.mpr q))]; rfl
        · rw [if_neg c2, if_pos (Or.inr (Int32.not_lt.mp c2))]; rfl
    · refine r_iload_n (pc := 0) C dX9_listed_0 rfl ?_
      refine r_swIn (pc := 1) C dX9_listed_1 (tgt := 52) (by decide) (by decide) (off := 51) rfl (by decide) ?_
      refine r_aload_n (pc := 52) C dX9_listed_52 rfl ?_
      refine r_getR (pc := 53) C dX9_listed_53 fx_RX9_50 hN.1.1 hN.2.1.2.2.2.1 ?_
      refine r_iload_n (pc := 56) C dX9_listed_56 rfl ?_
      refine r_callV (pc := 57) C (cg_missing hC1 hG hPI.2.1 hn65) iX2_missingParentId ml_RX9_295 dX9_listed_57 (ci := 3) rfl rfl hC1.pG.gk rfl (by decide) rfl (by simp [cv, Value.category, va_rf]) (by omega) (by omega) (fun r57 S57 h57 => ?_)
      obtain ⟨rfl, hC2, hg2⟩ := h57
      dsimp only [Option.toList, List.cons_append, List.nil_append]
      refine r_iret (pc := 60) C dX9_listed_60 rfl (by omega) (by omega) ?_
      refine ⟨?_, hgr _ hC2 hg2, Cf.gr hg2⟩
      unfold lsR
      rw [if_neg (show ¬ nI 2 = 0 by decide), if_neg (show ¬ nI 2 = nI 1 by decide), if_pos (show nI 2 = nI 2 from rfl)]
end ListedC
