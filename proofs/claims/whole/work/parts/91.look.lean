/-! The class: look -/
section Look
variable {l : Launch} {g : GG} {S S1 S' : hS} {po x pe tp dg go ch n h a : Nat} {T O : Nat → Nat} {M F : MM} {G : Nat → Int32} {X : Int64} {L L' : List Nat}
theorem PI.conf0 (hPI : PI M n h a) {t : Nat} (ht : t < n) (hb : hdB M h t = false) : conf M n h t = 0 := by
  have hO := hPI.1.2.1
  rw [conf_eq hO]
  have : cntU (fun d => (decide (d = t) || (hdB M h d && anc M n h d t)) && chitB M d) n = cntU (fun _ => false) n := cntU_congr (fun d hd => by
    by_cases e : d = t
    · rw [e, (hPI.2.2.2.1 t ht hb).2, Bool.and_false]
    · rw [decide_eq_false e, Bool.false_or]
      cases c : hdB M h d with
      | false => rfl
      | true =>
        obtain ⟨k, hk, rfl⟩ := hdB_iff.mp c
        cases ca : anc M n h (hdN M k) t with
        | false => rfl
        | true =>
          obtain ⟨j, hj, e⟩ := anc_lt hO k hk _ ca
          have q : hdB M h t = true := hdB_iff.mpr ⟨j, by omega, e.symm⟩
          rw [hb] at q
          cases q)
  rw [this]
  exact cnt_z (fun _ => rfl) n
theorem cx_lookT {id w : Int32} (hl : l.stackTraces = false) (hN : NB S x pe tp dg go po ch G) (hw : w < 0 ∨ nI 10 ≤ w) : SpT l g mX9_look 1 6 [vr (some x), vi id, vi w] S Ei (fun S' => S' = S) := by
  refine SpT.start (own := RX9) [(0, vr (some x)), (1, vi id), (2, vi w)] (by decide +kernel) rfl rfl (Nat.le_of_ble_eq_true rfl) ?_
  intro J CT
  have C := CT.cx
  refine r_iload_n (pc := 0) C dX9_look_0 rfl ?_
  refine r_if_lt (pc := 1) (tgt := 10) C dX9_look_1 (by decide) (fun c1 => ?_) (fun c1 => ?_)
  · exact r_throw (pc := 10) CT hl xc_i xs_227 dX9_look_10 dX9_look_13 dX9_look_14 dX9_look_16 dX9_look_19 (by decide) (by decide) (by omega) (by omega) rfl
  · refine r_iload_n (pc := 4) C dX9_look_4 rfl ?_
    refine r_bipush (pc := 5) C (nI 9) dX9_look_5 rfl ?_
    refine r_icmp_le (pc := 7) (tgt := 20) C dX9_look_7 (by decide) (fun c7 => ?_) (fun c7 => ?_)
    · exact absurd c7 (bm_le (hw.resolve_left c1))
    · exact r_throw (pc := 10) CT hl xc_i xs_227 dX9_look_10 dX9_look_13 dX9_look_14 dX9_look_16 dX9_look_19 (by decide) (by decide) (by omega) (by omega) rfl
theorem cx_look {id w : Int32} (hN : NB S x pe tp dg go po ch G) (hC : CGr g S po go T O M G n h a) (hPI : PI M n h a) (hw : ¬ (w < 0 ∨ nI 10 ≤ w)) : Sp l g mX9_look 0 0 [vr (some x), vi id, vi w] S (fun r S' => r = some (vi (lkR M n h id w).2) ∧ S' = S) := by
  have hI := hPI.1
  have hG := hI.1
  have hC1 := hC.1
  have hn := hG.1
  have hh := hG.2.1
  have hnn : n < 2 ^ 31 := by omega
  rcases pk_ix w (n := 10) (by omega) with h1 | h1 | ⟨j, hj, rfl⟩
  · exact absurd (Or.inl h1) hw
  · exact absurd (Or.inr h1) hw
  have h9 : nI j ≤ nI 9 := nI_le (by omega) (by omega)
  refine Sp.start (own := RX9) [(0, vr (some x)), (1, vi id), (2, vi (nI j))] (by decide +kernel) rfl rfl (Nat.le_of_ble_eq_true rfl) ?_
  intro J C
  cases e : fdo (M 10) id n with
  | none =>
    refine r_iload_n (pc := 0) C dX9_look_0 rfl ?_
    refine r_if_lt (pc := 1) (tgt := 10) C dX9_look_1 (by decide) (fun c1 => ?_) (fun c1 => ?_)
    · exact absurd (Or.inl c1) hw
    · refine r_iload_n (pc := 4) C dX9_look_4 rfl ?_
      refine r_bipush (pc := 5) C (nI 9) dX9_look_5 rfl ?_
      refine r_icmp_le (pc := 7) (tgt := 20) C dX9_look_7 (by decide) (fun c7 => ?_) (fun c7 => ?_)
      · refine r_aload_n (pc := 20) C dX9_look_20 rfl ?_
        refine r_getR (pc := 21) C dX9_look_21 fx_RX9_50 hN.1.1 hN.2.1.2.2.2.1 ?_
        refine r_iload_n (pc := 24) C dX9_look_24 rfl ?_
        refine r_callV (pc := 25) C (cg_find hC1.pG hC1.pL.l0 hPI.2.1 hn) iX2_find ml_RX9_114 dX9_look_25 (ci := 3) rfl rfl hC1.pG.gk rfl (by decide) rfl (by simp [cv, Value.category, va_rf]) (by omega) (by omega) (fun r25 S25 h25 => ?_)
        obtain ⟨rfl, e25⟩ := h25
        subst S25
        dsimp only [Option.toList, List.cons_append, List.nil_append]
        rw [e, Option.map_none]
        refine r_astore_n (pc := 28) C dX9_look_28 (by decide) rfl ?_
        refine r_aload_n (pc := 29) C dX9_look_29 rfl ?_
        refine r_ifnonnull (pc := 30) (tgt := 35) C dX9_look_30 (by decide) (fun a30 c30 => ?_) (fun c30 => ?_)
        · cases c30
        · refine r_iconst (pc := 33) C (nI 0) dX9_look_33 rfl ?_
          refine r_iret (pc := 34) C dX9_look_34 rfl (by omega) (by omega) ?_
          exact ⟨by unfold lkR; rw [if_neg hw, e], rfl⟩
      · exact absurd h9 c7
  | some t =>
    have ht := fdo_lt t e
    have hv := hPI.hv ht
    obtain ⟨r1, r2⟩ := (hC1.pG.t ht).2.1
    obtain ⟨i2, i3, i4, ⟨i5, -⟩, -⟩ := (hC1.pG.t ht).2.2
    obtain ⟨s0, s1, s2, s3⟩ := hC1.pT t ht
    have q2 := i2.2.1
    have q3 := i3.2.1
    have hR : (lkR M n h id (nI j)).2 = lkV M n h t j := by
      unfold lkR
      rw [if_neg hw, e, nI_clamp (by omega)]
    have K35 : J 35 [(3, vr (some (T t))), (0, vr (some x)), (1, vi id), (2, vi (nI j))] [] S 0 0 := by
      have hj11 : j = 0 ∨ j = 1 ∨ j = 2 ∨ j = 3 ∨ j = 4 ∨ j = 5 ∨ j = 6 ∨ j = 7 ∨ j = 8 ∨ j = 9 := by omega
      rcases hj11 with rfl | rfl | rfl | rfl | rfl | rfl | rfl | rfl | rfl | rfl
      · refine r_iload_n (pc := 35) C dX9_look_35 rfl ?_
        refine r_swIn (pc := 36) C dX9_look_36 (tgt := 88) (by decide) (by decide) (off := 52) rfl (by decide) ?_
        refine r_aload_n (pc := 88) C dX9_look_88 rfl ?_
        refine r_getI (pc := 89) C dX9_look_89 fx_RX9_229 (hC1.pG.tk ht) ?_
        rw [s0]
        refine r_iret (pc := 92) C dX9_look_92 rfl (by omega) (by omega) ?_
        exact ⟨by rw [hR]; rfl, rfl⟩
      · refine r_iload_n (pc := 35) C dX9_look_35 rfl ?_
        refine r_swIn (pc := 36) C dX9_look_36 (tgt := 93) (by decide) (by decide) (off := 57) rfl (by decide) ?_
        refine r_aload_n (pc := 93) C dX9_look_93 rfl ?_
        refine r_getI (pc := 94) C dX9_look_94 fx_RX9_232 (hC1.pG.tk ht) ?_
        rw [s1]
        refine r_iret (pc := 97) C dX9_look_97 rfl (by omega) (by omega) ?_
        refine ⟨?_, rfl⟩
        rw [hR]
        show _ = some (vi (if _root_.Jvm.Pilot.CSnowNodeLaw_law_r5193_5b532e.hv M t then nI (conf M n h t) else nI 0))
        rw [hv]
        cases hb : hdB M h t with
        | true => rw [if_pos rfl]
        | false => rw [if_neg (by decide)]; show some (vi (nI (conf M n h t))) = _; rw [hPI.conf0 ht hb]
      · refine r_iload_n (pc := 35) C dX9_look_35 rfl ?_
        refine r_swIn (pc := 36) C dX9_look_36 (tgt := 98) (by decide) (by decide) (off := 62) rfl (by decide) ?_
        refine r_aload_n (pc := 98) C dX9_look_98 rfl ?_
        refine r_getI (pc := 99) C dX9_look_99 fx_RX9_235 (hC1.pG.tk ht) ?_
        rw [s2]
        refine r_if_eq (pc := 102) (tgt := 109) C dX9_look_102 (by decide) (fun c102 => ?_) (fun c102 => ?_)
        · refine r_iconst (pc := 109) C (nI 0) dX9_look_109 rfl ?_
          refine r_iret (pc := 110) C dX9_look_110 rfl (by omega) (by omega) ?_
          refine ⟨?_, rfl⟩
          rw [hR]
          show _ = some (vi (if _root_.Jvm.Pilot.CSnowNodeLaw_law_r5193_5b532e.hv M t then bi (chitB M t) else nI 0))
          rw [hv]
          have hc : chitB M t = !decide (M 14 t = 0) := rfl
          cases hb : hdB M h t with
          | true =>
            rw [if_pos rfl, hc]
            first | (rw [decide_eq_true c102]; rfl) | (rw [decide_eq_false c102]; rfl)
          | false =>
            have q := (hPI.2.2.2.1 t ht hb).2
            rw [hc] at q
            first | (rw [decide_eq_false c102] at q; cases q; done) | rfl
        · refine r_iconst (pc := 105) C (nI 1) dX9_look_105 rfl ?_
          refine r_goto (pc := 106) (tgt := 110) C dX9_look_106 (by decide) ?_
          refine r_iret (pc := 110) C dX9_look_110 rfl (by omega) (by omega) ?_
          refine ⟨?_, rfl⟩
          rw [hR]
          show _ = some (vi (if _root_.Jvm.Pilot.CSnowNodeLaw_law_r5193_5b532e.hv M t then bi (chitB M t) else nI 0))
          rw [hv]
          have hc : chitB M t = !decide (M 14 t = 0) := rfl
          cases hb : hdB M h t with
          | true =>
            rw [if_pos rfl, hc]
            first | (rw [decide_eq_true c102]; rfl) | (rw [decide_eq_false c102]; rfl)
          | false =>
            have q := (hPI.2.2.2.1 t ht hb).2
            rw [hc] at q
            first | (rw [decide_eq_false c102] at q; cases q; done) | rfl
      · refine r_iload_n (pc := 35) C dX9_look_35 rfl ?_
        refine r_swIn (pc := 36) C dX9_look_36 (tgt := 111) (by decide) (by decide) (off := 75) rfl (by decide) ?_
        refine r_aload_n (pc := 111) C dX9_look_111 rfl ?_
        refine r_callV (pc := 112) C (cg_isLiked hC1.pG hG hI.2.2.2.1 hC1.pO hC1.pH ht (fun q => (hC1.pst hG q).2)) iX8_isLiked ml_RX9_238 dX9_look_112 (ci := 9) rfl rfl (hC1.pG.tk ht) rfl (by decide) rfl (by simp [cv, Value.category, va_rf]) (by omega) (by omega) (fun r112 S112 h112 => ?_)
        obtain ⟨rfl, e112⟩ := h112
        subst S112
        dsimp only [Option.toList, List.cons_append, List.nil_append]
        refine r_if_eq (pc := 115) (tgt := 122) C dX9_look_115 (by decide) (fun c115 => ?_) (fun c115 => ?_)
        · refine r_iconst (pc := 122) C (nI 0) dX9_look_122 rfl ?_
          refine r_iret (pc := 123) C dX9_look_123 rfl (by omega) (by omega) ?_
          refine ⟨?_, rfl⟩
          rw [hR]
          show _ = some (vi (if _root_.Jvm.Pilot.CSnowNodeLaw_law_r5193_5b532e.hv M t then bi (liked M n t) else nI 0))
          rw [hv]
          cases hb : hdB M h t <;> cases hlk : liked M n t <;> rw [hb, hlk] at c115 <;> first | rfl | exact absurd rfl c115 | exact absurd c115 (by decide)
        · refine r_iconst (pc := 118) C (nI 1) dX9_look_118 rfl ?_
          refine r_goto (pc := 119) (tgt := 123) C dX9_look_119 (by decide) ?_
          refine r_iret (pc := 123) C dX9_look_123 rfl (by omega) (by omega) ?_
          refine ⟨?_, rfl⟩
          rw [hR]
          show _ = some (vi (if _root_.Jvm.Pilot.CSnowNodeLaw_law_r5193_5b532e.hv M t then bi (liked M n t) else nI 0))
          rw [hv]
          cases hb : hdB M h t <;> cases hlk : liked M n t <;> rw [hb, hlk] at c115 <;> first | rfl | exact absurd rfl c115 | exact absurd c115 (by decide)
      · refine r_iload_n (pc := 35) C dX9_look_35 rfl ?_
        refine r_swIn (pc := 36) C dX9_look_36 (tgt := 124) (by decide) (by decide) (off := 88) rfl (by decide) ?_
        refine r_aload_n (pc := 124) C dX9_look_124 rfl ?_
        refine r_callV (pc := 125) C (cg_cntAnc hC1 hI.2.1 hG ht) iX8_countAncestors ml_RX9_241 dX9_look_125 (ci := 9) rfl rfl (hC1.pG.tk ht) rfl (by decide) rfl (by simp [cv, Value.category, va_rf]) (by omega) (by omega) (fun r125 S125 h125 => ?_)
        obtain ⟨rfl, e125⟩ := h125
        subst S125
        dsimp only [Option.toList, List.cons_append, List.nil_append]
        refine r_iret (pc := 128) C dX9_look_128 rfl (by omega) (by omega) ?_
        refine ⟨?_, rfl⟩
        rw [hR]
        show _ = some (vi (if _root_.Jvm.Pilot.CSnowNodeLaw_law_r5193_5b532e.hv M t then nI (cntU (anc M n h t) n) else nI 0))
        rw [hv]
      · refine r_iload_n (pc := 35) C dX9_look_35 rfl ?_
        refine r_swIn (pc := 36) C dX9_look_36 (tgt := 129) (by decide) (by decide) (off := 93) rfl (by decide) ?_
        refine r_aload_n (pc := 129) C dX9_look_129 rfl ?_
        refine r_getR (pc := 130) C dX9_look_130 fx_RX9_50 hN.1.1 hN.2.1.2.2.2.1 ?_
        refine r_aload_n (pc := 133) C dX9_look_133 rfl ?_
        refine r_callV (pc := 134) C (cg_countDes hC1.pG hC1.pL.l1 hC1.pH hC1.pA (by omega) hG.hn ht) iX2_countDescendants ml_RX9_244 dX9_look_134 (ci := 3) rfl rfl hC1.pG.gk rfl (by decide) rfl (by simp [cv, Value.category, va_rf]) (by omega) (by omega) (fun r134 S134 h134 => ?_)
        obtain ⟨rfl, e134⟩ := h134
        subst S134
        dsimp only [Option.toList, List.cons_append, List.nil_append]
        refine r_iret (pc := 137) C dX9_look_137 rfl (by omega) (by omega) ?_
        refine ⟨?_, rfl⟩
        rw [hR]
        show _ = some (vi (if _root_.Jvm.Pilot.CSnowNodeLaw_law_r5193_5b532e.hv M t then nI (cntU (desL M n t h) n) - nI 1 else nI 0))
        rw [hv]
        cases hb : hdB M h t with
        | true =>
          obtain ⟨k, hk, rfl⟩ := hdB_iff.mp hb
          rw [if_pos rfl, cnt_des hI.2.1 hG.hn hk, ← nI_1, show nI 1 = (1 : Int32) from rfl, Int32.add_sub_cancel]
          rfl
        | false =>
          rw [if_neg (by decide)]
          rw [show cntU (fun k => false && anc M n h (hdN M k) t) h = 0 from cnt_z (fun _ => rfl) h]
      · refine r_iload_n (pc := 35) C dX9_look_35 rfl ?_
        refine r_swIn (pc := 36) C dX9_look_36 (tgt := 138) (by decide) (by decide) (off := 102) rfl (by decide) ?_
        refine r_aload_n (pc := 138) C dX9_look_138 rfl ?_
        refine r_getR (pc := 139) C dX9_look_139 fx_RX9_248 (hC1.pG.tk ht) i2.1 ?_
        refine r_alen (pc := 142) C dX9_look_142 rfl (by first | decide | omega) ?_
        rw [i2.2.2.1]
        refine r_iret (pc := 143) C dX9_look_143 rfl (by omega) (by omega) ?_
        exact ⟨by rw [hR]; rfl, rfl⟩
      · refine r_iload_n (pc := 35) C dX9_look_35 rfl ?_
        refine r_swIn (pc := 36) C dX9_look_36 (tgt := 144) (by decide) (by decide) (off := 108) rfl (by decide) ?_
        refine r_aload_n (pc := 144) C dX9_look_144 rfl ?_
        refine r_getR (pc := 145) C dX9_look_145 fx_RX9_251 (hC1.pG.tk ht) i3.1 ?_
        refine r_alen (pc := 148) C dX9_look_148 rfl (by first | decide | omega) ?_
        rw [i3.2.2.1]
        refine r_iret (pc := 149) C dX9_look_149 rfl (by omega) (by omega) ?_
        exact ⟨by rw [hR]; rfl, rfl⟩
      · refine r_iload_n (pc := 35) C dX9_look_35 rfl ?_
        refine r_swIn (pc := 36) C dX9_look_36 (tgt := 150) (by decide) (by decide) (off := 114) rfl (by decide) ?_
        refine r_aload_n (pc := 150) C dX9_look_150 rfl ?_
        refine r_getR (pc := 151) C dX9_look_151 fx_RX9_254 (hC1.pG.tk ht) i5.1 ?_
        refine r_alen (pc := 154) C dX9_look_154 i5.2.1 (by first | decide | omega) ?_
        rw [i5.2.2]
        refine r_iret (pc := 155) C dX9_look_155 rfl (by omega) (by omega) ?_
        exact ⟨by rw [hR]; rfl, rfl⟩
      · refine r_iload_n (pc := 35) C dX9_look_35 rfl ?_
        refine r_swOut (pc := 36) C dX9_look_36 (tgt := 156) (Or.inr (by decide)) (by decide) ?_
        refine r_aload_n (pc := 156) C dX9_look_156 rfl ?_
        refine r_getR (pc := 157) C dX9_look_157 fx_RX9_258 (hC1.pG.tk ht) r1.1 ?_
        refine r_alen (pc := 160) C dX9_look_160 r1.2.1 (by first | decide | omega) ?_
        rw [r1.2.2]
        refine r_iret (pc := 161) C dX9_look_161 rfl (by omega) (by omega) ?_
        exact ⟨by rw [hR]; show _ = some (vi (M 12 t)); rw [(hPI.2.2.1 t ht).1], rfl⟩
    refine r_iload_n (pc := 0) C dX9_look_0 rfl ?_
    refine r_if_lt (pc := 1) (tgt := 10) C dX9_look_1 (by decide) (fun c1 => ?_) (fun c1 => ?_)
    · exact absurd (Or.inl c1) hw
    · refine r_iload_n (pc := 4) C dX9_look_4 rfl ?_
      refine r_bipush (pc := 5) C (nI 9) dX9_look_5 rfl ?_
      refine r_icmp_le (pc := 7) (tgt := 20) C dX9_look_7 (by decide) (fun c7 => ?_) (fun c7 => ?_)
      · refine r_aload_n (pc := 20) C dX9_look_20 rfl ?_
        refine r_getR (pc := 21) C dX9_look_21 fx_RX9_50 hN.1.1 hN.2.1.2.2.2.1 ?_
        refine r_iload_n (pc := 24) C dX9_look_24 rfl ?_
        refine r_callV (pc := 25) C (cg_find hC1.pG hC1.pL.l0 hPI.2.1 hn) iX2_find ml_RX9_114 dX9_look_25 (ci := 3) rfl rfl hC1.pG.gk rfl (by decide) rfl (by simp [cv, Value.category, va_rf]) (by omega) (by omega) (fun r25 S25 h25 => ?_)
        obtain ⟨rfl, e25⟩ := h25
        subst S25
        dsimp only [Option.toList, List.cons_append, List.nil_append]
        rw [e, Option.map_some]
        refine r_astore_n (pc := 28) C dX9_look_28 (by decide) rfl ?_
        refine r_aload_n (pc := 29) C dX9_look_29 rfl ?_
        refine r_ifnonnull (pc := 30) (tgt := 35) C dX9_look_30 (by decide) (fun a30 c30 => ?_) (fun c30 => ?_)
        · cases c30
          exact K35
        · cases c30
      · exact absurd h9 c7
end Look
