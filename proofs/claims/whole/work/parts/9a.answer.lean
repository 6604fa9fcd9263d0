/-! The class: answer -/
section Answer2
variable {l : Launch} {g : GG} {S S1 S' : hS} {po x pe tp dg go ch n h a k p pp t mi j al mc ms : Nat} {T O Pp : Nat → Nat} {M F : MM} {G : Nat → Int32} {X : Int64} {L Ls : List Nat} {w : Bool} {v y : Int32} {Post : Option AV → hS → Prop} {J : JJ}
theorem an_pre (C : Cx l g mX9_answer mc ms RX9 Post J) (hN : NB S x pe tp dg go po ch G) (hP : CPl g S po T F k Ls Pp) (hu : Nu F) (hD : Ds F k) (hk : k ≤ 10) (hp : plc (F 25) v = some p) (hj : anJ F k (some p) y = some j) (hsd : F 28 (10 * p + j) = 0)
    (kk : ∀ S1, CPl g S1 po T (anF F p j w) k Ls Pp → Cf po [5] S S1 → J 74 [(5, vi (nI j)), (4, vr (some (Pp p))), (0, vr (some x)), (1, vi v), (2, vi y), (3, vi (bi w))] [] S1 0 0) : J 0 [(0, vr (some x)), (1, vi v), (2, vi y), (3, vi (bi w))] [] S 0 0 := by
  have hm := (hP.at hp).1
  have hq := hP.2.2.1 p hm
  have hpl := place_eq hq hD (hP.1.2.2 p hm) ((hP.1.1 p (hP.1.2.2 p hm)).mp hm) (y := y)
  have hjk : j < k := (lastU_lt hj).1
  refine r_aload_n (pc := 0) C dX9_answer_0 rfl ?_
  refine r_iload_n (pc := 1) C dX9_answer_1 rfl ?_
  refine r_callV (pc := 2) C (cx_findOpen hN hP hu hP.len) iX9_findOpenPoll ml_RX9_179 dX9_answer_2 (ci := 10) rfl rfl hN.1.1 rfl (by decide) rfl (by simp [cv, Value.category, va_rf]) (by omega) (by omega) (fun r2 S2 h2 => ?_)
  obtain ⟨rfl, e2⟩ := h2
  subst S2
  dsimp only [Option.toList, List.cons_append, List.nil_append]
  rw [hp, Option.map_some]
  refine r_astore (pc := 5) C dX9_answer_5 (by decide) rfl ?_
  refine r_aload (pc := 7) C dX9_answer_7 rfl ?_
  refine r_ifnonnull (pc := 9) (tgt := 22) C dX9_answer_9 (by decide) (fun a9 c9 => ?_) (fun c9 => ?_)
  · cases c9
    refine r_aload (pc := 22) C dX9_answer_22 rfl ?_
    refine r_iload_n (pc := 24) C dX9_answer_24 rfl ?_
    refine r_callV (pc := 25) C (cl_place hq.1 hk) iX5_placeOf ml_RX9_198 dX9_answer_25 (ci := 6) rfl rfl hq.1.1 rfl (by decide) rfl (by simp [cv, Value.category, va_rf]) (by omega) (by omega) (fun r25 S25 h25 => ?_)
    obtain ⟨rfl, e25⟩ := h25
    subst S25
    dsimp only [Option.toList, List.cons_append, List.nil_append]
    rw [hpl, hj]
    show J _ _ [vi (nI j)] _ _ _
    refine r_istore (pc := 28) C dX9_answer_28 (by decide) rfl ?_
    refine r_iload (pc := 30) C dX9_answer_30 rfl ?_
    refine r_if_ge (pc := 32) (tgt := 45) C dX9_answer_32 (by decide) (fun c32 => ?_) (fun c32 => ?_)
    · refine r_aload (pc := 45) C dX9_answer_45 rfl ?_
      refine r_getR (pc := 47) C dX9_answer_47 fx_RX9_204 hq.1.1 hq.1.2.2.1 ?_
      refine r_iload (pc := 50) C dX9_answer_50 rfl ?_
      refine r_zald (pc := 52) C dX9_answer_52 hq.1.2.2.2.2.1 (by decide) hq.1.2.2.2.2.2 (by first | assumption | exact vp_in_nI (by omega) (by omega)) (by first | exact nI_clamp (by omega) | rfl) ?_
      rw [hq.2.2.2.2.1 j hjk, decide_eq_true hsd]
      refine r_if_eq (pc := 53) (tgt := 66) C dX9_answer_53 (by decide) (fun c53 => ?_) (fun c53 => ?_)
      · refine r_aload (pc := 66) C dX9_answer_66 rfl ?_
        refine r_iload (pc := 68) C dX9_answer_68 rfl ?_
        refine r_iload_n (pc := 70) C dX9_answer_70 rfl ?_
        refine r_callV (pc := 71) C (cx_record (w := w) hP hm hjk hk hsd) iX5_record ml_RX9_210 dX9_answer_71 (ci := 6) rfl rfl hq.1.1 rfl (by decide) rfl (by simp [cv, Value.category, va_rf]) (by omega) (by omega) (fun r71 S71 h71 => ?_)
        obtain ⟨rfl, hP1, hf1⟩ := h71
        dsimp only [Option.toList, List.cons_append, List.nil_append]
        exact kk S71 hP1 hf1
      · exact absurd rfl c53
    · exact absurd (Int32.not_lt.mp (fun q => by rw [nI_neg (by omega)] at q; omega)) c32
  · cases c9
theorem an_le (hj : j < k) (hsd : F 28 (10 * p + j) = 0) (hY : sdn (F 28) p k (nI 1) < al) : sdn (anF F p j w 28) p k (nI 1) ≤ al := by
  rw [anF_28, sdn_s hj hsd (by decide)]
  split <;> omega
theorem sdn_le {f : Nat → Int32} {u : Int32} : sdn f p k u ≤ k := cntU_le
theorem nI_sb (h : al ≤ k) (hk : k ≤ 10) : nI k - nI al = nI (k - al) := by
  rw [show k = (k - al) + al by omega, ← nI_add, Int32.add_sub_cancel, show k - al + al - al = k - al by omega]
theorem cx_answer0 (hN : NB S x pe tp dg go po ch G) (hP : CPl g S po T F k Ls Pp) (hu : Nu F) (hD : Ds F k) (hk : k ≤ 10) (hkG : G 2 = nI k) (hal : G 3 = nI al) (hal2 : al ≤ k) (hp : plc (F 25) v = some p) (hj : anJ F k (some p) y = some j) (hsd : F 28 (10 * p + j) = 0) (hY : sdn (F 28) p k (nI 1) < al) (hE : anE F p j w k al = false) : Sp l g mX9_answer 0 0 [vr (some x), vi v, vi y, vi (bi w)] S (fun r S' => r = some (vi (nI 0)) ∧ CPl g S' po T (anF F p j w) k Ls Pp ∧ Cf po [5] S S') := by
  have hm := (hP.at hp).1
  have hjk : j < k := (lastU_lt hj).1
  have hle := an_le (w := w) hjk hsd hY
  unfold anE at hE
  rw [Bool.or_eq_false_iff] at hE
  have e1 : sdn (anF F p j w 28) p k (nI 1) < al := by have := of_decide_eq_false hE.1; omega
  have e2 : sdn (anF F p j w 28) p k (nI 2) ≤ k - al := by have := of_decide_eq_false hE.2; omega
  refine Sp.start (own := RX9) [(0, vr (some x)), (1, vi v), (2, vi y), (3, vi (bi w))] (by decide +kernel) rfl rfl (Nat.le_of_ble_eq_true rfl) ?_
  intro J C
  refine an_pre C hN hP hu hD hk hp hj hsd ?_
  intro S1 hP1 hf1
  have hN1 := hN.kp hf1 (by decide)
  have hq := hP1.2.2.1 p hm
  refine r_aload (pc := 74) C dX9_answer_74 rfl ?_
  refine r_getI (pc := 76) C dX9_answer_76 fx_RX9_214 hq.1.1 ?_
  rw [hq.2.2.2.2.2.1]
  refine r_aload_n (pc := 79) C dX9_answer_79 rfl ?_
  refine r_getI (pc := 80) C dX9_answer_80 fx_RX9_13 hN1.1.1 ?_
  rw [hN1.1.2.2.1, hal]
  refine r_icmp_lt (pc := 83) (tgt := 116) C dX9_answer_83 (by decide) (fun c83 => ?_) (fun c83 => ?_)
  · refine r_aload (pc := 116) C dX9_answer_116 rfl ?_
    refine r_getI (pc := 118) C dX9_answer_118 fx_RX9_224 hq.1.1 ?_
    rw [hq.2.2.2.2.2.2]
    refine r_aload_n (pc := 121) C dX9_answer_121 rfl ?_
    refine r_getI (pc := 122) C dX9_answer_122 fx_RX9_7 hN1.1.1 ?_
    rw [hN1.1.2.1, hkG]
    refine r_aload_n (pc := 125) C dX9_answer_125 rfl ?_
    refine r_getI (pc := 126) C dX9_answer_126 fx_RX9_13 hN1.1.1 ?_
    rw [hN1.1.2.2.1, hal]
    refine r_isub (pc := 129) C dX9_answer_129 ?_
    rw [nI_sb hal2 hk]
    refine r_icmp_le (pc := 130) (tgt := 153) C dX9_answer_130 (by decide) (fun c130 => ?_) (fun c130 => ?_)
    · refine r_iconst (pc := 153) C (nI 0) dX9_answer_153 rfl ?_
      refine r_iret (pc := 154) C dX9_answer_154 rfl (by omega) (by omega) ?_
      exact ⟨rfl, hP1, hf1⟩
    · exact absurd (nI_le e2 (by omega)) c130
  · exact absurd (nI_lt e1 (by omega)) c83
theorem cx_answerL (hM : MIR g mi) (hN : NB S x pe tp dg go po ch G) (hC : CGr g S po go T O M G n h a) (hI : IV M n h a) (hn : n ≤ 65) (hP : CPl g S po T F k Ls Pp) (hu : Nu F) (hD : Ds F k) (hk : k ≤ 10) (hkG : G 2 = nI k) (hal : G 3 = nI al) (hal2 : al ≤ k) (hp : plc (F 25) v = some p) (hj : anJ F k (some p) y = some j) (hsd : F 28 (10 * p + j) = 0) (hY : sdn (F 28) p k (nI 1) < al) (hE : anE F p j w k al = true) (hW : anW F p j w k al = false) (h26 : F 26 p = nI t) (hd : hdB M h t = true) (hc : chitB M t = false) : Sp l g mX9_answer 65 6500 [vr (some x), vi v, vi y, vi (bi w)] S (fun r S' => r = some (vi (nI 2)) ∧ (∃ Ls', CPl g S' po T (um (anF F p j w) 25 p (-1)) k Ls' Pp) ∧ CGr g S' po go T O (clo M n h t false (G 4) (G 5) a).1 G n h (clo M n h t false (G 4) (G 5) a).2 ∧ Cf po [4, 5] S S') := by
  have hG := hI.1
  have ht := hdB_lt hG hd
  have hm := (hP.at hp).1
  have hjk : j < k := (lastU_lt hj).1
  have hle := an_le (w := w) hjk hsd hY
  unfold anE at hE
  rw [hW, Bool.false_or] at hE
  have e1 : sdn (anF F p j w 28) p k (nI 1) < al := by have := of_decide_eq_false hW; omega
  have e2 : k - al < sdn (anF F p j w 28) p k (nI 2) := of_decide_eq_true hE
  have e3 := sdn_le (f := anF F p j w 28) (p := p) (k := k) (u := nI 2)
  refine Sp.start (own := RX9) [(0, vr (some x)), (1, vi v), (2, vi y), (3, vi (bi w))] (by decide +kernel) rfl rfl (Nat.le_of_ble_eq_true rfl) ?_
  intro J C
  refine an_pre C hN hP hu hD hk hp hj hsd ?_
  intro S1 hP1 hf1
  have hN1 := hN.kp hf1 (by decide)
  have hq := hP1.2.2.1 p hm
  have hu1 : Nu (anF F p j w) := by
    unfold Nu
    rw [anF_n (show 25 ≠ 28 by decide)]
    exact hu
  have hp1 : plc (anF F p j w 25) v = some p := by rw [anF_n (show 25 ≠ 28 by decide)]; exact hp
  obtain ⟨-, i0, hi0, ei, ev⟩ := hP1.at hp1
  obtain ⟨t2, q0, q1, q2⟩ := hq.2.2.1
  rw [anF_n (show 26 ≠ 28 by decide)] at q2
  have et : t2 = t := nI_inj' (q2.symm.trans h26) (by omega) (by have := hG.1; omega)
  subst et
  refine r_aload (pc := 74) C dX9_answer_74 rfl ?_
  refine r_getI (pc := 76) C dX9_answer_76 fx_RX9_214 hq.1.1 ?_
  rw [hq.2.2.2.2.2.1]
  refine r_aload_n (pc := 79) C dX9_answer_79 rfl ?_
  refine r_getI (pc := 80) C dX9_answer_80 fx_RX9_13 hN1.1.1 ?_
  rw [hN1.1.2.2.1, hal]
  refine r_icmp_lt (pc := 83) (tgt := 116) C dX9_answer_83 (by decide) (fun c83 => ?_) (fun c83 => ?_)
  · refine r_aload (pc := 116) C dX9_answer_116 rfl ?_
    refine r_getI (pc := 118) C dX9_answer_118 fx_RX9_224 hq.1.1 ?_
    rw [hq.2.2.2.2.2.2]
    refine r_aload_n (pc := 121) C dX9_answer_121 rfl ?_
    refine r_getI (pc := 122) C dX9_answer_122 fx_RX9_7 hN1.1.1 ?_
    rw [hN1.1.2.1, hkG]
    refine r_aload_n (pc := 125) C dX9_answer_125 rfl ?_
    refine r_getI (pc := 126) C dX9_answer_126 fx_RX9_13 hN1.1.1 ?_
    rw [hN1.1.2.2.1, hal]
    refine r_isub (pc := 129) C dX9_answer_129 ?_
    rw [nI_sb hal2 hk]
    refine r_icmp_le (pc := 130) (tgt := 153) C dX9_answer_130 (by decide) (fun c130 => ?_) (fun c130 => ?_)
    · exact absurd c130 (Int32.not_le.mpr (nI_lt e2 (by omega)))
    · refine r_aload_n (pc := 133) C dX9_answer_133 rfl ?_
      refine r_iload_n (pc := 134) C dX9_answer_134 rfl ?_
      refine r_callV (pc := 135) C (cx_drop hN1 hP1 hu1 hi0 ev) iX9_dropOpenPoll ml_RX9_217 dX9_answer_135 (ci := 10) rfl rfl hN1.1.1 rfl (by decide) rfl (by simp [cv, Value.category, va_rf]) (by omega) (by omega) (fun r135 S135 h135 => ?_)
      obtain ⟨rfl, hP2, hA2⟩ := h135
      dsimp only [Option.toList, List.cons_append, List.nil_append]
      have hf2 : Cf po [5] S1 S135 := hA2.cf
      have hf3 : Cf po [5] S S135 := hf1.tr hf2
      have hN2 := hN.kp hf3 (by decide)
      have hC2 := hC.kp hG hf3 (by decide)
      rw [ei] at hP2
      have hpk : sK S135 (Pp p) = 7 := by rw [hf2.k (by rw [hq.1.1]; decide)]; exact hq.1.1
      have hpr : sR S135 601 (Pp p) = some (T t2) := (hA2.2.2.2.1 601 (Pp p) (by omega)).trans q1
      refine r_aload_n (pc := 138) C dX9_answer_138 rfl ?_
      refine r_getR (pc := 139) C dX9_answer_139 fx_RX9_50 hN2.1.1 hN2.2.1.2.2.2.1 ?_
      refine r_aload (pc := 142) C dX9_answer_142 rfl ?_
      refine r_getR (pc := 144) C dX9_answer_144 fx_RX9_188 hpk hpr ?_
      refine r_iconst (pc := 147) C (nI 0) dX9_answer_147 rfl ?_
      refine r_callV (pc := 148) C (cg_learn (w := false) (b1 := G 4) (b2 := G 5) hM hn hC2.1 rfl rfl rfl hI ⟨hC2.2.1, hC2.2.2⟩ hd hc) iX2_learn ml_RX9_220 dX9_answer_148 (ci := 3) rfl rfl hC2.1.pG.gk rfl (by decide) rfl (by simp [cv, Value.category, va_rf]) (by omega) (by omega) (fun r148 S148 h148 => ?_)
      obtain ⟨rfl, hC3, hg3⟩ := h148
      dsimp only [Option.toList, List.cons_append, List.nil_append]
      refine r_iconst (pc := 151) C (nI 2) dX9_answer_151 rfl ?_
      refine r_iret (pc := 152) C dX9_answer_152 rfl (by omega) (by omega) ?_
      exact ⟨rfl, ⟨_, hP2.kp (Cf.gr hg3) (by decide)⟩, hC2.cl hC3 hg3, (hf3.up (by decide)).tr ((Cf.gr hg3).up (by decide))⟩
  · exact absurd (nI_lt e1 (by omega)) c83
end Answer2
