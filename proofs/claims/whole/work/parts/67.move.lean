/-! The class: a transaction is rejected, sets hear of a poll, a chit is given -/
section Move
variable {l : Launch} {g : GG} {S : hS} {po go n h a t s : Nat} {T O : Nat → Nat} {M : MM} {cf : Nat → Int32} {ao : Nat → Option Nat} {mL : Nat → List Nat}
theorem CR.pst (hC : CR g S po go T O M n h a cf ao mL) (hG : GV M n h) (hd : hdB M h t = true) : PT S T M n t ∧ ST S T O M n t := by
  obtain ⟨k, hk, rfl⟩ := hdB_iff.mp hd
  have ht := (hG.2.2.2 k hk).2
  have e := hC.pE k hk
  exact ⟨fun i hi => ⟨e.1 i hi, ht.par_lt hi⟩, fun i hi => ⟨e.2 i hi, ht.oV hi⟩⟩
theorem hdB_lt (hG : GV M n h) (hd : hdB M h t = true) : t < n := by
  obtain ⟨k, hk, rfl⟩ := hdB_iff.mp hd
  exact hG.hn k hk
theorem cg_reject (hC : CR g S po go T O M n h a cf ao mL) (hcf : cf = fun t => nI (conf M n h t)) (hml : mL = mem M n h) (hG : GV M n h) (hF : Fav M n) (hd : hdB M h t = true) : Sp l g mX2_reject 0 0 [vr (some go), vr (some (T t))] S (fun r S' => r = none ∧ CR g S' po go T O (rej M n h t) n h a cf ao mL ∧ GrF po S S') := by
  have hn := hG.1
  have ht := hdB_lt hG hd
  have h4 := (hG.2.2.1 t ht).2.2.1
  refine Sp.start (own := RX2) [(0, vr (some go)), (1, vr (some (T t)))] (by decide +kernel) rfl rfl (Nat.le_of_ble_eq_true rfl) ?_
  intro J C
  have L : ∀ i S1, i ≤ nX (M 11) t → (CR g S1 po go T O (rejL M n h t i) n h a cf ao mL ∧ GrF po S S1) → J 7 [(0, vr (some go)), (1, vr (some (T t))), (2, vi (nI i))] [] S1 0 0 := by
    refine up_loop _ _ _ ?_ ?_
    · intro S1 ⟨hC1, hg1⟩
      have e1 := (@rejL_sq M n h t (nX (M 11) t)).sy
      have h7 := hC1.pG.r7 ht
      rw [e1.2.1] at h7
      refine r_iload_n (pc := 7) C dX2_reject_7 rfl ?_
      refine r_aload_n (pc := 8) C dX2_reject_8 rfl ?_
      refine r_getR (pc := 9) C dX2_reject_9 fx_RX2_135 (hC1.pG.tk ht) h7.1 ?_
      refine r_alen (pc := 12) C dX2_reject_12 h7.2.1 (by first | decide | omega) ?_
      rw [h7.2.2]
      refine r_icmp_ge (pc := 13) (tgt := 44) C dX2_reject_13 (by decide) (fun c13 => ?_) (fun c13 => ?_)
      · refine r_ret (pc := 44) C dX2_reject_44 rfl (by omega) (by omega) ?_
        exact ⟨rfl, hC1, hg1⟩
      · exact absurd (Int32.le_refl _) c13
    · intro i S1 hi ⟨hC1, hg1⟩ ih
      have sq := @rejL_sq M n h t i
      have e1 := sq.sy
      have hG1 := hG.sq sq
      have h7 := hC1.pG.r7 ht
      rw [e1.2.1] at h7
      have hQ := (hC1.pst hG1 (by rw [e1.hb]; exact hd)).2 i (by rw [e1.2.1]; exact hi)
      rw [e1.ou] at hQ
      have hs5 := hQ.2.lt hG1
      have hF1 := rejL_fav (t := t) hF hG i
      have fv := (hC1.pO _ hQ.2).1
      have fi := (map_T (fun u v hu hv q => hC1.pG.tinj hu hv q) (fun u hu => (hF1 _ hs5).2 u hu) ht).trans (fav_iff hF1 hn hs5 ht)
      refine r_iload_n (pc := 7) C dX2_reject_7 rfl ?_
      refine r_aload_n (pc := 8) C dX2_reject_8 rfl ?_
      refine r_getR (pc := 9) C dX2_reject_9 fx_RX2_135 (hC1.pG.tk ht) h7.1 ?_
      refine r_alen (pc := 12) C dX2_reject_12 h7.2.1 (by first | decide | omega) ?_
      rw [h7.2.2]
      refine r_icmp_ge (pc := 13) (tgt := 44) C dX2_reject_13 (by decide) (fun c13 => ?_) (fun c13 => ?_)
      · exact absurd c13 (nI_ge hi (by omega))
      · refine r_aload_n (pc := 16) C dX2_reject_16 rfl ?_
        refine r_getR (pc := 17) C dX2_reject_17 fx_RX2_135 (hC1.pG.tk ht) h7.1 ?_
        refine r_iload_n (pc := 20) C dX2_reject_20 rfl ?_
        refine r_aald (pc := 21) C dX2_reject_21 h7.2.1 (by decide) h7.2.2 (by first | assumption | exact vp_in_nI (by omega) (by omega)) (by first | exact nI_clamp (by omega) | rfl) ?_
        rw [hQ.1]
        refine r_getR (pc := 22) C dX2_reject_22 fx_RX2_142 (hC1.pG.o hQ.2).1 fv ?_
        refine r_aload_n (pc := 25) C dX2_reject_25 rfl ?_
        refine r_acmp_ne (pc := 26) (tgt := 38) C dX2_reject_26 (by decide) (fun c26 => ?_) (fun c26 => ?_)
        · have ev := ih S1 ⟨by simp only [rejL]; rw [if_neg (fun q => c26 (fi.mpr q))]; exact hC1, hg1⟩
          refine r_iinc (pc := 38) C _ dX2_reject_38 rfl (nI_1 _) (by decide) rfl ?_
          refine r_goto (pc := 41) (tgt := 7) C dX2_reject_41 (by decide) ?_
          exact r_lv C [(0, vr (some go)), (1, vr (some (T t))), (2, vi (nI (i + 1)))] rfl ev
        · refine r_aload_n (pc := 29) C dX2_reject_29 rfl ?_
          refine r_getR (pc := 30) C dX2_reject_30 fx_RX2_135 (hC1.pG.tk ht) h7.1 ?_
          refine r_iload_n (pc := 33) C dX2_reject_33 rfl ?_
          refine r_aald (pc := 34) C dX2_reject_34 h7.2.1 (by decide) h7.2.2 (by first | assumption | exact vp_in_nI (by omega) (by omega)) (by first | exact nI_clamp (by omega) | rfl) ?_
          rw [hQ.1]
          refine r_callV (pc := 35) C (cg_replFav hC1 (by rw [hcf, sq.cf]) (by rw [hml, e1.me]) hG1 hQ.2) iX3_replaceFavourite ml_RX2_146 dX2_reject_35 (ci := 4) rfl rfl (hC1.pG.o hQ.2).1 rfl (by decide) rfl (by simp [cv, Value.category, va_rf]) (by omega) (by omega) (fun r35 S35 h35 => ?_)
          obtain ⟨rfl, hC2, hg2⟩ := h35
          dsimp only [Option.toList, List.cons_append, List.nil_append]
          have ev := ih _ ⟨by simp only [rejL]; rw [if_pos (fi.mp c26)]; exact hC2, hg1.tr hg2⟩
          refine r_iinc (pc := 38) C _ dX2_reject_38 rfl (nI_1 _) (by decide) rfl ?_
          refine r_goto (pc := 41) (tgt := 7) C dX2_reject_41 (by decide) ?_
          exact r_lv C [(0, vr (some go)), (1, vr (some (T t))), (2, vi (nI (i + 1)))] rfl ev
  refine r_aload_n (pc := 0) C dX2_reject_0 rfl ?_
  refine r_iconst (pc := 1) C (nI 4) dX2_reject_1 rfl ?_
  refine r_putI (pc := 2) C dX2_reject_2 fx_RX2_57 (fp_9_10 _) (hC.pG.tk ht) ?_
  refine r_iconst (pc := 5) C (nI 0) dX2_reject_5 rfl ?_
  refine r_istore_n (pc := 6) C dX2_reject_6 (by decide) rfl ?_
  exact r_lv C [(0, vr (some go)), (1, vr (some (T t))), (2, vi (nI 0))] rfl (L 0 _ (by omega) ⟨hC.st hG.hn ht (by decide), GrF.w4 (by omega)⟩)
theorem cg_move {w : Bool} (hC : CR g S po go T O M n h a cf ao mL) (hcf : cf = fun t => nI (conf M n h t)) (hG : GV M n h) (hF : Fav M n) (hLa : Lat M n) (hd : hdB M h t = true) : Sp l g mX2_moveSets 0 0 [vr (some go), vr (some (T t)), vi (bi w)] S (fun r S' => r = none ∧ CR g S' po go T O (spk M n h t w) n h a cf ao mL ∧ GrF po S S') := by
  have hn := hG.1
  have ht := hdB_lt hG hd
  have h4 := (hG.2.2.1 t ht).2.2.1
  refine Sp.start (own := RX2) [(0, vr (some go)), (1, vr (some (T t))), (2, vi (bi w))] (by decide +kernel) rfl rfl (Nat.le_of_ble_eq_true rfl) ?_
  intro J C
  have L : ∀ i S1, i ≤ nX (M 11) t → (CR g S1 po go T O (spkL M n h t w i) n h a cf ao mL ∧ GrF po S S1) → J 2 [(0, vr (some go)), (1, vr (some (T t))), (2, vi (bi w)), (3, vi (nI i))] [] S1 0 0 := by
    refine up_loop _ _ _ ?_ ?_
    · intro S1 ⟨hC1, hg1⟩
      have e1 := (@spkL_sq M n h t w (nX (M 11) t)).sy
      have h7 := hC1.pG.r7 ht
      rw [e1.2.1] at h7
      refine r_iload_n (pc := 2) C dX2_moveSets_2 rfl ?_
      refine r_aload_n (pc := 3) C dX2_moveSets_3 rfl ?_
      refine r_getR (pc := 4) C dX2_moveSets_4 fx_RX2_135 (hC1.pG.tk ht) h7.1 ?_
      refine r_alen (pc := 7) C dX2_moveSets_7 h7.2.1 (by first | decide | omega) ?_
      rw [h7.2.2]
      refine r_icmp_ge (pc := 8) (tgt := 44) C dX2_moveSets_8 (by decide) (fun c8 => ?_) (fun c8 => ?_)
      · refine r_ret (pc := 44) C dX2_moveSets_44 rfl (by omega) (by omega) ?_
        exact ⟨rfl, hC1, hg1⟩
      · exact absurd (Int32.le_refl _) c8
    · intro i S1 hi ⟨hC1, hg1⟩ ih
      have sq := @spkL_sq M n h t w i
      have e1 := sq.sy
      have hG1 := hG.sq sq
      have h7 := hC1.pG.r7 ht
      rw [e1.2.1] at h7
      have hQ := (hC1.pst hG1 (by rw [e1.hb]; exact hd)).2 i (by rw [e1.2.1]; exact hi)
      rw [e1.ou] at hQ
      refine r_iload_n (pc := 2) C dX2_moveSets_2 rfl ?_
      refine r_aload_n (pc := 3) C dX2_moveSets_3 rfl ?_
      refine r_getR (pc := 4) C dX2_moveSets_4 fx_RX2_135 (hC1.pG.tk ht) h7.1 ?_
      refine r_alen (pc := 7) C dX2_moveSets_7 h7.2.1 (by first | decide | omega) ?_
      rw [h7.2.2]
      refine r_icmp_ge (pc := 8) (tgt := 44) C dX2_moveSets_8 (by decide) (fun c8 => ?_) (fun c8 => ?_)
      · exact absurd c8 (nI_ge hi (by omega))
      · refine r_iload_n (pc := 11) C dX2_moveSets_11 rfl ?_
        refine r_if_eq (pc := 12) (tgt := 28) C dX2_moveSets_12 (by decide) (fun c12 => ?_) (fun c12 => ?_)
        · rw [bi_0] at c12
          refine r_aload_n (pc := 28) C dX2_moveSets_28 rfl ?_
          refine r_getR (pc := 29) C dX2_moveSets_29 fx_RX2_135 (hC1.pG.tk ht) h7.1 ?_
          refine r_iload_n (pc := 32) C dX2_moveSets_32 rfl ?_
          refine r_aald (pc := 33) C dX2_moveSets_33 h7.2.1 (by decide) h7.2.2 (by first | assumption | exact vp_in_nI (by omega) (by omega)) (by first | exact nI_clamp (by omega) | rfl) ?_
          rw [hQ.1]
          refine r_iconst (pc := 34) C (nI 0) dX2_moveSets_34 rfl ?_
          refine r_putI (pc := 35) C dX2_moveSets_35 fx_RX2_169 (fp_4_5 _) (hC1.pG.o hQ.2).1 ?_
          have ev := ih _ ⟨by simp only [spkL]; rw [if_neg (by rw [c12]; decide)]; exact hC1.rns hG1.hn hQ.2, hg1.tr (GrF.w4 (by omega))⟩
          refine r_iinc (pc := 38) C _ dX2_moveSets_38 rfl (nI_1 _) (by decide) rfl ?_
          refine r_goto (pc := 41) (tgt := 2) C dX2_moveSets_41 (by decide) ?_
          exact r_lv C [(0, vr (some go)), (1, vr (some (T t))), (2, vi (bi w)), (3, vi (nI (i + 1)))] rfl ev
        · rw [bi_0] at c12
          refine r_aload_n (pc := 15) C dX2_moveSets_15 rfl ?_
          refine r_getR (pc := 16) C dX2_moveSets_16 fx_RX2_135 (hC1.pG.tk ht) h7.1 ?_
          refine r_iload_n (pc := 19) C dX2_moveSets_19 rfl ?_
          refine r_aald (pc := 20) C dX2_moveSets_20 h7.2.1 (by decide) h7.2.2 (by first | assumption | exact vp_in_nI (by omega) (by omega)) (by first | exact nI_clamp (by omega) | rfl) ?_
          rw [hQ.1]
          refine r_aload_n (pc := 21) C dX2_moveSets_21 rfl ?_
          refine r_callV (pc := 22) C (cg_speak hC1 (by rw [hcf, sq.cf]) hG1 (spkL_fav hF hn ht i) (spkL_lat hLa hn ht i) hQ.2 ht) iX3_speakFor ml_RX2_166 dX2_moveSets_22 (ci := 4) rfl rfl (hC1.pG.o hQ.2).1 rfl (by decide) rfl (by simp [cv, Value.category, va_rf]) (by omega) (by omega) (fun r22 S22 h22 => ?_)
          obtain ⟨rfl, hC2, hg2⟩ := h22
          dsimp only [Option.toList, List.cons_append, List.nil_append]
          have ev := ih _ ⟨by simp only [spkL]; rw [if_pos (ts_nf c12)]; rw [sq.cf] at hC2; exact hC2, hg1.tr hg2⟩
          refine r_goto (pc := 25) (tgt := 38) C dX2_moveSets_25 (by decide) ?_
          refine r_iinc (pc := 38) C _ dX2_moveSets_38 rfl (nI_1 _) (by decide) rfl ?_
          refine r_goto (pc := 41) (tgt := 2) C dX2_moveSets_41 (by decide) ?_
          exact r_lv C [(0, vr (some go)), (1, vr (some (T t))), (2, vi (bi w)), (3, vi (nI (i + 1)))] rfl ev
  refine r_iconst (pc := 0) C (nI 0) dX2_moveSets_0 rfl ?_
  refine r_istore_n (pc := 1) C dX2_moveSets_1 (by decide) rfl ?_
  exact r_lv C [(0, vr (some go)), (1, vr (some (T t))), (2, vi (bi w)), (3, vi (nI 0))] rfl (L 0 _ (by omega) ⟨hC, Ag.rf⟩)
/-- what a chit does to confidences -/
theorem conf_ch (hO : ODR M n h) (hG : GV M n h) (hd : hdB M h t = true) (hc : chitB M t = false) (u : Nat) : conf (um M 14 t (nI 1)) n h u = conf M n h u + (if decide (u = t) || anc M n h t u then 1 else 0) := by
  have e : Sy M (um M 14 t (nI 1)) := um_sy (by decide)
  have ht := hdB_lt hG hd
  have hO' : ODR (um M 14 t (nI 1)) n h := by
    unfold ODR
    rw [e.hd, e.pr, e.2.1]
    exact hO
  rw [conf_eq hO', conf_eq hO, e.hb, e.an]
  have q := cntU_upd (f := fun d => (decide (d = u) || (hdB M h d && anc M n h d u)) && chitB M d) (f' := fun d => (decide (d = u) || (hdB M h d && anc M n h d u)) && chitB (um M 14 t (nI 1)) d) (t := t) (fun i hi => by simp only [chitB, um_sn hi]) n ht
  have c1 : chitB (um M 14 t (nI 1)) t = true := by simp only [chitB, um_s]; decide
  have e3 : decide (t = u) = decide (u = t) := by by_cases e4 : t = u <;> simp [e4, eq_comm]
  simp only [hc, c1, hd, Bool.and_false, Bool.and_true, Bool.true_and, Bool.false_eq_true, if_false, Nat.add_zero, e3] at q
  exact q
theorem anc_self (hO : ODR M n h) {k : Nat} (hk : k < h) : anc M n h (hdN M k) (hdN M k) = false := by
  cases e : anc M n h (hdN M k) (hdN M k) with
  | false => rfl
  | true => obtain ⟨j, hj, e2⟩ := anc_lt hO k hk _ e
            have := hO.1 k j hk (by omega) e2
            omega
theorem hdB_s {i u : Nat} : hdB M (i + 1) u = (hdB M i u || decide (hdN M i = u)) := rfl
theorem nI_b {x : Nat} {b : Bool} : nI x + nI (if b then 1 else 0) = nI (x + if b then 1 else 0) := nI_add _ _
theorem cg_chit (hC : CR g S po go T O M n h a cf ao mL) (hcf : cf = fun t => nI (conf M n h t)) (hO : ODR M n h) (hG : GV M n h) (hd : hdB M h t = true) (hc : chitB M t = false) : Sp l g mX2_giveChit 0 0 [vr (some go), vr (some (T t))] S (fun r S' => r = none ∧ CR g S' po go T O (um M 14 t (nI 1)) n h a (fun u => nI (conf (um M 14 t (nI 1)) n h u)) ao mL ∧ GrF po S S') := by
  have hn := hG.1
  have hh := hG.2.1
  have ht := hdB_lt hG hd
  have e : Sy M (um M 14 t (nI 1)) := um_sy (by decide)
  have hG1 : GV (um M 14 t (nI 1)) n h := hG.sm e.sm
  have ex : ∃ k, k < h ∧ hdN M k = t := hdB_iff.mp hd
  have tt : anc M n h t t = false := by obtain ⟨k, hk, rfl⟩ := ex; exact anc_self hO hk
  refine Sp.start (own := RX2) [(0, vr (some go)), (1, vr (some (T t)))] (by decide +kernel) rfl rfl (Nat.le_of_ble_eq_true rfl) ?_
  intro J C
  have L : ∀ i S1, i ≤ h → (CR g S1 po go T O (um M 14 t (nI 1)) n h a (fun u => nI (conf M n h u + (if decide (u = t) || (hdB M i u && anc M n h t u) then 1 else 0))) ao mL ∧ GrF po S S1) → J 17 [(0, vr (some go)), (1, vr (some (T t))), (2, vi (nI i))] [] S1 0 0 := by
    refine up_loop _ _ _ ?_ ?_
    · intro S1 ⟨hC1, hg1⟩
      have hL1 := hC1.pL.l1
      refine r_iload_n (pc := 17) C dX2_giveChit_17 rfl ?_
      refine r_aload_n (pc := 18) C dX2_giveChit_18 rfl ?_
      refine r_getR (pc := 19) C dX2_giveChit_19 fx_RX2_25 hC1.pG.gk hC1.pG.1.2.2.1 ?_
      refine r_callV (pc := 22) C (ct_size hL1) iJx4a65c_size_8abf5 ml_RX2_60 dX2_giveChit_22 (ci := 0) rfl rfl hL1.k rfl (by decide) rfl (by simp [cv, Value.category, va_rf]) (by omega) (by omega) (fun r22 S22 h22 => ?_)
      obtain ⟨rfl, e22⟩ := h22
      subst S22
      dsimp only [Option.toList, List.cons_append, List.nil_append]
      refine r_icmp_ge (pc := 25) (tgt := 64) C dX2_giveChit_25 (by decide) (fun c25 => ?_) (fun c25 => ?_)
      · refine r_ret (pc := 64) C dX2_giveChit_64 rfl (by omega) (by omega) ?_
        refine ⟨rfl, hC1.cfe (fun u hu => ?_), hg1⟩
        rw [conf_ch hO hG hd hc u]
        have e4 : (hdB M h u && anc M n h t u) = anc M n h t u := by
          cases e5 : anc M n h t u with
          | false => rw [Bool.and_false]
          | true =>
            obtain ⟨k, hk, rfl⟩ := ex
            obtain ⟨j, hj, e6⟩ := anc_lt hO k hk _ e5
            rw [show hdB M h u = true from hdB_iff.mpr ⟨j, by omega, e6.symm⟩]; rfl
        rw [e4]
      · exact absurd (Int32.le_refl _) c25
    · intro i S1 hi ⟨hC1, hg1⟩ ih
      have hL1 := hC1.pL.l1
      rw [e.hd] at hL1
      have hA : ∀ j, j < h → abt (aJ S1 80 (rA S1 908 (T t))) j = anc M n h t (hdN M j) := fun j hj => by
        obtain ⟨k, hk, rfl⟩ := ex
        have q := hC1.pA.ann (by omega) hk j hj
        rw [e.an, e.hd] at q
        exact q
      have hi' := hG.hn i hi
      have hbi : hdB M h (hdN M i) = true := hdB_iff.mpr ⟨i, hi, rfl⟩
      have hni : hdB M i (hdN M i) = false := by
        cases e5 : hdB M i (hdN M i) with
        | false => rfl
        | true => obtain ⟨j, hj, e6⟩ := hdB_iff.mp e5
                  have := hO.1 j i (by omega) hi e6
                  omega
      refine r_iload_n (pc := 17) C dX2_giveChit_17 rfl ?_
      refine r_aload_n (pc := 18) C dX2_giveChit_18 rfl ?_
      refine r_getR (pc := 19) C dX2_giveChit_19 fx_RX2_25 hC1.pG.gk hC1.pG.1.2.2.1 ?_
      refine r_callV (pc := 22) C (ct_size hL1) iJx4a65c_size_8abf5 ml_RX2_60 dX2_giveChit_22 (ci := 0) rfl rfl hL1.k rfl (by decide) rfl (by simp [cv, Value.category, va_rf]) (by omega) (by omega) (fun r22 S22 h22 => ?_)
      obtain ⟨rfl, e22⟩ := h22
      subst S22
      dsimp only [Option.toList, List.cons_append, List.nil_append]
      refine r_icmp_ge (pc := 25) (tgt := 64) C dX2_giveChit_25 (by decide) (fun c25 => ?_) (fun c25 => ?_)
      · exact absurd c25 (nI_ge hi (by omega))
      · refine r_aload_n (pc := 28) C dX2_giveChit_28 rfl ?_
        refine r_getR (pc := 29) C dX2_giveChit_29 fx_RX2_25 hC1.pG.gk hC1.pG.1.2.2.1 ?_
        refine r_iload_n (pc := 32) C dX2_giveChit_32 rfl ?_
        refine r_callV (pc := 33) C (ct_get (by omega) (by omega) hL1 hi) iJx4a65c_get_915e3 ml_RX2_64 dX2_giveChit_33 (ci := 0) rfl rfl hL1.k rfl (by decide) rfl (by simp [cv, Value.category, va_rf]) (by omega) (by omega) (fun r33 S33 h33 => ?_)
        obtain ⟨rfl, e33⟩ := h33
        subst S33
        dsimp only [Option.toList, List.cons_append, List.nil_append]
        refine r_cast (pc := 36) C dX2_giveChit_36 (ci := 9) rfl kl_RX2_49 (hC1.pG.tk hi') ?_
        refine r_astore_n (pc := 39) C dX2_giveChit_39 (by decide) rfl ?_
        refine r_aload_n (pc := 40) C dX2_giveChit_40 rfl ?_
        refine r_aload_n (pc := 41) C dX2_giveChit_41 rfl ?_
        refine r_callV (pc := 42) C (cg_hasAnc (an := anc M n h t) hC1.pG hC1.pH (by omega) ht hi' (fun j hj => by rw [e.hd]; exact hA j hj)) iX8_hasAncestor ml_RX2_122 dX2_giveChit_42 (ci := 9) rfl rfl (hC1.pG.tk ht) rfl (by decide) rfl (by simp [cv, Value.category, va_rf]) (by omega) (by omega) (fun r42 S42 h42 => ?_)
        obtain ⟨rfl, e42⟩ := h42
        subst S42
        dsimp only [Option.toList, List.cons_append, List.nil_append]
        rw [e.hb, hbi, Bool.true_and]
        refine r_if_eq (pc := 45) (tgt := 58) C dX2_giveChit_45 (by decide) (fun c45 => ?_) (fun c45 => ?_)
        · rw [bi_0] at c45
          have ev := ih S1 ⟨hC1.cfe (fun u hu => by
            rw [hdB_s]
            by_cases e7 : hdN M i = u
            · subst e7; rw [c45, Bool.and_false, Bool.and_false]
            · rw [decide_eq_false e7, Bool.or_false]), hg1⟩
          refine r_iinc (pc := 58) C _ dX2_giveChit_58 rfl (nI_1 _) (by decide) rfl ?_
          refine r_goto (pc := 61) (tgt := 17) C dX2_giveChit_61 (by decide) ?_
          exact r_lv C [(0, vr (some go)), (1, vr (some (T t))), (2, vi (nI (i + 1)))] rfl ev
        · rw [bi_0] at c45
          have c45t := ts_nf c45
          have hne : hdN M i ≠ t := fun q => by rw [q, tt] at c45t; cases c45t
          refine r_aload_n (pc := 48) C dX2_giveChit_48 rfl ?_
          refine r_dup (pc := 49) C dX2_giveChit_49 rfl ?_
          refine r_getI (pc := 50) C dX2_giveChit_50 fx_RX2_163 (hC1.pG.tk hi') ?_
          rw [(hC1.pT _ hi').2.1, hni, decide_eq_false hne]
          refine r_iconst (pc := 53) C (nI 1) dX2_giveChit_53 rfl ?_
          refine r_iadd (pc := 54) C dX2_giveChit_54 ?_
          refine r_putI (pc := 55) C dX2_giveChit_55 fx_RX2_163 (fp_9_11 _) (hC1.pG.tk hi') ?_
          have ev := ih _ ⟨(hC1.cfs hG1.hn hi' (v := nI (conf M n h (hdN M i) + 0) + nI 1)).cfe (fun u hu => by
            rw [hdB_s]
            by_cases e7 : u = hdN M i
            · subst e7; rw [pk_us, c45t, decide_eq_true rfl, Bool.or_true, Bool.true_and, Bool.or_true, nI_add]; rfl
            · rw [pk_un e7, decide_eq_false (show ¬ hdN M i = u from fun q => e7 q.symm), Bool.or_false]), hg1.tr (GrF.w4 (by omega))⟩
          refine r_iinc (pc := 58) C _ dX2_giveChit_58 rfl (nI_1 _) (by decide) rfl ?_
          refine r_goto (pc := 61) (tgt := 17) C dX2_giveChit_61 (by decide) ?_
          exact r_lv C [(0, vr (some go)), (1, vr (some (T t))), (2, vi (nI (i + 1)))] rfl ev
  refine r_aload_n (pc := 0) C dX2_giveChit_0 rfl ?_
  refine r_iconst (pc := 1) C (nI 1) dX2_giveChit_1 rfl ?_
  refine r_putI (pc := 2) C dX2_giveChit_2 fx_RX2_159 (fp_9_12 _ (Or.inr rfl)) (hC.pG.tk ht) ?_
  have hC0 := hC.chs hG.hn ht (v := nI 1)
  refine r_aload_n (pc := 5) C dX2_giveChit_5 rfl ?_
  refine r_dup (pc := 6) C dX2_giveChit_6 rfl ?_
  refine r_getI (pc := 7) C dX2_giveChit_7 fx_RX2_163 (hC0.pG.tk ht) ?_
  rw [(hC0.pT t ht).2.1, hcf]
  refine r_iconst (pc := 10) C (nI 1) dX2_giveChit_10 rfl ?_
  refine r_iadd (pc := 11) C dX2_giveChit_11 ?_
  refine r_putI (pc := 12) C dX2_giveChit_12 fx_RX2_163 (fp_9_11 _) (hC0.pG.tk ht) ?_
  refine r_iconst (pc := 15) C (nI 0) dX2_giveChit_15 rfl ?_
  refine r_istore_n (pc := 16) C dX2_giveChit_16 (by decide) rfl ?_
  refine r_lv C [(0, vr (some go)), (1, vr (some (T t))), (2, vi (nI 0))] rfl (L 0 _ (by omega) ⟨(hC0.cfs hG1.hn ht).cfe (fun u hu => ?_), (GrF.w4 (by omega)).tr (GrF.w4 (by omega))⟩)
  by_cases e7 : u = t
  · subst e7; rw [pk_us, decide_eq_true rfl, Bool.true_or, nI_add]; rfl
  · rw [pk_un e7, hcf, decide_eq_false e7]; rfl
end Move
