/-! The class: what a poll teaches -/
theorem spkL_13 {M : MM} {n h t : Nat} {w : Bool} : ∀ i, spkL M n h t w i 13 = M 13
  | 0 => rfl
  | i + 1 => by
    simp only [spkL]
    split
    · simp only [spk1]
      rw [um_n (by decide), um_n (by decide)]
      split
      · rw [um_n (by decide)]; exact spkL_13 i
      · exact spkL_13 i
    · rw [um_n (by decide)]; exact spkL_13 i
theorem spoL_13 {M : MM} {n h : Nat} {go : Nat → Bool} {w : Bool} : ∀ k, spoL M n h go w k 13 = M 13
  | 0 => rfl
  | k + 1 => by
    simp only [spoL]
    split
    · exact (spkL_13 _).trans (spoL_13 k)
    · exact spoL_13 k
theorem spoL_lat {M : MM} {n h : Nat} {go : Nat → Bool} {w : Bool} (hF : Lat M n) (hG : GV M n h) : ∀ k, k ≤ h → Lat (spoL M n h go w k) n
  | 0, _ => hF
  | k + 1, hk => by
    simp only [spoL]
    split
    · exact spkL_lat (spoL_lat hF hG k (by omega)) hG.1 (hG.hn k (by omega)) _
    · exact spoL_lat hF hG k (by omega)
theorem RI.of {M M' : MM} {n h : Nat} (hR : RI M n h) (e : Sy M M') (e13 : M' 13 = M 13) : RI M' n h := by
  unfold RI
  rw [e.hd, e.pr, e.2.1, e13]
  obtain ⟨r1, r2, r3, r4, r5, r6⟩ := hR
  exact ⟨r1, r2, r3, fun k k' a b c d f => r4 k k' a b c d (by rw [← e.sh]; exact f), r5, r6⟩
theorem acO_of {M M' : MM} {n h : Nat} (e : Sy M M') (e13 : M' 13 = M 13) : acO M' n h = acO M n h := by
  funext s
  simp only [acO, e13, e.hd, e.ins]
theorem Acc.of {M M' : MM} {n a : Nat} (hA : Acc M n a) (e18 : M' 18 = M 18) : Acc M' n a := by
  unfold Acc acN
  rw [e18]
  exact hA
theorem IV.of {M M' : MM} {n h a : Nat} (hI : IV M n h a) (e : Sy M M') (e13 : M' 13 = M 13) (e18 : M' 18 = M 18) (hF : Fav M' n) (hL : Lat M' n) : IV M' n h a := by
  obtain ⟨i1, i2, i3, i4, i5, i6, i7⟩ := hI
  exact ⟨i1.sm e.sm, i2.sy e, i3.of e e13, hF, hL, i6.of e18, by unfold c3; rw [e13]; exact i7⟩
theorem IV.sp {M : MM} {n h a : Nat} {go : Nat → Bool} {w : Bool} (hI : IV M n h a) {k : Nat} (hk : k ≤ h) : IV (spoL M n h go w k) n h a := hI.of (spoL_sq k).sy (spoL_13 k) (spoL_sq k).e18 (spoL_fav hI.2.2.2.1 hI.1 k hk) (spoL_lat hI.2.2.2.2.1 hI.1 k hk)
theorem chM_t {M : MM} {t : Nat} (hc : chitB M t = false) : chM M t true = um M 14 t (nI 1) := by simp only [chM, hc, Bool.false_or]; rfl
theorem chM_f {M : MM} {t : Nat} (hc : chitB M t = false) : chM M t false = M := by
  simp only [chM, hc, Bool.false_or]
  have : M 14 t = nI 0 := by
    have q : M 14 t = 0 := by simpa [chitB] using hc
    rw [q]; rfl
  show um M 14 t (nI 0) = M
  rw [← this]
  exact um_id
theorem IV.ch {M : MM} {n h a t : Nat} {v : Int32} (hI : IV M n h a) : IV (um M 14 t v) n h a := hI.of (um_sy (by decide)) (um_n (by decide)) (um_n (by decide)) (hI.2.2.2.1.of (um_n (by decide))) (hI.2.2.2.2.1.of (um_n (by decide)))
section Learn2
variable {l : Launch} {g : GG} {S : hS} {po go n h a t mi : Nat} {T O : Nat → Nat} {M : MM} {cf : Nat → Int32} {ao : Nat → Option Nat} {mL : Nat → List Nat} {b1 b2 : Int32}
theorem spk_0 {w : Bool} : spk M n h 0 w = M := by
  unfold spk
  rw [show nX (M 11) 0 = 0 from rfl]
  rfl
theorem cg_learn {w : Bool} (hM : MIR g mi) (hn : n ≤ 65) (hC : CR g S po go T O M n h a cf ao mL) (hcf : cf = fun t => nI (conf M n h t)) (hml : mL = mem M n h) (hao : ao = acO M n h) (hI : IV M n h a) (hB : sI S 300 go = b1 ∧ sI S 301 go = b2) (hd : hdB M h t = true) (hc : chitB M t = false) : Sp l g mX2_learn 65 6500 [vr (some go), vr (some (T t)), vi (bi w)] S (fun r S' => r = none ∧ CR g S' po go T O (clo M n h t w b1 b2 a).1 n h (clo M n h t w b1 b2 a).2 (fun u => nI (conf (clo M n h t w b1 b2 a).1 n h u)) (acO (clo M n h t w b1 b2 a).1 n h) (mem (clo M n h t w b1 b2 a).1 n h) ∧ GrF po S S') := by
  have hh := hI.1.2.1
  have hG := hI.1
  have ht := hdB_lt hG hd
  refine Sp.start (own := RX2) [(0, vr (some go)), (1, vr (some (T t))), (2, vi (bi w))] (by decide +kernel) rfl rfl (Nat.le_of_ble_eq_true rfl) ?_
  intro J C
  have K18 : M 13 t ≠ nI 4 → ∀ S0 M1, M1 = chM M t w → CR g S0 po go T O M1 n h a (fun t => nI (conf M1 n h t)) (acO M1 n h) (mem M1 n h) → IV M1 n h a → GrF po S S0 → J 18 [(0, vr (some go)), (1, vr (some (T t))), (2, vi (bi w))] [] S0 0 0 := by
    intro h4 S0 M1 hM1 hC0 hI0 hg0
    have hG0 := hI0.1
    have e0 : Sy M M1 := by rw [hM1]; exact um_sy (by decide)
    have ec : clo M n h t w b1 b2 a = accL (spoL M1 n h (goC M1 n h t) w h) n h b1 b2 a h := by unfold clo; rw [if_neg h4, hM1]
    have hd0 : hdB M1 h t = true := by rw [e0.hb]; exact hd
    have L : ∀ k S1, k ≤ h → (CR g S1 po go T O (spoL M1 n h (goC M1 n h t) w k) n h a (fun t => nI (conf M1 n h t)) (acO M1 n h) (mem M1 n h) ∧ GrF po S S1) → J 20 [(0, vr (some go)), (1, vr (some (T t))), (2, vi (bi w)), (3, vi (nI k))] [] S1 0 0 := by
      refine up_loop _ _ _ ?_ ?_
      · intro S1 ⟨hC1, hg1⟩
        have hL1 := hC1.pL.l1
        have sq := @spoL_sq M1 n h (goC M1 n h t) w h
        have hIs := hI0.sp (go := goC M1 n h t) (w := w) (Nat.le_refl _)
        obtain ⟨e1, e14, -⟩ := @accL_sy (spoL M1 n h (goC M1 n h t) w h) n h a b1 b2 h
        refine r_iload_n (pc := 20) C dX2_learn_20 rfl ?_
        refine r_aload_n (pc := 21) C dX2_learn_21 rfl ?_
        refine r_getR (pc := 22) C dX2_learn_22 fx_RX2_25 hC1.pG.gk hC1.pG.1.2.2.1 ?_
        refine r_callV (pc := 25) C (ct_size hL1) iJx4a65c_size_8abf5 ml_RX2_60 dX2_learn_25 (ci := 0) rfl rfl hL1.k rfl (by decide) rfl (by simp [cv, Value.category, va_rf]) (by omega) (by omega) (fun r25 S25 h25 => ?_)
        obtain ⟨rfl, e25⟩ := h25
        subst S25
        dsimp only [Option.toList, List.cons_append, List.nil_append]
        refine r_icmp_ge (pc := 28) (tgt := 72) C dX2_learn_28 (by decide) (fun c28 => ?_) (fun c28 => ?_)
        · refine r_aload_n (pc := 72) C dX2_learn_72 rfl ?_
          refine r_callV (pc := 73) C (cg_acceptR (b1 := b1) (b2 := b2) hM hn hC1 (by rw [sq.cf]) (by rw [sq.sy.me]) (by rw [acO_of sq.sy (spoL_13 h)]) hIs (beta_gr hg1 hC.pG.gk hB)) iX2_acceptWhatIsReady ml_RX2_156 dX2_learn_73 (ci := 3) rfl rfl hC1.pG.gk rfl (by decide) rfl (by simp [cv, Value.category, va_rf]) (by omega) (by omega) (fun r73 S73 h73 => ?_)
          obtain ⟨rfl, hC2, hg2⟩ := h73
          dsimp only [Option.toList, List.cons_append, List.nil_append]
          refine r_ret (pc := 76) C dX2_learn_76 rfl (by omega) (by omega) ?_
          refine ⟨rfl, ?_, hg1.tr hg2⟩
          rw [ec]
          rw [e1.cf e14, sq.cf, e1.me, sq.sy.me]
          exact hC2
        · exact absurd (Int32.le_refl _) c28
      · intro k S1 hk ⟨hC1, hg1⟩ ih
        have sq := @spoL_sq M1 n h (goC M1 n h t) w k
        have e1 := sq.sy
        have hIs := hI0.sp (go := goC M1 n h t) (w := w) (show k ≤ h by omega)
        have hG1 := hIs.1
        have hL1 := hC1.pL.l1
        rw [e1.hd] at hL1
        have hk' := hG0.hn k hk
        have hbk : hdB M1 h (hdN M1 k) = true := hdB_iff.mpr ⟨k, hk, rfl⟩
        have hA : ∀ j, j < h → abt (aJ S1 80 (rA S1 908 (T t))) j = anc M1 n h t (hdN M1 j) := fun j hj => by
          obtain ⟨x, hx, rfl⟩ := hdB_iff.mp hd0
          have q := hC1.pA.ann (by have := hG.1; omega) hx j hj
          rw [e1.an, e1.hd] at q
          exact q
        have no : goC M1 n h t (hdN M1 k) = false → spoL M1 n h (goC M1 n h t) w (k + 1) = spoL M1 n h (goC M1 n h t) w k := fun q => by simp only [spoL, q]; rfl
        have yes : (hdN M1 k = t ∨ anc M1 n h t (hdN M1 k) = true) → spoL M1 n h (goC M1 n h t) w (k + 1) = spk (spoL M1 n h (goC M1 n h t) w k) n h (hdN M1 k) w := fun q => by
          simp only [spoL]
          by_cases k0 : hdN M1 k = 0
          · rw [k0, spk_0]; split <;> rfl
          · rw [if_pos]
            simp only [goC, Bool.and_eq_true, Bool.or_eq_true, decide_eq_true_eq]
            exact ⟨by omega, q.elim Or.inr Or.inl⟩
        have K59 : (hdN M1 k = t ∨ anc M1 n h t (hdN M1 k) = true) → J 59 [(0, vr (some go)), (1, vr (some (T t))), (2, vi (bi w)), (3, vi (nI k)), (4, vr (some (T (hdN M1 k))))] [] S1 0 0 := by
          intro q
          refine r_aload_n (pc := 59) C dX2_learn_59 rfl ?_
          refine r_aload (pc := 60) C dX2_learn_60 rfl ?_
          refine r_iload_n (pc := 62) C dX2_learn_62 rfl ?_
          refine r_callV (pc := 63) C (cg_move hC1 (by rw [sq.cf]) hG1 hIs.2.2.2.1 hIs.2.2.2.2.1 (by rw [e1.hb]; exact hbk)) iX2_moveSets ml_RX2_152 dX2_learn_63 (ci := 3) rfl rfl hC1.pG.gk rfl (by decide) rfl (by simp [cv, Value.category, va_rf]) (by omega) (by omega) (fun r63 S63 h63 => ?_)
          obtain ⟨rfl, hC2, hg2⟩ := h63
          dsimp only [Option.toList, List.cons_append, List.nil_append]
          refine r_iinc (pc := 66) C _ dX2_learn_66 rfl (nI_1 _) (by decide) rfl ?_
          refine r_goto (pc := 69) (tgt := 20) C dX2_learn_69 (by decide) ?_
          exact r_lv C [(0, vr (some go)), (1, vr (some (T t))), (2, vi (bi w)), (3, vi (nI (k + 1)))] rfl (ih _ ⟨by rw [yes q]; exact hC2, hg1.tr hg2⟩)
        refine r_iload_n (pc := 20) C dX2_learn_20 rfl ?_
        refine r_aload_n (pc := 21) C dX2_learn_21 rfl ?_
        refine r_getR (pc := 22) C dX2_learn_22 fx_RX2_25 hC1.pG.gk hC1.pG.1.2.2.1 ?_
        refine r_callV (pc := 25) C (ct_size hL1) iJx4a65c_size_8abf5 ml_RX2_60 dX2_learn_25 (ci := 0) rfl rfl hL1.k rfl (by decide) rfl (by simp [cv, Value.category, va_rf]) (by omega) (by omega) (fun r25 S25 h25 => ?_)
        obtain ⟨rfl, e25⟩ := h25
        subst S25
        dsimp only [Option.toList, List.cons_append, List.nil_append]
        refine r_icmp_ge (pc := 28) (tgt := 72) C dX2_learn_28 (by decide) (fun c28 => ?_) (fun c28 => ?_)
        · exact absurd c28 (nI_ge hk (by omega))
        · refine r_aload_n (pc := 31) C dX2_learn_31 rfl ?_
          refine r_getR (pc := 32) C dX2_learn_32 fx_RX2_25 hC1.pG.gk hC1.pG.1.2.2.1 ?_
          refine r_iload_n (pc := 35) C dX2_learn_35 rfl ?_
          refine r_callV (pc := 36) C (ct_get (by omega) (by omega) hL1 hk) iJx4a65c_get_915e3 ml_RX2_64 dX2_learn_36 (ci := 0) rfl rfl hL1.k rfl (by decide) rfl (by simp [cv, Value.category, va_rf]) (by omega) (by omega) (fun r36 S36 h36 => ?_)
          obtain ⟨rfl, e36⟩ := h36
          subst S36
          dsimp only [Option.toList, List.cons_append, List.nil_append]
          refine r_cast (pc := 39) C dX2_learn_39 (ci := 9) rfl kl_RX2_49 (hC1.pG.tk hk') ?_
          refine r_astore (pc := 42) C dX2_learn_42 (by decide) rfl ?_
          refine r_aload (pc := 44) C dX2_learn_44 rfl ?_
          refine r_aload_n (pc := 46) C dX2_learn_46 rfl ?_
          refine r_acmp_eq (pc := 47) (tgt := 59) C dX2_learn_47 (by decide) (fun c47 => ?_) (fun c47 => ?_)
          · have ev := K59 (Or.inl (hC1.pG.tinj hk' ht (Option.some.inj c47)))
            exact r_lv C [(0, vr (some go)), (1, vr (some (T t))), (2, vi (bi w)), (3, vi (nI k)), (4, vr (some (T (hdN M1 k))))] rfl ev
          · refine r_aload_n (pc := 50) C dX2_learn_50 rfl ?_
            refine r_aload (pc := 51) C dX2_learn_51 rfl ?_
            refine r_callV (pc := 53) C (cg_hasAnc (an := anc M1 n h t) hC1.pG hC1.pH (by omega) ht hk' (fun j hj => by rw [e1.hd]; exact hA j hj)) iX8_hasAncestor ml_RX2_122 dX2_learn_53 (ci := 9) rfl rfl (hC1.pG.tk ht) rfl (by decide) rfl (by simp [cv, Value.category, va_rf]) (by omega) (by omega) (fun r53 S53 h53 => ?_)
            obtain ⟨rfl, e53⟩ := h53
            subst S53
            dsimp only [Option.toList, List.cons_append, List.nil_append]
            rw [e1.hb, hbk, Bool.true_and]
            refine r_if_eq (pc := 56) (tgt := 66) C dX2_learn_56 (by decide) (fun c56 => ?_) (fun c56 => ?_)
            · rw [bi_0] at c56
              have ev := ih S1 ⟨by rw [no (by simp only [goC, c56, Bool.false_or]; rw [decide_eq_false (show ¬ hdN M1 k = t from fun q => c47 (by rw [q])), Bool.and_false])]; exact hC1, hg1⟩
              refine r_iinc (pc := 66) C _ dX2_learn_66 rfl (nI_1 _) (by decide) rfl ?_
              refine r_goto (pc := 69) (tgt := 20) C dX2_learn_69 (by decide) ?_
              exact r_lv C [(0, vr (some go)), (1, vr (some (T t))), (2, vi (bi w)), (3, vi (nI (k + 1)))] rfl ev
            · rw [bi_0] at c56
              have ev := K59 (Or.inr (ts_nf c56))
              exact r_lv C [(0, vr (some go)), (1, vr (some (T t))), (2, vi (bi w)), (3, vi (nI k)), (4, vr (some (T (hdN M1 k))))] rfl ev
    refine r_iconst (pc := 18) C (nI 0) dX2_learn_18 rfl ?_
    refine r_istore_n (pc := 19) C dX2_learn_19 (by decide) rfl ?_
    exact r_lv C [(0, vr (some go)), (1, vr (some (T t))), (2, vi (bi w)), (3, vi (nI 0))] rfl (L 0 S0 (by omega) ⟨hC0, hg0⟩)
  refine r_aload_n (pc := 0) C dX2_learn_0 rfl ?_
  refine r_getI (pc := 1) C dX2_learn_1 fx_RX2_57 (hC.pG.tk ht) ?_
  rw [(hC.pT t ht).1]
  refine r_iconst (pc := 4) C (nI 4) dX2_learn_4 rfl ?_
  refine r_icmp_ne (pc := 5) (tgt := 9) C dX2_learn_5 (by decide) (fun c5 => ?_) (fun c5 => ?_)
  · refine r_iload_n (pc := 9) C dX2_learn_9 rfl ?_
    refine r_if_eq (pc := 10) (tgt := 18) C dX2_learn_10 (by decide) (fun c10 => ?_) (fun c10 => ?_)
    · rw [bi_0] at c10
      have ev := K18 c5 S M (by rw [c10, chM_f hc]) (by rw [hcf, hml, hao] at hC; exact hC) hI Ag.rf
      exact ev
    · rw [bi_0] at c10
      refine r_aload_n (pc := 13) C dX2_learn_13 rfl ?_
      refine r_aload_n (pc := 14) C dX2_learn_14 rfl ?_
      refine r_callV (pc := 15) C (cg_chit hC hcf hI.2.1 hG hd hc) iX2_giveChit ml_RX2_149 dX2_learn_15 (ci := 3) rfl rfl hC.pG.gk rfl (by decide) rfl (by simp [cv, Value.category, va_rf]) (by omega) (by omega) (fun r15 S15 h15 => ?_)
      obtain ⟨rfl, hC2, hg2⟩ := h15
      dsimp only [Option.toList, List.cons_append, List.nil_append]
      have e4 : Sy M (um M 14 t (nI 1)) := um_sy (by decide)
      have ev := K18 c5 _ (um M 14 t (nI 1)) (by rw [ts_nf c10, chM_t hc]) (by rw [hml, hao] at hC2; rw [e4.me, acO_of e4 (um_n (by decide))]; exact hC2) hI.ch hg2
      exact ev
  · refine r_ret (pc := 8) C dX2_learn_8 rfl (by omega) (by omega) ?_
    have e8 : clo M n h t w b1 b2 a = (M, a) := by unfold clo; rw [if_pos c5]
    rw [e8]
    exact ⟨rfl, by rw [hcf, hml, hao] at hC; exact hC, Ag.rf⟩
theorem IV.clo {w : Bool} (hI : IV M n h a) : IV (clo M n h t w b1 b2 a).1 n h (clo M n h t w b1 b2 a).2 := by
  unfold _root_.Jvm.Pilot.CSnowNodeLaw_law_r5193_5b532e.clo
  split
  · exact hI
  · exact IV.accL (hI.ch.sp (Nat.le_refl _)) h (Nat.le_refl _)
end Learn2
