/-! The class: acceptance, and what a poll teaches -/
section Lists
variable {g : GG} {S S1 : hS} {po go n h a t : Nat} {T O : Nat → Nat} {M : MM} {cf : Nat → Int32} {ao : Nat → Option Nat} {mL : Nat → List Nat}
/-- the list j0 has grown -/
theorem GS.lk (c1 : GS S po go T O M n) {j0 : Nat} (h0 : lV M n j0) (hA : Au S S1 (lad S po go O j0) (104 + j0)) : Ag (fun f x => x = lad S po go O j0 → f ≠ 0 ∧ f ≠ 2) (fun f x => x = lad S po go O j0 → f ≠ 1) (fun r _ => r ≠ 104 + j0) S S1 ∧ (∀ j, lV M n j → lad S1 po go O j = lad S po go O j) ∧ (∀ j κ N f, lV M n j → j ≠ j0 → κ = 104 + j → LA g S (lad S po go O j) κ N f → LA g S1 (lad S1 po go O j) κ N f) ∧ (j0 ≠ 3 → GrF po S S1) := by
  have hne : ∀ j, lV M n j → j ≠ j0 → lad S po go O j ≠ lad S po go O j0 := fun j hj h3 e => h3 (c1.linj hj h0 e)
  have hg : Ag (fun f x => x = lad S po go O j0 → f ≠ 0 ∧ f ≠ 2) (fun f x => x = lad S po go O j0 → f ≠ 1) (fun r _ => r ≠ 104 + j0) S S1 := Au.ag hA ⟨fun q => (q rfl).1 rfl, fun q => (q rfl).2 rfl⟩ (fun q => q rfl rfl) (fun x q => q rfl)
  have ll : ∀ j, lV M n j → lad S1 po go O j = lad S po go O j := fun j hj => c1.ladE (fun f x hf hx => hg.r hx (fun _ => by omega)) hj
  refine ⟨hg, ll, fun j κ N f hj h3 h1 q => ?_, fun h3 => ?_⟩
  · rw [ll j hj]
    exact q.ag (by omega) hg (fun q => absurd q (hne j hj h3)) (fun q => absurd q (hne j hj h3)) (fun x => by omega)
  · have hpo : po ≠ lad S po go O j0 := hne 3 (Or.inl (by omega)) (fun q => h3 q.symm)
    refine hg.mo (fun f x q e => ?_) (fun f x q e => ?_) (fun r x q => by unfold oA at q; omega)
    · by_cases f3 : f < 3
      · exact absurd ((q.1 f3).symm.trans e) hpo
      · omega
    · by_cases f3 : f < 3
      · exact absurd ((q.1 f3).symm.trans e) hpo
      · omega
theorem CR.acs (hC : CR g S po go T O M n h a cf ao mL) (hh : ∀ k, k < h → hdN M k < n) (hA : Au S S1 (rA S 304 go) 106) (hL : LA g S1 (rA S 304 go) 106 (a + 1) (va_up (fun i => T (acN M i)) a (T t))) (ht : t < 1000) : CR g S1 po go T O (um M 18 a (nI t)) n h (a + 1) cf ao mL ∧ GrF po S S1 := by
  obtain ⟨c1, c2, c3, c4, c5, c6, c7⟩ := hC
  have v : ∀ j, j < 4 → lV M n j := fun j hj => Or.inl hj
  obtain ⟨hg, ll, lk, gf⟩ := GS.lk (g := g) c1 (v 2 (by omega)) hA
  have e : Sy M (um M 18 a (nI t)) := um_sy (by decide)
  refine ⟨⟨(c1.ag hg (fun x => ⟨fun _ => by omega, fun _ => by omega⟩) (fun f x q _ => by omega) (fun x => by omega)).m e, ?_, (c3.ag c1 hh hg (fun x _ => by omega)).m e, ?_, ?_, (c6.ag c1 hh hg (fun x => ⟨fun _ => by omega, fun _ => by omega⟩) (fun x => by omega)).m e, (c7.ag c1 hh hg (fun x _ => by omega) (fun x => by omega)).m e (fun _ _ q => q)⟩, gf (by omega)⟩
  · exact c2.ag c1 hg (fun f x q1 q2 _ => by omega)
  · exact (c4.ag c1 hg (fun x _ => by omega) (fun x => ⟨fun _ => by omega, fun _ => by omega, fun _ => by omega⟩)).m e
  · refine ⟨lk 0 _ _ _ (v 0 (by omega)) (by omega) rfl c5.1, ?_, ?_, fun u hu => ?_⟩
    · rw [e.hd]; exact lk 1 _ _ _ (v 1 (by omega)) (by omega) rfl c5.2.1
    · rw [ll 2 (v 2 (by omega))]
      refine hL.cg (fun i hi => ?_)
      by_cases e2 : i = a
      · subst e2
        rw [va_up_self]
        simp only [acN, um_s]
        rw [nI_clamp (by omega)]
      · rw [va_up_ne _ _ e2]
        simp only [acN, um_sn e2]
    · rw [e.ov] at hu
      exact lk (4 + u) _ _ _ (lV4 hu) (by omega) (by omega) (c5.2.2.2 u hu)
end Lists
theorem rrL_fav {M : MM} {n h : Nat} {go : Nat → Bool} (hF : Fav M n) (hG : GV M n h) : ∀ k, Fav (rrL M n h go k) n
  | 0 => hF
  | k + 1 => by
    simp only [rrL]
    split
    · exact hF
    · split
      · exact rejL_fav (rrL_fav hF hG k) (hG.sq (rrL_sq k)) _
      · exact rrL_fav hF hG k
theorem rrL_23 {M : MM} {n h : Nat} {go : Nat → Bool} : ∀ k, rrL M n h go k 23 = M 23
  | 0 => rfl
  | k + 1 => by
    simp only [rrL]
    split
    · rfl
    · split
      · exact (rejL_23 _).trans (rrL_23 k)
      · exact rrL_23 k
theorem acc1_fav {M : MM} {n h t a : Nat} (hF : Fav M n) (hG : GV M n h) : Fav (acc1 M n h t a) n := rrL_fav (hF.of (show acM M t a 22 = M 22 by unfold acM; rw [um_n (by decide), um_n (by decide)])) (hG.sm (acM_sy (t := t) (a := a)).sm) _
theorem acc1_lat {M : MM} {n h t a : Nat} (hF : Lat M n) : Lat (acc1 M n h t a) n := hF.of ((rrL_23 _).trans (by rw [um_n (by decide), um_n (by decide)]))
section Accept
variable {l : Launch} {g : GG} {S : hS} {po go n h a t mi : Nat} {T O : Nat → Nat} {M : MM} {cf : Nat → Int32} {ao : Nat → Option Nat} {mL : Nat → List Nat}
theorem cg_accept {k0 : Nat} (hM : MIR g mi) (hC : CR g S po go T O M n h a cf ao mL) (hcf : cf = fun t => nI (conf M n h t)) (hml : mL = mem M n h) (hG : GV M n h) (hF : Fav M n) (hO : ODR M n h) (hR : RI M n h) (hk : k0 < h) (hk2 : hdN M k0 = t) (ht2 : M 13 t = nI 2) (hp : ∀ i, i < nP (M 11) t → M 13 (par M n t i) = nI 3) (ha : a ≤ 64) (hA : Acc M n a) : Sp l g mX2_accept 1 100 [vr (some go), vr (some (T t))] S (fun r S' => r = none ∧ CR g S' po go T O (acc1 M n h t a) n h (a + 1) cf (fun s => if inS M n t s then some t else ao s) mL ∧ GrF po S S') := by
  have hn := hG.1
  have hh := hG.2.1
  have hd : hdB M h t = true := hdB_iff.mpr ⟨k0, hk, hk2⟩
  have ht := hdB_lt hG hd
  have h4 := (hG.2.2.1 t ht).2.2.1
  have eM : Sy M (acM M t a) := acM_sy
  have eM14 : acM M t a 14 = M 14 := by unfold acM; rw [um_n (by decide), um_n (by decide)]
  have hGM : GV (acM M t a) n h := hG.sm eM.sm
  have hFM : Fav (acM M t a) n := hF.of (by unfold acM; rw [um_n (by decide), um_n (by decide)])
  refine Sp.start (own := RX2) [(0, vr (some go)), (1, vr (some (T t)))] (by decide +kernel) rfl rfl (Nat.le_of_ble_eq_true rfl) ?_
  intro J C
  have L2 : ∀ j S1, j ≤ h → (CR g S1 po go T O (rrL (acM M t a) n h (goL M n t h) j) n h (a + 1) cf (fun s => if inS M n t s then some t else ao s) mL ∧ GrF po S S1) → J 43 [(0, vr (some go)), (1, vr (some (T t))), (2, vi (nI j))] [] S1 1 100 := by
    refine up_loop _ _ _ ?_ ?_
    · intro S1 ⟨hC1, hg1⟩
      have hL1 := hC1.pL.l1
      refine r_iload_n (pc := 43) C dX2_accept_43 rfl ?_
      refine r_aload_n (pc := 44) C dX2_accept_44 rfl ?_
      refine r_getR (pc := 45) C dX2_accept_45 fx_RX2_25 hC1.pG.gk hC1.pG.1.2.2.1 ?_
      refine r_callV (pc := 48) C (ct_size hL1) iJx4a65c_size_8abf5 ml_RX2_60 dX2_accept_48 (ci := 0) rfl rfl hL1.k rfl (by decide) rfl (by simp [cv, Value.category, va_rf]) (by omega) (by omega) (fun r48 S48 h48 => ?_)
      obtain ⟨rfl, e48⟩ := h48
      subst S48
      dsimp only [Option.toList, List.cons_append, List.nil_append]
      refine r_icmp_ge (pc := 51) (tgt := 99) C dX2_accept_51 (by decide) (fun c51 => ?_) (fun c51 => ?_)
      · refine r_ret (pc := 99) C dX2_accept_99 rfl (by omega) (by omega) ?_
        exact ⟨rfl, by rw [acc1_eq]; exact hC1, hg1⟩
      · exact absurd (Int32.le_refl _) c51
    · intro j S1 hj ⟨hC1, hg1⟩ ih
      have sq := @rrL_sq (acM M t a) n h (goL M n t h) j
      have e1 : Sy M (rrL (acM M t a) n h (goL M n t h) j) := eM.tr sq.sy
      have hG1 := hGM.sq sq
      have hL1 := hC1.pL.l1
      rw [e1.hd] at hL1
      have hj' := hG.hn j hj
      have hbj : hdB M h (hdN M j) = true := hdB_iff.mpr ⟨j, hj, rfl⟩
      have hPo := hC1.pst hG1 (t := hdN M j) (by rw [e1.hb]; exact hbj)
      have hPt := hC1.pst hG1 (t := t) (by rw [e1.hb]; exact hd)
      have st := acc_step (a := a) hO hR hk (by rw [hk2]; exact ht2) (by rw [hk2]; exact hp) hj
      rw [hk2] at st
      have nx : ¬ (1 ≤ j ∧ goL M n t h (hdN M j) = true ∧ rrL (acM M t a) n h (goL M n t h) j 13 (hdN M j) = nI 2) → rrL (acM M t a) n h (goL M n t h) (j + 1) = rrL (acM M t a) n h (goL M n t h) j := fun q => by
        conv => lhs; unfold rrL
        by_cases j0 : j = 0
        · subst j0; rfl
        · rw [if_neg j0, eM.hd, if_neg]
          intro q2
          simp only [Bool.and_eq_true, decide_eq_true_eq] at q2
          exact q ⟨by omega, q2.1, q2.2⟩
      have ny : (1 ≤ j ∧ goL M n t h (hdN M j) = true ∧ rrL (acM M t a) n h (goL M n t h) j 13 (hdN M j) = nI 2) → rrL (acM M t a) n h (goL M n t h) (j + 1) = rej (rrL (acM M t a) n h (goL M n t h) j) n h (hdN M j) := fun q => by
        conv => lhs; unfold rrL
        rw [if_neg (by omega), eM.hd, if_pos (by rw [q.2.1, decide_eq_true q.2.2]; rfl)]
      refine r_iload_n (pc := 43) C dX2_accept_43 rfl ?_
      refine r_aload_n (pc := 44) C dX2_accept_44 rfl ?_
      refine r_getR (pc := 45) C dX2_accept_45 fx_RX2_25 hC1.pG.gk hC1.pG.1.2.2.1 ?_
      refine r_callV (pc := 48) C (ct_size hL1) iJx4a65c_size_8abf5 ml_RX2_60 dX2_accept_48 (ci := 0) rfl rfl hL1.k rfl (by decide) rfl (by simp [cv, Value.category, va_rf]) (by omega) (by omega) (fun r48 S48 h48 => ?_)
      obtain ⟨rfl, e48⟩ := h48
      subst S48
      dsimp only [Option.toList, List.cons_append, List.nil_append]
      refine r_icmp_ge (pc := 51) (tgt := 99) C dX2_accept_51 (by decide) (fun c51 => ?_) (fun c51 => ?_)
      · exact absurd c51 (nI_ge hj (by omega))
      · refine r_aload_n (pc := 54) C dX2_accept_54 rfl ?_
        refine r_getR (pc := 55) C dX2_accept_55 fx_RX2_25 hC1.pG.gk hC1.pG.1.2.2.1 ?_
        refine r_iload_n (pc := 58) C dX2_accept_58 rfl ?_
        refine r_callV (pc := 59) C (ct_get (by omega) (by omega) hL1 hj) iJx4a65c_get_915e3 ml_RX2_64 dX2_accept_59 (ci := 0) rfl rfl hL1.k rfl (by decide) rfl (by simp [cv, Value.category, va_rf]) (by omega) (by omega) (fun r59 S59 h59 => ?_)
        obtain ⟨rfl, e59⟩ := h59
        subst S59
        dsimp only [Option.toList, List.cons_append, List.nil_append]
        refine r_cast (pc := 62) C dX2_accept_62 (ci := 9) rfl kl_RX2_49 (hC1.pG.tk hj') ?_
        refine r_astore_n (pc := 65) C dX2_accept_65 (by decide) rfl ?_
        refine r_aload_n (pc := 66) C dX2_accept_66 rfl ?_
        refine r_callV (pc := 67) C (cg_isOpen hC1.pG hC1.pT hj') iX8_isOpen ml_RX2_172 dX2_accept_67 (ci := 9) rfl rfl (hC1.pG.tk hj') rfl (by decide) rfl (by simp [cv, Value.category, va_rf]) (by omega) (by omega) (fun r67 S67 h67 => ?_)
        obtain ⟨rfl, e67⟩ := h67
        subst S67
        dsimp only [Option.toList, List.cons_append, List.nil_append]
        refine r_if_eq (pc := 70) (tgt := 93) C dX2_accept_70 (by decide) (fun c70 => ?_) (fun c70 => ?_)
        · rw [bi_0, decide_eq_false_iff_not] at c70
          have ev := ih S1 ⟨by rw [nx (fun q => c70 q.2.2)]; exact hC1, hg1⟩
          refine r_iinc (pc := 93) C _ dX2_accept_93 rfl (nI_1 _) (by decide) rfl ?_
          refine r_goto (pc := 96) (tgt := 43) C dX2_accept_96 (by decide) ?_
          exact r_lv C [(0, vr (some go)), (1, vr (some (T t))), (2, vi (nI (j + 1)))] rfl ev
        · rw [bi_0, decide_eq_false_iff_not] at c70
          have c70t := Classical.not_not.mp c70
          refine r_aload_n (pc := 73) C dX2_accept_73 rfl ?_
          refine r_aload_n (pc := 74) C dX2_accept_74 rfl ?_
          refine r_callV (pc := 75) C (cg_shares hC1.pG (hG1.2.2.1 _ hj') (hG1.2.2.1 _ ht) hj' ht hPo.2 hPt.2) iX8_sharesSetWith ml_RX2_195 dX2_accept_75 (ci := 9) rfl rfl (hC1.pG.tk hj') rfl (by decide) rfl (by simp [cv, Value.category, va_rf]) (by omega) (by omega) (fun r75 S75 h75 => ?_)
          obtain ⟨rfl, e75⟩ := h75
          subst S75
          dsimp only [Option.toList, List.cons_append, List.nil_append]
          refine r_if_ne (pc := 78) (tgt := 88) C dX2_accept_78 (by decide) (fun c78 => ?_) (fun c78 => ?_)
          · rw [bi_0] at c78
            have cc := st.mp ⟨c70t, Or.inl (by
              have q := ts_nf c78
              rw [e1.ou, e1.2.1] at q
              obtain ⟨i, hi, q⟩ := anyU_iff.mp q
              obtain ⟨i2, hi2, q⟩ := anyU_iff.mp q
              rw [decide_eq_true_eq] at q
              exact ⟨_, inS_iff.mpr ⟨i, hi, rfl⟩, inS_iff.mpr ⟨i2, hi2, q.symm⟩⟩)⟩
            refine r_aload_n (pc := 88) C dX2_accept_88 rfl ?_
            refine r_aload_n (pc := 89) C dX2_accept_89 rfl ?_
            refine r_callV (pc := 90) C (cg_reject hC1 (by rw [hcf, sq.cf, eM.cf eM14]) (by rw [hml, e1.me]) hG1 (rrL_fav hFM hGM j) (by rw [e1.hb]; exact hbj)) iX2_reject ml_RX2_105 dX2_accept_90 (ci := 3) rfl rfl hC1.pG.gk rfl (by decide) rfl (by simp [cv, Value.category, va_rf]) (by omega) (by omega) (fun r90 S90 h90 => ?_)
            obtain ⟨rfl, hC2, hg2⟩ := h90
            dsimp only [Option.toList, List.cons_append, List.nil_append]
            have ev := ih _ ⟨by rw [ny cc]; exact hC2, hg1.tr hg2⟩
            refine r_iinc (pc := 93) C _ dX2_accept_93 rfl (nI_1 _) (by decide) rfl ?_
            refine r_goto (pc := 96) (tgt := 43) C dX2_accept_96 (by decide) ?_
            exact r_lv C [(0, vr (some go)), (1, vr (some (T t))), (2, vi (nI (j + 1)))] rfl ev
          · rw [bi_0] at c78
            refine r_aload_n (pc := 81) C dX2_accept_81 rfl ?_
            refine r_callV (pc := 82) C (cg_rejPar hC1.pG (hG1.2.2.1 _ hj') hC1.pT hj' hPo.1) iX8_hasRejectedParent ml_RX2_99 dX2_accept_82 (ci := 9) rfl rfl (hC1.pG.tk hj') rfl (by decide) rfl (by simp [cv, Value.category, va_rf]) (by omega) (by omega) (fun r82 S82 h82 => ?_)
            obtain ⟨rfl, e82⟩ := h82
            subst S82
            dsimp only [Option.toList, List.cons_append, List.nil_append]
            refine r_if_eq (pc := 85) (tgt := 93) C dX2_accept_85 (by decide) (fun c85 => ?_) (fun c85 => ?_)
            · rw [bi_0] at c85
              have ev := ih S1 ⟨by
                rw [nx (fun q => by
                  rcases (st.mpr q).2 with ⟨s, s1, s2⟩ | ⟨i, hi, q2⟩
                  · obtain ⟨i, hi, x1⟩ := inS_iff.mp s1
                    obtain ⟨i2, hi2, x2⟩ := inS_iff.mp s2
                    rw [e1.ou, e1.2.1] at c78
                    have := anyU_no.mp (anyU_no.mp c78 i hi) i2 hi2
                    rw [decide_eq_false_iff_not] at this
                    exact this (x1.trans x2.symm)
                  · rw [e1.pr, e1.2.1] at c85
                    have := anyU_no.mp c85 i hi
                    rw [decide_eq_false_iff_not] at this
                    exact this q2)]
                exact hC1, hg1⟩
              refine r_iinc (pc := 93) C _ dX2_accept_93 rfl (nI_1 _) (by decide) rfl ?_
              refine r_goto (pc := 96) (tgt := 43) C dX2_accept_96 (by decide) ?_
              exact r_lv C [(0, vr (some go)), (1, vr (some (T t))), (2, vi (nI (j + 1)))] rfl ev
            · rw [bi_0] at c85
              have cc := st.mp ⟨c70t, Or.inr (by
                have q := ts_nf c85
                rw [e1.pr, e1.2.1] at q
                obtain ⟨i, hi, q⟩ := anyU_iff.mp q
                rw [decide_eq_true_eq] at q
                exact ⟨i, hi, q⟩)⟩
              refine r_aload_n (pc := 88) C dX2_accept_88 rfl ?_
              refine r_aload_n (pc := 89) C dX2_accept_89 rfl ?_
              refine r_callV (pc := 90) C (cg_reject hC1 (by rw [hcf, sq.cf, eM.cf eM14]) (by rw [hml, e1.me]) hG1 (rrL_fav hFM hGM j) (by rw [e1.hb]; exact hbj)) iX2_reject ml_RX2_105 dX2_accept_90 (ci := 3) rfl rfl hC1.pG.gk rfl (by decide) rfl (by simp [cv, Value.category, va_rf]) (by omega) (by omega) (fun r90 S90 h90 => ?_)
              obtain ⟨rfl, hC2, hg2⟩ := h90
              dsimp only [Option.toList, List.cons_append, List.nil_append]
              have ev := ih _ ⟨by rw [ny cc]; exact hC2, hg1.tr hg2⟩
              refine r_iinc (pc := 93) C _ dX2_accept_93 rfl (nI_1 _) (by decide) rfl ?_
              refine r_goto (pc := 96) (tgt := 43) C dX2_accept_96 (by decide) ?_
              exact r_lv C [(0, vr (some go)), (1, vr (some (T t))), (2, vi (nI (j + 1)))] rfl ev
  have L1 : ∀ i S1, i ≤ nX (M 11) t → (CR g S1 po go T O (acM M t a) n h (a + 1) cf (fun s => if anyU (fun j => decide (out M n t j = s)) i then some t else ao s) mL ∧ GrF po S S1) → J 16 [(0, vr (some go)), (1, vr (some (T t))), (2, vi (nI i))] [] S1 1 100 := by
    refine up_loop _ _ _ ?_ ?_
    · intro S1 ⟨hC1, hg1⟩
      have h7 := hC1.pG.r7 ht
      rw [eM.2.1] at h7
      refine r_iload_n (pc := 16) C dX2_accept_16 rfl ?_
      refine r_aload_n (pc := 17) C dX2_accept_17 rfl ?_
      refine r_getR (pc := 18) C dX2_accept_18 fx_RX2_135 (hC1.pG.tk ht) h7.1 ?_
      refine r_alen (pc := 21) C dX2_accept_21 h7.2.1 (by first | decide | omega) ?_
      rw [h7.2.2]
      refine r_icmp_ge (pc := 22) (tgt := 41) C dX2_accept_22 (by decide) (fun c22 => ?_) (fun c22 => ?_)
      · refine r_iconst (pc := 41) C (nI 0) dX2_accept_41 rfl ?_
        refine r_istore_n (pc := 42) C dX2_accept_42 (by decide) rfl ?_
        exact r_lv C [(0, vr (some go)), (1, vr (some (T t))), (2, vi (nI 0))] rfl (L2 0 S1 (by omega) ⟨hC1, hg1⟩)
      · exact absurd (Int32.le_refl _) c22
    · intro i S1 hi ⟨hC1, hg1⟩ ih
      have h7 := hC1.pG.r7 ht
      rw [eM.2.1] at h7
      have hQ := (hC1.pst hGM (t := t) (by rw [eM.hb]; exact hd)).2 i (by rw [eM.2.1]; exact hi)
      rw [eM.ou] at hQ
      refine r_iload_n (pc := 16) C dX2_accept_16 rfl ?_
      refine r_aload_n (pc := 17) C dX2_accept_17 rfl ?_
      refine r_getR (pc := 18) C dX2_accept_18 fx_RX2_135 (hC1.pG.tk ht) h7.1 ?_
      refine r_alen (pc := 21) C dX2_accept_21 h7.2.1 (by first | decide | omega) ?_
      rw [h7.2.2]
      refine r_icmp_ge (pc := 22) (tgt := 41) C dX2_accept_22 (by decide) (fun c22 => ?_) (fun c22 => ?_)
      · exact absurd c22 (nI_ge hi (by omega))
      · refine r_aload_n (pc := 25) C dX2_accept_25 rfl ?_
        refine r_getR (pc := 26) C dX2_accept_26 fx_RX2_135 (hC1.pG.tk ht) h7.1 ?_
        refine r_iload_n (pc := 29) C dX2_accept_29 rfl ?_
        refine r_aald (pc := 30) C dX2_accept_30 h7.2.1 (by decide) h7.2.2 (by first | assumption | exact vp_in_nI (by omega) (by omega)) (by first | exact nI_clamp (by omega) | rfl) ?_
        rw [hQ.1]
        refine r_aload_n (pc := 31) C dX2_accept_31 rfl ?_
        refine r_putR (pc := 32) C dX2_accept_32 fx_RX2_193 (fp_4_4 _) (hC1.pG.o hQ.2).1 ?_
        refine r_iinc (pc := 35) C _ dX2_accept_35 rfl (nI_1 _) (by decide) rfl ?_
        refine r_goto (pc := 38) (tgt := 16) C dX2_accept_38 (by decide) ?_
        refine r_lv C [(0, vr (some go)), (1, vr (some (T t))), (2, vi (nI (i + 1)))] rfl (ih _ ⟨(hC1.aos hGM.hn hQ.2).aoe (fun u hu => ?_), hg1.tr (GrF.w5 (by omega))⟩)
        by_cases e5 : u = out M n t i
        · have e6 : anyU (fun j => decide (out M n t j = u)) (i + 1) = true := anyU_t (i := i) (by omega) (decide_eq_true e5.symm)
          rw [if_pos e5, if_pos e6]
        · have e6 : anyU (fun j => decide (out M n t j = u)) (i + 1) = anyU (fun j => decide (out M n t j = u)) i := by
            simp only [anyU]
            rw [decide_eq_false (show ¬ out M n t i = u from fun q => e5 q.symm), Bool.or_false]
          rw [if_neg e5, e6]
  refine r_aload_n (pc := 0) C dX2_accept_0 rfl ?_
  refine r_iconst (pc := 1) C (nI 3) dX2_accept_1 rfl ?_
  refine r_putI (pc := 2) C dX2_accept_2 fx_RX2_57 (fp_9_10 _) (hC.pG.tk ht) ?_
  have hC0 := hC.st hG.hn ht (v := nI 3) (by decide)
  have e0 : Sy M (um M 13 t (nI 3)) := um_sy (by decide)
  refine r_aload_n (pc := 5) C dX2_accept_5 rfl ?_
  refine r_getR (pc := 6) C dX2_accept_6 fx_RX2_28 hC0.pG.gk hC0.pG.1.2.2.2.1 ?_
  refine r_aload_n (pc := 9) C dX2_accept_9 rfl ?_
  refine r_callV (pc := 10) C (ct_add (by omega) ha hM hC0.pL.l2 (fun i hi => ⟨9, Or.inl rfl, hC0.pG.tk (by have := (hA i hi).2; simpa only [acN, um_n (show 18 ≠ 13 by decide)] using this)⟩) ⟨9, Or.inl rfl, hC0.pG.tk ht⟩) iJx4a65c_add_9ea2d ml_RX2_39 dX2_accept_10 (ci := 0) rfl rfl hC0.pL.l2.k rfl (by decide) rfl (by simp [cv, Value.category, va_rf]) (by omega) (by omega) (fun r10 S10 h10 => ?_)
  obtain ⟨rfl, hL2, hAu⟩ := h10
  dsimp only [Option.toList, List.cons_append, List.nil_append]
  have q2 := hC0.acs (t := t) (hG.sm e0.sm).hn hAu hL2 (by omega)
  refine r_pop (pc := 13) C dX2_accept_13 rfl ?_
  refine r_iconst (pc := 14) C (nI 0) dX2_accept_14 rfl ?_
  refine r_istore_n (pc := 15) C dX2_accept_15 (by decide) rfl ?_
  exact r_lv C [(0, vr (some go)), (1, vr (some (T t))), (2, vi (nI 0))] rfl (L1 0 _ (by omega) ⟨q2.1, (GrF.w4 (by omega)).tr q2.2⟩)
end Accept
