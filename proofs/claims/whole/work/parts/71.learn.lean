/-! The class: all that is ready is accepted; what a poll teaches -/
def c3 (M : MM) (n : Nat) : Nat := cntU (fun t => decide (M 13 t = nI 3)) n
/-- what holds of the graph's numbers while states move -/
def IV (M : MM) (n h a : Nat) : Prop := GV M n h ∧ ODR M n h ∧ RI M n h ∧ Fav M n ∧ Lat M n ∧ Acc M n a ∧ a = c3 M n
theorem cntU_lt1 {f : Nat → Bool} {t : Nat} (hf : f t = false) : ∀ n, t < n → cntU f n + 1 ≤ n
  | 0, h => by omega
  | n + 1, h => by
    simp only [cntU]
    by_cases e : t = n
    · subst e; rw [hf]; have := @cntU_le f t; simp; omega
    · have := cntU_lt1 hf n (by omega); split <;> omega
section AccW
variable {M : MM} {n h a t : Nat}
theorem acp_iff {b1 b2 : Int32} (ha : acp M n h b1 b2 t = true) : M 13 t = nI 2 ∧ ∀ i, i < nP (M 11) t → M 13 (par M n t i) = nI 3 := by
  simp only [acp, Bool.and_eq_true, decide_eq_true_eq] at ha
  refine ⟨ha.1.1.1, fun i hi => ?_⟩
  have := allU_iff.mp ha.1.2 i hi
  simpa using this
theorem IV.acc (hI : IV M n h a) {k : Nat} (hk : k < h) (ht : M 13 (hdN M k) = nI 2) (hp : ∀ i, i < nP (M 11) (hdN M k) → M 13 (par M n (hdN M k) i) = nI 3) : IV (acc1 M n h (hdN M k) a) n h (a + 1) ∧ a + 1 ≤ n := by
  obtain ⟨hG, hO, hR, hF, hL, hA, hc⟩ := hI
  have e : Sy M (acc1 M n h (hdN M k) a) := acc1_sy
  have ht' := hG.hn k hk
  have e18 : acc1 M n h (hdN M k) a 18 = upd (M 18) a (nI (hdN M k)) := by
    show rr (acM M (hdN M k) a) n h (hdN M k) 18 = _
    rw [rr_sq.e18]
    unfold acM
    simp only [um, uk_s]
    rw [uk_n (by decide)]
  refine ⟨⟨hG.sm e.sm, hO.sy e, hR.acc hO hk ht hp, acc1_fav hF hG, acc1_lat hL, ?_, ?_⟩, ?_⟩
  · intro i hi
    simp only [acN, e18]
    by_cases q : i = a
    · subst q; rw [pk_us, nI_clamp (by have := hG.1; omega)]; exact ⟨rfl, ht'⟩
    · rw [pk_un q]; exact hA i (by omega)
  · have q := cntU_upd (f := fun t => decide (M 13 t = nI 3)) (f' := fun t => decide (acc1 M n h (hdN M k) a 13 t = nI 3)) (t := hdN M k) (fun u hu => by
      rw [acc1_eq, acS hO (Nat.le_refl _), if_neg hu]
      by_cases c : (anyU (fun j => decide (1 ≤ j) && decide (hdN M j = u)) h && (goL M n (hdN M k) h u && decide (M 13 u = nI 2))) = true
      · rw [if_pos c]
        simp only [Bool.and_eq_true, decide_eq_true_eq] at c
        rw [c.2.2]; rfl
      · rw [if_neg c]) n ht'
    have c1 : acc1 M n h (hdN M k) a 13 (hdN M k) = nI 3 := by
      have g3 := go_no3 hO hR hk ht hp
      have ng : goL M n (hdN M k) h (hdN M k) = false := by
        cases c : goL M n (hdN M k) h (hdN M k) with
        | false => rfl
        | true => exact absurd rfl (g3 k hk c).1
      rw [accS hO (by omega) hk, ng, if_pos rfl, Bool.false_and]; rfl
    rw [decide_eq_true c1, ht, show decide ((nI 2 : Int32) = nI 3) = false by decide, if_pos rfl, if_neg (by decide)] at q
    show a + 1 = cntU (fun t => decide (acc1 M n h (hdN M k) a 13 t = nI 3)) n
    unfold c3 at hc
    omega
  · rw [hc]
    exact cntU_lt1 (f := fun t => decide (M 13 t = nI 3)) (t := hdN M k) (by rw [ht]; decide) n ht'
theorem accL_sy {b1 b2 : Int32} : ∀ k, Sy M (accL M n h b1 b2 a k).1 ∧ (accL M n h b1 b2 a k).1 14 = M 14 ∧ (accL M n h b1 b2 a k).1 15 = M 15
  | 0 => ⟨Sy.rf, rfl, rfl⟩
  | k + 1 => by
    simp only [accL]
    split
    · exact ⟨Sy.rf, rfl, rfl⟩
    · split
      · obtain ⟨h1, h2, h3⟩ := accL_sy (b1 := b1) (b2 := b2) k
        refine ⟨h1.tr acc1_sy, ?_, ?_⟩
        · show rr (acM _ _ _) n h _ 14 = _
          rw [rr_sq.e14]; unfold acM; rw [um_n (by decide), um_n (by decide)]; exact h2
        · show rr (acM _ _ _) n h _ 15 = _
          rw [rr_sq.e15]; unfold acM; rw [um_n (by decide), um_n (by decide)]; exact h3
      · exact accL_sy (b1 := b1) (b2 := b2) k
theorem IV.accL {b1 b2 : Int32} (hI : IV M n h a) : ∀ k, k ≤ h → IV (accL M n h b1 b2 a k).1 n h (accL M n h b1 b2 a k).2
  | 0, _ => hI
  | k + 1, hk => by
    have ih := IV.accL (b1 := b1) (b2 := b2) hI k (by omega)
    simp only [_root_.Jvm.Pilot.CSnowNodeLaw_law_r5193_5b532e.accL]
    split
    · exact hI
    · split
      · next c =>
        have e := (@accL_sy M n h a b1 b2 k).1
        have q := acp_iff c
        have := ih.acc (k := k) (by omega) (by rw [e.hd]; exact q.1) (by rw [e.hd]; exact q.2)
        rw [e.hd] at this
        exact this.1
      · exact ih
end AccW
section Learn
variable {l : Launch} {g : GG} {S : hS} {po go n h a t mi : Nat} {T O : Nat → Nat} {M : MM} {cf : Nat → Int32} {ao : Nat → Option Nat} {mL : Nat → List Nat} {b1 b2 : Int32}
theorem beta_gr {S1 : hS} (hg : GrF po S S1) (hk : sK S go = 4) (hB : sI S 300 go = b1 ∧ sI S 301 go = b2) : sI S1 300 go = b1 ∧ sI S1 301 go = b2 := by
  have h0 : sK S go ≠ 0 := by omega
  rw [hg.i h0 (by unfold oP; omega), hg.i h0 (by unfold oP; omega)]
  exact hB
theorem cg_acceptR (hM : MIR g mi) (hn : n ≤ 65) (hC : CR g S po go T O M n h a cf ao mL) (hcf : cf = fun t => nI (conf M n h t)) (hml : mL = mem M n h) (hao : ao = acO M n h) (hI : IV M n h a) (hB : sI S 300 go = b1 ∧ sI S 301 go = b2) : Sp l g mX2_acceptWhatIsReady 65 6500 [vr (some go)] S (fun r S' => r = none ∧ CR g S' po go T O (accL M n h b1 b2 a h).1 n h (accL M n h b1 b2 a h).2 cf (acO (accL M n h b1 b2 a h).1 n h) mL ∧ GrF po S S') := by
  have hh := hI.1.2.1
  have hG := hI.1
  refine Sp.start (own := RX2) [(0, vr (some go))] (by decide +kernel) rfl rfl (Nat.le_of_ble_eq_true rfl) ?_
  intro J C
  have L : ∀ k (x : hS × Nat × Nat), k ≤ h → (CR g x.1 po go T O (accL M n h b1 b2 a k).1 n h (accL M n h b1 b2 a k).2 cf (acO (accL M n h b1 b2 a k).1 n h) mL ∧ GrF po S x.1 ∧ x.2.1 ≤ k ∧ x.2.2 ≤ 100 * k) → J 2 [(0, vr (some go)), (1, vi (nI k))] [] x.1 x.2.1 x.2.2 := by
    refine up_loop _ _ _ ?_ ?_
    · rintro ⟨S1, kc, ns⟩ ⟨hC1, hg1, hk1, hk2⟩
      dsimp only at hC1 hg1 hk1 hk2 ⊢
      have hL1 := hC1.pL.l1
      refine r_iload_n (pc := 2) C dX2_acceptWhatIsReady_2 rfl ?_
      refine r_aload_n (pc := 3) C dX2_acceptWhatIsReady_3 rfl ?_
      refine r_getR (pc := 4) C dX2_acceptWhatIsReady_4 fx_RX2_25 hC1.pG.gk hC1.pG.1.2.2.1 ?_
      refine r_callV (pc := 7) C (ct_size hL1) iJx4a65c_size_8abf5 ml_RX2_60 dX2_acceptWhatIsReady_7 (ci := 0) rfl rfl hL1.k rfl (by decide) rfl (by simp [cv, Value.category, va_rf]) (by omega) (by omega) (fun r7 S7 h7 => ?_)
      obtain ⟨rfl, e7⟩ := h7
      subst S7
      dsimp only [Option.toList, List.cons_append, List.nil_append]
      refine r_icmp_ge (pc := 10) (tgt := 51) C dX2_acceptWhatIsReady_10 (by decide) (fun c10 => ?_) (fun c10 => ?_)
      · refine r_ret (pc := 51) C dX2_acceptWhatIsReady_51 rfl (by omega) (by omega) ?_
        exact ⟨rfl, hC1, hg1⟩
      · exact absurd (Int32.le_refl _) c10
    · rintro k ⟨S1, kc, ns⟩ hk ⟨hC1, hg1, hk1, hk2⟩ ih
      dsimp only at hC1 hg1 hk1 hk2 ⊢
      obtain ⟨e1, e14, -⟩ := @accL_sy M n h a b1 b2 k
      have hI1 := IV.accL (b1 := b1) (b2 := b2) hI k (by omega)
      have hG1 := hI1.1
      have hL1 := hC1.pL.l1
      rw [e1.hd] at hL1
      have ht := hG.hn k hk
      have hbk : hdB M h (hdN M k) = true := hdB_iff.mpr ⟨k, hk, rfl⟩
      have hP := hC1.pst hG1 (t := hdN M k) (by rw [e1.hb]; exact hbk)
      have nx : (decide ((accL M n h b1 b2 a k).1 13 (hdN M k) = nI 2) && ((allU (fun i => decide ((accL M n h b1 b2 a k).1 13 (par M n (hdN M k) i) = nI 3)) (nP (M 11) (hdN M k)) && liked (accL M n h b1 b2 a k).1 n (hdN M k)) && allU (fun i => decide ((accL M n h b1 b2 a k).1 23 (out M n (hdN M k) i) = nI (hdN M k)) && !dlt ((accL M n h b1 b2 a k).1 24 (out M n (hdN M k) i)) (need (accL M n h b1 b2 a k).1 n h b1 b2 (out M n (hdN M k) i))) (nX (M 11) (hdN M k)))) = acp (accL M n h b1 b2 a k).1 n h b1 b2 (hdN M k) := by
        simp only [acp, e1.pr, e1.ou, e1.2.1]
        generalize decide ((accL M n h b1 b2 a k).1 13 (hdN M k) = nI 2) = q1
        generalize liked (accL M n h b1 b2 a k).1 n (hdN M k) = q2
        generalize allU _ (nP (M 11) (hdN M k)) = q3
        generalize allU _ (nX (M 11) (hdN M k)) = q4
        cases q1 <;> cases q2 <;> cases q3 <;> cases q4 <;> rfl
      have no : acp (accL M n h b1 b2 a k).1 n h b1 b2 (hdN M k) = false → accL M n h b1 b2 a (k + 1) = accL M n h b1 b2 a k := fun q => by
        simp only [accL]
        by_cases k0 : k = 0
        · subst k0; rfl
        · rw [if_neg k0, q]; rfl
      have yes : acp (accL M n h b1 b2 a k).1 n h b1 b2 (hdN M k) = true → accL M n h b1 b2 a (k + 1) = (acc1 (accL M n h b1 b2 a k).1 n h (hdN M k) (accL M n h b1 b2 a k).2, (accL M n h b1 b2 a k).2 + 1) := fun q => by
        simp only [accL]
        have k0 : k ≠ 0 := fun q0 => by
          subst q0
          have := (acp_iff q).1
          have hR := hI1.2.2.1
          rw [← e1.hd, hR.2.2.2.2.1, hR.2.2.2.2.2] at this
          exact ne23 this.symm
        rw [if_neg k0, if_pos q]
      have ev0 : acp (accL M n h b1 b2 a k).1 n h b1 b2 (hdN M k) = false → J 2 [(0, vr (some go)), (1, vi (nI (k + 1)))] [] S1 kc ns := fun q => ih (S1, kc, ns) ⟨by rw [no q]; exact hC1, hg1, by dsimp only; omega, by dsimp only; omega⟩
      refine r_iload_n (pc := 2) C dX2_acceptWhatIsReady_2 rfl ?_
      refine r_aload_n (pc := 3) C dX2_acceptWhatIsReady_3 rfl ?_
      refine r_getR (pc := 4) C dX2_acceptWhatIsReady_4 fx_RX2_25 hC1.pG.gk hC1.pG.1.2.2.1 ?_
      refine r_callV (pc := 7) C (ct_size hL1) iJx4a65c_size_8abf5 ml_RX2_60 dX2_acceptWhatIsReady_7 (ci := 0) rfl rfl hL1.k rfl (by decide) rfl (by simp [cv, Value.category, va_rf]) (by omega) (by omega) (fun r7 S7 h7 => ?_)
      obtain ⟨rfl, e7⟩ := h7
      subst S7
      dsimp only [Option.toList, List.cons_append, List.nil_append]
      refine r_icmp_ge (pc := 10) (tgt := 51) C dX2_acceptWhatIsReady_10 (by decide) (fun c10 => ?_) (fun c10 => ?_)
      · exact absurd c10 (nI_ge hk (by omega))
      · refine r_aload_n (pc := 13) C dX2_acceptWhatIsReady_13 rfl ?_
        refine r_getR (pc := 14) C dX2_acceptWhatIsReady_14 fx_RX2_25 hC1.pG.gk hC1.pG.1.2.2.1 ?_
        refine r_iload_n (pc := 17) C dX2_acceptWhatIsReady_17 rfl ?_
        refine r_callV (pc := 18) C (ct_get (by omega) (by omega) hL1 hk) iJx4a65c_get_915e3 ml_RX2_64 dX2_acceptWhatIsReady_18 (ci := 0) rfl rfl hL1.k rfl (by decide) rfl (by simp [cv, Value.category, va_rf]) (by omega) (by omega) (fun r18 S18 h18 => ?_)
        obtain ⟨rfl, e18⟩ := h18
        subst S18
        dsimp only [Option.toList, List.cons_append, List.nil_append]
        refine r_cast (pc := 21) C dX2_acceptWhatIsReady_21 (ci := 9) rfl kl_RX2_49 (hC1.pG.tk ht) ?_
        refine r_astore_n (pc := 24) C dX2_acceptWhatIsReady_24 (by decide) rfl ?_
        refine r_aload_n (pc := 25) C dX2_acceptWhatIsReady_25 rfl ?_
        refine r_callV (pc := 26) C (cg_isOpen hC1.pG hC1.pT ht) iX8_isOpen ml_RX2_172 dX2_acceptWhatIsReady_26 (ci := 9) rfl rfl (hC1.pG.tk ht) rfl (by decide) rfl (by simp [cv, Value.category, va_rf]) (by omega) (by omega) (fun r26 S26 h26 => ?_)
        obtain ⟨rfl, e26⟩ := h26
        subst S26
        dsimp only [Option.toList, List.cons_append, List.nil_append]
        refine r_if_eq (pc := 29) (tgt := 45) C dX2_acceptWhatIsReady_29 (by decide) (fun c29 => ?_) (fun c29 => ?_)
        · rw [bi_0] at c29
          have ev := ev0 (by rw [← nx, c29, Bool.false_and])
          refine r_iinc (pc := 45) C _ dX2_acceptWhatIsReady_45 rfl (nI_1 _) (by decide) rfl ?_
          refine r_goto (pc := 48) (tgt := 2) C dX2_acceptWhatIsReady_48 (by decide) ?_
          exact r_lv C [(0, vr (some go)), (1, vi (nI (k + 1)))] rfl ev
        · rw [bi_0] at c29
          refine r_aload_n (pc := 32) C dX2_acceptWhatIsReady_32 rfl ?_
          refine r_aload_n (pc := 33) C dX2_acceptWhatIsReady_33 rfl ?_
          refine r_callV (pc := 34) C (cg_isReady (mL := mL) hC1.pG hG1 hI1.2.2.2.1 hI1.2.2.2.2.1 (beta_gr hg1 hC.pG.gk hB) hC1.pT hC1.pO hC1.pH (fun s hs => hC1.pL.l4 hs) (fun s hs => by rw [hml, mem_len, e1.mb]) ht hP.1 hP.2 (by rw [e1.hb]; exact hbk)) iX2_isReady ml_RX2_175 dX2_acceptWhatIsReady_34 (ci := 3) rfl rfl hC1.pG.gk rfl (by decide) rfl (by simp [cv, Value.category, va_rf]) (by omega) (by omega) (fun r34 S34 h34 => ?_)
          obtain ⟨rfl, e34⟩ := h34
          subst S34
          dsimp only [Option.toList, List.cons_append, List.nil_append]
          rw [e1.pr, e1.ou, e1.2.1]
          refine r_if_eq (pc := 37) (tgt := 45) C dX2_acceptWhatIsReady_37 (by decide) (fun c37 => ?_) (fun c37 => ?_)
          · rw [bi_0] at c37
            have ev := ev0 (by rw [← nx, c37, Bool.and_false])
            refine r_iinc (pc := 45) C _ dX2_acceptWhatIsReady_45 rfl (nI_1 _) (by decide) rfl ?_
            refine r_goto (pc := 48) (tgt := 2) C dX2_acceptWhatIsReady_48 (by decide) ?_
            exact r_lv C [(0, vr (some go)), (1, vi (nI (k + 1)))] rfl ev
          · rw [bi_0] at c37
            have cy : acp (accL M n h b1 b2 a k).1 n h b1 b2 (hdN M k) = true := by rw [← nx, ts_nf c37, ts_nf c29]; rfl
            have cz := acp_iff cy
            have hst := hI1.acc (k := k) hk (by rw [e1.hd]; exact cz.1) (by rw [e1.hd]; exact cz.2)
            refine r_aload_n (pc := 40) C dX2_acceptWhatIsReady_40 rfl ?_
            refine r_aload_n (pc := 41) C dX2_acceptWhatIsReady_41 rfl ?_
            refine r_callV (pc := 42) C (cg_accept hM hC1 (by rw [hcf, e1.cf e14]) (by rw [hml, e1.me]) hG1 hI1.2.2.2.1 hI1.2.1 hI1.2.2.1 hk (by rw [e1.hd]) cz.1 cz.2 (by omega) hI1.2.2.2.2.2.1) iX2_accept ml_RX2_178 dX2_acceptWhatIsReady_42 (ci := 3) rfl rfl hC1.pG.gk rfl (by decide) rfl (by simp [cv, Value.category, va_rf]) (by omega) (by omega) (fun r42 S42 h42 => ?_)
            obtain ⟨rfl, hC2, hg2⟩ := h42
            dsimp only [Option.toList, List.cons_append, List.nil_append]
            have hC3 := hC2.aoe (ao' := acO (acc1 (accL M n h b1 b2 a k).1 n h (hdN M k) (accL M n h b1 b2 a k).2) n h) (fun u _ => by have q := acc_acO (a := (accL M n h b1 b2 a k).2) hI1.2.1 hI1.2.2.1 hk (by rw [e1.hd]; exact cz.1) (by rw [e1.hd]; exact cz.2) u; rw [e1.hd] at q; exact q)
            have ev := ih (_, kc + 1, ns + 100) ⟨by rw [yes cy]; exact hC3, hg1.tr hg2, by dsimp only; omega, by dsimp only; omega⟩
            refine r_iinc (pc := 45) C _ dX2_acceptWhatIsReady_45 rfl (nI_1 _) (by decide) rfl ?_
            refine r_goto (pc := 48) (tgt := 2) C dX2_acceptWhatIsReady_48 (by decide) ?_
            exact r_lv C [(0, vr (some go)), (1, vi (nI (k + 1)))] rfl ev
  refine r_iconst (pc := 0) C (nI 0) dX2_acceptWhatIsReady_0 rfl ?_
  refine r_istore_n (pc := 1) C dX2_acceptWhatIsReady_1 (by decide) rfl ?_
  exact r_lv C [(0, vr (some go)), (1, vi (nI 0))] rfl (L 0 (S, 0, 0) (by omega) ⟨by rw [hao] at hC; exact hC, Ag.rf, by dsimp only; omega, by dsimp only; omega⟩)
end Learn
