/-! The class: those that wait are looked at -/
def lw (M : MM) (n h : Nat) : MM × Nat := match fstU (wai M n) n with
  | none => (M, h)
  | some w => lok M n h w
section Wait
variable {l : Launch} {g : GG} {S : hS} {po go n h a t mi : Nat} {T O : Nat → Nat} {M : MM}
theorem cg_lookAtN (hC : CG g S po go T O M n h a) (hPI : PI M n h a) (hn : n ≤ 65) (ht : t < n) (h1 : M 13 t = nI 1) (hgo : goes M n t = false) : Sp l g mX2_lookAt 0 0 [vr (some go), vr (some (T t))] S (fun r S' => r = some (vi (bi false)) ∧ CG g S' po go T O M n h a ∧ GrF po S S') := by
  have hI := hPI.1
  have hG := hI.1
  have hnd := hPI.wait ht h1
  have hR := hG.2.2.1 t ht
  have e : lkP M n t (nP (M 11) t) = some true := by
    unfold goes at hgo
    cases e : lkP M n t (nP (M 11) t) with
    | none => rw [e] at hgo; cases hgo
    | some w => cases w with
      | true => rfl
      | false => rw [e] at hgo; cases hgo
  refine Sp.start (own := RX2) [(0, vr (some go)), (1, vr (some (T t)))] (by decide +kernel) rfl rfl (Nat.le_of_ble_eq_true rfl) ?_
  intro J C
  refine r_aload_n (pc := 0) C dX2_lookAt_0 rfl ?_
  refine r_aload_n (pc := 1) C dX2_lookAt_1 rfl ?_
  refine r_callV (pc := 2) C (cg_findPar hC.pG hC.pL.l0 hC.pT hPI.2.1 (by omega) hR ht) iX2_findParents ml_RX2_79 dX2_lookAt_2 (ci := 3) rfl rfl hC.pG.gk rfl (by decide) rfl (by simp [cv, Value.category, va_rf]) (by omega) (by omega) (fun r2 S2 h2 => ?_)
  obtain ⟨rfl, hg1, j1, j2, hpt⟩ := h2
  dsimp only [Option.toList, List.cons_append, List.nil_append]
  rw [e]
  refine r_istore_n (pc := 5) C dX2_lookAt_5 (by decide) rfl ?_
  refine r_iload_n (pc := 6) C dX2_lookAt_6 rfl ?_
  refine r_iconst (pc := 7) C (nI 1) dX2_lookAt_7 rfl ?_
  refine r_icmp_ne (pc := 8) (tgt := 13) C dX2_lookAt_8 (by decide) (fun c8 => ?_) (fun c8 => ?_)
  · exact absurd rfl c8
  · refine r_iconst (pc := 11) C (nI 0) dX2_lookAt_11 rfl ?_
    refine r_zret (pc := 12) C dX2_lookAt_12 rfl (by first | exact Or.inl rfl | exact Or.inr rfl | assumption) (by omega) (by omega) ?_
    exact ⟨rfl, hC.own hG ht hnd hg1 (fun q i hi => by rw [j1]; exact hC.pA.2 t ht q i hi), hg1.gr⟩
theorem wai_f (h1 : M 13 t ≠ nI 1) : wai M n t = false := by unfold wai; rw [decide_eq_false h1, Bool.false_and]
theorem cg_waiting (hM : MIR g mi) (hC : CG g S po go T O M n h a) (hPI : PI M n h a) (hn : n ≤ 65) : Sp l g mX2_lookAtWaiting 5 500 [vr (some go)] S (fun r S' => r = some (vi (bi (fstU (wai M n) n).isSome)) ∧ CG g S' po go T O (lw M n h).1 n (lw M n h).2 a ∧ GrF po S S') := by
  refine Sp.start (own := RX2) [(0, vr (some go))] (by decide +kernel) rfl rfl (Nat.le_of_ble_eq_true rfl) ?_
  intro J C
  have L : ∀ i S1, i ≤ n → (CG g S1 po go T O M n h a ∧ GrF po S S1 ∧ fstU (wai M n) i = none) → J 2 [(0, vr (some go)), (1, vi (nI i))] [] S1 0 0 := by
    refine up_loop _ _ _ ?_ ?_
    · intro S1 ⟨hC1, hg1, hf⟩
      have hL1 := hC1.pL.l0
      refine r_iload_n (pc := 2) C dX2_lookAtWaiting_2 rfl ?_
      refine r_aload_n (pc := 3) C dX2_lookAtWaiting_3 rfl ?_
      refine r_getR (pc := 4) C dX2_lookAtWaiting_4 fx_RX2_21 hC1.pG.gk hC1.pG.1.2.1 ?_
      refine r_callV (pc := 7) C (ct_size hL1) iJx4a65c_size_8abf5 ml_RX2_60 dX2_lookAtWaiting_7 (ci := 0) rfl rfl hL1.k rfl (by decide) rfl (by simp [cv, Value.category, va_rf]) (by omega) (by omega) (fun r7 S7 h7 => ?_)
      obtain ⟨rfl, e7⟩ := h7
      subst S7
      dsimp only [Option.toList, List.cons_append, List.nil_append]
      refine r_icmp_ge (pc := 10) (tgt := 49) C dX2_lookAtWaiting_10 (by decide) (fun c10 => ?_) (fun c10 => ?_)
      · refine r_iconst (pc := 49) C (nI 0) dX2_lookAtWaiting_49 rfl ?_
        refine r_zret (pc := 50) C dX2_lookAtWaiting_50 rfl (by first | exact Or.inl rfl | exact Or.inr rfl | assumption) (by omega) (by omega) ?_
        exact ⟨by rw [hf]; rfl, by unfold lw; rw [hf]; exact hC1, hg1⟩
      · exact absurd (Int32.le_refl _) c10
    · intro i S1 hi ⟨hC1, hg1, hf⟩ ih
      have hL1 := hC1.pL.l0
      have K33 : M 13 i = nI 1 → goes M n i = true → J 33 [(0, vr (some go)), (1, vi (nI i)), (2, vr (some (T i)))] [] S1 0 0 := by
        intro h1 hgo
        have hw : wai M n i = true := by unfold wai; rw [decide_eq_true h1, hgo]; rfl
        have hfs : fstU (wai M n) n = some i := fstU_le (fstU_t hw hf) (show i + 1 ≤ n by omega)
        refine r_aload_n (pc := 33) C dX2_lookAtWaiting_33 rfl ?_
        refine r_aload_n (pc := 34) C dX2_lookAtWaiting_34 rfl ?_
        refine r_callV (pc := 35) C (cg_lookAt hM hC1 hPI hn hi h1) iX2_lookAt ml_RX2_71 dX2_lookAtWaiting_35 (ci := 3) rfl rfl hC1.pG.gk rfl (by decide) rfl (by simp [cv, Value.category, va_rf]) (by omega) (by omega) (fun r35 S35 h35 => ?_)
        obtain ⟨rfl, hC2, hg2⟩ := h35
        dsimp only [Option.toList, List.cons_append, List.nil_append]
        rw [hgo]
        refine r_if_eq (pc := 38) (tgt := 43) C dX2_lookAtWaiting_38 (by decide) (fun c38 => ?_) (fun c38 => ?_)
        · exact absurd c38 (by decide)
        · refine r_iconst (pc := 41) C (nI 1) dX2_lookAtWaiting_41 rfl ?_
          refine r_zret (pc := 42) C dX2_lookAtWaiting_42 rfl (by first | exact Or.inl rfl | exact Or.inr rfl | assumption) (by omega) (by omega) ?_
          exact ⟨by rw [hfs]; rfl, by unfold lw; rw [hfs]; exact hC2, hg1.tr hg2⟩
      have K33n : M 13 i = nI 1 → goes M n i = false → J 33 [(0, vr (some go)), (1, vi (nI i)), (2, vr (some (T i)))] [] S1 0 0 := by
        intro h1 hgo
        have hw : wai M n i = false := by unfold wai; rw [hgo, Bool.and_false]
        refine r_aload_n (pc := 33) C dX2_lookAtWaiting_33 rfl ?_
        refine r_aload_n (pc := 34) C dX2_lookAtWaiting_34 rfl ?_
        refine r_callV (pc := 35) C (cg_lookAtN hC1 hPI hn hi h1 hgo) iX2_lookAt ml_RX2_71 dX2_lookAtWaiting_35 (ci := 3) rfl rfl hC1.pG.gk rfl (by decide) rfl (by simp [cv, Value.category, va_rf]) (by omega) (by omega) (fun r35 S35 h35 => ?_)
        obtain ⟨rfl, hC2, hg2⟩ := h35
        dsimp only [Option.toList, List.cons_append, List.nil_append]
        refine r_if_eq (pc := 38) (tgt := 43) C dX2_lookAtWaiting_38 (by decide) (fun c38 => ?_) (fun c38 => ?_)
        · refine r_iinc (pc := 43) C _ dX2_lookAtWaiting_43 rfl (nI_1 _) (by decide) rfl ?_
          refine r_goto (pc := 46) (tgt := 2) C dX2_lookAtWaiting_46 (by decide) ?_
          exact r_lv C [(0, vr (some go)), (1, vi (nI (i + 1)))] rfl (ih _ ⟨hC2, hg1.tr hg2, by rw [fstU_f hw]; exact hf⟩)
        · exact absurd rfl c38
      refine r_iload_n (pc := 2) C dX2_lookAtWaiting_2 rfl ?_
      refine r_aload_n (pc := 3) C dX2_lookAtWaiting_3 rfl ?_
      refine r_getR (pc := 4) C dX2_lookAtWaiting_4 fx_RX2_21 hC1.pG.gk hC1.pG.1.2.1 ?_
      refine r_callV (pc := 7) C (ct_size hL1) iJx4a65c_size_8abf5 ml_RX2_60 dX2_lookAtWaiting_7 (ci := 0) rfl rfl hL1.k rfl (by decide) rfl (by simp [cv, Value.category, va_rf]) (by omega) (by omega) (fun r7 S7 h7 => ?_)
      obtain ⟨rfl, e7⟩ := h7
      subst S7
      dsimp only [Option.toList, List.cons_append, List.nil_append]
      refine r_icmp_ge (pc := 10) (tgt := 49) C dX2_lookAtWaiting_10 (by decide) (fun c10 => ?_) (fun c10 => ?_)
      · exact absurd c10 (nI_ge hi (by omega))
      · refine r_aload_n (pc := 13) C dX2_lookAtWaiting_13 rfl ?_
        refine r_getR (pc := 14) C dX2_lookAtWaiting_14 fx_RX2_21 hC1.pG.gk hC1.pG.1.2.1 ?_
        refine r_iload_n (pc := 17) C dX2_lookAtWaiting_17 rfl ?_
        refine r_callV (pc := 18) C (ct_get (by omega) (by omega) hL1 hi) iJx4a65c_get_915e3 ml_RX2_64 dX2_lookAtWaiting_18 (ci := 0) rfl rfl hL1.k rfl (by decide) rfl (by simp [cv, Value.category, va_rf]) (by omega) (by omega) (fun r18 S18 h18 => ?_)
        obtain ⟨rfl, e18⟩ := h18
        subst S18
        dsimp only [Option.toList, List.cons_append, List.nil_append]
        refine r_cast (pc := 21) C dX2_lookAtWaiting_21 (ci := 9) rfl kl_RX2_49 (hC1.pG.tk hi) ?_
        refine r_astore_n (pc := 24) C dX2_lookAtWaiting_24 (by decide) rfl ?_
        refine r_aload_n (pc := 25) C dX2_lookAtWaiting_25 rfl ?_
        refine r_getI (pc := 26) C dX2_lookAtWaiting_26 fx_RX2_57 (hC1.pG.tk hi) ?_
        rw [(hC1.pT i hi).1]
        refine r_iconst (pc := 29) C (nI 1) dX2_lookAtWaiting_29 rfl ?_
        refine r_icmp_ne (pc := 30) (tgt := 43) C dX2_lookAtWaiting_30 (by decide) (fun c30 => ?_) (fun c30 => ?_)
        · have ev := ih S1 ⟨hC1, hg1, by rw [fstU_f (wai_f c30)]; exact hf⟩
          refine r_iinc (pc := 43) C _ dX2_lookAtWaiting_43 rfl (nI_1 _) (by decide) rfl ?_
          refine r_goto (pc := 46) (tgt := 2) C dX2_lookAtWaiting_46 (by decide) ?_
          exact r_lv C [(0, vr (some go)), (1, vi (nI (i + 1)))] rfl ev
        · cases hgo : goes M n i with
          | true => exact r_lv C [(0, vr (some go)), (1, vi (nI i)), (2, vr (some (T i)))] rfl (K33 c30 hgo)
          | false => exact r_lv C [(0, vr (some go)), (1, vi (nI i)), (2, vr (some (T i)))] rfl (K33n c30 hgo)
  refine r_iconst (pc := 0) C (nI 0) dX2_lookAtWaiting_0 rfl ?_
  refine r_istore_n (pc := 1) C dX2_lookAtWaiting_1 (by decide) rfl ?_
  exact r_lv C [(0, vr (some go)), (1, vi (nI 0))] rfl (L 0 S (by omega) ⟨hC, Ag.rf, rfl⟩)
theorem PI.lw (hP : PI M n h a) : PI (lw M n h).1 n (lw M n h).2 a := by
  unfold _root_.Jvm.Pilot.CSnowNodeLaw_law_r5193_5b532e.lw
  cases e : fstU (wai M n) n with
  | none => exact hP
  | some w =>
    obtain ⟨h1, h2, h3⟩ := fstU_some e
    exact hP.lok h1 (wai_w h2)
theorem itW_none {f h' : Nat} (h : fstU (wai M n) n = none) : itW f M n h' = (M, h') := by
  cases f with
  | zero => rfl
  | succ f => simp only [itW, h]
theorem itW_s {f : Nat} : itW (f + 1) M n h = itW f (lw M n h).1 n (lw M n h).2 := by
  cases e : fstU (wai M n) n with
  | none =>
    have : lw M n h = (M, h) := by unfold lw; rw [e]
    rw [this, itW_none e, itW_none e]
  | some w =>
    have : lw M n h = lok M n h w := by unfold lw; rw [e]
    rw [this]
    simp only [itW, e]
/-- behind the first look -/
theorem admit_loop {b : Bool} {x : Nat} {S0 : hS} {hT : Nat} {MT : MM} {J : JJ} (hM : MIR g mi) (C : Cx l g mX2_admit 706 70600 RX2 (fun r S' => r = none ∧ CG g S' po go T O MT n hT a ∧ GrF po S0 S') J) (hn : n ≤ 65) : ∀ i (y : hS × MM × Nat × Bool), i ≤ 140 → (CG g y.1 po go T O y.2.1 n y.2.2.1 a ∧ PI y.2.1 n y.2.2.1 a ∧ GrF po S0 y.1 ∧ (y.2.2.2 = true → (MT, hT) = itW (140 - i) y.2.1 n y.2.2.1) ∧ (y.2.2.2 = false → (MT, hT) = (y.2.1, y.2.2.1))) → J 17 [(0, vr (some go)), (1, vr (some x)), (2, vi (bi y.2.2.2)), (3, vi (nI i))] [] y.1 (6 + 5 * i) (600 + 500 * i) := by
  have fin : ∀ S1 M1 h1, CG g S1 po go T O M1 n h1 a → (MT, hT) = (M1, h1) → CG g S1 po go T O MT n hT a := fun S1 M1 h1 q e => by
    have e1 := congrArg Prod.fst e
    have e2 := congrArg Prod.snd e
    dsimp only at e1 e2
    rw [e1, e2]; exact q
  refine up_loop _ _ _ ?_ ?_
  · rintro ⟨S1, M1, h1, b1⟩ ⟨hC1, hP1, hg1, ht, hf⟩
    dsimp only at hC1 hP1 hg1 ht hf ⊢
    refine r_iload_n (pc := 17) C dX2_admit_17 rfl ?_
    refine r_sipush (pc := 18) C (nI 140) dX2_admit_18 rfl ?_
    refine r_icmp_ge (pc := 21) (tgt := 39) C dX2_admit_21 (by decide) (fun c21 => ?_) (fun c21 => ?_)
    · refine r_ret (pc := 39) C dX2_admit_39 rfl (by omega) (by omega) ?_
      refine ⟨rfl, fin _ _ _ hC1 ?_, hg1⟩
      cases b1 with
      | true => exact ht rfl
      | false => exact hf rfl
    · exact absurd (Int32.le_refl _) c21
  · rintro i ⟨S1, M1, h1, b1⟩ hi ⟨hC1, hP1, hg1, ht, hf⟩ ih
    dsimp only at hC1 hP1 hg1 ht hf ⊢
    refine r_iload_n (pc := 17) C dX2_admit_17 rfl ?_
    refine r_sipush (pc := 18) C (nI 140) dX2_admit_18 rfl ?_
    refine r_icmp_ge (pc := 21) (tgt := 39) C dX2_admit_21 (by decide) (fun c21 => ?_) (fun c21 => ?_)
    · exact absurd c21 (nI_ge hi (by omega))
    · refine r_iload_n (pc := 24) C dX2_admit_24 rfl ?_
      refine r_if_eq (pc := 25) (tgt := 39) C dX2_admit_25 (by decide) (fun c25 => ?_) (fun c25 => ?_)
      · rw [bi_0] at c25
        refine r_ret (pc := 39) C dX2_admit_39 rfl (by omega) (by omega) ?_
        exact ⟨rfl, fin _ _ _ hC1 (hf c25), hg1⟩
      · rw [bi_0] at c25
        have c25t := ts_nf c25
        refine r_aload_n (pc := 28) C dX2_admit_28 rfl ?_
        refine r_callV (pc := 29) C (cg_waiting hM hC1 hP1 hn) iX2_lookAtWaiting ml_RX2_75 dX2_admit_29 (ci := 3) rfl rfl hC1.pG.gk rfl (by decide) rfl (by simp [cv, Value.category, va_rf]) (by omega) (by omega) (fun r29 S29 h29 => ?_)
        obtain ⟨rfl, hC2, hg2⟩ := h29
        dsimp only [Option.toList, List.cons_append, List.nil_append]
        refine r_istore_n (pc := 32) C dX2_admit_32 (by decide) rfl ?_
        refine r_iinc (pc := 33) C _ dX2_admit_33 rfl (nI_1 _) (by decide) rfl ?_
        refine r_goto (pc := 36) (tgt := 17) C dX2_admit_36 (by decide) ?_
        have hT2 := ht c25t
        rw [show 140 - i = (140 - (i + 1)) + 1 by omega, itW_s] at hT2
        have q := ih (_, (lw M1 n h1).1, (lw M1 n h1).2, (fstU (wai M1 n) n).isSome) ⟨hC2, hP1.lw, hg1.tr hg2, fun _ => hT2, fun q2 => by
          have e3 : fstU (wai M1 n) n = none := by cases e4 : fstU (wai M1 n) n with | none => rfl | some w => dsimp only at q2; rw [e4] at q2; cases q2
          have e5 : lw M1 n h1 = (M1, h1) := by unfold lw; rw [e3]
          rw [e5, itW_none e3] at hT2
          dsimp only
          rw [e5]; exact hT2⟩
        rw [show 6 + 5 * i + 5 = 6 + 5 * (i + 1) by omega, show 600 + 500 * i + 500 = 600 + 500 * (i + 1) by omega]
        exact r_lv C [(0, vr (some go)), (1, vr (some x)), (2, vi _), (3, vi (nI (i + 1)))] rfl q
end Wait
