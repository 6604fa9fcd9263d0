/-! The class: a waiting transaction is looked at -/
def PI (M : MM) (n h a : Nat) : Prop := IV M n h a ∧ Uq M n ∧ Sz M n ∧ (∀ t, t < n → hdB M h t = false → (M 13 t = nI 1 ∨ M 13 t = nI 5) ∧ chitB M t = false) ∧ 1 ≤ h
abbrev CG (g : GG) (S : hS) (po go : Nat) (T O : Nat → Nat) (M : MM) (n h a : Nat) : Prop := CR g S po go T O M n h a (fun u => nI (conf M n h u)) (acO M n h) (mem M n h)
theorem cntU_true : ∀ h, cntU (fun _ => true) h = h
  | 0 => rfl
  | h + 1 => by simp only [cntU, cntU_true h, if_true]
section PIs
variable {M : MM} {n h a t : Nat}
theorem PI.hv (hP : PI M n h a) (ht : t < n) : hv M t = hdB M h t := by
  cases e : hdB M h t with
  | false =>
    rcases (hP.2.2.2.1 t ht e).1 with q | q
    · exact hv_w q
    · exact hv_5 q
  | true =>
    obtain ⟨k, hk, rfl⟩ := hdB_iff.mp e
    rcases hP.1.2.2.1.1 k hk with q | q | q
    · exact hv_24 (Or.inl q)
    · unfold _root_.Jvm.Pilot.CSnowNodeLaw_law_r5193_5b532e.hv; rw [q]; rfl
    · exact hv_24 (Or.inr q)
theorem PI.wait (hP : PI M n h a) (ht : t < n) (h1 : M 13 t = nI 1) : hdB M h t = false := by rw [← hP.hv ht]; exact hv_w h1
theorem PI.hlt (hP : PI M n h a) (ht : t < n) (h1 : M 13 t = nI 1) : h < n := by
  have e := cnt_hd hP.1.2.1 hP.1.1.hn (f := fun _ => true) h (Nat.le_refl _)
  rw [cntU_true] at e
  have := cntU_lt1 (f := fun a => hdB M h a && true) (t := t) (by rw [hP.wait ht h1]; rfl) n ht
  omega
theorem lk_hd (hP : PI M n h a) (hl : lkP M n t (nP (M 11) t) = some false) : PHd M n t h := by
  have key : ∀ i, lkP M n t i = some false → ∀ j, j < i → M 13 (par M n t j) ≠ nI 1 ∧ M 13 (par M n t j) ≠ nI 5 := by
    intro i
    induction i with
    | zero => intro _ j hj; omega
    | succ i ih =>
      intro q j hj
      simp only [lkP] at q
      cases e : lkP M n t i with
      | none => rw [e] at q; cases q
      | some w =>
        rw [e] at q
        dsimp only at q
        cases ef : fdo (M 10) (pid (M 11) t i) n with
        | none => rw [ef] at q; cases q
        | some p =>
          rw [ef] at q
          dsimp only at q
          split at q
          · cases q
          · next c5 =>
            have q := Option.some.inj q
            rw [Bool.or_eq_false_iff, decide_eq_false_iff_not] at q
            by_cases c : j = i
            · subst c
              have : par M n t j = p := by unfold par; rw [ef]; rfl
              rw [this]
              exact ⟨q.2, c5⟩
            · exact ih (by rw [e, q.1]) j (by omega)
  intro i hi
  have fo := lkP_found hl i hi
  have hpn := (fdo_some fo).1
  obtain ⟨k1, k2⟩ := key _ hl i hi
  cases e : hdB M h (par M n t i) with
  | true =>
    obtain ⟨j, hj, q⟩ := hdB_iff.mp e
    exact ⟨j, hj, q.symm⟩
  | false => rcases (hP.2.2.2.1 _ hpn e).1 with q | q
             · exact absurd q k1
             · exact absurd q k2
theorem acO_um {v : Int32} (hnd : hdB M h t = false) : acO (um M 13 t v) n h = acO M n h := by
  have e : Sy M (um M 13 t v) := um_sy (by decide)
  funext s
  unfold acO
  rw [e.hd, e.ins]
  congr 1
  exact lastU_congr h (fun k hk => by rw [um_sn (hd_no hnd hk)])
theorem PI.bad5 (hP : PI M n h a) (ht : t < n) (hnd : hdB M h t = false) : PI (um M 13 t (nI 5)) n h a := by
  obtain ⟨⟨hG, hO, hR, hF, hL, hA, hc⟩, hU, hS, hN, h1⟩ := hP
  have e : Sy M (um M 13 t (nI 5)) := um_sy (by decide)
  have ne := fun {k} (hk : k < h) => hd_no hnd hk
  have st : ∀ k, k < h → um M 13 t (nI 5) 13 (hdN M k) = M 13 (hdN M k) := fun k hk => um_sn (ne hk)
  refine ⟨⟨hG.sm e.sm, hO.sy e, ⟨?_, ?_, ?_, ?_, ?_, ?_⟩, hF.of (um_n (by decide)), hL.of (um_n (by decide)), hA.of (um_n (by decide)), ?_⟩, ?_, ?_, ?_, h1⟩
  · intro k hk; rw [e.hd, st k hk]; exact hR.1 k hk
  · intro k hk i hi q
    rw [e.hd, e.2.1] at hi
    rw [e.hd, e.pr] at q
    obtain ⟨j, hj, ej⟩ := hO.2 k hk i hi
    rw [ej, st j (by omega)] at q
    rw [e.hd, st k hk]
    exact hR.2.1 k hk i hi (by rw [ej]; exact q)
  · intro k hk q i hi
    rw [e.hd, e.2.1] at hi
    rw [e.hd, st k hk] at q
    rw [e.hd, e.pr]
    obtain ⟨j, hj, ej⟩ := hO.2 k hk i hi
    have := hR.2.2.1 k hk q i hi
    rw [ej] at this ⊢
    rw [st j (by omega)]
    exact this
  · intro k k' hk hk' q hne hs
    rw [e.hd] at q hne hs ⊢
    rw [st k hk] at q
    rw [e.sh] at hs
    rw [st k' hk']
    exact hR.2.2.2.1 k k' hk hk' q hne hs
  · rw [e.hd]; exact hR.2.2.2.2.1
  · have := st 0 (by omega)
    rw [hR.2.2.2.2.1] at this
    rw [this]
    exact hR.2.2.2.2.2
  · unfold c3 at hc ⊢
    rw [hc]
    refine cntU_congr (fun u hu => ?_)
    by_cases c : u = t
    · subst c
      rw [um_s]
      rcases (hN u hu hnd).1 with q | q
      · rw [q]; decide
      · rw [q]
    · rw [um_sn c]
  · unfold Uq; rw [e.1]; exact hU
  · unfold Sz; rw [e.szn, e.2.2.1]; exact hS
  · intro u hu q
    rw [e.hb] at q
    have := hN u hu q
    refine ⟨?_, by unfold chitB; rw [um_n (by decide)]; exact this.2⟩
    by_cases c : u = t
    · subst c; rw [um_s]; exact Or.inr rfl
    · rw [um_sn c]; exact this.1
theorem PI.hol (hP : PI M n h a) (ht : t < n) (h1 : M 13 t = nI 1) (hH : Ht M n t) (hp : PHd M n t h) : PI (hol M n h t) n (h + 1) a := by
  have hnd := hP.wait ht h1
  have hh := hP.hlt ht h1
  obtain ⟨i1, e13, sy, e14, e15⟩ := hP.1.holds hnd hH hp h1 hh hP.2.2.2.2
  have e10 : _root_.Jvm.Pilot.CSnowNodeLaw_law_r5193_5b532e.hol M n h t 10 = M 10 := sy.1.trans (ho_n (by decide) (by decide))
  have e12 : _root_.Jvm.Pilot.CSnowNodeLaw_law_r5193_5b532e.hol M n h t 12 = M 12 := sy.2.2.1.trans (ho_n (by decide) (by decide))
  refine ⟨i1, ?_, ?_, ?_, by omega⟩
  · unfold Uq; rw [e10]; exact hP.2.1
  · unfold Sz szN; rw [e12]; exact hP.2.2.1
  · intro u hu q
    rw [sy.hb, ho_hb (by have := hP.1.1.1; omega), Bool.or_eq_false_iff] at q
    have hne : u ≠ t := fun e => by rw [e] at q; exact absurd q.2 (by simp)
    rw [e13, pk_un hne]
    unfold chitB
    rw [e14]
    exact hP.2.2.2.1 u hu q.1
theorem PI.lok (hP : PI M n h a) (ht : t < n) (h1 : M 13 t = nI 1) : PI (lok M n h t).1 n (lok M n h t).2 a := by
  have hnd := hP.wait ht h1
  unfold _root_.Jvm.Pilot.CSnowNodeLaw_law_r5193_5b532e.lok
  cases e : lkP M n t (nP (M 11) t) with
  | none => exact hP.bad5 ht hnd
  | some w =>
    cases w with
    | true => exact hP
    | false =>
      dsimp only
      rw [if_neg (by decide)]
      cases eb : badB M n h t with
      | true => exact hP.bad5 ht hnd
      | false =>
        have hHp : Hp M n t := ⟨ht, fun i hi => lkP_found e i hi⟩
        exact hP.hol ht h1 (badB_held hHp eb) (lk_hd hP e)
end PIs
section LookAt
variable {l : Launch} {g : GG} {S : hS} {po go n h a t mi : Nat} {T O : Nat → Nat} {M : MM}
theorem cg_lookAt (hM : MIR g mi) (hC : CG g S po go T O M n h a) (hPI : PI M n h a) (hn : n ≤ 65) (ht : t < n) (h1 : M 13 t = nI 1) : Sp l g mX2_lookAt 5 500 [vr (some go), vr (some (T t))] S (fun r S' => r = some (vi (bi (goes M n t))) ∧ CG g S' po go T O (lok M n h t).1 n (lok M n h t).2 a ∧ GrF po S S') := by
  have hI := hPI.1
  have hG := hI.1
  have hO := hI.2.1
  have hh := hPI.hlt ht h1
  have hnd := hPI.wait ht h1
  have hch := (hPI.2.2.2.1 t ht hnd).2
  have hx : sK S (T t) ≠ 0 := by rw [hC.pG.tk ht]; omega
  have hR := hG.2.2.1 t ht
  have ht' : t < 1000 := by omega
  have sy5 : Sy M (um M 13 t (nI 5)) := um_sy (by decide)
  refine Sp.start (own := RX2) [(0, vr (some go)), (1, vr (some (T t)))] (by decide +kernel) rfl rfl (Nat.le_of_ble_eq_true rfl) ?_
  intro J C
  -- found bad
  have K54 : ∀ S1 x, OwF T t S S1 → goes M n t = true → lok M n h t = (um M 13 t (nI 5), h) → J 54 [(0, vr (some go)), (1, vr (some (T t))), (2, vi x)] [vi (nI 0)] S1 0 0 := by
    intro S1 x hg1 hgo hlk
    have hC5 : CR g (setI S1 910 (T t) (nI 5)) po go T O (um M 13 t (nI 5)) n h a (fun u => nI (conf M n h u)) (acO M n h) (mem M n h) := (hC.st hG.hn ht (v := nI 5) (by decide)).own (hG.sm sy5.sm) ht (by rw [sy5.hb]; exact hnd) hg1.si (fun q => by rw [um_s] at q; exact absurd q (by decide))
    refine r_istore_n (pc := 54) C dX2_lookAt_54 (by decide) rfl ?_
    refine r_iload_n (pc := 55) C dX2_lookAt_55 rfl ?_
    refine r_if_ne (pc := 56) (tgt := 66) C dX2_lookAt_56 (by decide) (fun c56 => ?_) (fun c56 => ?_)
    · exact absurd rfl c56
    · refine r_aload_n (pc := 59) C dX2_lookAt_59 rfl ?_
      refine r_iconst (pc := 60) C (nI 5) dX2_lookAt_60 rfl ?_
      refine r_putI (pc := 61) C dX2_lookAt_61 fx_RX2_57 (fp_9_10 _) (show sK S1 (T t) = 9 + 1 by rw [hg1.k hx]; exact hC.pG.tk ht) ?_
      refine r_iconst (pc := 64) C (nI 1) dX2_lookAt_64 rfl ?_
      refine r_zret (pc := 65) C dX2_lookAt_65 rfl (by first | exact Or.inl rfl | exact Or.inr rfl | assumption) (by omega) (by omega) ?_
      refine ⟨by rw [hgo]; rfl, ?_, hg1.gr.tr (GrF.w4 (by omega))⟩
      rw [hlk]
      show CR g _ po go T O (um M 13 t (nI 5)) n h a (fun u => nI (conf (um M 13 t (nI 5)) n h u)) (acO (um M 13 t (nI 5)) n h) (mem (um M 13 t (nI 5)) n h)
      rw [sy5.cf (um_n (by decide)), sy5.me, acO_um hnd]
      exact hC5
  cases e : lkP M n t (nP (M 11) t) with
  | none =>
    have hgo : goes M n t = true := by unfold goes; rw [e]
    have hlk : lok M n h t = (um M 13 t (nI 5), h) := by unfold lok; rw [e]
    refine r_aload_n (pc := 0) C dX2_lookAt_0 rfl ?_
    refine r_aload_n (pc := 1) C dX2_lookAt_1 rfl ?_
    refine r_callV (pc := 2) C (cg_findPar hC.pG hC.pL.l0 hC.pT hPI.2.1 (by omega) hR ht) iX2_findParents ml_RX2_79 dX2_lookAt_2 (ci := 3) rfl rfl hC.pG.gk rfl (by decide) rfl (by simp [cv, Value.category, va_rf]) (by omega) (by omega) (fun r2 S2 h2 => ?_)
    obtain ⟨rfl, hg1, j1, j2, hpt⟩ := h2
    dsimp only [Option.toList, List.cons_append, List.nil_append]
    rw [e]
    refine r_istore_n (pc := 5) C dX2_lookAt_5 (by decide) rfl ?_
    refine r_iload_n (pc := 6) C dX2_lookAt_6 rfl ?_
    refine r_iconst (pc := 7) C (nI 1) dX2_lookAt_7 rfl ?_
    refine r_icmp_ne (pc := 8) (tgt := 13) C dX2_lookAt_8 (by decide) (fun c8 => ?_) (fun c8 => ?_)
    · refine r_iload_n (pc := 13) C dX2_lookAt_13 rfl ?_
      refine r_iconst (pc := 14) C (nI 2) dX2_lookAt_14 rfl ?_
      refine r_icmp_ne (pc := 15) (tgt := 22) C dX2_lookAt_15 (by decide) (fun c15 => ?_) (fun c15 => ?_)
      · refine r_iload_n (pc := 22) C dX2_lookAt_22 rfl ?_
        refine r_iconst (pc := 23) C (nI 2) dX2_lookAt_23 rfl ?_
        refine r_icmp_ne (pc := 24) (tgt := 53) C dX2_lookAt_24 (by decide) (fun c24 => ?_) (fun c24 => ?_)
        · refine r_iconst (pc := 53) C (nI 0) dX2_lookAt_53 rfl ?_
          exact r_lv C [(0, vr (some go)), (1, vr (some (T t))), (2, vi (nI 5))] rfl (K54 _ _ hg1 hgo hlk)
        · exact absurd c24 (by decide)
      · exact absurd c15 (by decide)
    · exact absurd c8 (by decide)
  | some w =>
    cases w with
    | true =>
      have hgo : goes M n t = false := by unfold goes; rw [e]
      refine r_aload_n (pc := 0) C dX2_lookAt_0 rfl ?_
      refine r_aload_n (pc := 1) C dX2_lookAt_1 rfl ?_
      refine r_callV (pc := 2) C (cg_findPar hC.pG hC.pL.l0 hC.pT hPI.2.1 (by omega) hR ht) iX2_findParents ml_RX2_79 dX2_lookAt_2 (ci := 3) rfl rfl hC.pG.gk rfl (by decide) rfl (by simp [cv, Value.category, va_rf]) (by omega) (by omega) (fun r2 S2 h2 => ?_)
      obtain ⟨rfl, hg1, j1, j2, hpt⟩ := h2
      dsimp only [Option.toList, List.cons_append, List.nil_append]
      rw [e]
      refine r_istore_n (pc := 5) C dX2_lookAt_5 (by decide) rfl ?_
      refine r_iload_n (pc := 6) C dX2_lookAt_6 rfl ?_
      refine r_iconst (pc := 7) C (nI 1) dX2_lookAt_7 rfl ?_
      refine r_icmp_ne (pc := 8) (tgt := 13) C dX2_lookAt_8 (by decide) (fun c8 => ?_) (fun c8 => ?_)
      · exact absurd rfl c8
      · refine r_iconst (pc := 11) C (nI 0) dX2_lookAt_11 rfl ?_
        refine r_zret (pc := 12) C dX2_lookAt_12 rfl (by first | exact Or.inl rfl | exact Or.inr rfl | assumption) (by omega) (by omega) ?_
        refine ⟨by rw [hgo]; rfl, ?_, hg1.gr⟩
        rw [lok_stay hgo]
        exact hC.own hG ht hnd hg1 (fun q i hi => by rw [j1]; exact hC.pA.2 t ht q i hi)
    | false =>
      have hgo : goes M n t = true := by unfold goes; rw [e]
      have hp := lk_hd hPI e
      have hHp : Hp M n t := ⟨ht, fun i hi => lkP_found e i hi⟩
      have hlb : badB M n h t = true → lok M n h t = (um M 13 t (nI 5), h) := fun q => by unfold lok; rw [e]; dsimp only; rw [if_neg (by decide), if_pos q]
      have hlg : badB M n h t = false → lok M n h t = (hol M n h t, h + 1) := fun q => by unfold lok; rw [e]; dsimp only; rw [if_neg (by decide), if_neg (by rw [q]; decide)]
      have sq13 : ∀ i, joinL (ho1 M h t) n (h + 1) t i 13 = upd (M 13) t (nI 2) := fun i => (joinL_13 i).trans ho1_13
      -- held: rejected at once, or not
      have K71 : badB M n h t = false → Ht M n t → ∀ S4 x y, CR g S4 po go T O (joinL (ho1 M h t) n (h + 1) t (nX (M 11) t)) n (h + 1) a (fun u => nI (conf M n h u)) (acO M n h) (mem (ho1 M h t) n (h + 1)) → GrF po S S4 → J 71 [(0, vr (some go)), (1, vr (some (T t))), (2, vi x), (3, vi y)] [] S4 5 500 := by
        intro hb hHt S4 x y hC4 hg4
        have sq := @joinL_sq (ho1 M h t) n (h + 1) t (nX (M 11) t)
        have hGh := ho_gv hG hHt hh
        have hG4 := hGh.sq sq
        have m10 : ho1 M h t 10 = M 10 := ho_n (by decide) (by decide)
        have m11 : ho1 M h t 11 = M 11 := ho_n (by decide) (by decide)
        have hbt : hdB (joinL (ho1 M h t) n (h + 1) t (nX (M 11) t)) (h + 1) t = true := by rw [sq.sy.hb, ho_hb ht', decide_eq_true rfl, Bool.or_true]
        have hP4 := hC4.pst hG4 hbt
        obtain ⟨i1, e13, sy, e14, e15⟩ := hI.holds hnd hHt hp h1 hh hPI.2.2.2.2
        have hcf : conf (joinL (ho1 M h t) n (h + 1) t (nX (M 11) t)) n (h + 1) = conf M n h := by rw [sq.cf, ho_conf hO hnd ht' hp hch]
        have hF4 : Fav (joinL (ho1 M h t) n (h + 1) t (nX (M 11) t)) n := by
          have hJF : ∀ i, Fav (joinL (ho1 M h t) n (h + 1) t i) n := fun i => by
            induction i with
            | zero => exact hI.2.2.2.1.of (ho_n (by decide) (by decide))
            | succ i ih =>
              simp only [joinL]
              split
              · exact (ih.up (by omega) (o := some t) (fun u hu => by cases hu; exact ht)).of (um_n (by decide))
              · exact ih
          exact hJF _
        have fin : ∀ S5, CR g S5 po go T O (hol M n h t) n (h + 1) a (fun u => nI (conf M n h u)) (acO M n h) (mem (ho1 M h t) n (h + 1)) → CG g S5 po go T O (lok M n h t).1 n (lok M n h t).2 a := fun S5 q => by
          rw [hlg hb]
          show CR g S5 po go T O (hol M n h t) n (h + 1) a (fun u => nI (conf (hol M n h t) n (h + 1) u)) (acO (hol M n h t) n (h + 1)) (mem (hol M n h t) n (h + 1))
          have a1 : conf (hol M n h t) n (h + 1) = conf M n h := by rw [sy.cf (e14.trans (ho_n (by decide) (by decide)).symm), ho_conf hO hnd ht' hp hch]
          have a2 : acO (hol M n h t) n (h + 1) = acO M n h := acO_upd hnd e13 (by split <;> decide) (sy.1.trans m10) (sy.2.1.trans m11) (fun k hk => by rw [sy.hd, ho_hd hk]) (by rw [sy.hd, ho_hh ht'])
          rw [a1, a2, sy.me]
          exact q
        have rj1 : anyU (fun i => decide (joinL (ho1 M h t) n (h + 1) t (nX (M 11) t) 13 (par M n t i) = nI 4)) (nP (M 11) t) = anyU (fun i => decide (M 13 (par M n t i) = nI 4)) (nP (M 11) t) := anyU_congr (fun i hi => by
          obtain ⟨j, hj, ej⟩ := hp i hi
          rw [sq13, ej, pk_un (hd_no hnd hj)])
        have K85 : rejB M n h t = true → J 85 [(0, vr (some go)), (1, vr (some (T t))), (2, vi x), (3, vi y)] [] S4 5 500 := by
          intro hr
          refine r_aload_n (pc := 85) C dX2_lookAt_85 rfl ?_
          refine r_aload_n (pc := 86) C dX2_lookAt_86 rfl ?_
          refine r_callV (pc := 87) C (cg_reject hC4 (by rw [hcf]) (by rw [sq.sy.me]) hG4 hF4 hbt) iX2_reject ml_RX2_105 dX2_lookAt_87 (ci := 3) rfl rfl hC4.pG.gk rfl (by decide) rfl (by simp [cv, Value.category, va_rf]) (by omega) (by omega) (fun r87 S87 h87 => ?_)
          obtain ⟨rfl, hC5, hg5⟩ := h87
          dsimp only [Option.toList, List.cons_append, List.nil_append]
          refine r_iconst (pc := 90) C (nI 1) dX2_lookAt_90 rfl ?_
          refine r_zret (pc := 91) C dX2_lookAt_91 rfl (by first | exact Or.inl rfl | exact Or.inr rfl | assumption) (by omega) (by omega) ?_
          exact ⟨by rw [hgo]; rfl, fin _ (by unfold hol; rw [if_pos hr]; exact hC5), hg4.tr hg5⟩
        refine r_aload_n (pc := 71) C dX2_lookAt_71 rfl ?_
        refine r_callV (pc := 72) C (cg_rejPar hC4.pG (hG4.2.2.1 t ht) hC4.pT ht hP4.1) iX8_hasRejectedParent ml_RX2_99 dX2_lookAt_72 (ci := 9) rfl rfl (hC4.pG.tk ht) rfl (by decide) rfl (by simp [cv, Value.category, va_rf]) (by omega) (by omega) (fun r72 S72 h72 => ?_)
        obtain ⟨rfl, e72⟩ := h72
        subst S72
        dsimp only [Option.toList, List.cons_append, List.nil_append]
        rw [sq.sy.pr, par_e m10 m11, sq.sy.2.1, m11, rj1]
        refine r_if_ne (pc := 75) (tgt := 85) C dX2_lookAt_75 (by decide) (fun c75 => ?_) (fun c75 => ?_)
        · rw [bi_0] at c75
          have ev := K85 (by unfold rejB; rw [ts_nf c75, Bool.true_or])
          exact ev
        · rw [bi_0] at c75
          refine r_aload_n (pc := 78) C dX2_lookAt_78 rfl ?_
          refine r_callV (pc := 79) C (cg_accRiv hC4.pG (hG4.2.2.1 t ht) hC4.pO ht hP4.2) iX8_hasAcceptedRival ml_RX2_102 dX2_lookAt_79 (ci := 9) rfl rfl (hC4.pG.tk ht) rfl (by decide) rfl (by simp [cv, Value.category, va_rf]) (by omega) (by omega) (fun r79 S79 h79 => ?_)
          obtain ⟨rfl, e79⟩ := h79
          subst S79
          dsimp only [Option.toList, List.cons_append, List.nil_append]
          rw [sq.sy.ou, out_e m10 m11, sq.sy.2.1, m11]
          refine r_if_eq (pc := 82) (tgt := 90) C dX2_lookAt_82 (by decide) (fun c82 => ?_) (fun c82 => ?_)
          · rw [bi_0] at c82
            refine r_iconst (pc := 90) C (nI 1) dX2_lookAt_90 rfl ?_
            refine r_zret (pc := 91) C dX2_lookAt_91 rfl (by first | exact Or.inl rfl | exact Or.inr rfl | assumption) (by omega) (by omega) ?_
            exact ⟨by rw [hgo]; rfl, fin _ (by unfold hol; rw [if_neg (by unfold rejB; rw [c75, c82]; decide)]; exact hC4), hg4⟩
          · rw [bi_0] at c82
            have ev := K85 (by unfold rejB; rw [ts_nf c82, Bool.or_true])
            exact ev
      -- sound
      have K54y : badB M n h t = false → anyU (fun i => twX M t i i) (nX (M 11) t) = false → ∀ S3 x, OwF T t S S3 → PT S3 T M n t → ST S3 T O M n t → (∀ j, j < 192 → abt (aJ S3 80 (rA S3 908 (T t))) j = (decide (j < h) && anc M n h t (hdN M j))) → J 54 [(0, vr (some go)), (1, vr (some (T t))), (2, vi x)] [vi (nI 1)] S3 0 0 := by
        intro hb htw S3 x hg3 hP3 hQ3 hw3
        have hHt := badB_held hHp hb
        have sy2 : Sy M (um M 13 t (nI 2)) := um_sy (by decide)
        have hC2 : CR g (setI S3 910 (T t) (nI 2)) po go T O (um M 13 t (nI 2)) n h a (fun u => nI (conf M n h u)) (acO M n h) (mem M n h) := (hC.st hG.hn ht (v := nI 2) (by decide)).own (hG.sm sy2.sm) ht (by rw [sy2.hb]; exact hnd) hg3.si (fun q => by rw [um_s] at q; exact absurd q (by decide))
        refine r_istore_n (pc := 54) C dX2_lookAt_54 (by decide) rfl ?_
        refine r_iload_n (pc := 55) C dX2_lookAt_55 rfl ?_
        refine r_if_ne (pc := 56) (tgt := 66) C dX2_lookAt_56 (by decide) (fun c56 => ?_) (fun c56 => ?_)
        · refine r_aload_n (pc := 66) C dX2_lookAt_66 rfl ?_
          refine r_aload_n (pc := 67) C dX2_lookAt_67 rfl ?_
          refine r_callV (pc := 68) C (cg_hold hM hC2 rfl hG hO hnd hHt hp hP3 hQ3 hw3 hh hn htw) iX2_hold ml_RX2_95 dX2_lookAt_68 (ci := 3) rfl rfl (show sK S3 go = 3 + 1 by rw [hg3.k (by rw [hC.pG.gk]; omega)]; exact hC.pG.gk) rfl (by decide) rfl (by simp [cv, Value.category, va_rf]) (by omega) (by omega) (fun r68 S68 h68 => ?_)
          obtain ⟨rfl, hC4, hg4⟩ := h68
          dsimp only [Option.toList, List.cons_append, List.nil_append]
          exact r_lv C [(0, vr (some go)), (1, vr (some (T t))), (2, vi x), (3, vi (nI 1))] rfl (K71 hb hHt _ _ _ hC4 (hg3.gr.tr hg4))
        · exact absurd c56 (by decide)
      have be := @bad_eq M n h t
      refine r_aload_n (pc := 0) C dX2_lookAt_0 rfl ?_
      refine r_aload_n (pc := 1) C dX2_lookAt_1 rfl ?_
      refine r_callV (pc := 2) C (cg_findPar hC.pG hC.pL.l0 hC.pT hPI.2.1 (by omega) hR ht) iX2_findParents ml_RX2_79 dX2_lookAt_2 (ci := 3) rfl rfl hC.pG.gk rfl (by decide) rfl (by simp [cv, Value.category, va_rf]) (by omega) (by omega) (fun r2 S2 h2 => ?_)
      obtain ⟨rfl, hg1, j1, j2, hpt⟩ := h2
      dsimp only [Option.toList, List.cons_append, List.nil_append]
      rw [e]
      have hP1 := hpt e
      have hC1 := hC.own hG ht hnd hg1 (fun q i hi => by rw [j1]; exact hC.pA.2 t ht q i hi)
      have r1 : ∀ f, rA S2 f (T t) = rA S f (T t) := fun f => hg1.rA hx
      refine r_istore_n (pc := 5) C dX2_lookAt_5 (by decide) rfl ?_
      refine r_iload_n (pc := 6) C dX2_lookAt_6 rfl ?_
      refine r_iconst (pc := 7) C (nI 1) dX2_lookAt_7 rfl ?_
      refine r_icmp_ne (pc := 8) (tgt := 13) C dX2_lookAt_8 (by decide) (fun c8 => ?_) (fun c8 => ?_)
      · refine r_iload_n (pc := 13) C dX2_lookAt_13 rfl ?_
        refine r_iconst (pc := 14) C (nI 2) dX2_lookAt_14 rfl ?_
        refine r_icmp_ne (pc := 15) (tgt := 22) C dX2_lookAt_15 (by decide) (fun c15 => ?_) (fun c15 => ?_)
        · exact absurd rfl c15
        · refine r_aload_n (pc := 18) C dX2_lookAt_18 rfl ?_
          refine r_callV (pc := 19) C (cg_gather hC1.pG hC1.pH hG hO (fun k hk j hj => hC1.pA.1 k hk j hj) ht hnd hP1 hp (fun i hi => hC1.pA.2 t ht h1 i hi)) iX8_gatherAncestors ml_RX2_83 dX2_lookAt_19 (ci := 9) rfl rfl (hC1.pG.tk ht) rfl (by decide) rfl (by simp [cv, Value.category, va_rf]) (by omega) (by omega) (fun r19 S19 h19 => ?_)
          obtain ⟨rfl, w, rfl, hw⟩ := h19
          dsimp only [Option.toList, List.cons_append, List.nil_append]
          have hg2 : OwF T t S (putJ S2 80 (rA S2 908 (T t)) w) := hg1.tr2 hx ownJ
          have hw2 : ∀ j, j < 192 → abt (aJ (putJ S2 80 (rA S2 908 (T t)) w) 80 (rA (putJ S2 80 (rA S2 908 (T t)) w) 908 (T t))) j = (decide (j < h) && anc M n h t (hdN M j)) := fun j hj => by rw [show aJ (putJ S2 80 (rA S2 908 (T t)) w) 80 (rA (putJ S2 80 (rA S2 908 (T t)) w) 908 (T t)) = w from aJ_ps]; exact hw j hj
          have hP2 : PT (putJ S2 80 (rA S2 908 (T t)) w) T M n t := hP1
          have d1 : GS (putJ S2 80 (rA S2 908 (T t)) w) po go T O M n := hC.pG.ag hg2 (fun x => ⟨trivial, trivial⟩) (fun _ _ _ => trivial) (fun x => by unfold oW; omega)
          have d3 : HN (putJ S2 80 (rA S2 908 (T t)) w) T M n h := hC.pH.ag hC.pG hG.hn hg2 (fun _ => trivial)
          have d5 : LD g (putJ S2 80 (rA S2 908 (T t)) w) po go T O M n h a (mem M n h) := hC.pL.ag hC.pG hg2 (fun _ _ _ => trivial) (fun _ _ => ⟨trivial, trivial⟩) (fun r x q1 q2 => by unfold oW; omega)
          generalize putJ S2 80 (rA S2 908 (T t)) w = S19 at hg2 hw2 hP2 d1 d3 d5 ⊢
          refine r_iload_n (pc := 22) C dX2_lookAt_22 rfl ?_
          refine r_iconst (pc := 23) C (nI 2) dX2_lookAt_23 rfl ?_
          refine r_icmp_ne (pc := 24) (tgt := 53) C dX2_lookAt_24 (by decide) (fun c24 => ?_) (fun c24 => ?_)
          · exact absurd rfl c24
          · refine r_aload_n (pc := 27) C dX2_lookAt_27 rfl ?_
            refine r_callV (pc := 28) C (cg_twins d1 hG ht) iX8_hasTwins ml_RX2_86 dX2_lookAt_28 (ci := 9) rfl rfl (d1.tk ht) rfl (by decide) rfl (by simp [cv, Value.category, va_rf]) (by omega) (by omega) (fun r28 S28 h28 => ?_)
            obtain ⟨rfl, e28⟩ := h28
            subst S28
            dsimp only [Option.toList, List.cons_append, List.nil_append]
            refine r_if_ne (pc := 31) (tgt := 53) C dX2_lookAt_31 (by decide) (fun c31 => ?_) (fun c31 => ?_)
            · rw [bi_0] at c31
              have ev := K54 _ (nI 2) hg2 hgo (hlb (by rw [be, ts_nf c31]; rfl))
              refine r_iconst (pc := 53) C (nI 0) dX2_lookAt_53 rfl ?_
              exact r_lv C [(0, vr (some go)), (1, vr (some (T t))), (2, vi (nI 2))] rfl ev
            · rw [bi_0] at c31
              refine r_aload_n (pc := 34) C dX2_lookAt_34 rfl ?_
              refine r_aload_n (pc := 35) C dX2_lookAt_35 rfl ?_
              refine r_callV (pc := 36) C (cg_findSpent d1 d5 rfl d3 hG hO hPI.2.1 hp ht (fun j hj => by rw [hw2 j (by omega), decide_eq_true hj, Bool.true_and])) iX2_findSpent ml_RX2_89 dX2_lookAt_36 (ci := 3) rfl rfl d1.gk rfl (by decide) rfl (by simp [cv, Value.category, va_rf]) (by omega) (by omega) (fun r36 S36 h36 => ?_)
              obtain ⟨rfl, hg3r, k1, k2, hst⟩ := h36
              dsimp only [Option.toList, List.cons_append, List.nil_append]
              have hg3 := hg2.tr2 hx hg3r
              refine r_if_eq (pc := 39) (tgt := 53) C dX2_lookAt_39 (by decide) (fun c39 => ?_) (fun c39 => ?_)
              · rw [bi_0] at c39
                have ev := K54 _ (nI 2) hg3 hgo (hlb (by rw [be, c39, Bool.false_and, Bool.and_false]; rfl))
                refine r_iconst (pc := 53) C (nI 0) dX2_lookAt_53 rfl ?_
                exact r_lv C [(0, vr (some go)), (1, vr (some (T t))), (2, vi (nI 2))] rfl ev
              · rw [bi_0] at c39
                have c39t := ts_nf c39
                have hns : anyU (fun i => noX M n h t i || spX M n h t i n) (nX (M 11) t) = false := by simpa using c39t
                have hQ3 := hst hns
                have hx19 : sK S19 (T t) ≠ 0 := by rw [d1.tk ht]; omega
                have hP3 : PT S36 T M n t := fun i hi => by rw [show rA S36 906 (T t) = rA S19 906 (T t) from hg3r.rA hx19, k2]; exact hP2 i hi
                have hw3 : ∀ j, j < 192 → abt (aJ S36 80 (rA S36 908 (T t))) j = (decide (j < h) && anc M n h t (hdN M j)) := fun j hj => by rw [show rA S36 908 (T t) = rA S19 908 (T t) from hg3r.rA hx19, k1]; exact hw2 j hj
                have f1 : GS S36 po go T O M n := hC.pG.ag hg3 (fun x => ⟨trivial, trivial⟩) (fun _ _ _ => trivial) (fun x => by unfold oW; omega)
                have hHt : Ht M n t := ⟨ht, hHp.2, fun i hi => by
                  have q := anyU_no.mp hns i hi
                  rw [Bool.or_eq_false_iff] at q
                  cases ef : fdo (M 10) (xid (M 11) t i) n with
                  | none => rw [noX_none ef] at q; exact absurd q.1 (by decide)
                  | some p =>
                    rw [noX_some ef, Bool.or_eq_false_iff] at q
                    have es : src M n t i = p := by unfold src; rw [ef]; rfl
                    rw [es]
                    exact ⟨rfl, by simpa using q.1.2⟩⟩
                refine r_aload_n (pc := 42) C dX2_lookAt_42 rfl ?_
                refine r_callV (pc := 43) C (cg_balanced f1 hG ht hQ3 hHt) iX8_isBalanced ml_RX2_92 dX2_lookAt_43 (ci := 9) rfl rfl (f1.tk ht) rfl (by decide) rfl (by simp [cv, Value.category, va_rf]) (by omega) (by omega) (fun r43 S43 h43 => ?_)
                obtain ⟨rfl, e43⟩ := h43
                subst S43
                dsimp only [Option.toList, List.cons_append, List.nil_append]
                refine r_if_eq (pc := 46) (tgt := 53) C dX2_lookAt_46 (by decide) (fun c46 => ?_) (fun c46 => ?_)
                · rw [bi_0] at c46
                  have ev := K54 _ (nI 2) hg3 hgo (hlb (by rw [be, c46, Bool.and_false, Bool.and_false]; rfl))
                  refine r_iconst (pc := 53) C (nI 0) dX2_lookAt_53 rfl ?_
                  exact r_lv C [(0, vr (some go)), (1, vr (some (T t))), (2, vi (nI 2))] rfl ev
                · rw [bi_0] at c46
                  have hbf : badB M n h t = false := by rw [be, ts_nf c46, c39t, c31]; rfl
                  have c31b := (Bool.or_eq_false_iff.mp c31).2
                  have ev := K54y hbf c31b _ (nI 2) hg3 hP3 hQ3 hw3
                  refine r_iconst (pc := 49) C (nI 1) dX2_lookAt_49 rfl ?_
                  refine r_goto (pc := 50) (tgt := 54) C dX2_lookAt_50 (by decide) ?_
                  exact r_lv C [(0, vr (some go)), (1, vr (some (T t))), (2, vi (nI 2))] rfl ev
      · exact absurd c8 (by decide)
end LookAt
