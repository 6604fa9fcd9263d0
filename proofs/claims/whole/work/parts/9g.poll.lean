/-! The class: poll, begun -/
section PollG
variable {l : Launch} {g : GG} {S S1 S' : hS} {po x pe tp dg go ch n h a k p pp t mi : Nat} {T O Pp : Nat → Nat} {M F : MM} {G : Nat → Int32} {X : Int64} {L Ls : List Nat} {v : Int32} {wt : Nat → Nat}
theorem GV15 (hG : GV M n h) : GV (um M 15 t (nI 1)) n h := by
  obtain ⟨a1, a2, a3, a4⟩ := hG
  exact ⟨a1, a2, a3, a4⟩
theorem cx_poll (hM : MIR g mi) (hN : NB S x pe tp dg go po ch G) (hE : CPe S pe F X) (hC : CGr g S po go T O M G n h a) (hP : CPl g S po T F k Ls Pp) (hI : IV M n h a) (hkG : G 2 = nI k) (hk : k ≤ 10) (hab : abo M h = some t) (hop : opn (F 25) ≠ 6) (hhv : k ≤ hvy (F 6)) (hw : ∀ p, p < 20 → F 6 p = nI (wt p)) (hw2 : ∀ p, wt p ≤ 1000) (h29 : ¬ G 29 < 0) : Sp l g mX9_poll 4 126 [vr (some x)] S (fun r S' => r = some (vi (G 29)) ∧ NB S' x pe tp dg go po ch (upd G 29 (G 29 + nI 1)) ∧ CPe S' pe F (dX X k) ∧ CGr g S' po go T O (um M 15 t (nI 1)) G n h a ∧ (∃ Ls' Pp', CPl g S' po T (polF F wt X (G 29) t k) k Ls' Pp') ∧ Cf po [0, 1, 4, 5] S S') := by
  have hG := hI.1
  have hn := hG.1
  have hh := hG.2.1
  obtain ⟨ht, -⟩ := abo_lt hG hab
  have e6 : Ls.length < 6 := by have := hP.len; rw [hP.opn] at hop; omega
  have hop' : opn (F 25) ≠ 6 := hop
  obtain ⟨wa, hPE, hwe, hXe⟩ := hE
  have ev : hvy (aI S 30 wa) = hvy (F 6) := hvy_congr hwe
  have hcnt : k ≤ cntU (fun p => decide (0 < wt p)) 20 := by rw [← hvw hw hw2]; exact hhv
  have hTk := hC.1.pG.tk ht
  have f1 : Cf po [4] S (setI S 913 (T t) (nI 1)) := cf_pol
  have hN1 := hN.kp f1 (by decide)
  have hN2 : NB (setI (setI S 913 (T t) (nI 1)) 1010 x (G 29 + nI 1)) x pe tp dg go po ch (upd G 29 (G 29 + nI 1)) := hN1.so
  have f2 : Cf po [0, 4] S (setI (setI S 913 (T t) (nI 1)) 1010 x (G 29 + nI 1)) := (f1.up (by decide)).tr ((cf_nd (by omega) (by omega)).up (by decide))
  refine Sp.start (own := RX9) [(0, vr (some x))] (by decide +kernel) rfl rfl (Nat.le_of_ble_eq_true rfl) ?_
  intro J C
  have K68 : J 68 [(1, vr (some (T t))), (0, vr (some x))] [] S 0 0 := by
    refine r_aload_n (pc := 68) C dX9_poll_68 rfl ?_
    refine r_iconst (pc := 69) C (nI 1) dX9_poll_69 rfl ?_
    refine r_putI (pc := 70) C dX9_poll_70 fx_RX9_163 (fp_9_13 _ (Or.inr rfl)) hTk ?_
    refine r_aload_n (pc := 73) C dX9_poll_73 rfl ?_
    refine r_getI (pc := 74) C dX9_poll_74 fx_RX9_67 hN1.1.1 ?_
    rw [hN1.2.2.1]
    refine r_istore_n (pc := 77) C dX9_poll_77 (by decide) rfl ?_
    refine r_aload_n (pc := 78) C dX9_poll_78 rfl ?_
    refine r_dup (pc := 79) C dX9_poll_79 rfl ?_
    refine r_getI (pc := 80) C dX9_poll_80 fx_RX9_67 hN1.1.1 ?_
    rw [hN1.2.2.1]
    refine r_iconst (pc := 83) C (nI 1) dX9_poll_83 rfl ?_
    refine r_iadd (pc := 84) C dX9_poll_84 ?_
    refine r_putI (pc := 85) C dX9_poll_85 fx_RX9_67 (fp_10_10 _) hN1.1.1 ?_
    refine r_aload_n (pc := 88) C dX9_poll_88 rfl ?_
    refine r_getR (pc := 89) C dX9_poll_89 fx_RX9_57 hN2.1.1 hN2.2.1.2.2.2.2.1 ?_
    refine r_new (pc := 92) C dX9_poll_92 (ci := 6) (n := 6) rfl kl_RX9_166 rfl (by omega) (by omega) (fun q92 hq92 => ?_)
    have f3 : Cf po [] (setI (setI S 913 (T t) (nI 1)) 1010 x (G 29 + nI 1)) (newO (setI (setI S 913 (T t) (nI 1)) 1010 x (G 29 + nI 1)) q92 7) := (Fx.no hq92).ag
    have z92 : sK S q92 = 0 := hq92
    have hN3 := hN2.kp f3 (by decide)
    have k92 : sK (newO (setI (setI S 913 (T t) (nI 1)) 1010 x (G 29 + nI 1)) q92 7) q92 = 7 := sK_nos
    have f23 : Cf po [0, 4] S (newO (setI (setI S 913 (T t) (nI 1)) 1010 x (G 29 + nI 1)) q92 7) := f2.tr (f3.up (by decide))
    have f13 : Cf po [0] (setI S 913 (T t) (nI 1)) (newO (setI (setI S 913 (T t) (nI 1)) 1010 x (G 29 + nI 1)) q92 7) := (cf_nd (by omega) (by omega)).tr (f3.up (by decide))
    have hw3 : ∀ y, sK S y ≠ 0 → y ≠ q92 := fun y hy => ne_fr z92 hy
    have hPE3 : PE (newO (setI (setI S 913 (T t) (nI 1)) 1010 x (G 29 + nI 1)) q92 7) pe wa := by
      obtain ⟨a0, a1, a2, a3⟩ := hPE
      have hx : sK S pe ≠ 0 := by rw [a0]; decide
      have hw : sK S wa ≠ 0 := by rw [a2]; decide
      exact ⟨by rw [f23.k hx]; exact a0, by rw [f23.r hx (by rw [kf_1 (by omega) (by omega)]; decide)]; exact a1, by rw [f23.k hw]; exact a2, by rw [f23.n hw]; exact a3⟩
    have hw30 : ∀ i, i < 20 → aI (newO (setI (setI S 913 (T t) (nI 1)) 1010 x (G 29 + nI 1)) q92 7) 30 wa i = nI (wt i) := fun i hi => by
      rw [f23.ai (show sK S wa ≠ 0 by rw [hPE.2.2.1]; decide) (show ka 30 ∉ [0, 4] by decide), hwe i hi, hw i hi]
    have hX3 : sJ (newO (setI (setI S 913 (T t) (nI 1)) 1010 x (G 29 + nI 1)) q92 7) 501 pe = X := by
      rw [f23.j (show sK S pe ≠ 0 by rw [hPE.1]; decide) (by rw [kf_1 (by omega) (by omega)]; decide)]; exact hXe
    have A3 : ∀ P R A : Nat → Nat → Prop, ¬ P 913 (T t) → ¬ P 1010 x → Ag P R A S (newO (setI (setI S 913 (T t) (nI 1)) 1010 x (G 29 + nI 1)) q92 7) := fun P R A n1 n2 => (((Ag.si n1).tr (Ag.si n2))).noz hq92
    generalize newO (setI (setI S 913 (T t) (nI 1)) 1010 x (G 29 + nI 1)) q92 7 = S3 at f3 f13 hN3 k92 f23 hPE3 hw30 hX3 A3 ⊢
    refine r_dup (pc := 95) C dX9_poll_95 rfl ?_
    refine r_iload_n (pc := 96) C dX9_poll_96 rfl ?_
    refine r_aload_n (pc := 97) C dX9_poll_97 rfl ?_
    refine r_aload_n (pc := 98) C dX9_poll_98 rfl ?_
    refine r_getR (pc := 99) C dX9_poll_99 fx_RX9_27 hN3.1.1 hN3.2.1.1 ?_
    refine r_aload_n (pc := 102) C dX9_poll_102 rfl ?_
    refine r_getI (pc := 103) C dX9_poll_103 fx_RX9_7 hN3.1.1 ?_
    rw [hN3.1.2.1, show upd G 29 (G 29 + nI 1) 2 = G 2 from pk_un (by decide), hkG]
    refine r_callV (pc := 106) C (cl_draw hPE3 hk hw30 hw2 hcnt) iX4_draw ml_RX9_168 dX9_poll_106 (ci := 5) rfl rfl hPE3.1 rfl (by decide) rfl (by simp [cv, Value.category, va_rf]) (by omega) (by omega) (fun r106 S106 h106 => ?_)
    obtain ⟨qs, fs9, hqs, rfl, e106, hfs⟩ := h106
    dsimp only [Option.toList, List.cons_append, List.nil_append]
    rw [hX3] at e106 hfs
    have zqs : sK S qs = 0 := (A3 (fun _ _ => False) (fun _ _ => False) (fun _ _ => False) id id).fresh hqs
    have nqs : q92 ≠ qs := fun e => by rw [e, hqs] at k92; cases k92
    have A4 : ∀ P R A : Nat → Nat → Prop, ¬ P 913 (T t) → ¬ P 1010 x → ¬ P 501 pe → Ag P R A S S106 := fun P R A n1 n2 n3 => by rw [e106]; exact (((A3 P R A n1 n2).naz hqs).jz n3).pz zqs
    have k4 : sK S106 q92 = 7 ∧ sK S106 qs = 39 ∧ sN S106 qs = k ∧ aI S106 39 qs = fs9 ∧ sJ S106 501 pe = dX X k := by
      rw [e106]
      exact ⟨(sK_na (S := S3) (k := 39) (n := k) nqs).trans k92, sK_nas (n := k), sN_nas (k := 39), aI_ps, by show sJ (setJ _ 501 pe _) 501 pe = _; simp [sJ, setJ, u2]⟩
    have f34 : Cf po [1, 5] S3 S106 := by rw [e106]; exact (((Fx.na hqs).ag).jz (fun z => z (by rw [kf_1 (by omega) (by omega)]; decide))).pz hqs
    clear e106
    refine r_callI (pc := 109) C (cl_poinit (ab := T t) (nu := G 29) k4.1 k4.2.1 k4.2.2.1 hk) iX5_init ml_RX9_172 dX9_poll_109 rfl (by decide) rfl (by simp [cv, Value.category, va_rf]) (by omega) (by omega) (fun r109 S109 h109 => ?_)
    obtain ⟨rfl, da, hda, e109⟩ := h109
    dsimp only [Option.toList, List.cons_append, List.nil_append]
    have zda : sK S da = 0 := (A4 (fun _ _ => False) (fun _ _ => False) (fun _ _ => False) id id id).fresh hda
    have nda : q92 ≠ da ∧ qs ≠ da := ⟨(fun e => by have := k4.1; rw [e, hda] at this; cases this), (fun e => by have := k4.2.1; rw [e, hda] at this; cases this)⟩
    have A5 : ∀ P R A : Nat → Nat → Prop, ¬ P 913 (T t) → ¬ P 1010 x → ¬ P 501 pe → Ag P R A S S109 := fun P R A n1 n2 n3 => by rw [e109]; exact ((((((((A4 P R A n1 n2 n3).iz z92).rz z92).rz z92).naz hda).rz z92).iz z92).iz z92)
    have f45 : Cf po [5] S106 S109 := by
      have kk : ∀ f, 600 ≤ f → f < 700 → ¬ (kf po f q92 ∉ [5]) := fun f f1 f2 z => z (by rw [kf_5 f1 f2]; decide)
      rw [e109]
      exact ((((((Ag.si (kk 600 (by omega) (by omega))).tr (Ag.sr (kk 601 (by omega) (by omega)))).tr (Ag.sr (kk 602 (by omega) (by omega)))).naz hda).tr (Ag.sr (kk 603 (by omega) (by omega)))).tr (Ag.si (kk 604 (by omega) (by omega)))).tr (Ag.si (kk 605 (by omega) (by omega)))
    have p5 : (sK S109 q92 = 7 ∧ sR S109 602 q92 = some qs ∧ sR S109 603 q92 = some da ∧ (sK S109 qs = 39 ∧ sN S109 qs = k) ∧ sK S109 da = 91 ∧ sN S109 da = k) ∧ sI S109 600 q92 = G 29 ∧ sR S109 601 q92 = some (T t) ∧ aI S109 39 qs = fs9 ∧ aI S109 91 da = (fun _ => 0) ∧ sI S109 604 q92 = nI 0 ∧ sI S109 605 q92 = nI 0 ∧ sJ S109 501 pe = dX X k := by
      rw [e109]
      refine ⟨⟨(sK_na (k := 91) (n := k) nda.1).trans k4.1, ?_, ?_, ⟨(sK_na (k := 91) (n := k) nda.2).trans k4.2.1, (sN_na (k := 91) (n := k) nda.2).trans k4.2.2.1⟩, sK_nas (n := k), sN_nas (k := 91)⟩, ?_, ?_, (aI_na (k := 91) (n := k) nda.2).trans k4.2.2.2.1, aI_nas (k := 91) (n := k), ?_, ?_, k4.2.2.2.2⟩
      · show sR (setR _ 603 q92 (some da)) 602 q92 = _; rw [sR_n (Or.inl (by decide))]; show sR (setR (setR (setI S106 600 q92 (G 29)) 601 q92 (some (T t))) 602 q92 (some qs)) 602 q92 = _; exact sR_s
      · exact sR_s
      · rw [sI_n (Or.inl (by decide)), sI_n (Or.inl (by decide))]; show sI (setI S106 600 q92 (G 29)) 600 q92 = _; exact sI_s
      · show sR (setR _ 603 q92 (some da)) 601 q92 = _; rw [sR_n (Or.inl (by decide))]; show sR (setR (setR (setI S106 600 q92 (G 29)) 601 q92 (some (T t))) 602 q92 (some qs)) 601 q92 = _; rw [sR_n (Or.inl (by decide))]; exact sR_s
      · rw [sI_n (Or.inl (by decide))]; exact sI_s
      · exact sI_s
    have r2 : rA S109 602 q92 = qs := by unfold rA; rw [p5.1.2.1]; rfl
    have r3 : rA S109 603 q92 = da := by unfold rA; rw [p5.1.2.2.1]; rfl
    have PN : PL S109 T (polF F wt X (G 29) t k) k q92 (fst6 (F 25)) := PL.fresh (by rw [r2, r3]; exact p5.1) p5.2.1 (by omega) p5.2.2.1 (fun i hi => by rw [r2, p5.2.2.2.1]; exact hfs i hi) (fun i hi => by rw [r3, p5.2.2.2.2.1]) p5.2.2.2.2.2.1 p5.2.2.2.2.2.2.1
    have hL5 : LA g S109 po 107 Ls.length (fun i => Pp (Ls.getD i 0)) := hP.2.1.ag (P := fun f _ => f < 3) (R := fun f _ => f < 3) (A := fun r _ => r = 107) (by decide) (A5 _ _ _ (by decide) (by decide) (by decide)) (by decide) (by decide) (fun _ => rfl)
    have hel : ∀ i, i < Ls.length → ∃ ci, (ci = 9 ∨ ci = 6) ∧ sK S109 (Pp (Ls.getD i 0)) = ci + 1 := fun i hi => ⟨6, Or.inr rfl, by
      have q := (hP.2.2.1 _ (gd_mem hi)).1.1
      rw [(A5 (fun _ _ => False) (fun _ _ => False) (fun _ _ => False) id id id).k (by rw [q]; decide)]; exact q⟩
    refine r_callV (pc := 112) C (ct_add (by omega) (by omega) hM hL5 hel ⟨6, Or.inr rfl, p5.1.1⟩) iJx4a65c_add_9ea2d ml_RX9_175 dX9_poll_112 (ci := 0) rfl rfl hL5.k rfl (by decide) rfl (by simp [cv, Value.category, va_rf]) (by omega) (by omega) (fun r112 S112 h112 => ?_)
    obtain ⟨rfl, hL6, hA6⟩ := h112
    dsimp only [Option.toList, List.cons_append, List.nil_append]
    refine r_pop (pc := 115) C dX9_poll_115 rfl ?_
    refine r_iload_n (pc := 116) C dX9_poll_116 rfl ?_
    refine r_iret (pc := 117) C dX9_poll_117 rfl (by omega) (by omega) ?_
    have f56 : Cf po [5] S109 S112 := hA6.cf
    have f36 : Cf po [1, 5] S3 S112 := f34.tr ((f45.up (by decide)).tr (f56.up (by decide)))
    have hAg : Ag (fun f _ => 500 ≤ f ∧ f < 700 ∧ f ≠ 501) (fun f _ => 500 ≤ f ∧ f < 700) (fun r _ => r = 39 ∨ r = 91 ∨ r = 30) S S112 := (A5 _ _ _ (by omega) (by omega) (by omega)).tr (Au.ag hA6 ⟨by omega, by omega⟩ (by omega) (fun y => by omega))
    have hA5 : Ag (fun f _ => 3 ≤ f) (fun f _ => 3 ≤ f) (fun r _ => r ≠ 107) S109 S112 := Au.ag hA6 ⟨by decide, by decide⟩ (by decide) (fun y z => z rfl)
    obtain ⟨PN6, er⟩ := PN.ag hA5 (fun f f1 f2 y => ⟨by show 3 ≤ f; omega, by show 3 ≤ f; omega⟩) (fun y => ⟨by decide, by decide⟩)
    have hx : sK S pe ≠ 0 := by rw [hPE.1]; decide
    have hwz : sK S wa ≠ 0 := by rw [hPE.2.2.1]; decide
    refine ⟨rfl, hN3.kp f36 (by decide), ⟨wa, ⟨by rw [hAg.k hx]; exact hPE.1, by rw [hAg.r hx (by omega)]; exact hPE.2.1, by rw [hAg.k hwz]; exact hPE.2.2.1, by rw [hAg.n hwz]; exact hPE.2.2.2⟩, fun i hi => by rw [hAg.ai hwz (by omega)]; exact hwe i hi, (hA6.2.2.2.2.1 501 pe).trans p5.2.2.2.2.2.2.2⟩, (hC.pol hG ht).kp (L := [0, 1, 5]) (GV15 hG) ((f13.up (by decide)).tr (f36.up (by decide))) (by decide), ⟨_, _, cpl_add hP hk hop' h29 (hAg.mo (fun f _ q => by omega) (fun f _ q => by omega) (fun r _ q => by omega)) z92 (by rw [er, r3]; exact zda) PN6 hL6⟩, (f23.up (by decide)).tr (f36.up (by decide))⟩
  refine r_aload_n (pc := 0) C dX9_poll_0 rfl ?_
  refine r_getR (pc := 1) C dX9_poll_1 fx_RX9_50 hN.1.1 hN.2.1.2.2.2.1 ?_
  refine r_callV (pc := 4) C (cg_toPoll hC.1.pG hC.1.pL.l1 hC.1.pT (by omega) hG.hn) iX2_firstToPoll ml_RX9_143 dX9_poll_4 (ci := 3) rfl rfl hC.1.pG.gk rfl (by decide) rfl (by simp [cv, Value.category, va_rf]) (by omega) (by omega) (fun r4 S4 h4 => ?_)
  obtain ⟨rfl, e4⟩ := h4
  subst S4
  dsimp only [Option.toList, List.cons_append, List.nil_append]
  rw [hab, Option.map_some]
  refine r_astore_n (pc := 7) C dX9_poll_7 (by decide) rfl ?_
  refine r_aload_n (pc := 8) C dX9_poll_8 rfl ?_
  refine r_ifnonnull (pc := 9) (tgt := 22) C dX9_poll_9 (by decide) (fun a9 c9 => ?_) (fun c9 => ?_)
  · cases c9
    refine r_aload_n (pc := 22) C dX9_poll_22 rfl ?_
    refine r_getR (pc := 23) C dX9_poll_23 fx_RX9_57 hN.1.1 hN.2.1.2.2.2.2.1 ?_
    refine r_callV (pc := 26) C (ct_size hP.2.1) iJx4a65c_size_8abf5 ml_RX9_152 dX9_poll_26 (ci := 0) rfl rfl hP.2.1.k rfl (by decide) rfl (by simp [cv, Value.category, va_rf]) (by omega) (by omega) (fun r26 S26 h26 => ?_)
    obtain ⟨rfl, e26⟩ := h26
    subst S26
    dsimp only [Option.toList, List.cons_append, List.nil_append]
    refine r_bipush (pc := 29) C (nI 6) dX9_poll_29 rfl ?_
    refine r_icmp_lt (pc := 31) (tgt := 44) C dX9_poll_31 (by decide) (fun c31 => ?_) (fun c31 => ?_)
    · refine r_aload_n (pc := 44) C dX9_poll_44 rfl ?_
      refine r_getR (pc := 45) C dX9_poll_45 fx_RX9_27 hN.1.1 hN.2.1.1 ?_
      refine r_callV (pc := 48) C (cl_heavy hPE) iX4_countWithWeight ml_RX9_158 dX9_poll_48 (ci := 5) rfl rfl hPE.1 rfl (by decide) rfl (by simp [cv, Value.category, va_rf]) (by omega) (by omega) (fun r48 S48 h48 => ?_)
      obtain ⟨rfl, e48⟩ := h48
      subst S48
      dsimp only [Option.toList, List.cons_append, List.nil_append]
      rw [ev]
      refine r_aload_n (pc := 51) C dX9_poll_51 rfl ?_
      refine r_getI (pc := 52) C dX9_poll_52 fx_RX9_7 hN.1.1 ?_
      rw [hN.1.2.1, hkG]
      refine r_icmp_ge (pc := 55) (tgt := 68) C dX9_poll_55 (by decide) (fun c55 => ?_) (fun c55 => ?_)
      · exact K68
      · exact absurd (nI_le hhv (by have : hvy (F 6) ≤ 20 := cntU_le; omega)) c55
    · exact absurd (nI_lt e6 (by omega)) c31
  · cases c9
end PollG
