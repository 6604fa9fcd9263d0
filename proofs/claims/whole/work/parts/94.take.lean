/-! The class: take -/
section TakeC
variable {l : Launch} {g : GG} {S S1 S' : hS} {po x pe tp dg go ch n h a mi : Nat} {T O : Nat → Nat} {M F : MM} {G : Nat → Int32} {X : Int64} {L L' : List Nat} {Post : Option AV → hS → Prop} {J : JJ} {mc ms m tl : Nat} {tb : Nat → Nat}
theorem cf_tp {v : Int32} : Cf po [2] S (setI S 801 tp v) := Ag.si (fun z => z (by rw [kf_2 (by omega) (by omega)]; decide))
theorem tp_0 {ba : Nat} (hTP : TP S tp ba) (hfb : ∀ i, i < 128 → fB (aI S 21 ba i)) : CTp (setI S 801 tp (nI 0)) tp F (upd G 8 (nI 0)) := ⟨ba, 0, hTP, sI_s, by omega, by simp [upd], fun i hi => absurd hi (by omega), hfb⟩
theorem cx_takeT1 {v : Int32} (hl : l.stackTraces = false) (hN : NB S x pe tp dg go po ch G) (hT : CTp S tp F G) (h8 : G 8 = nI tl) (h2 : tl ≤ 128) (hv : v < nI 1 ∨ nI tl < v) : SpT l g mX9_take 1 6 [vr (some x), vi v] S Ea (fun S' => CTp S' tp F (upd G 8 (nI 0)) ∧ Cf po [2] S S') := by
  obtain ⟨ba, hTP, ht, hb, hfb⟩ := hT.len h8 h2
  refine SpT.start (own := RX9) [(0, vr (some x)), (1, vi v)] (by decide +kernel) rfl rfl (Nat.le_of_ble_eq_true rfl) ?_
  intro J CT
  have C := CT.cx
  refine r_aload_n (pc := 0) C dX9_take_0 rfl ?_
  refine r_getR (pc := 1) C dX9_take_1 fx_RX9_34 hN.1.1 hN.2.1.2.1 ?_
  refine r_getI (pc := 4) C dX9_take_4 fx_RX9_81 hTP.1 ?_
  rw [ht]
  refine r_istore_n (pc := 7) C dX9_take_7 (by decide) rfl ?_
  refine r_aload_n (pc := 8) C dX9_take_8 rfl ?_
  refine r_getR (pc := 9) C dX9_take_9 fx_RX9_34 hN.1.1 hN.2.1.2.1 ?_
  refine r_iconst (pc := 12) C (nI 0) dX9_take_12 rfl ?_
  refine r_putI (pc := 13) C dX9_take_13 fx_RX9_81 (fp_8_1 _) hTP.1 ?_
  refine r_iload_n (pc := 16) C dX9_take_16 rfl ?_
  refine r_iconst (pc := 17) C (nI 1) dX9_take_17 rfl ?_
  refine r_icmp_lt (pc := 18) (tgt := 26) C dX9_take_18 (by decide) (fun c18 => ?_) (fun c18 => ?_)
  · exact r_throw (pc := 26) CT hl xc_a xs_86 dX9_take_26 dX9_take_29 dX9_take_30 dX9_take_32 dX9_take_35 (by decide) (by decide) (by omega) (by omega) ⟨tp_0 hTP hfb, cf_tp⟩
  · refine r_iload_n (pc := 21) C dX9_take_21 rfl ?_
    refine r_iload_n (pc := 22) C dX9_take_22 rfl ?_
    refine r_icmp_le (pc := 23) (tgt := 36) C dX9_take_23 (by decide) (fun c23 => ?_) (fun c23 => ?_)
    · exact absurd c23 (Int32.not_le.mpr (hv.resolve_left c18))
    · exact r_throw (pc := 26) CT hl xc_a xs_86 dX9_take_26 dX9_take_29 dX9_take_30 dX9_take_32 dX9_take_35 (by decide) (by decide) (by omega) (by omega) ⟨tp_0 hTP hfb, cf_tp⟩
theorem lok_10 {M : MM} {n h t : Nat} : (lok M n h t).1 10 = M 10 := by
  unfold lok
  split
  · show um M 13 t (nI 5) 10 = M 10; exact um_n (show 10 ≠ 13 by decide)
  · split
    · rfl
    · split
      · show um M 13 t (nI 5) 10 = M 10; exact um_n (show 10 ≠ 13 by decide)
      · show hol M n h t 10 = M 10
        have e1 : joinL (ho1 M h t) n (h + 1) t (nX (M 11) t) 10 = M 10 := (joinL_sm _).1.trans ((um_n (by decide)).trans (um_n (by decide)))
        unfold hol
        split
        · exact (rejL_sm _).1.trans e1
        · exact e1
theorem itW_10 {n : Nat} : ∀ (f : Nat) (M : MM) (h : Nat), (itW f M n h).1 10 = M 10
  | 0, M, h => rfl
  | f + 1, M, h => by
    simp only [itW]
    split
    · rfl
    · rw [itW_10 f, lok_10]
theorem tak_10 {id : Int32} : (tak M n h id m tb).1 10 = upd (M 10) n id := by
  unfold tak
  split
  · rw [itW_10, lok_10]; rfl
  · rfl
/-- what the reader gives -/
def RdP (g : GG) (S S1 : hS) (q m : Nat) (tb : Nat → Nat) (o : Option Nat) : Prop := (isT tb m = false ∧ o = none) ∨ (isT tb m = true ∧ ∃ t pa ia xa oa qa sa na On Ln, o = some t ∧ RT g S1 t (idv tb stT rdT m) q pa ia xa oa qa sa na tb On Ln ∧ (sK S t = 0 ∧ sK S qa = 0 ∧ sK S sa = 0 ∧ sK S na = 0) ∧ ∀ i, i < tb (tQ tb) → sK S (On i) = 0 ∧ sK S (Ln i) = 0)
theorem b8_and {v : Nat} (h : v < 256) : b8 v &&& nI 255 = nI v := by
  have : ∀ v, v < 256 → b8 v &&& nI 255 = nI v := by decide +kernel
  exact this v h
theorem tk_pre (C : Cx l g mX9_take mc ms RX9 Post J) (hmc : 21 ≤ mc) (hms : 228 ≤ ms) (hN : NB S x pe tp dg go po ch G) (hT : CTp S tp F G) (hD : CDg S dg) (h8 : G 8 = nI tl) (h2 : tl ≤ 128) (h1 : 1 ≤ m) (hm : m ≤ tl) (hF : ∀ i, i < 128 → F 7 i = nI (tb i)) (hb : ∀ i, tb i < 256)
    (kk : ∀ o S1 q, CTp S1 tp F (upd G 8 (nI 0)) → CDg S1 dg → Cf po [2, 3] S S1 → (sK S1 q = 22 ∧ sN S1 q = m ∧ ∀ i, i < m → aI S1 22 q i &&& nI 255 = nI (tb i)) → RdP g S S1 q m tb o → J 54 [(2, vi (nI tl)), (0, vr (some x)), (1, vi (nI m))] [vr o] S1 21 228) : J 0 [(0, vr (some x)), (1, vi (nI m))] [] S 0 0 := by
  obtain ⟨ba, hTP, ht, hbb, hfb⟩ := hT.len h8 h2
  obtain ⟨wa, ta, hDG⟩ := hD
  have e1 : ¬ nI m < nI 1 := Int32.not_lt.mpr (nI_le h1 (by omega))
  have e2 : nI m ≤ nI tl := nI_le (by omega) (by omega)
  have htb : ∀ i, i < tl → aI S 21 ba i &&& nI 255 = nI (tb i) := fun i hi => by
    obtain ⟨b, hb1, hb2, hb3⟩ := hbb i hi
    have e : b = tb i := nI_inj' (hb3.symm.trans (hF i (by omega))) (by omega) (by have := hb i; omega)
    rw [hb2, b8_and hb1, e]
  have hk1 : ∀ y, sK (setI S 801 tp (nI 0)) y = sK S y := fun _ => rfl
  have hcf0 : Cf po [2] S (setI S 801 tp (nI 0)) := cf_tp
  refine r_aload_n (pc := 0) C dX9_take_0 rfl ?_
  refine r_getR (pc := 1) C dX9_take_1 fx_RX9_34 hN.1.1 hN.2.1.2.1 ?_
  refine r_getI (pc := 4) C dX9_take_4 fx_RX9_81 hTP.1 ?_
  rw [ht]
  refine r_istore_n (pc := 7) C dX9_take_7 (by decide) rfl ?_
  refine r_aload_n (pc := 8) C dX9_take_8 rfl ?_
  refine r_getR (pc := 9) C dX9_take_9 fx_RX9_34 hN.1.1 hN.2.1.2.1 ?_
  refine r_iconst (pc := 12) C (nI 0) dX9_take_12 rfl ?_
  refine r_putI (pc := 13) C dX9_take_13 fx_RX9_81 (fp_8_1 _) hTP.1 ?_
  refine r_iload_n (pc := 16) C dX9_take_16 rfl ?_
  refine r_iconst (pc := 17) C (nI 1) dX9_take_17 rfl ?_
  refine r_icmp_lt (pc := 18) (tgt := 26) C dX9_take_18 (by decide) (fun c18 => ?_) (fun c18 => ?_)
  · exact absurd c18 e1
  · refine r_iload_n (pc := 21) C dX9_take_21 rfl ?_
    refine r_iload_n (pc := 22) C dX9_take_22 rfl ?_
    refine r_icmp_le (pc := 23) (tgt := 36) C dX9_take_23 (by decide) (fun c23 => ?_) (fun c23 => ?_)
    · refine r_aload_n (pc := 36) C dX9_take_36 rfl ?_
      refine r_getR (pc := 37) C dX9_take_37 fx_RX9_34 hN.1.1 hN.2.1.2.1 ?_
      refine r_getR (pc := 40) C dX9_take_40 fx_RX9_91 hTP.1 hTP.2.1 ?_
      refine r_iload_n (pc := 43) C dX9_take_43 rfl ?_
      refine r_callS (pc := 44) C (ct_copyB (k := 22) (n := m) hTP.2.2.1 (by omega) (by omega) (by rw [show sN (setI S 801 tp (nI 0)) ba = 128 from hTP.2.2.2]; omega) (by rw [show sN (setI S 801 tp (nI 0)) ba = 128 from hTP.2.2.2]; omega) (fun i hi => hfb i (by rw [show sN (setI S 801 tp (nI 0)) ba = 128 from hTP.2.2.2] at hi; exact hi))) iJ7_copyOf_9075b ml_RX9_95 dX9_take_44 rfl (by decide) rfl (by simp [cv, Value.category, va_rf]) (by omega) (by omega) (fun r44 S44 h44 => ?_)
      obtain ⟨q, Fc, hq, rfl, e44, hFc⟩ := h44
      dsimp only [Option.toList, List.cons_append, List.nil_append]
      have fx1 : Fx (setI S 801 tp (nI 0)) S44 := by
        rw [e44]
        exact (Fx.na hq).z hq (fun y hy hne => ⟨rfl, fun _ => rfl, fun _ => rfl, fun _ => rfl, rfl, fun r => aI_pn (Or.inr hne), fun _ => rfl, fun _ => rfl⟩)
      have kq : sK S44 q = 22 ∧ sN S44 q = m ∧ aI S44 22 q = Fc := by
        rw [e44]
        exact ⟨sK_nas (n := m), sN_nas (k := 22), aI_ps⟩
      have hcf1 : Cf po [2] S S44 := hcf0.tr fx1.ag
      have hDG1 : DG S44 dg wa ta := by
        obtain ⟨d1, d2, d3, ⟨d4, d5⟩, d6, d7⟩ := hDG
        have f4 := fx1 dg (by rw [hk1, d1]; decide)
        have f5 := fx1 wa (by rw [hk1, d4]; decide)
        have f6 := fx1 ta (by rw [hk1, d6]; decide)
        exact ⟨f4.1.trans d1, (f4.2.2.1 _).trans d2, (f4.2.2.1 _).trans d3, ⟨f5.1.trans d4, f5.2.2.2.2.1.trans d5⟩, f6.1.trans d6, f6.2.2.2.2.1.trans d7⟩
      have hrow : ∀ i, i < m → aI S44 22 q i &&& nI 255 = nI (tb i) := fun i hi => by rw [kq.2.2, hFc i hi]; exact htb i (by omega)
      have hN1 : NB S44 x pe tp dg go po ch G := hN.kp hcf1 (by decide)
      have hT1 : CTp S44 tp F (upd G 8 (nI 0)) := (tp_0 hTP hfb).kp (po := po) (L := []) fx1.ag (by decide)
      have hrd : Sp l g mX6_readTransaction 20 100 [vr (some q), vr (some dg)] S44 (fun r S' => ∃ o, r = some (vr o) ∧ CTp S' tp F (upd G 8 (nI 0)) ∧ CDg S' dg ∧ Cf po [2, 3] S S' ∧ (sK S' q = 22 ∧ sN S' q = m ∧ ∀ i, i < m → aI S' 22 q i &&& nI 255 = nI (tb i)) ∧ RdP g S S' q m tb o) := by
        refine (cl_read kq.1 kq.2.1 h1 (by omega) hrow hb hDG1).mono ?_
        have hz : ∀ y, sK S44 y = 0 → sK S y = 0 := fun y hy => hcf1.fresh hy
        have hqz : sK S44 q ≠ 0 := by rw [kq.1]; decide
        rintro r S' (⟨f1, rfl, f2⟩ | ⟨f1, t, pa, ia, xa, oa, qa, sa, na, On, Ln, rfl, f2, f3, f4, f5, f6⟩)
        · have g1 : Cf po [] S44 S' := f2.ag
          have gq := f2 q hqz
          exact ⟨none, rfl, hT1.kp g1 (by decide), CDg.kp ⟨wa, ta, hDG1⟩ g1 (by decide), (hcf1.up (by decide)).tr (g1.up (by decide)), ⟨gq.1.trans kq.1, gq.2.2.2.2.1.trans kq.2.1, fun i hi => by rw [gq.2.2.2.2.2.1]; exact hrow i hi⟩, Or.inl ⟨f1, rfl⟩⟩
        · have g1 : Cf po [3] S44 S' := f3.cf
          have gq := f3 q hqz
          exact ⟨some t, rfl, hT1.kp g1 (by decide), ⟨wa, ta, f4⟩, (hcf1.up (by decide)).tr (g1.up (by decide)), ⟨gq.1.trans kq.1, gq.2.2.2.2.1.trans kq.2.1, fun i hi => by rw [gq.2.2.2.2.2.1 22 (by decide) (by decide)]; exact hrow i hi⟩, Or.inr ⟨f1, t, pa, ia, xa, oa, qa, sa, na, On, Ln, rfl, f2, ⟨hz _ f5.1, hz _ f5.2.2.2.2.2.1, hz _ f5.2.2.2.2.2.2.1, hz _ f5.2.2.2.2.2.2.2⟩, fun i hi => ⟨hz _ (f6 i hi).1, hz _ (f6 i hi).2⟩⟩⟩
      refine r_aload_n (pc := 47) C dX9_take_47 rfl ?_
      refine r_getR (pc := 48) C dX9_take_48 fx_RX9_41 hN1.1.1 hN1.2.1.2.2.1 ?_
      refine r_callS (pc := 51) C (hrd) iX6_readTransaction ml_RX9_101 dX9_take_51 rfl (by decide) rfl (by simp [cv, Value.category, va_rf]) (by omega) (by omega) (fun r51 S51 h51 => ?_)
      obtain ⟨o, rfl, q1, q2, q3, q4, q5⟩ := h51
      dsimp only [Option.toList, List.cons_append, List.nil_append]
      exact kk o S51 q q1 q2 q3 q4 q5
    · exact absurd e2 c23
theorem cx_takeT2 (hl : l.stackTraces = false) (hN : NB S x pe tp dg go po ch G) (hT : CTp S tp F G) (hD : CDg S dg) (h8 : G 8 = nI tl) (h2 : tl ≤ 128) (h1 : 1 ≤ m) (hm : m ≤ tl) (hF : ∀ i, i < 128 → F 7 i = nI (tb i)) (hb : ∀ i, tb i < 256) (hno : isT tb m = false) : SpT l g mX9_take 22 234 [vr (some x), vi (nI m)] S Ea (fun S' => CTp S' tp F (upd G 8 (nI 0)) ∧ CDg S' dg ∧ Cf po [2, 3] S S') := by
  refine SpT.start (own := RX9) [(0, vr (some x)), (1, vi (nI m))] (by decide +kernel) rfl rfl (Nat.le_of_ble_eq_true rfl) ?_
  intro J CT
  have C := CT.cx
  refine tk_pre C (by decide) (by decide) hN hT hD h8 h2 h1 hm hF hb ?_
  intro o S1 q q1 q2 q3 q4 q5
  rcases q5 with ⟨-, rfl⟩ | ⟨e, -⟩
  · refine r_astore_n (pc := 54) C dX9_take_54 (by decide) rfl ?_
    refine r_aload_n (pc := 55) C dX9_take_55 rfl ?_
    refine r_ifnonnull (pc := 56) (tgt := 69) C dX9_take_56 (by decide) (fun a56 c56 => ?_) (fun c56 => ?_)
    · cases c56
    · exact r_throw (pc := 59) CT hl xc_a xs_107 dX9_take_59 dX9_take_62 dX9_take_63 dX9_take_65 dX9_take_68 (by decide) (by decide) (by omega) (by omega) ⟨q1, q2, q3⟩
  · rw [hno] at e
    cases e
theorem cx_takeT3 (hl : l.stackTraces = false) (hN : NB S x pe tp dg go po ch G) (hT : CTp S tp F G) (hD : CDg S dg) (hC : CGr g S po go T O M G n h a) (hPI : PI M n h a) (h8 : G 8 = nI tl) (h2 : tl ≤ 128) (h1 : 1 ≤ m) (hm : m ≤ tl) (hF : ∀ i, i < 128 → F 7 i = nI (tb i)) (hb : ∀ i, tb i < 256) (hyes : isT tb m = true) (hdup : fdo (M 10) (idv tb stT rdT m) n ≠ none) : SpT l g mX9_take 22 234 [vr (some x), vi (nI m)] S Es (fun S' => CTp S' tp F (upd G 8 (nI 0)) ∧ CDg S' dg ∧ Cf po [2, 3] S S') := by
  refine SpT.start (own := RX9) [(0, vr (some x)), (1, vi (nI m))] (by decide +kernel) rfl rfl (Nat.le_of_ble_eq_true rfl) ?_
  intro J CT
  have C := CT.cx
  refine tk_pre C (by decide) (by decide) hN hT hD h8 h2 h1 hm hF hb ?_
  intro o S1 q q1 q2 q3 q4 q5
  have hN1 := hN.kp q3 (by decide)
  have hC1 := (hC.kp hPI.1.1 q3 (by decide)).1
  rcases q5 with ⟨e, -⟩ | ⟨-, t, pa, ia, xa, oa, qa, sa, na, On, Ln, rfl, hR, -, -⟩
  · rw [hyes] at e
    cases e
  · obtain ⟨u, hu⟩ := Option.ne_none_iff_exists'.mp hdup
    refine r_astore_n (pc := 54) C dX9_take_54 (by decide) rfl ?_
    refine r_aload_n (pc := 55) C dX9_take_55 rfl ?_
    refine r_ifnonnull (pc := 56) (tgt := 69) C dX9_take_56 (by decide) (fun a56 c56 => ?_) (fun c56 => ?_)
    · cases c56
      refine r_aload_n (pc := 69) C dX9_take_69 rfl ?_
      refine r_getR (pc := 70) C dX9_take_70 fx_RX9_50 hN1.1.1 hN1.2.1.2.2.2.1 ?_
      refine r_aload_n (pc := 73) C dX9_take_73 rfl ?_
      refine r_getI (pc := 74) C dX9_take_74 fx_RX9_109 hR.1.1 ?_
      rw [hR.1.2.1]
      refine r_callV (pc := 77) C (cg_find hC1.pG hC1.pL.l0 hPI.2.1 hPI.1.1.1) iX2_find ml_RX9_114 dX9_take_77 (ci := 3) rfl rfl hC1.pG.gk rfl (by decide) rfl (by simp [cv, Value.category, va_rf]) (by omega) (by omega) (fun r77 S77 h77 => ?_)
      obtain ⟨rfl, e77⟩ := h77
      subst S77
      dsimp only [Option.toList, List.cons_append, List.nil_append]
      rw [hu, Option.map_some]
      refine r_ifnull (pc := 80) (tgt := 93) C dX9_take_80 (by decide) (fun c80 => ?_) (fun a80 c80 => ?_)
      · cases c80
      · exact r_throw (pc := 83) CT hl xc_s xs_120 dX9_take_83 dX9_take_86 dX9_take_87 dX9_take_89 dX9_take_92 (by decide) (by decide) (by omega) (by omega) ⟨q1, q2, q3⟩
    · cases c56
theorem cx_take (hM : MIR g mi) (hN : NB S x pe tp dg go po ch G) (hT : CTp S tp F G) (hD : CDg S dg) (hC : CGr g S po go T O M G n h a) (hpo : sK S po = 1) (hA : Adm M n h a (idv tb stT rdT m) m tb) (hn : n ≤ 64) (h8 : G 8 = nI tl) (h2 : tl ≤ 128) (h1 : 1 ≤ m) (hm : m ≤ tl) (hF : ∀ i, i < 128 → F 7 i = nI (tb i)) : Sp l g mX9_take 727 70828 [vr (some x), vi (nI m)] S (fun r S' => r = some (vi (idv tb stT rdT m)) ∧ CTp S' tp F (upd G 8 (nI 0)) ∧ CDg S' dg ∧ (∃ T' O', CGr g S' po go T' O' (tak M n h (idv tb stT rdT m) m tb).1 G (n + 1) (tak M n h (idv tb stT rdT m) m tb).2 a ∧ ∀ u, u < n → T' u = T u) ∧ Cf po [2, 3, 4] S S') := by
  have hPI := hA.1
  have hG := hPI.1.1
  have hb := hA.2.2.2.2.1
  have hyes := hA.2.2.2.2.2.2
  refine Sp.start (own := RX9) [(0, vr (some x)), (1, vi (nI m))] (by decide +kernel) rfl rfl (Nat.le_of_ble_eq_true rfl) ?_
  intro J C
  refine tk_pre C (by decide) (by decide) hN hT hD h8 h2 h1 hm hF hb ?_
  intro o S1 q q1 q2 q3 q4 q5
  have hN1 := hN.kp q3 (by decide)
  have hCr := hC.kp hG q3 (by decide)
  have hC1 := hCr.1
  rcases q5 with ⟨e, -⟩ | ⟨-, t, pa, ia, xa, oa, qa, sa, na, On, Ln, rfl, hR, ⟨z1, z2, z3, z4⟩, hz⟩
  · rw [hyes] at e
    cases e
  · have kk : ∀ y, sK S y ≠ 0 → sK S1 y = sK S y := fun y hy => q3.k hy
    have hr : ∀ u, u < n → ∀ f, 901 ≤ f → f ≤ 908 → rA S1 f (T u) = rA S f (T u) := fun u hu f f1 f2 => by
      have := q3.r (f := f) (x := T u) (by rw [hC.1.pG.tk hu]; decide) (by show kf po f (T u) ∉ [2, 3]; rw [show kf po f (T u) = 4 from kf_gi (Or.inr (Or.inr ⟨by omega, by omega⟩))]; decide)
      unfold rA
      rw [this]
    have dT : ∀ u, u < n → T u ≠ t ∧ rA S1 906 (T u) ≠ qa ∧ rA S1 907 (T u) ≠ sa ∧ rA S1 908 (T u) ≠ na := fun u hu => by
      obtain ⟨-, -, -, -, -, -, p6, p7, p8⟩ := hC.1.pG.t hu
      refine ⟨fun e => ?_, fun e => ?_, fun e => ?_, fun e => ?_⟩
      · have := hC.1.pG.tk hu; rw [e, z1] at this; cases this
      · have := p6.2.1; rw [← hr u hu 906 (by omega) (by omega), e, z2] at this; cases this
      · have := p7.2.1; rw [← hr u hu 907 (by omega) (by omega), e, z3] at this; cases this
      · have := p8.2.1; rw [← hr u hu 908 (by omega) (by omega), e, z4] at this; cases this
    have hlS : ∀ j, lV M n j → sK S (lad S po go O j) = 1 := fun j hj => by
      rcases hj with hj | ⟨h4, hj⟩
      · have hj4 : j = 0 ∨ j = 1 ∨ j = 2 ∨ j = 3 := by omega
        rcases hj4 with rfl | rfl | rfl | rfl
        · exact hC.1.pL.l0.k
        · exact hC.1.pL.l1.k
        · exact hC.1.pL.l2.k
        · exact hpo
      · have := (hC.1.pL.2.2.2 _ hj).k
        rw [show 4 + (j - 4) = j by omega] at this
        exact this
    have dO : ∀ i, i < tb (tQ tb) → (∀ s, oV M n s → O s ≠ On i) ∧ (∀ j, lV M n j → lad S1 po go O j ≠ Ln i) := fun i hi => by
      refine ⟨fun s hs e => ?_, fun j hj e => ?_⟩
      · obtain ⟨u, k, hu, hk, rfl⟩ := hs
        have := (hC.1.pG.2.2.1 u k hu hk).1
        rw [e, (hz i hi).1] at this
        cases this
      · have e2 : lad S1 po go O j = lad S po go O j := by
          have g1 : ∀ f, 300 ≤ f → f < 500 → ∀ y, sK S y ≠ 0 → rA S1 f y = rA S f y := fun f f1 f2 y hy => by
            unfold rA
            rw [q3.r hy (by show kf po f y ∉ [2, 3]; rw [kf_4 f1 f2]; decide)]
          have hgo : sK S go ≠ 0 := by rw [hC.1.pG.gk]; decide
          unfold lad
          rw [g1 302 (by omega) (by omega) go hgo, g1 303 (by omega) (by omega) go hgo, g1 304 (by omega) (by omega) go hgo]
          rcases hj with hj | ⟨-, u, k, hu, hk, e5⟩
          · have hj4 : j = 0 ∨ j = 1 ∨ j = 2 ∨ j = 3 := by omega
            rcases hj4 with rfl | rfl | rfl | rfl <;> rfl
          · rw [e5, g1 401 (by omega) (by omega) _ (by rw [(hC.1.pG.2.2.1 u k hu hk).1]; decide)]
        have e3 := hlS j hj
        rw [← e2, e, (hz i hi).2] at e3
        cases e3
    refine r_astore_n (pc := 54) C dX9_take_54 (by decide) rfl ?_
    refine r_aload_n (pc := 55) C dX9_take_55 rfl ?_
    refine r_ifnonnull (pc := 56) (tgt := 69) C dX9_take_56 (by decide) (fun a56 c56 => ?_) (fun c56 => ?_)
    · cases c56
      refine r_aload_n (pc := 69) C dX9_take_69 rfl ?_
      refine r_getR (pc := 70) C dX9_take_70 fx_RX9_50 hN1.1.1 hN1.2.1.2.2.2.1 ?_
      refine r_aload_n (pc := 73) C dX9_take_73 rfl ?_
      refine r_getI (pc := 74) C dX9_take_74 fx_RX9_109 hR.1.1 ?_
      rw [hR.1.2.1]
      refine r_callV (pc := 77) C (cg_find hC1.pG hC1.pL.l0 hPI.2.1 hG.1) iX2_find ml_RX9_114 dX9_take_77 (ci := 3) rfl rfl hC1.pG.gk rfl (by decide) rfl (by simp [cv, Value.category, va_rf]) (by omega) (by omega) (fun r77 S77 h77 => ?_)
      obtain ⟨rfl, e77⟩ := h77
      subst S77
      dsimp only [Option.toList, List.cons_append, List.nil_append]
      rw [hA.2.2.1, Option.map_none]
      refine r_ifnull (pc := 80) (tgt := 93) C dX9_take_80 (by decide) (fun c80 => ?_) (fun a80 c80 => ?_)
      · refine r_aload_n (pc := 93) C dX9_take_93 rfl ?_
        refine r_getR (pc := 94) C dX9_take_94 fx_RX9_50 hN1.1.1 hN1.2.1.2.2.2.1 ?_
        refine r_callV (pc := 97) C (cg_isFull hC1.pG hC1.pL.l0 hG.1) iX2_isFull ml_RX9_123 dX9_take_97 (ci := 3) rfl rfl hC1.pG.gk rfl (by decide) rfl (by simp [cv, Value.category, va_rf]) (by omega) (by omega) (fun r97 S97 h97 => ?_)
        obtain ⟨rfl, e97⟩ := h97
        subst S97
        dsimp only [Option.toList, List.cons_append, List.nil_append]
        rw [decide_eq_false (show ¬ n = 140 by omega)]
        refine r_if_eq (pc := 100) (tgt := 113) C dX9_take_100 (by decide) (fun c100 => ?_) (fun c100 => ?_)
        · refine r_aload_n (pc := 113) C dX9_take_113 rfl ?_
          refine r_getR (pc := 114) C dX9_take_114 fx_RX9_50 hN1.1.1 hN1.2.1.2.2.2.1 ?_
          refine r_aload_n (pc := 117) C dX9_take_117 rfl ?_
          refine r_callV (pc := 118) C (cg_admit hM hC1 hA hn hR q4 dT dO) iX2_admit ml_RX9_129 dX9_take_118 (ci := 3) rfl rfl hC1.pG.gk rfl (by decide) rfl (by simp [cv, Value.category, va_rf]) (by omega) (by omega) (fun r118 S118 h118 => ?_)
          obtain ⟨rfl, hC2, hg2⟩ := h118
          dsimp only [Option.toList, List.cons_append, List.nil_append]
          refine r_aload_n (pc := 121) C dX9_take_121 rfl ?_
          refine r_getI (pc := 122) C dX9_take_122 fx_RX9_109 (by rw [hg2.k (by rw [hR.1.1]; decide)]; exact hR.1.1) ?_
          rw [show sI S118 900 t = idv tb stT rdT m by
            have q9 := (hC2.pG.t (show n < n + 1 by omega)).1.2
            rw [tak_10, pk_us, Tn_n] at q9
            exact q9]
          refine r_iret (pc := 125) C dX9_take_125 rfl (by omega) (by omega) ?_
          refine ⟨rfl, q1.kp (Cf.gr hg2) (by decide), q2.kp (Cf.gr hg2) (by decide), ⟨_, _, ⟨hC2, by rw [hg2.i (by rw [hC1.pG.gk]; decide) (by unfold oP; omega)]; exact hCr.2.1, by rw [hg2.i (by rw [hC1.pG.gk]; decide) (by unfold oP; omega)]; exact hCr.2.2⟩, fun u hu => Tn_o (show u < n by omega)⟩, (q3.up (by decide)).tr ((Cf.gr hg2).up (by decide))⟩
        · exact absurd rfl c100
      · cases c80
    · cases c56
end TakeC
