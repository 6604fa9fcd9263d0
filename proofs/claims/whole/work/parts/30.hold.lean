/-! The reference: holding -/
def rejB (M : MM) (n h t : Nat) : Bool := anyU (fun i => decide (M 13 (par M n t i) = nI 4)) (nP (M 11) t) || anyU (fun i => (acO M n h (out M n t i)).isSome) (nX (M 11) t)
def joinL (M : MM) (n h t : Nat) : Nat → MM
  | 0 => M
  | i + 1 => if mbs (joinL M n h t i) n h (out M n t i) = 1 then um (um (joinL M n h t i) 22 (out M n t i) (nI t)) 23 (out M n t i) (nI t) else joinL M n h t i
def ho1 (M : MM) (h t : Nat) : MM := um (um M 13 t (nI 2)) 16 h (nI t)
def hol (M : MM) (n h t : Nat) : MM := if rejB M n h t then rej (joinL (ho1 M h t) n (h + 1) t (nX (M 11) t)) n (h + 1) t else joinL (ho1 M h t) n (h + 1) t (nX (M 11) t)
theorem joinL_sm {M : MM} {n h t : Nat} : ∀ i, Sm M (joinL M n h t i)
  | 0 => Sm.rf
  | i + 1 => by
    have ih := joinL_sm (M := M) (n := n) (h := h) (t := t) i
    simp only [joinL]
    split
    · exact ih.tr ((um_sm (by decide)).tr (um_sm (by decide)))
    · exact ih
/-- the same identifiers and rows -/
def Sn (M M' : MM) : Prop := M' 10 = M 10 ∧ M' 11 = M 11
theorem Ht.sn {M M' : MM} {n t : Nat} (e : Sn M M') (h : Ht M n t) : Ht M' n t := by
  obtain ⟨e10, e11⟩ := e
  refine ⟨h.1, fun i hi => ?_, fun i hi => ?_⟩
  · rw [e11] at hi ⊢; rw [e10]; simp only [par, e10, e11]; exact h.2.1 i hi
  · rw [e11] at hi ⊢; rw [e10]; simp only [src, e10, e11]; exact h.2.2 i hi
theorem out_sn {M M' : MM} (e : Sn M M') (n t i : Nat) : out M' n t i = out M n t i := by simp only [out, src, e.1, e.2]
theorem ho1_sn {M : MM} {h t : Nat} : Sn M (ho1 M h t) := ⟨by simp only [ho1]; rw [um_n (by decide), um_n (by decide)], by simp only [ho1]; rw [um_n (by decide), um_n (by decide)]⟩
theorem GV.h16 {M : MM} {n h i : Nat} {v : Int32} (hG : GV M n h) (hi : h ≤ i) : GV (um M 16 i v) n h := by
  refine ⟨hG.1, hG.2.1, hG.2.2.1, fun k hk => ?_⟩
  have e : um M 16 i v 16 k = M 16 k := um_sn (by omega)
  have e2 : hdN (um M 16 i v) k = hdN M k := by simp only [hdN, e]
  rw [e, e2]
  exact ⟨(hG.2.2.2 k hk).1, (hG.2.2.2 k hk).2.sn ⟨um_n (by decide), um_n (by decide)⟩⟩
theorem GV.more {M : MM} {n h t : Nat} (hG : GV M n h) (ht : Ht M n t) (e : M 16 h = nI t) (hh : h < n) : GV M n (h + 1) := by
  refine ⟨hG.1, by omega, hG.2.2.1, fun k hk => ?_⟩
  by_cases hkh : k = h
  · subst hkh
    have hn := hG.1
    have htn := ht.1
    have e2 : hdN M k = t := by simp only [hdN, e]; exact nI_clamp (by omega)
    rw [e2]
    exact ⟨e, ht⟩
  · exact hG.2.2.2 k (by omega)
section Hold
variable {l : Launch} {g : GG} {S : hS} {mo : Nat} {M : MM} {n h : Nat}
theorem MV.put16 {i : Nat} {v : Int32} (hV : MV S mo M n h) (hi : h ≤ i) : MV (putI S (mkd 16) (ma S mo 16) (upd (M 16) i v)) mo (um M 16 i v) n h := by
  refine ⟨hV.1, hV.2.1, hV.2.2.1, fun j hj => ?_, hV.G.h16 hi⟩
  rw [mI_put (by decide) (gk_mks hj)]
  by_cases e : j = 16
  · subst e; simp only [um, uk_s]
  · rw [uk_n e, um_n e]; exact hV.2.2.2.1 j hj
theorem MV.seth {t : Nat} (hV : MV S mo M n h) (ht : Ht M n t) (e : M 16 h = nI t) (hh : h < n) : MV (setI S 1117 mo (nI (h + 1))) mo M n (h + 1) := by
  refine ⟨hV.1, ?_, ?_, hV.2.2.2.1, hV.G.more ht e hh⟩
  · rw [← hV.2.1]; rfl
  · show u2 S.2.1 1117 mo (nI (h + 1)) 1117 mo = _
    simp [u2]
theorem cm_hold {t : Nat} (hV : MV S mo M n h) (ht : Ht M n t) (hh : h < n) : Sp l g mX10_hold 0 0 [vr (some mo), vi (nI t)] S (fun r S' => r = none ∧ Gch S S' mo (upd (Gs S mo) 17 (nI (h + 1))) ∧ MV S' mo (hol M n h t) n (h + 1)) := by
  have hG := hV.G
  have hn2 := hG.1
  have htn := ht.1
  have hR := hV.R ht.1
  have hx4 := hR.2.2.1
  have hp4 := hR.2.1
  have ht140 := hR.1
  have hC0 : Gch S S mo (Gs S mo) := Gc.rf
  refine Sp.start (own := RX10) [(0, vr (some mo)), (1, vi (nI t))] (by decide +kernel) rfl rfl (Nat.le_of_ble_eq_true rfl) ?_
  intro J C
  have L3 : ∀ i S1, i ≤ nX (M 11) t → (Gch S S1 mo (upd (Gs S mo) 17 (nI (h + 1))) ∧ MV S1 mo (joinL (ho1 M h t) n (h + 1) t i) n (h + 1)) → J 117 [(0, vr (some mo)), (1, vi (nI t)), (2, vi (bi (rejB M n h t))), (3, vi (nI i))] [] S1 0 0 := by
    refine up_loop _ _ _ ?_ ?_
    · intro S1 hS
      obtain ⟨hC1, hV1⟩ := hS
      have hsm := joinL_sm (M := ho1 M h t) (n := n) (h := h + 1) (t := t) (nX (M 11) t)
      refine r_iload_n (pc := 117) C dX10_hold_117 rfl ?_
      refine r_aload_n (pc := 118) C dX10_hold_118 rfl ?_
      refine r_iload_n (pc := 119) C dX10_hold_119 rfl ?_
      refine r_callV (pc := 120) C (mv_inputsOf hV1 htn) iX10_inputsOf ml_RX10_188 dX10_hold_120 (ci := 11) rfl rfl hV1.1.1 rfl (by decide) rfl (by simp [cv, Value.category, va_rf]) (by omega) (by omega) (fun r120 S120 h120 => ?_)
      obtain ⟨rfl, e120⟩ := h120
      subst S120
      dsimp only [Option.toList, List.cons_append, List.nil_append]
      rw [hsm.2.1, ho1_sn.2]
      refine r_icmp_ge (pc := 123) (tgt := 166) C dX10_hold_123 (by decide) (fun c123 => ?_) (fun c123 => ?_)
      · refine r_iload_n (pc := 166) C dX10_hold_166 rfl ?_
        refine r_if_eq (pc := 167) (tgt := 175) C dX10_hold_167 (by decide) (fun c167 => ?_) (fun c167 => ?_)
        · rw [bi_0] at c167
          refine r_ret (pc := 175) C dX10_hold_175 rfl (by omega) (by omega) ?_
          refine ⟨rfl, hC1, ?_⟩
          have hVV := hV1
          first
            | (simp only [hol, c167t, if_true]; exact hVV)
            | (simp only [hol, c167, Bool.false_eq_true, if_false]; exact hVV)
        · rw [bi_0] at c167
          have c167t := ts_nf c167
          refine r_aload_n (pc := 170) C dX10_hold_170 rfl ?_
          refine r_iload_n (pc := 171) C dX10_hold_171 rfl ?_
          refine r_callV (pc := 172) C (cm_reject hV1 ((ht.sn ho1_sn).sm hsm)) iX10_reject ml_RX10_271 dX10_hold_172 (ci := 11) rfl rfl hV1.1.1 rfl (by decide) rfl (by simp [cv, Value.category, va_rf]) (by omega) (by omega) (fun r172 S172 h172 => ?_)
          obtain ⟨rfl, hCr, hV172⟩ := h172
          have hC172 := hC1.trk hCr
          dsimp only [Option.toList, List.cons_append, List.nil_append]
          refine r_ret (pc := 175) C dX10_hold_175 rfl (by omega) (by omega) ?_
          refine ⟨rfl, hC172, ?_⟩
          have hVV := hV172
          first
            | (simp only [hol, c167t, if_true]; exact hVV)
            | (simp only [hol, c167, Bool.false_eq_true, if_false]; exact hVV)
      · exact absurd (Int32.le_refl _) c123
    · intro i S1 hi hS ih
      obtain ⟨hC1, hV1⟩ := hS
      have hsm := joinL_sm (M := ho1 M h t) (n := n) (h := h + 1) (t := t) i
      have ho := ht.out_lt hG hi
      have hti := (ht.sn ho1_sn (M' := ho1 M h t)).sm hsm
      have hi1 : i < nX (joinL (ho1 M h t) n (h + 1) t i 11) t := by rw [hsm.2.1, ho1_sn.2]; exact hi
      have hmb : mbs (joinL (ho1 M h t) n (h + 1) t i) n (h + 1) (out M n t i) ≤ h + 1 := cntU_le
      have eo : out (joinL (ho1 M h t) n (h + 1) t i) n t i = out M n t i := by rw [out_sm hsm, out_sn ho1_sn]
      have eo2 : out (ho1 M h t) n t i = out M n t i := out_sn ho1_sn n t i
      refine r_iload_n (pc := 117) C dX10_hold_117 rfl ?_
      refine r_aload_n (pc := 118) C dX10_hold_118 rfl ?_
      refine r_iload_n (pc := 119) C dX10_hold_119 rfl ?_
      refine r_callV (pc := 120) C (mv_inputsOf hV1 htn) iX10_inputsOf ml_RX10_188 dX10_hold_120 (ci := 11) rfl rfl hV1.1.1 rfl (by decide) rfl (by simp [cv, Value.category, va_rf]) (by omega) (by omega) (fun r120 S120 h120 => ?_)
      obtain ⟨rfl, e120⟩ := h120
      subst S120
      dsimp only [Option.toList, List.cons_append, List.nil_append]
      rw [hsm.2.1, ho1_sn.2]
      refine r_icmp_ge (pc := 123) (tgt := 166) C dX10_hold_123 (by decide) (fun c123 => ?_) (fun c123 => ?_)
      · exact absurd c123 (nI_ge hi (by omega))
      · refine r_aload_n (pc := 126) C dX10_hold_126 rfl ?_
        refine r_iload_n (pc := 127) C dX10_hold_127 rfl ?_
        refine r_iload_n (pc := 128) C dX10_hold_128 rfl ?_
        refine r_callV (pc := 129) C (cm_outputOf hV1 hti hi1) iX10_outputOf ml_RX10_255 dX10_hold_129 (ci := 11) rfl rfl hV1.1.1 rfl (by decide) rfl (by simp [cv, Value.category, va_rf]) (by omega) (by omega) (fun r129 S129 h129 => ?_)
        obtain ⟨rfl, e129⟩ := h129
        subst S129
        dsimp only [Option.toList, List.cons_append, List.nil_append]
        rw [eo]
        refine r_istore (pc := 132) C dX10_hold_132 (by decide) rfl ?_
        refine r_aload_n (pc := 134) C dX10_hold_134 rfl ?_
        refine r_iload (pc := 135) C dX10_hold_135 rfl ?_
        refine r_callV (pc := 137) C (cm_membersOf hV1 (by omega)) iX10_membersOf ml_RX10_268 dX10_hold_137 (ci := 11) rfl rfl hV1.1.1 rfl (by decide) rfl (by simp [cv, Value.category, va_rf]) (by omega) (by omega) (fun r137 S137 h137 => ?_)
        obtain ⟨rfl, e137⟩ := h137
        subst S137
        dsimp only [Option.toList, List.cons_append, List.nil_append]
        refine r_iconst (pc := 140) C (nI 1) dX10_hold_140 rfl ?_
        refine r_icmp_ne (pc := 141) (tgt := 160) C dX10_hold_141 (by decide) (fun c141 => ?_) (fun c141 => ?_)
        · rw [nI_eq (b := 1) (by omega) (by omega)] at c141
          have c141n := c141
          refine r_iinc (pc := 160) C _ dX10_hold_160 rfl (nI_1 _) (by decide) rfl ?_
          refine r_goto (pc := 163) (tgt := 117) C dX10_hold_163 (by decide) ?_
          refine r_lv C [(0, vr (some mo)), (1, vi (nI t)), (2, vi (bi (rejB M n h t))), (3, vi (nI (i + 1)))] rfl (ih _ ⟨hC1, ?_⟩)
          have hVV := hV1
          simp only [joinL, eo2]
          first
            | (rw [if_neg c141n]; exact hVV)
            | (rw [if_pos c141p]; exact hVV)
        · rw [nI_eq (b := 1) (by omega) (by omega)] at c141
          have c141p := c141
          refine r_aload_n (pc := 144) C dX10_hold_144 rfl ?_
          refine r_mA (pc := 145) C hV1 dX10_hold_145 fx_RX10_58 (len := 564) (by decide) ?_
          refine r_iload (pc := 148) C dX10_hold_148 rfl ?_
          refine r_iload_n (pc := 150) C dX10_hold_150 rfl ?_
          refine r_mS (pc := 151) C hV1 dX10_hold_151 (k := 22) (len := 564) (by decide) (by decide) (by decide) (by decide) (by omega) (by decide) (fun S151 hC151r hV151 => ?_)
          have hC151 := hC1.trk hC151r
          refine r_aload_n (pc := 152) C dX10_hold_152 rfl ?_
          refine r_mA (pc := 153) C hV151 dX10_hold_153 fx_RX10_61 (len := 564) (by decide) ?_
          refine r_iload (pc := 156) C dX10_hold_156 rfl ?_
          refine r_iload_n (pc := 158) C dX10_hold_158 rfl ?_
          refine r_mS (pc := 159) C hV151 dX10_hold_159 (k := 23) (len := 564) (by decide) (by decide) (by decide) (by decide) (by omega) (by decide) (fun S159 hC159r hV159 => ?_)
          have hC159 := hC151.trk hC159r
          refine r_iinc (pc := 160) C _ dX10_hold_160 rfl (nI_1 _) (by decide) rfl ?_
          refine r_goto (pc := 163) (tgt := 117) C dX10_hold_163 (by decide) ?_
          refine r_lv C [(0, vr (some mo)), (1, vi (nI t)), (2, vi (bi (rejB M n h t))), (3, vi (nI (i + 1)))] rfl (ih _ ⟨hC159, ?_⟩)
          have hVV := hV159
          simp only [joinL, eo2]
          first
            | (rw [if_neg c141n]; exact hVV)
            | (rw [if_pos c141p]; exact hVV)
  have L2 : ∀ i x, i ≤ nX (M 11) t → x = bi (anyU (fun i => decide (M 13 (par M n t i) = nI 4)) (nP (M 11) t) || anyU (fun i => (acO M n h (out M n t i)).isSome) i) → J 50 [(0, vr (some mo)), (1, vi (nI t)), (2, vi x), (3, vi (nI i))] [] S 0 0 := by
    refine up_loop _ _ _ ?_ ?_
    · intro x hx
      refine r_iload_n (pc := 50) C dX10_hold_50 rfl ?_
      refine r_aload_n (pc := 51) C dX10_hold_51 rfl ?_
      refine r_iload_n (pc := 52) C dX10_hold_52 rfl ?_
      refine r_callV (pc := 53) C (mv_inputsOf hV htn) iX10_inputsOf ml_RX10_188 dX10_hold_53 (ci := 11) rfl rfl hV.1.1 rfl (by decide) rfl (by simp [cv, Value.category, va_rf]) (by omega) (by omega) (fun r53 S53 h53 => ?_)
      obtain ⟨rfl, e53⟩ := h53
      subst S53
      dsimp only [Option.toList, List.cons_append, List.nil_append]
      refine r_icmp_ge (pc := 56) (tgt := 88) C dX10_hold_56 (by decide) (fun c56 => ?_) (fun c56 => ?_)
      · refine r_aload_n (pc := 88) C dX10_hold_88 rfl ?_
        refine r_mA (pc := 89) C hV dX10_hold_89 fx_RX10_30 (len := 140) (by decide) ?_
        refine r_iload_n (pc := 92) C dX10_hold_92 rfl ?_
        refine r_iconst (pc := 93) C (nI 2) dX10_hold_93 rfl ?_
        refine r_mS (pc := 94) C hV dX10_hold_94 (k := 13) (len := 140) (by decide) (by decide) (by decide) (by decide) (by omega) (by decide) (fun S94 hC94r hV94 => ?_)
        have hC94 := hC0.trk hC94r
        refine r_aload_n (pc := 95) C dX10_hold_95 rfl ?_
        refine r_mA (pc := 96) C hV94 dX10_hold_96 fx_RX10_40 (len := 140) (by decide) ?_
        refine r_aload_n (pc := 99) C dX10_hold_99 rfl ?_
        refine r_mh (pc := 100) C hV94 dX10_hold_100 fx_RX10_43 ?_
        refine r_iload_n (pc := 103) C dX10_hold_103 rfl ?_
        refine r_iast (pc := 104) C dX10_hold_104 (hV94.1.2 16 140 (by decide)).2.1 (by decide) (hV94.1.2 16 140 (by decide)).2.2 (by first | assumption | exact vp_in_nI (by omega) (by omega)) (by first | exact nI_clamp (by omega) | rfl) ?_
        rw [hV94.e 16 (by decide)]
        have hV104 := hV94.put16 (i := h) (v := nI t) (Nat.le_refl _)
        have hC104 := hC94.trk (Gc.put (E := [20]) (k := 16) (f := upd (um M 13 t (nI 2) 16) h (nI t)) (by decide) (by decide))
        generalize putI S94 (mkd 16) (ma S94 mo 16) (upd (um M 13 t (nI 2) 16) h (nI t)) = S104 at hV104 hC104 ⊢
        refine r_aload_n (pc := 105) C dX10_hold_105 rfl ?_
        refine r_dup (pc := 106) C dX10_hold_106 rfl ?_
        refine r_getI (pc := 107) C dX10_hold_107 fx_RX10_43 hV104.1.1 ?_
        rw [hV104.2.2.1]
        refine r_iconst (pc := 110) C (nI 1) dX10_hold_110 rfl ?_
        refine r_iadd (pc := 111) C dX10_hold_111 ?_
        try simp only [nI_add, pk_mul]
        refine r_putI (pc := 112) C dX10_hold_112 fx_RX10_43 (fp_11_17 _) hV104.1.1 ?_
        have hV112 := hV104.seth (t := t) (ht.sn ho1_sn) um_s hh
        have hC112 := hC104.trs (Gc.set (E := [20]) (k := 17) (v := nI (h + 1)))
        refine r_iconst (pc := 115) C (nI 0) dX10_hold_115 rfl ?_
        refine r_istore_n (pc := 116) C dX10_hold_116 (by decide) rfl ?_
        refine r_lv C [(0, vr (some mo)), (1, vi (nI t)), (2, vi (bi (rejB M n h t))), (3, vi (nI 0))] ?_ (L3 0 _ (by omega) ⟨hC112, hV112⟩)
        subst hx
        rfl
      · exact absurd (Int32.le_refl _) c56
    · intro i x hi hx ih
      have ho := ht.out_lt hG hi
      have hac : ∀ u, acO M n h (out M n t i) = some u → u < 1000 := by
        intro u hu
        unfold acO at hu
        obtain ⟨k, hk, rfl⟩ := Option.map_eq_some_iff.mp hu
        have hkh := (lastU_lt hk).1
        have := (hG.2.2.2 k hkh).2.1
        omega
      subst hx
      refine r_iload_n (pc := 50) C dX10_hold_50 rfl ?_
      refine r_aload_n (pc := 51) C dX10_hold_51 rfl ?_
      refine r_iload_n (pc := 52) C dX10_hold_52 rfl ?_
      refine r_callV (pc := 53) C (mv_inputsOf hV htn) iX10_inputsOf ml_RX10_188 dX10_hold_53 (ci := 11) rfl rfl hV.1.1 rfl (by decide) rfl (by simp [cv, Value.category, va_rf]) (by omega) (by omega) (fun r53 S53 h53 => ?_)
      obtain ⟨rfl, e53⟩ := h53
      subst S53
      dsimp only [Option.toList, List.cons_append, List.nil_append]
      refine r_icmp_ge (pc := 56) (tgt := 88) C dX10_hold_56 (by decide) (fun c56 => ?_) (fun c56 => ?_)
      · exact absurd c56 (nI_ge hi (by omega))
      · refine r_iload_n (pc := 59) C dX10_hold_59 rfl ?_
        refine r_if_ne (pc := 60) (tgt := 76) C dX10_hold_60 (by decide) (fun c60 => ?_) (fun c60 => ?_)
        · rw [bi_0] at c60
          refine r_iconst (pc := 76) C (nI 1) dX10_hold_76 rfl ?_
          refine r_goto (pc := 77) (tgt := 81) C dX10_hold_77 (by decide) ?_
          refine r_istore_n (pc := 81) C dX10_hold_81 (by decide) rfl ?_
          refine r_iinc (pc := 82) C _ dX10_hold_82 rfl (nI_1 _) (by decide) rfl ?_
          refine r_goto (pc := 85) (tgt := 50) C dX10_hold_85 (by decide) ?_
          refine r_lv C [(0, vr (some mo)), (1, vi (nI t)), (2, vi _), (3, vi (nI (i + 1)))] rfl (ih _ ?_)
          simp only [anyU]
          generalize anyU (fun i => decide (M 13 (par M n t i) = nI 4)) (nP (M 11) t) = q at *
          generalize anyU (fun i => (acO M n h (out M n t i)).isSome) i = q2 at *
          generalize acO M n h (out M n t i) = q3 at *
          cases q <;> cases q2 <;> cases q3 <;> simp_all [bi_t, bi_f]
        · rw [bi_0] at c60
          refine r_aload_n (pc := 63) C dX10_hold_63 rfl ?_
          refine r_aload_n (pc := 64) C dX10_hold_64 rfl ?_
          refine r_iload_n (pc := 65) C dX10_hold_65 rfl ?_
          refine r_iload_n (pc := 66) C dX10_hold_66 rfl ?_
          refine r_callV (pc := 67) C (cm_outputOf hV ht hi) iX10_outputOf ml_RX10_255 dX10_hold_67 (ci := 11) rfl rfl hV.1.1 rfl (by decide) rfl (by simp [cv, Value.category, va_rf]) (by omega) (by omega) (fun r67 S67 h67 => ?_)
          obtain ⟨rfl, e67⟩ := h67
          subst S67
          dsimp only [Option.toList, List.cons_append, List.nil_append]
          refine r_callV (pc := 70) C (cm_acceptedOf hV (by omega)) iX10_acceptedOf ml_RX10_265 dX10_hold_70 (ci := 11) rfl rfl hV.1.1 rfl (by decide) rfl (by simp [cv, Value.category, va_rf]) (by omega) (by omega) (fun r70 S70 h70 => ?_)
          obtain ⟨rfl, e70⟩ := h70
          subst S70
          dsimp only [Option.toList, List.cons_append, List.nil_append]
          refine r_if_lt (pc := 73) (tgt := 80) C dX10_hold_73 (by decide) (fun c73 => ?_) (fun c73 => ?_)
          · rw [oI_lt hac] at c73
            refine r_iconst (pc := 80) C (nI 0) dX10_hold_80 rfl ?_
            refine r_istore_n (pc := 81) C dX10_hold_81 (by decide) rfl ?_
            refine r_iinc (pc := 82) C _ dX10_hold_82 rfl (nI_1 _) (by decide) rfl ?_
            refine r_goto (pc := 85) (tgt := 50) C dX10_hold_85 (by decide) ?_
            refine r_lv C [(0, vr (some mo)), (1, vi (nI t)), (2, vi _), (3, vi (nI (i + 1)))] rfl (ih _ ?_)
            simp only [anyU]
            generalize anyU (fun i => decide (M 13 (par M n t i) = nI 4)) (nP (M 11) t) = q at *
            generalize anyU (fun i => (acO M n h (out M n t i)).isSome) i = q2 at *
            generalize acO M n h (out M n t i) = q3 at *
            cases q <;> cases q2 <;> cases q3 <;> simp_all [bi_t, bi_f]
          · rw [oI_lt hac] at c73
            refine r_iconst (pc := 76) C (nI 1) dX10_hold_76 rfl ?_
            refine r_goto (pc := 77) (tgt := 81) C dX10_hold_77 (by decide) ?_
            refine r_istore_n (pc := 81) C dX10_hold_81 (by decide) rfl ?_
            refine r_iinc (pc := 82) C _ dX10_hold_82 rfl (nI_1 _) (by decide) rfl ?_
            refine r_goto (pc := 85) (tgt := 50) C dX10_hold_85 (by decide) ?_
            refine r_lv C [(0, vr (some mo)), (1, vi (nI t)), (2, vi _), (3, vi (nI (i + 1)))] rfl (ih _ ?_)
            simp only [anyU]
            generalize anyU (fun i => decide (M 13 (par M n t i) = nI 4)) (nP (M 11) t) = q at *
            generalize anyU (fun i => (acO M n h (out M n t i)).isSome) i = q2 at *
            generalize acO M n h (out M n t i) = q3 at *
            cases q <;> cases q2 <;> cases q3 <;> simp_all [bi_t, bi_f]
  have L1 : ∀ i x, i ≤ nP (M 11) t → x = bi (anyU (fun i => decide (M 13 (par M n t i) = nI 4)) i) → J 4 [(0, vr (some mo)), (1, vi (nI t)), (2, vi x), (3, vi (nI i))] [] S 0 0 := by
    refine up_loop _ _ _ ?_ ?_
    · intro x hx
      refine r_iload_n (pc := 4) C dX10_hold_4 rfl ?_
      refine r_aload_n (pc := 5) C dX10_hold_5 rfl ?_
      refine r_iload_n (pc := 6) C dX10_hold_6 rfl ?_
      refine r_callV (pc := 7) C (mv_parentsOf hV ht140) iX10_parentsOf ml_RX10_182 dX10_hold_7 (ci := 11) rfl rfl hV.1.1 rfl (by decide) rfl (by simp [cv, Value.category, va_rf]) (by omega) (by omega) (fun r7 S7 h7 => ?_)
      obtain ⟨rfl, e7⟩ := h7
      subst S7
      dsimp only [Option.toList, List.cons_append, List.nil_append]
      refine r_icmp_ge (pc := 10) (tgt := 48) C dX10_hold_10 (by decide) (fun c10 => ?_) (fun c10 => ?_)
      · refine r_iconst (pc := 48) C (nI 0) dX10_hold_48 rfl ?_
        refine r_istore_n (pc := 49) C dX10_hold_49 (by decide) rfl ?_
        exact r_lv C [(0, vr (some mo)), (1, vi (nI t)), (2, vi _), (3, vi (nI 0))] rfl (L2 0 _ (by omega) (by rw [hx]; simp [anyU]))
      · exact absurd (Int32.le_refl _) c10
    · intro i x hi hx ih
      have hpl := ht.par_lt hi
      subst hx
      refine r_iload_n (pc := 4) C dX10_hold_4 rfl ?_
      refine r_aload_n (pc := 5) C dX10_hold_5 rfl ?_
      refine r_iload_n (pc := 6) C dX10_hold_6 rfl ?_
      refine r_callV (pc := 7) C (mv_parentsOf hV ht140) iX10_parentsOf ml_RX10_182 dX10_hold_7 (ci := 11) rfl rfl hV.1.1 rfl (by decide) rfl (by simp [cv, Value.category, va_rf]) (by omega) (by omega) (fun r7 S7 h7 => ?_)
      obtain ⟨rfl, e7⟩ := h7
      subst S7
      dsimp only [Option.toList, List.cons_append, List.nil_append]
      refine r_icmp_ge (pc := 10) (tgt := 48) C dX10_hold_10 (by decide) (fun c10 => ?_) (fun c10 => ?_)
      · exact absurd c10 (nI_ge hi (by omega))
      · refine r_iload_n (pc := 13) C dX10_hold_13 rfl ?_
        refine r_if_ne (pc := 14) (tgt := 36) C dX10_hold_14 (by decide) (fun c14 => ?_) (fun c14 => ?_)
        · rw [bi_0] at c14
          refine r_iconst (pc := 36) C (nI 1) dX10_hold_36 rfl ?_
          refine r_goto (pc := 37) (tgt := 41) C dX10_hold_37 (by decide) ?_
          refine r_istore_n (pc := 41) C dX10_hold_41 (by decide) rfl ?_
          refine r_iinc (pc := 42) C _ dX10_hold_42 rfl (nI_1 _) (by decide) rfl ?_
          refine r_goto (pc := 45) (tgt := 4) C dX10_hold_45 (by decide) ?_
          refine r_lv C [(0, vr (some mo)), (1, vi (nI t)), (2, vi _), (3, vi (nI (i + 1)))] rfl (ih _ ?_)
          simp_all [anyU, bi_t, bi_f]
        · rw [bi_0] at c14
          refine r_aload_n (pc := 17) C dX10_hold_17 rfl ?_
          refine r_mA (pc := 18) C hV dX10_hold_18 fx_RX10_30 (len := 140) (by decide) ?_
          refine r_aload_n (pc := 21) C dX10_hold_21 rfl ?_
          refine r_aload_n (pc := 22) C dX10_hold_22 rfl ?_
          refine r_iload_n (pc := 23) C dX10_hold_23 rfl ?_
          refine r_iload_n (pc := 24) C dX10_hold_24 rfl ?_
          refine r_callV (pc := 25) C (mv_parentId hV ht140 (by omega)) iX10_parentId ml_RX10_224 dX10_hold_25 (ci := 11) rfl rfl hV.1.1 rfl (by decide) rfl (by simp [cv, Value.category, va_rf]) (by omega) (by omega) (fun r25 S25 h25 => ?_)
          obtain ⟨rfl, e25⟩ := h25
          subst S25
          dsimp only [Option.toList, List.cons_append, List.nil_append]
          refine r_callV (pc := 28) C (mv_findS hV (ht.2.1 i hi)) iX10_find ml_RX10_198 dX10_hold_28 (ci := 11) rfl rfl hV.1.1 rfl (by decide) rfl (by simp [cv, Value.category, va_rf]) (by omega) (by omega) (fun r28 S28 h28 => ?_)
          obtain ⟨rfl, e28⟩ := h28
          subst S28
          dsimp only [Option.toList, List.cons_append, List.nil_append]
          refine r_mL (pc := 31) C hV dX10_hold_31 (k := 13) (len := 140) (by decide) (by decide) (by decide) (by omega) (by decide) ?_
          refine r_iconst (pc := 32) C (nI 4) dX10_hold_32 rfl ?_
          refine r_icmp_ne (pc := 33) (tgt := 40) C dX10_hold_33 (by decide) (fun c33 => ?_) (fun c33 => ?_)
          · refine r_iconst (pc := 40) C (nI 0) dX10_hold_40 rfl ?_
            refine r_istore_n (pc := 41) C dX10_hold_41 (by decide) rfl ?_
            refine r_iinc (pc := 42) C _ dX10_hold_42 rfl (nI_1 _) (by decide) rfl ?_
            refine r_goto (pc := 45) (tgt := 4) C dX10_hold_45 (by decide) ?_
            refine r_lv C [(0, vr (some mo)), (1, vi (nI t)), (2, vi _), (3, vi (nI (i + 1)))] rfl (ih _ ?_)
            simp_all [anyU, bi_t, bi_f]
          · refine r_iconst (pc := 36) C (nI 1) dX10_hold_36 rfl ?_
            refine r_goto (pc := 37) (tgt := 41) C dX10_hold_37 (by decide) ?_
            refine r_istore_n (pc := 41) C dX10_hold_41 (by decide) rfl ?_
            refine r_iinc (pc := 42) C _ dX10_hold_42 rfl (nI_1 _) (by decide) rfl ?_
            refine r_goto (pc := 45) (tgt := 4) C dX10_hold_45 (by decide) ?_
            refine r_lv C [(0, vr (some mo)), (1, vi (nI t)), (2, vi _), (3, vi (nI (i + 1)))] rfl (ih _ ?_)
            simp_all [anyU, bi_t, bi_f]
  refine r_iconst (pc := 0) C (nI 0) dX10_hold_0 rfl ?_
  refine r_istore_n (pc := 1) C dX10_hold_1 (by decide) rfl ?_
  refine r_iconst (pc := 2) C (nI 0) dX10_hold_2 rfl ?_
  refine r_istore_n (pc := 3) C dX10_hold_3 (by decide) rfl ?_
  exact r_lv C [(0, vr (some mo)), (1, vi (nI t)), (2, vi _), (3, vi (nI 0))] rfl (L1 0 _ (by omega) rfl)
end Hold
