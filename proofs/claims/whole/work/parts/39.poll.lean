/-! The reference: poll, sampled -/
def fst6 (f : Nat → Int32) : Nat := (fstU (fun p => dlt (f p) (nI 0)) 6).getD 0
theorem fst6_some {f : Nat → Int32} (h : opn f ≠ 6) : fstU (fun p => dlt (f p) (nI 0)) 6 = some (fst6 f) := by
  cases hq : fstU (fun p => dlt (f p) (nI 0)) 6 with
  | some p => simp only [fst6, hq, Option.getD_some]
  | none =>
    exfalso
    apply h
    have h1 := fstU_no hq
    simp only [opn]
    rw [cntU_congr (h := fun _ => true) (fun i hi => by rw [h1 i hi]; rfl)]
    decide
/-- the sample of the poll at the place p -/
def sm27 (f : Nat → Int32) (wt : Nat → Nat) (X : Int64) (p : Nat) : Nat → (Nat → Int32)
  | 0 => f
  | j + 1 => upd (sm27 f wt X p j) (10 * p + j) (nI (smp wt X j))
def sm28 (f : Nat → Int32) (p : Nat) : Nat → (Nat → Int32)
  | 0 => f
  | j + 1 => upd (sm28 f p j) (10 * p + j) (nI 0)
/-- the other arrays after a poll -/
def polF (F : MM) (wt : Nat → Nat) (X : Int64) (v : Int32) (t k : Nat) : MM := uk (uk (um (um F 25 (fst6 (F 25)) v) 26 (fst6 (F 25)) (nI t)) 27 (sm27 (F 27) wt X (fst6 (F 25)) k)) 28 (sm28 (F 28) (fst6 (F 25)) k)
section Poll
variable {l : Launch} {g : GG} {S : hS} {mo : Nat} {M F : MM} {G : Nat → Int32} {X : Int64} {n h : Nat} {Post : Option AV → hS → Prop} {J : JJ}
theorem MX.V (hX : MX S mo M F G X n h) : MV S mo M n h := hX.1
theorem MX.f {k : Nat} (hX : MX S mo M F G X n h) (hk : k ∈ ek) : mI S mo k = F k := hX.2.1 k hk
theorem MX.gg (hX : MX S mo M F G X n h) : Gs S mo = G := hX.2.2.1
theorem MX.x (hX : MX S mo M F G X n h) : sJ S 1101 mo = X := hX.2.2.2
/-- nothing of ek has changed -/
theorem MX.fin0 {E : List Nat} {S' : hS} {M' : MM} {G' : Nat → Int32} {n' h' : Nat} (hX : MX S mo M F G X n h) (hC : Gc E S S' mo G') (hV : MV S' mo M' n' h') (hE : ∀ k ∈ ek, k ∉ E := by decide) : MX S' mo M' F G' X n' h' ∧ Rf S S' mo := by
  have h := hC.gx
  rw [hX.x] at h
  exact hX.fin F h hV (fun k a b => absurd b (hE k a)) (fun _ _ _ => rfl)
theorem abo_lt (hG : GV M n h) {t : Nat} (ht : abo M h = some t) : t < n ∧ ∃ k, k < h ∧ hdN M k = t ∧ M 13 t = nI 2 ∧ M 15 t = 0 := by
  unfold abo at ht
  obtain ⟨k, hk, rfl⟩ := Option.map_eq_some_iff.mp ht
  obtain ⟨h1, h2, -⟩ := fstU_some hk
  simp only [pabt, Bool.and_eq_true, decide_eq_true_eq] at h2
  exact ⟨(hG.2.2.2 k h1).2.1, k, h1, rfl, h2.1, h2.2⟩
theorem poll_pre (C : Cx l g mX10_poll 0 0 RX10 Post J) (hV : MV S mo M n h) (hk : J 92 [(0, vr (some mo)), (1, vi (oI (abo M h))), (2, vi (nI (hvy (mI S mo 6))))] [] S 0 0) : J 0 [(0, vr (some mo))] [] S 0 0 := by
  have hC0 : Gch S S mo (Gs S mo) := Gc.rf
  have hG := hV.G
  have hn2 := hG.1
  have hh2 := hG.2.1
  have L2 : ∀ i x, i ≤ 20 → x = nI (cntU (fun p => dlt (nI 0) (mI S mo 6 p)) i) → J 63 [(0, vr (some mo)), (1, vi (oI (abo M h))), (2, vi x), (3, vi (nI i))] [] S 0 0 := by
    refine up_loop _ _ _ ?_ ?_
    · intro x hx
      refine r_iload_n (pc := 63) C dX10_poll_63 rfl ?_
      refine r_bipush (pc := 64) C (nI 20) dX10_poll_64 rfl ?_
      refine r_icmp_ge (pc := 66) (tgt := 92) C dX10_poll_66 (by decide) (fun c66 => ?_) (fun c66 => ?_)
      · exact r_lv C [(0, vr (some mo)), (1, vi (oI (abo M h))), (2, vi (nI (hvy (mI S mo 6))))] (by rw [hx]; rfl) hk
      · exact absurd (Int32.le_refl _) c66
    · intro i x hi hx ih
      subst hx
      refine r_iload_n (pc := 63) C dX10_poll_63 rfl ?_
      refine r_bipush (pc := 64) C (nI 20) dX10_poll_64 rfl ?_
      refine r_icmp_ge (pc := 66) (tgt := 92) C dX10_poll_66 (by decide) (fun c66 => ?_) (fun c66 => ?_)
      · exact absurd c66 (nI_ge hi (by omega))
      · refine r_iload_n (pc := 69) C dX10_poll_69 rfl ?_
        refine r_aload_n (pc := 70) C dX10_poll_70 rfl ?_
        refine r_mA (pc := 71) C hV dX10_poll_71 fx_RX10_7 (len := 20) (by decide) ?_
        refine r_iload_n (pc := 74) C dX10_poll_74 rfl ?_
        refine r_xL (pc := 75) C hV dX10_poll_75 (k := 6) (len := 20) (by decide) (by decide) (by omega) (by decide) ?_
        refine r_if_le (pc := 76) (tgt := 83) C dX10_poll_76 (by decide) (fun c76 => ?_) (fun c76 => ?_)
        · have hv2 := cntU_f (f := fun p => dlt (nI 0) (mI S mo 6 p)) (n := i) (dlt_f c76)
          refine r_iconst (pc := 83) C (nI 0) dX10_poll_83 rfl ?_
          refine r_iadd (pc := 84) C dX10_poll_84 ?_
          try simp only [nI_add, pk_mul]
          refine r_istore_n (pc := 85) C dX10_poll_85 (by decide) rfl ?_
          refine r_iinc (pc := 86) C _ dX10_poll_86 rfl (nI_1 _) (by decide) rfl ?_
          refine r_goto (pc := 89) (tgt := 63) C dX10_poll_89 (by decide) ?_
          exact r_lv C [(0, vr (some mo)), (1, vi (oI (abo M h))), (2, vi _), (3, vi (nI (i + 1)))] rfl (ih _ (by rw [hv2]))
        · have hv2 := cntU_t (f := fun p => dlt (nI 0) (mI S mo 6 p)) (n := i) (dlt_t (Int32.not_le.mp c76))
          refine r_iconst (pc := 79) C (nI 1) dX10_poll_79 rfl ?_
          refine r_goto (pc := 80) (tgt := 84) C dX10_poll_80 (by decide) ?_
          refine r_iadd (pc := 84) C dX10_poll_84 ?_
          try simp only [nI_add, pk_mul]
          refine r_istore_n (pc := 85) C dX10_poll_85 (by decide) rfl ?_
          refine r_iinc (pc := 86) C _ dX10_poll_86 rfl (nI_1 _) (by decide) rfl ?_
          refine r_goto (pc := 89) (tgt := 63) C dX10_poll_89 (by decide) ?_
          exact r_lv C [(0, vr (some mo)), (1, vi (oI (abo M h))), (2, vi _), (3, vi (nI (i + 1)))] rfl (ih _ (by rw [hv2]))
  have L1 : ∀ i (a : Option Nat), (i ≤ h ∧ scanD (pabt M) i a = fstU (pabt M) h) → J 9 [(0, vr (some mo)), (1, vi (oI (a.map (hdN M)))), (2, vi (nI i - 1))] [] S 0 0 := by
    refine dn_loop _ _ ?_ ?_
    · intro a ha
      have e : a = fstU (pabt M) h := ha.2
      subst e
      refine r_iload_n (pc := 9) C dX10_poll_9 rfl ?_
      refine r_if_lt (pc := 10) (tgt := 59) C dX10_poll_10 (by decide) (fun c10 => ?_) (fun c10 => ?_)
      · refine r_iconst (pc := 59) C (nI 0) dX10_poll_59 rfl ?_
        refine r_istore_n (pc := 60) C dX10_poll_60 (by decide) rfl ?_
        refine r_iconst (pc := 61) C (nI 0) dX10_poll_61 rfl ?_
        refine r_istore_n (pc := 62) C dX10_poll_62 (by decide) rfl ?_
        exact r_lv C [(0, vr (some mo)), (1, vi (oI (abo M h))), (2, vi (nI 0)), (3, vi (nI 0))] rfl (L2 0 _ (by omega) rfl)
      · exact absurd (by decide) c10
    · intro i a ha ih
      obtain ⟨hi, he⟩ := ha
      obtain ⟨e16, hti⟩ := hG.2.2.2 i hi
      have htn := hti.1
      rw [nI_pred]
      refine r_iload_n (pc := 9) C dX10_poll_9 rfl ?_
      refine r_if_lt (pc := 10) (tgt := 59) C dX10_poll_10 (by decide) (fun c10 => ?_) (fun c10 => ?_)
      · exact absurd c10 (nI_pos (by omega))
      · refine r_aload_n (pc := 13) C dX10_poll_13 rfl ?_
        refine r_mA (pc := 14) C hV dX10_poll_14 fx_RX10_30 (len := 140) (by decide) ?_
        refine r_aload_n (pc := 17) C dX10_poll_17 rfl ?_
        refine r_mA (pc := 18) C hV dX10_poll_18 fx_RX10_40 (len := 140) (by decide) ?_
        refine r_iload_n (pc := 21) C dX10_poll_21 rfl ?_
        refine r_mL (pc := 22) C hV dX10_poll_22 (k := 16) (len := 140) (by decide) (by decide) (by decide) (by omega) (by decide) ?_
        rw [e16]
        refine r_mL (pc := 23) C hV dX10_poll_23 (k := 13) (len := 140) (by decide) (by decide) (by decide) (by omega) (by decide) ?_
        refine r_iconst (pc := 24) C (nI 2) dX10_poll_24 rfl ?_
        refine r_icmp_ne (pc := 25) (tgt := 51) C dX10_poll_25 (by decide) (fun c25 => ?_) (fun c25 => ?_)
        · have hv2 : (if pabt M i then some i else a) = a := by simp only [pabt, decide_eq_false c25, Bool.false_and, Bool.false_eq_true, if_false]
          refine r_iload_n (pc := 51) C dX10_poll_51 rfl ?_
          refine r_istore_n (pc := 52) C dX10_poll_52 (by decide) rfl ?_
          refine r_iinc (pc := 53) C (nI i - 1) dX10_poll_53 rfl (dec1 _) (by decide) rfl ?_
          refine r_goto (pc := 56) (tgt := 9) C dX10_poll_56 (by decide) ?_
          first
            | exact r_lv C [(0, vr (some mo)), (1, vi (oI (a.map (hdN M)))), (2, vi (nI i - 1))] rfl (ih a ⟨by omega, by rw [← he]; simp only [scanD, hv2]⟩)
            | exact r_lv C [(0, vr (some mo)), (1, vi (oI ((some i).map (hdN M)))), (2, vi (nI i - 1))] rfl (ih (some i) ⟨by omega, by rw [← he]; simp only [scanD, hv3]⟩)
        · refine r_aload_n (pc := 28) C dX10_poll_28 rfl ?_
          refine r_mA (pc := 29) C hV dX10_poll_29 fx_RX10_37 (len := 140) (by decide) ?_
          refine r_aload_n (pc := 32) C dX10_poll_32 rfl ?_
          refine r_mA (pc := 33) C hV dX10_poll_33 fx_RX10_40 (len := 140) (by decide) ?_
          refine r_iload_n (pc := 36) C dX10_poll_36 rfl ?_
          refine r_mL (pc := 37) C hV dX10_poll_37 (k := 16) (len := 140) (by decide) (by decide) (by decide) (by omega) (by decide) ?_
          rw [e16]
          refine r_mLz (pc := 38) C hV dX10_poll_38 (k := 15) (len := 140) (by decide) (by decide) (by decide) (by omega) (by decide) ?_
          refine r_if_ne (pc := 39) (tgt := 51) C dX10_poll_39 (by decide) (fun c39 => ?_) (fun c39 => ?_)
          · have hv2 : (if pabt M i then some i else a) = a := by simp only [pabt, decide_eq_false c39, Bool.and_false, Bool.false_eq_true, if_false]
            refine r_iload_n (pc := 51) C dX10_poll_51 rfl ?_
            refine r_istore_n (pc := 52) C dX10_poll_52 (by decide) rfl ?_
            refine r_iinc (pc := 53) C (nI i - 1) dX10_poll_53 rfl (dec1 _) (by decide) rfl ?_
            refine r_goto (pc := 56) (tgt := 9) C dX10_poll_56 (by decide) ?_
            first
              | exact r_lv C [(0, vr (some mo)), (1, vi (oI (a.map (hdN M)))), (2, vi (nI i - 1))] rfl (ih a ⟨by omega, by rw [← he]; simp only [scanD, hv2]⟩)
              | exact r_lv C [(0, vr (some mo)), (1, vi (oI ((some i).map (hdN M)))), (2, vi (nI i - 1))] rfl (ih (some i) ⟨by omega, by rw [← he]; simp only [scanD, hv3]⟩)
          · have hv3 : (if pabt M i then some i else a) = some i := by simp only [pabt, decide_eq_true c39, decide_eq_true c25, Bool.and_self, if_true]
            refine r_aload_n (pc := 42) C dX10_poll_42 rfl ?_
            refine r_mA (pc := 43) C hV dX10_poll_43 fx_RX10_40 (len := 140) (by decide) ?_
            refine r_iload_n (pc := 46) C dX10_poll_46 rfl ?_
            refine r_mL (pc := 47) C hV dX10_poll_47 (k := 16) (len := 140) (by decide) (by decide) (by decide) (by omega) (by decide) ?_
            rw [e16]
            refine r_goto (pc := 48) (tgt := 52) C dX10_poll_48 (by decide) ?_
            refine r_istore_n (pc := 52) C dX10_poll_52 (by decide) rfl ?_
            refine r_iinc (pc := 53) C (nI i - 1) dX10_poll_53 rfl (dec1 _) (by decide) rfl ?_
            refine r_goto (pc := 56) (tgt := 9) C dX10_poll_56 (by decide) ?_
            first
              | exact r_lv C [(0, vr (some mo)), (1, vi (oI (a.map (hdN M)))), (2, vi (nI i - 1))] rfl (ih a ⟨by omega, by rw [← he]; simp only [scanD, hv2]⟩)
              | exact r_lv C [(0, vr (some mo)), (1, vi (oI ((some i).map (hdN M)))), (2, vi (nI i - 1))] rfl (ih (some i) ⟨by omega, by rw [← he]; simp only [scanD, hv3]⟩)
  refine r_iconst (pc := 0) C (-1) dX10_poll_0 rfl ?_
  refine r_istore_n (pc := 1) C dX10_poll_1 (by decide) rfl ?_
  refine r_aload_n (pc := 2) C dX10_poll_2 rfl ?_
  refine r_mh (pc := 3) C hV dX10_poll_3 fx_RX10_43 ?_
  refine r_iconst (pc := 6) C (nI 1) dX10_poll_6 rfl ?_
  refine r_isub (pc := 7) C dX10_poll_7 ?_
  refine r_istore_n (pc := 8) C dX10_poll_8 (by decide) rfl ?_
  exact r_lv C [(0, vr (some mo)), (1, vi (oI ((none : Option Nat).map (hdN M)))), (2, vi (nI h - 1))] rfl (L1 h none ⟨by omega, by rw [scanD_fst]; cases fstU (pabt M) h <;> rfl⟩)
theorem cm_pollN (hX : MX S mo M F G X n h) (hno : abo M h = none) : Sp l g mX10_poll 0 0 [vr (some mo)] S (fun r S' => r = some (vi (nI 0)) ∧ MX S' mo M F (upd G 0 (nI 1)) X n h ∧ Rf S S' mo) := by
  have hV := hX.V
  have hC0 : Gch S S mo (Gs S mo) := Gc.rf
  rw [hX.gg] at hC0
  refine Sp.start (own := RX10) [(0, vr (some mo))] (by decide +kernel) rfl rfl (Nat.le_of_ble_eq_true rfl) ?_
  intro J C
  refine poll_pre C hV ?_
  rw [hno]
  refine r_aload_n (pc := 92) C dX10_poll_92 rfl ?_
  refine r_iload_n (pc := 93) C dX10_poll_93 rfl ?_
  refine r_if_ge (pc := 94) (tgt := 101) C dX10_poll_94 (by decide) (fun c94 => ?_) (fun c94 => ?_)
  · exact absurd c94 (by decide)
  · refine r_iconst (pc := 97) C (nI 1) dX10_poll_97 rfl ?_
    refine r_goto (pc := 98) (tgt := 123) C dX10_poll_98 (by decide) ?_
    refine r_mP (pc := 123) (k := 0) C hV dX10_poll_123 fx_RX10_145 (fp_11_0 _) (by decide) (fun S123 hC123 hV123 => ?_)
    have hC123r := hC123
    have hC123 := hC0.trs hC123
    refine r_aload_n (pc := 126) C dX10_poll_126 rfl ?_
    refine r_mI (pc := 127) (k := 0) C hV123 dX10_poll_127 fx_RX10_145 ?_
    rw [show Gs _ mo 0 = nI 1 from by rw [hC123.gs]; simp [upd]]
    refine r_if_le (pc := 130) (tgt := 135) C dX10_poll_130 (by decide) (fun c130 => ?_) (fun c130 => ?_)
    · exact absurd c130 (by decide)
    · refine r_iconst (pc := 133) C (nI 0) dX10_poll_133 rfl ?_
      refine r_iret (pc := 134) C dX10_poll_134 rfl (by omega) (by omega) ?_
      exact ⟨rfl, hX.fin0 hC123 hV123⟩
theorem cm_pollF {t k : Nat} (hX : MX S mo M F G X n h) (hab : abo M h = some t) (hk : G 2 = nI k) (hk2 : k ≤ 10) (hno : opn (F 25) = 6 ∨ hvy (F 6) < k) : Sp l g mX10_poll 0 0 [vr (some mo)] S (fun r S' => r = some (vi (nI 0)) ∧ MX S' mo M F (upd G 0 (nI 2)) X n h ∧ Rf S S' mo) := by
  have hV := hX.V
  have hC0 : Gch S S mo (Gs S mo) := Gc.rf
  rw [hX.gg] at hC0
  have hn2 := hV.G.1
  have htn := (abo_lt hV.G hab).1
  have ho : opn (F 25) ≤ 6 := cntU_le
  have hh : hvy (F 6) ≤ 20 := cntU_le
  refine Sp.start (own := RX10) [(0, vr (some mo))] (by decide +kernel) rfl rfl (Nat.le_of_ble_eq_true rfl) ?_
  intro J C
  refine poll_pre C hV ?_
  rw [hab, hX.f (by decide)]
  dsimp only [oI]
  refine r_aload_n (pc := 92) C dX10_poll_92 rfl ?_
  refine r_iload_n (pc := 93) C dX10_poll_93 rfl ?_
  refine r_if_ge (pc := 94) (tgt := 101) C dX10_poll_94 (by decide) (fun c94 => ?_) (fun c94 => ?_)
  · refine r_aload_n (pc := 101) C dX10_poll_101 rfl ?_
    refine r_callV (pc := 102) C (cm_openPolls hV) iX10_openPolls ml_RX10_293 dX10_poll_102 (ci := 11) rfl rfl hV.1.1 rfl (by decide) rfl (by simp [cv, Value.category, va_rf]) (by omega) (by omega) (fun r102 S102 h102 => ?_)
    obtain ⟨rfl, e102⟩ := h102
    subst S102
    dsimp only [Option.toList, List.cons_append, List.nil_append]
    rw [hX.f (by decide)]
    refine r_bipush (pc := 105) C (nI 6) dX10_poll_105 rfl ?_
    refine r_icmp_eq (pc := 107) (tgt := 118) C dX10_poll_107 (by decide) (fun c107 => ?_) (fun c107 => ?_)
    · refine r_iconst (pc := 118) C (nI 2) dX10_poll_118 rfl ?_
      refine r_goto (pc := 119) (tgt := 123) C dX10_poll_119 (by decide) ?_
      refine r_mP (pc := 123) (k := 0) C hV dX10_poll_123 fx_RX10_145 (fp_11_0 _) (by decide) (fun S123 hC123 hV123 => ?_)
      have hC123r := hC123
      have hC123 := hC0.trs hC123
      refine r_aload_n (pc := 126) C dX10_poll_126 rfl ?_
      refine r_mI (pc := 127) (k := 0) C hV123 dX10_poll_127 fx_RX10_145 ?_
      rw [show Gs _ mo 0 = nI 2 from by rw [hC123.gs]; simp [upd]]
      refine r_if_le (pc := 130) (tgt := 135) C dX10_poll_130 (by decide) (fun c130 => ?_) (fun c130 => ?_)
      · exact absurd c130 (by decide)
      · refine r_iconst (pc := 133) C (nI 0) dX10_poll_133 rfl ?_
        refine r_iret (pc := 134) C dX10_poll_134 rfl (by omega) (by omega) ?_
        exact ⟨rfl, hX.fin0 hC123 hV123⟩
    · have c107n := mt (nI_eq (a := opn (F 25)) (b := 6) (by omega) (by omega)).mpr c107
      refine r_iload_n (pc := 110) C dX10_poll_110 rfl ?_
      refine r_aload_n (pc := 111) C dX10_poll_111 rfl ?_
      refine r_mI (pc := 112) (k := 2) C hV dX10_poll_112 fx_RX10_122 ?_
      rw [hC0.gs, hk]
      refine r_icmp_ge (pc := 115) (tgt := 122) C dX10_poll_115 (by decide) (fun c115 => ?_) (fun c115 => ?_)
      · exact absurd c115 (nI_ge (hno.resolve_left c107n) (by omega))
      · refine r_iconst (pc := 118) C (nI 2) dX10_poll_118 rfl ?_
        refine r_goto (pc := 119) (tgt := 123) C dX10_poll_119 (by decide) ?_
        refine r_mP (pc := 123) (k := 0) C hV dX10_poll_123 fx_RX10_145 (fp_11_0 _) (by decide) (fun S123 hC123 hV123 => ?_)
        have hC123r := hC123
        have hC123 := hC0.trs hC123
        refine r_aload_n (pc := 126) C dX10_poll_126 rfl ?_
        refine r_mI (pc := 127) (k := 0) C hV123 dX10_poll_127 fx_RX10_145 ?_
        rw [show Gs _ mo 0 = nI 2 from by rw [hC123.gs]; simp [upd]]
        refine r_if_le (pc := 130) (tgt := 135) C dX10_poll_130 (by decide) (fun c130 => ?_) (fun c130 => ?_)
        · exact absurd c130 (by decide)
        · refine r_iconst (pc := 133) C (nI 0) dX10_poll_133 rfl ?_
          refine r_iret (pc := 134) C dX10_poll_134 rfl (by omega) (by omega) ?_
          exact ⟨rfl, hX.fin0 hC123 hV123⟩
  · exact absurd (nI_pos' (by omega)) c94
theorem cm_poll {t k : Nat} {wt : Nat → Nat} (hX : MX S mo M F G X n h) (hab : abo M h = some t) (hk : G 2 = nI k) (hk2 : k ≤ 10) (hop : opn (F 25) ≠ 6) (hhv : k ≤ hvy (F 6)) (hw : ∀ p, p < 20 → F 6 p = nI (wt p)) (hw2 : ∀ p, wt p ≤ 1000) : Sp l g mX10_poll 0 0 [vr (some mo)] S (fun r S' => r = some (vi (G 29)) ∧ MX S' mo (um M 15 t (nI 1)) (polF F wt X (G 29) t k) (upd (upd G 0 (nI 0)) 29 (G 29 + nI 1)) (dX X k) n h ∧ Rf S S' mo) := by
  have hV := hX.V
  have hC0 : Gch S S mo (Gs S mo) := Gc.rf
  rw [hX.gg] at hC0
  have hn2 := hV.G.1
  have htn := (abo_lt hV.G hab).1
  have ho : opn (F 25) ≤ 6 := cntU_le
  have hh : hvy (F 6) ≤ 20 := cntU_le
  have hpl := fst6_some hop
  have hp6 := (fstU_some hpl).1
  have hpn := (fstU_some hpl).2.1
  have hpb := (fstU_some hpl).2.2
  generalize hpe : fst6 (F 25) = pl at *
  have hhv2 : k ≤ cntU (fun p => decide (0 < wt p)) 20 := by
    refine Nat.le_trans hhv ?_
    refine cntU_sub 20 (fun i hi hf => ?_)
    rw [hw i hi] at hf
    have := hw2 i
    simp only [dlt, decide_eq_true_eq] at hf ⊢
    rwa [nI_ltI (by omega) (by omega)] at hf
  have hpol : polF F wt X (G 29) t k = uk (uk (um (um F 25 pl (G 29)) 26 pl (nI t)) 27 (sm27 (F 27) wt X pl k)) 28 (sm28 (F 28) pl k) := by simp only [polF, hpe]
  generalize hG1 : upd G 0 (nI 0) = G1
  have hG12 : G1 2 = nI k := by rw [← hG1]; exact hk
  have hG129 : G1 29 = G 29 := by rw [← hG1]; rfl
  refine Sp.start (own := RX10) [(0, vr (some mo))] (by decide +kernel) rfl rfl (Nat.le_of_ble_eq_true rfl) ?_
  intro J C
  have L4 : ∀ j S1, j ≤ k → (Gx [20, 25, 26, 27, 28, 31] S S1 mo G1 (dX X j) ∧ MV S1 mo (um M 15 t (nI 1)) n h ∧ mI S1 mo 25 = upd (F 25) pl (G 29) ∧ mI S1 mo 26 = upd (F 26) pl (nI t) ∧ mI S1 mo 27 = sm27 (F 27) wt X pl j ∧ mI S1 mo 28 = sm28 (F 28) pl j ∧ ∀ q, q < 20 → mI S1 mo 31 q = bi (dD wt X j q)) → J 203 [(0, vr (some mo)), (1, vi (nI t)), (3, vi (nI pl)), (4, vi (nI j))] [] S1 0 0 := by
    refine up_loop _ _ _ ?_ ?_
    · intro S1 hS
      obtain ⟨hC1, hV1, q25, q26, q27, q28, q31⟩ := hS
      refine r_iload (pc := 203) C dX10_poll_203 rfl ?_
      refine r_aload_n (pc := 205) C dX10_poll_205 rfl ?_
      refine r_mI (pc := 206) (k := 2) C hV1 dX10_poll_206 fx_RX10_122 ?_
      rw [hC1.gs, hG12]
      refine r_icmp_ge (pc := 209) (tgt := 247) C dX10_poll_209 (by decide) (fun c209 => ?_) (fun c209 => ?_)
      · refine r_aload_n (pc := 247) C dX10_poll_247 rfl ?_
        refine r_dup (pc := 248) C dX10_poll_248 rfl ?_
        refine r_mI (pc := 249) (k := 29) C hV1 dX10_poll_249 fx_RX10_297 ?_
        rw [hC1.gs, hG129]
        refine r_iconst (pc := 252) C (nI 1) dX10_poll_252 rfl ?_
        refine r_iadd (pc := 253) C dX10_poll_253 ?_
        refine r_mP (pc := 254) (k := 29) C hV1 dX10_poll_254 fx_RX10_297 (fp_11_29 _) (by decide) (fun S254 hC254 hV254 => ?_)
        have hC254r := hC254
        have hC254 := hC1.trs hC254
        refine r_aload_n (pc := 257) C dX10_poll_257 rfl ?_
        refine r_mI (pc := 258) (k := 29) C hV254 dX10_poll_258 fx_RX10_297 ?_
        rw [show Gs _ mo 29 = G 29 + nI 1 from by rw [hC254.gs]; simp [upd]]
        refine r_iconst (pc := 261) C (nI 1) dX10_poll_261 rfl ?_
        refine r_isub (pc := 262) C dX10_poll_262 ?_
        refine r_iret (pc := 263) C dX10_poll_263 rfl (by omega) (by omega) ?_
        refine ⟨by rw [show G 29 + nI 1 - nI 1 = G 29 from Int32.add_sub_cancel _ _], ?_⟩
        rw [hpol]
        have hkp : ∀ k, k ∈ mks → k ∉ gk → mI S254 mo k = mI S1 mo k := fun k a b => hC254r.keep a b (by simp)
        refine hX.fin _ hC254 hV254 (fun k hk hE => ?_) (fun k hk hE => ?_)
        · rw [hkp k (ek_mks hk).1 (ek_mks hk).2]
          simp only [List.mem_cons, List.not_mem_nil, or_false] at hE
          rcases hE with rfl | rfl | rfl | rfl | rfl | rfl
          · exact absurd hk (by decide)
          · rw [q25]; rfl
          · rw [q26]; rfl
          · rw [q27]; rfl
          · rw [q28]; rfl
          · exact absurd hk (by decide)
        · simp only [List.mem_cons, List.not_mem_nil, or_false, not_or] at hE
          rw [uk_n hE.2.2.2.2.1, uk_n hE.2.2.2.1, um_n hE.2.2.1, um_n hE.2.1]
      · exact absurd (Int32.le_refl _) c209
    · intro j S1 hj hS ih
      obtain ⟨hC1, hV1, q25, q26, q27, q28, q31⟩ := hS
      have hw1 : ∀ p, p < 20 → mI S1 mo 6 p = nI (wt p) := fun p hp => by rw [hC1.keep (by decide) (by decide) (by decide), hX.f (by decide)]; exact hw p hp
      have hpos := dD_pos (X := X) hhv2 hj
      refine r_iload (pc := 203) C dX10_poll_203 rfl ?_
      refine r_aload_n (pc := 205) C dX10_poll_205 rfl ?_
      refine r_mI (pc := 206) (k := 2) C hV1 dX10_poll_206 fx_RX10_122 ?_
      rw [hC1.gs, hG12]
      refine r_icmp_ge (pc := 209) (tgt := 247) C dX10_poll_209 (by decide) (fun c209 => ?_) (fun c209 => ?_)
      · exact absurd c209 (nI_ge hj (by omega))
      · refine r_aload_n (pc := 212) C dX10_poll_212 rfl ?_
        refine r_mA (pc := 213) C hV1 dX10_poll_213 fx_RX10_73 (len := 60) (by decide) ?_
        refine r_bipush (pc := 216) C (nI 10) dX10_poll_216 rfl ?_
        refine r_iload_n (pc := 218) C dX10_poll_218 rfl ?_
        refine r_imul (pc := 219) C dX10_poll_219 ?_
        try simp only [nI_add, pk_mul]
        refine r_iload (pc := 220) C dX10_poll_220 rfl ?_
        refine r_iadd (pc := 222) C dX10_poll_222 ?_
        try simp only [nI_add, pk_mul]
        refine r_aload_n (pc := 223) C dX10_poll_223 rfl ?_
        refine r_callV (pc := 224) C (cm_draw hV1 hw1 hw2 q31 hpos) iX10_draw ml_RX10_300 dX10_poll_224 (ci := 11) rfl rfl hV1.1.1 rfl (by decide) rfl (by simp [cv, Value.category, va_rf]) (by omega) (by omega) (fun r224 S224 h224 => ?_)
        obtain ⟨rfl, hCd, hVd, hDd⟩ := h224
        dsimp only [Option.toList, List.cons_append, List.nil_append]
        rw [hC1.sj] at hDd hCd ⊢
        have hCd2 := hC1.trx hCd
        have ema : ma S1 mo 27 = ma S224 mo 27 := by obtain ⟨FF, rfl, -⟩ := hCd; rfl
        rw [ema]
        refine r_xS (pc := 227) C hVd dX10_poll_227 (k := 27) (len := 60) (by decide) (by decide) (by decide) (by decide) (by omega) (by decide) (fun S227 hC227r hV227 hF227 => ?_)
        have hC227 := hCd2.trk hC227r
        refine r_aload_n (pc := 228) C dX10_poll_228 rfl ?_
        refine r_mA (pc := 229) C hV227 dX10_poll_229 fx_RX10_76 (len := 60) (by decide) ?_
        refine r_bipush (pc := 232) C (nI 10) dX10_poll_232 rfl ?_
        refine r_iload_n (pc := 234) C dX10_poll_234 rfl ?_
        refine r_imul (pc := 235) C dX10_poll_235 ?_
        try simp only [nI_add, pk_mul]
        refine r_iload (pc := 236) C dX10_poll_236 rfl ?_
        refine r_iadd (pc := 238) C dX10_poll_238 ?_
        try simp only [nI_add, pk_mul]
        refine r_iconst (pc := 239) C (nI 0) dX10_poll_239 rfl ?_
        refine r_xS (pc := 240) C hV227 dX10_poll_240 (k := 28) (len := 60) (by decide) (by decide) (by decide) (by decide) (by omega) (by decide) (fun S240 hC240r hV240 hF240 => ?_)
        have hC240 := hC227.trk hC240r
        refine r_iinc (pc := 241) C _ dX10_poll_241 rfl (nI_1 _) (by decide) rfl ?_
        refine r_goto (pc := 244) (tgt := 203) C dX10_poll_244 (by decide) ?_
        refine r_lv C [(0, vr (some mo)), (1, vi (nI t)), (3, vi (nI pl)), (4, vi (nI (j + 1)))] rfl (ih _ ⟨hC240, hV240, ?_, ?_, ?_, ?_, ?_⟩)
        · rw [hF240 25 (by decide), uk_n (by decide), hF227 25 (by decide), uk_n (by decide), hCd.keep (by decide) (by decide) (by decide)]; exact q25
        · rw [hF240 26 (by decide), uk_n (by decide), hF227 26 (by decide), uk_n (by decide), hCd.keep (by decide) (by decide) (by decide)]; exact q26
        · rw [hF240 27 (by decide), uk_n (by decide), hF227 27 (by decide), uk_s, hCd.keep (by decide) (by decide) (by decide), q27]; rfl
        · rw [hF240 28 (by decide), uk_s, hF227 28 (by decide), uk_n (by decide), hCd.keep (by decide) (by decide) (by decide), q28]; rfl
        · intro q hq; rw [hF240 31 (by decide), uk_n (by decide), hF227 31 (by decide), uk_n (by decide)]; exact hDd q hq
  have L3 : ∀ i S1, i ≤ 20 → (Gx [20, 25, 26, 27, 28, 31] S S1 mo G1 X ∧ MV S1 mo (um M 15 t (nI 1)) n h ∧ mI S1 mo 25 = upd (F 25) pl (G 29) ∧ mI S1 mo 26 = upd (F 26) pl (nI t) ∧ mI S1 mo 27 = F 27 ∧ mI S1 mo 28 = F 28 ∧ ∀ q, q < i → mI S1 mo 31 q = nI 0) → J 179 [(0, vr (some mo)), (1, vi (nI t)), (3, vi (nI pl)), (4, vi (nI i))] [] S1 0 0 := by
    refine up_loop _ _ _ ?_ ?_
    · intro S1 hS
      obtain ⟨hC1, hV1, q25, q26, q27, q28, q31⟩ := hS
      refine r_iload (pc := 179) C dX10_poll_179 rfl ?_
      refine r_bipush (pc := 181) C (nI 20) dX10_poll_181 rfl ?_
      refine r_icmp_ge (pc := 183) (tgt := 200) C dX10_poll_183 (by decide) (fun c183 => ?_) (fun c183 => ?_)
      · refine r_iconst (pc := 200) C (nI 0) dX10_poll_200 rfl ?_
        refine r_istore (pc := 201) C dX10_poll_201 (by decide) rfl ?_
        exact r_lv C [(0, vr (some mo)), (1, vi (nI t)), (3, vi (nI pl)), (4, vi (nI 0))] rfl (L4 0 S1 (by omega) ⟨hC1, hV1, q25, q26, q27, q28, fun q hq => q31 q hq⟩)
      · exact absurd (Int32.le_refl _) c183
    · intro i S1 hi hS ih
      obtain ⟨hC1, hV1, q25, q26, q27, q28, q31⟩ := hS
      refine r_iload (pc := 179) C dX10_poll_179 rfl ?_
      refine r_bipush (pc := 181) C (nI 20) dX10_poll_181 rfl ?_
      refine r_icmp_ge (pc := 183) (tgt := 200) C dX10_poll_183 (by decide) (fun c183 => ?_) (fun c183 => ?_)
      · exact absurd c183 (nI_ge hi (by omega))
      · refine r_aload_n (pc := 186) C dX10_poll_186 rfl ?_
        refine r_mA (pc := 187) C hV1 dX10_poll_187 fx_RX10_79 (len := 20) (by decide) ?_
        refine r_iload (pc := 190) C dX10_poll_190 rfl ?_
        refine r_iconst (pc := 192) C (nI 0) dX10_poll_192 rfl ?_
        refine r_xSz (pc := 193) C hV1 dX10_poll_193 (k := 31) (len := 20) (by decide) (by decide) (by decide) (by decide) (by omega) (by decide) (Or.inl rfl) (fun S193 hC193r hV193 hF193 => ?_)
        have hC193 := hC1.trk hC193r
        refine r_iinc (pc := 194) C _ dX10_poll_194 rfl (nI_1 _) (by decide) rfl ?_
        refine r_goto (pc := 197) (tgt := 179) C dX10_poll_197 (by decide) ?_
        refine r_lv C [(0, vr (some mo)), (1, vi (nI t)), (3, vi (nI pl)), (4, vi (nI (i + 1)))] rfl (ih _ ⟨hC193, hV193, ?_, ?_, ?_, ?_, ?_⟩)
        · rw [hF193 25 (by decide), uk_n (by decide)]; exact q25
        · rw [hF193 26 (by decide), uk_n (by decide)]; exact q26
        · rw [hF193 27 (by decide), uk_n (by decide)]; exact q27
        · rw [hF193 28 (by decide), uk_n (by decide)]; exact q28
        · intro q hq
          rw [hF193 31 (by decide), uk_s]
          simp only [upd]
          split
          · rfl
          · next e => exact q31 q (by omega)
  have L2 : ∀ i S1, i ≤ pl → (Gx [20, 25, 26, 27, 28, 31] S S1 mo G1 X ∧ MV S1 mo M n h ∧ mI S1 mo 25 = F 25 ∧ mI S1 mo 26 = F 26 ∧ mI S1 mo 27 = F 27 ∧ mI S1 mo 28 = F 28) → J 137 [(0, vr (some mo)), (1, vi (nI t)), (3, vi (nI i))] [] S1 0 0 := by
    refine up_loop _ _ _ ?_ ?_
    · intro S1 hS
      obtain ⟨hC1, hV1, q25, q26, q27, q28⟩ := hS
      refine r_aload_n (pc := 137) C dX10_poll_137 rfl ?_
      refine r_mA (pc := 138) C hV1 dX10_poll_138 fx_RX10_67 (len := 6) (by decide) ?_
      refine r_iload_n (pc := 141) C dX10_poll_141 rfl ?_
      refine r_xL (pc := 142) C hV1 dX10_poll_142 (k := 25) (len := 6) (by decide) (by decide) (by omega) (by decide) ?_
      rw [q25]
      refine r_if_lt (pc := 143) (tgt := 152) C dX10_poll_143 (by decide) (fun c143 => ?_) (fun c143 => ?_)
      · refine r_aload_n (pc := 152) C dX10_poll_152 rfl ?_
        refine r_mA (pc := 153) C hV1 dX10_poll_153 fx_RX10_37 (len := 140) (by decide) ?_
        refine r_iload_n (pc := 156) C dX10_poll_156 rfl ?_
        refine r_iconst (pc := 157) C (nI 1) dX10_poll_157 rfl ?_
        refine r_mSz (pc := 158) C hV1 dX10_poll_158 (k := 15) (len := 140) (by decide) (by decide) (by decide) (by decide) (by omega) (by decide) (Or.inr rfl) (fun S158 hC158r hV158 => ?_)
        have hC158 := hC1.trk hC158r
        refine r_aload_n (pc := 159) C dX10_poll_159 rfl ?_
        refine r_mA (pc := 160) C hV158 dX10_poll_160 fx_RX10_67 (len := 6) (by decide) ?_
        refine r_iload_n (pc := 163) C dX10_poll_163 rfl ?_
        refine r_aload_n (pc := 164) C dX10_poll_164 rfl ?_
        refine r_mI (pc := 165) (k := 29) C hV158 dX10_poll_165 fx_RX10_297 ?_
        rw [hC158.gs, hG129]
        refine r_xS (pc := 168) C hV158 dX10_poll_168 (k := 25) (len := 6) (by decide) (by decide) (by decide) (by decide) (by omega) (by decide) (fun S168 hC168r hV168 hF168 => ?_)
        have hC168 := hC158.trk hC168r
        refine r_aload_n (pc := 169) C dX10_poll_169 rfl ?_
        refine r_mA (pc := 170) C hV168 dX10_poll_170 fx_RX10_70 (len := 6) (by decide) ?_
        refine r_iload_n (pc := 173) C dX10_poll_173 rfl ?_
        refine r_iload_n (pc := 174) C dX10_poll_174 rfl ?_
        refine r_xS (pc := 175) C hV168 dX10_poll_175 (k := 26) (len := 6) (by decide) (by decide) (by decide) (by decide) (by omega) (by decide) (fun S175 hC175r hV175 hF175 => ?_)
        have hC175 := hC168.trk hC175r
        refine r_iconst (pc := 176) C (nI 0) dX10_poll_176 rfl ?_
        refine r_istore (pc := 177) C dX10_poll_177 (by decide) rfl ?_
        refine r_lv C [(0, vr (some mo)), (1, vi (nI t)), (3, vi (nI pl)), (4, vi (nI 0))] rfl (L3 0 _ (by omega) ⟨hC175, hV175, ?_, ?_, ?_, ?_, fun q hq => absurd hq (by omega)⟩)
        · rw [hF175 25 (by decide), uk_n (by decide), hF168 25 (by decide), uk_s, hC158r.keep (by decide) (by decide) (by decide), q25]
        · rw [hF175 26 (by decide), uk_s, hF168 26 (by decide), uk_n (by decide), hC158r.keep (by decide) (by decide) (by decide), q26]
        · rw [hF175 27 (by decide), uk_n (by decide), hF168 27 (by decide), uk_n (by decide), hC158r.keep (by decide) (by decide) (by decide), q27]
        · rw [hF175 28 (by decide), uk_n (by decide), hF168 28 (by decide), uk_n (by decide), hC158r.keep (by decide) (by decide) (by decide), q28]
      · exact absurd (show F 25 pl < nI 0 from by simpa [dlt] using hpn) c143
    · intro i S1 hi hS ih
      obtain ⟨hC1, hV1, q25, q26, q27, q28⟩ := hS
      have hbi := hpb i hi
      refine r_aload_n (pc := 137) C dX10_poll_137 rfl ?_
      refine r_mA (pc := 138) C hV1 dX10_poll_138 fx_RX10_67 (len := 6) (by decide) ?_
      refine r_iload_n (pc := 141) C dX10_poll_141 rfl ?_
      refine r_xL (pc := 142) C hV1 dX10_poll_142 (k := 25) (len := 6) (by decide) (by decide) (by omega) (by decide) ?_
      rw [q25]
      refine r_if_lt (pc := 143) (tgt := 152) C dX10_poll_143 (by decide) (fun c143 => ?_) (fun c143 => ?_)
      · rw [dlt_t (show F 25 i < nI 0 from c143)] at hbi; cases hbi
      · refine r_iinc (pc := 146) C _ dX10_poll_146 rfl (nI_1 _) (by decide) rfl ?_
        refine r_goto (pc := 149) (tgt := 137) C dX10_poll_149 (by decide) ?_
        exact r_lv C [(0, vr (some mo)), (1, vi (nI t)), (3, vi (nI (i + 1)))] rfl (ih _ ⟨hC1, hV1, q25, q26, q27, q28⟩)
  refine poll_pre C hV ?_
  rw [hab, hX.f (by decide)]
  dsimp only [oI]
  refine r_aload_n (pc := 92) C dX10_poll_92 rfl ?_
  refine r_iload_n (pc := 93) C dX10_poll_93 rfl ?_
  refine r_if_ge (pc := 94) (tgt := 101) C dX10_poll_94 (by decide) (fun c94 => ?_) (fun c94 => ?_)
  · refine r_aload_n (pc := 101) C dX10_poll_101 rfl ?_
    refine r_callV (pc := 102) C (cm_openPolls hV) iX10_openPolls ml_RX10_293 dX10_poll_102 (ci := 11) rfl rfl hV.1.1 rfl (by decide) rfl (by simp [cv, Value.category, va_rf]) (by omega) (by omega) (fun r102 S102 h102 => ?_)
    obtain ⟨rfl, e102⟩ := h102
    subst S102
    dsimp only [Option.toList, List.cons_append, List.nil_append]
    rw [hX.f (by decide)]
    refine r_bipush (pc := 105) C (nI 6) dX10_poll_105 rfl ?_
    refine r_icmp_eq (pc := 107) (tgt := 118) C dX10_poll_107 (by decide) (fun c107 => ?_) (fun c107 => ?_)
    · exact absurd ((nI_eq (a := opn (F 25)) (b := 6) (by omega) (by omega)).mp c107) hop
    · refine r_iload_n (pc := 110) C dX10_poll_110 rfl ?_
      refine r_aload_n (pc := 111) C dX10_poll_111 rfl ?_
      refine r_mI (pc := 112) (k := 2) C hV dX10_poll_112 fx_RX10_122 ?_
      rw [hC0.gs, hk]
      refine r_icmp_ge (pc := 115) (tgt := 122) C dX10_poll_115 (by decide) (fun c115 => ?_) (fun c115 => ?_)
      · refine r_iconst (pc := 122) C (nI 0) dX10_poll_122 rfl ?_
        refine r_mP (pc := 123) (k := 0) C hV dX10_poll_123 fx_RX10_145 (fp_11_0 _) (by decide) (fun S123 hC123 hV123 => ?_)
        have hC123r := hC123
        have hC123 := hC0.trs hC123
        refine r_aload_n (pc := 126) C dX10_poll_126 rfl ?_
        refine r_mI (pc := 127) (k := 0) C hV123 dX10_poll_127 fx_RX10_145 ?_
        rw [show Gs _ mo 0 = nI 0 from by rw [hC123.gs]; simp [upd]]
        refine r_if_le (pc := 130) (tgt := 135) C dX10_poll_130 (by decide) (fun c130 => ?_) (fun c130 => ?_)
        · refine r_iconst (pc := 135) C (nI 0) dX10_poll_135 rfl ?_
          refine r_istore_n (pc := 136) C dX10_poll_136 (by decide) rfl ?_
          have hCx := hC123.gx
          rw [hX.x, hG1] at hCx
          have hCy : Gx [20, 25, 26, 27, 28, 31] S S123 mo G1 X := by obtain ⟨FF, e1, e2⟩ := hC123r; exact ⟨FF, by rw [e1, hX.gg, hX.x, hG1], fun k a b c => e2 k a b (by simp)⟩
          exact r_lv C [(0, vr (some mo)), (1, vi (nI t)), (3, vi (nI 0))] rfl (L2 0 S123 (by omega) ⟨hCy, hV123, by rw [hC123r.keep (by decide) (by decide) (by decide)]; exact hX.f (by decide), by rw [hC123r.keep (by decide) (by decide) (by decide)]; exact hX.f (by decide), by rw [hC123r.keep (by decide) (by decide) (by decide)]; exact hX.f (by decide), by rw [hC123r.keep (by decide) (by decide) (by decide)]; exact hX.f (by decide)⟩)
        · exact absurd (by decide) c130
      · exact absurd (nI_le hhv (by omega)) c115
  · exact absurd (nI_pos' (by omega)) c94
end Poll
