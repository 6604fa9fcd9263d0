/-! The reference: strong ones, what a poll speaks, what can be accepted -/
def liked (M : MM) (n t : Nat) : Bool := allU (fun i => decide (M 22 (out M n t i) = nI t)) (nX (M 11) t)
def stg (M : MM) (n h t : Nat) : Bool := liked M n t && allU (fun a => !anc M n h t a || liked M n a) n
/-- the favourite of a set -/
def favN (M : MM) (s : Nat) : Option Nat := if M 22 s < 0 then none else some (M 22 s).toNatClampNeg
def Fav (M : MM) (n : Nat) : Prop := ∀ s, s < 564 → M 22 s = oI (favN M s) ∧ ∀ u, favN M s = some u → u < n
theorem favN_oI {M : MM} {s : Nat} {o : Option Nat} (h : M 22 s = oI o) (h2 : ∀ u, o = some u → u < 1000) : favN M s = o := by
  unfold favN
  cases o with
  | none => rw [if_pos (by rw [h]; decide)]
  | some u =>
    have := h2 u rfl
    have h' : M 22 s = nI u := h
    rw [if_neg (by rw [h']; exact nI_pos (by omega)), h', nI_clamp (by omega)]
def beat (M : MM) (n h c s : Nat) : Bool := match favN M s with
  | none => true
  | some u => decide (conf M n h u < c)
/-- what one set hears: a won poll for t, or a lost one -/
def spk1 (M : MM) (n h t c s : Nat) : MM :=
  let M1 := if beat M n h c s then um M 22 s (nI t) else M
  um (um M1 24 s (if M1 23 s = nI t then M1 24 s + nI 1 else nI 1)) 23 s (nI t)
def spkL (M : MM) (n h t : Nat) (w : Bool) : Nat → MM
  | 0 => M
  | i + 1 => if w then spk1 (spkL M n h t w i) n h t (conf M n h t) (out M n t i) else um (spkL M n h t w i) 24 (out M n t i) (nI 0)
def spk (M : MM) (n h t : Nat) (w : Bool) : MM := spkL M n h t w (nX (M 11) t)
theorem um_sm {M : MM} {k i : Nat} {v : Int32} (h : k ≠ 10 ∧ k ≠ 11 ∧ k ≠ 16) : Sm M (um M k i v) := ⟨um_n h.1.symm, um_n h.2.1.symm, um_n h.2.2.symm⟩
theorem Sm.rf {M : MM} : Sm M M := ⟨rfl, rfl, rfl⟩
theorem Sm.tr {M M1 M2 : MM} (h1 : Sm M M1) (h2 : Sm M1 M2) : Sm M M2 := ⟨h2.1.trans h1.1, h2.2.1.trans h1.2.1, h2.2.2.trans h1.2.2⟩
theorem spk1_sm {M : MM} {n h t c s : Nat} : Sm M (spk1 M n h t c s) := by
  unfold spk1
  dsimp only
  refine Sm.tr ?_ ((um_sm (by decide)).tr (um_sm (by decide)))
  split
  · exact um_sm (by decide)
  · exact Sm.rf
theorem spkL_sm {M : MM} {n h t : Nat} {w : Bool} : ∀ i, Sm M (spkL M n h t w i)
  | 0 => Sm.rf
  | i + 1 => by
    have ih := spkL_sm (M := M) (n := n) (h := h) (t := t) (w := w) i
    simp only [spkL]
    split
    · exact ih.tr spk1_sm
    · exact ih.tr (um_sm (by decide))
theorem Fav.up {M : MM} {n s : Nat} (hF : Fav M n) (hn : n ≤ 140) {o : Option Nat} (ho : ∀ u, o = some u → u < n) : Fav (um M 22 s (oI o)) n := by
  intro r hr
  by_cases e : r = s
  · subst e
    have h1 : um M 22 r (oI o) 22 r = oI o := um_s
    have h2 := favN_oI h1 (fun u hu => by have := ho u hu; omega)
    rw [h2]
    exact ⟨h1, ho⟩
  · have h1 : um M 22 s (oI o) 22 r = M 22 r := um_sn e
    have h2 : favN (um M 22 s (oI o)) r = favN M r := by simp only [favN, h1]
    rw [h1, h2]
    exact hF r hr
theorem Fav.of {M M' : MM} {n : Nat} (hF : Fav M n) (e : M' 22 = M 22) : Fav M' n := by
  intro r hr
  have h2 : favN M' r = favN M r := by simp only [favN, e]
  rw [h2, e]
  exact hF r hr
theorem spk1_fav {M : MM} {n h t c s : Nat} (hF : Fav M n) (hn : n ≤ 140) (ht : t < n) : Fav (spk1 M n h t c s) n := by
  unfold spk1
  dsimp only
  refine Fav.of (M := if beat M n h c s then um M 22 s (nI t) else M) ?_ (by rw [um_n (by decide), um_n (by decide)])
  split
  · exact hF.up (o := some t) hn (fun u hu => by cases hu; exact ht)
  · exact hF
theorem spkL_fav {M : MM} {n h t : Nat} {w : Bool} (hF : Fav M n) (hn : n ≤ 140) (ht : t < n) : ∀ i, Fav (spkL M n h t w i) n
  | 0 => hF
  | i + 1 => by
    have ih := spkL_fav (h := h) (w := w) hF hn ht i
    simp only [spkL]
    split
    · exact spk1_fav ih hn ht
    · exact ih.of (um_n (by decide))
section Speak
variable {l : Launch} {g : GG} {S : hS} {mo : Nat} {M : MM} {n h : Nat}
theorem cm_liked {t : Nat} (hV : MV S mo M n h) (ht : Ht M n t) : Sp l g mX10_isLiked 0 0 [vr (some mo), vi (nI t)] S (fun r S' => r = some (vi (bi (liked M n t))) ∧ S' = S) := cm_isLiked hV ht
theorem cm_isStrong {t : Nat} (hV : MV S mo M n h) (ht : Ht M n t) (hA : ∀ a, a < n → anc M n h t a = true → Ht M n a) : Sp l g mX10_isStrong 0 0 [vr (some mo), vi (nI t)] S (fun r S' => r = some (vi (bi (stg M n h t))) ∧ Gch S S' mo (Gs S mo) ∧ MV S' mo M n h) := by
  have hn2 := hV.G.1
  refine Sp.start (own := RX10) [(0, vr (some mo)), (1, vi (nI t))] (by decide +kernel) rfl rfl (Nat.le_of_ble_eq_true rfl) ?_
  intro J C
  have hC0 : Gch S S mo (Gs S mo) := Gc.rf
  have L : ∀ S1, Gch S S1 mo (Gs S mo) → MV S1 mo M n h → Bm (mI S1 mo 20) (anc M n h t) → ∀ i x, i ≤ n → x = bi (liked M n t && allU (fun a => !anc M n h t a || liked M n a) i) → J 13 [(0, vr (some mo)), (1, vi (nI t)), (2, vi x), (3, vi (nI i))] [] S1 0 0 := by
    intro S1 hC1 hV1 hB
    refine up_loop _ _ _ ?_ ?_
    · intro x hx
      refine r_iload_n (pc := 13) C dX10_isStrong_13 rfl ?_
      refine r_aload_n (pc := 14) C dX10_isStrong_14 rfl ?_
      refine r_mn (pc := 15) C hV1 dX10_isStrong_15 fx_RX10_16 ?_
      refine r_icmp_ge (pc := 18) (tgt := 54) C dX10_isStrong_18 (by decide) (fun c18 => ?_) (fun c18 => ?_)
      · refine r_iload_n (pc := 54) C dX10_isStrong_54 rfl ?_
        refine r_zret (pc := 55) C dX10_isStrong_55 rfl (by rw [hx]; exact bi_01 _) (by omega) (by omega) ?_
        subst hx; exact ⟨rfl, hC1, hV1⟩
      · exact absurd (Int32.le_refl _) c18
    · intro i x hi hx ih
      subst hx
      refine r_iload_n (pc := 13) C dX10_isStrong_13 rfl ?_
      refine r_aload_n (pc := 14) C dX10_isStrong_14 rfl ?_
      refine r_mn (pc := 15) C hV1 dX10_isStrong_15 fx_RX10_16 ?_
      refine r_icmp_ge (pc := 18) (tgt := 54) C dX10_isStrong_18 (by decide) (fun c18 => ?_) (fun c18 => ?_)
      · exact absurd c18 (nI_ge hi (by omega))
      · refine r_iload_n (pc := 21) C dX10_isStrong_21 rfl ?_
        refine r_if_eq (pc := 22) (tgt := 46) C dX10_isStrong_22 (by decide) (fun c22 => ?_) (fun c22 => ?_)
        · refine r_iconst (pc := 46) C (nI 0) dX10_isStrong_46 rfl ?_
          refine r_istore_n (pc := 47) C dX10_isStrong_47 (by decide) rfl ?_
          refine r_iinc (pc := 48) C _ dX10_isStrong_48 rfl (nI_1 _) (by decide) rfl ?_
          refine r_goto (pc := 51) (tgt := 13) C dX10_isStrong_51 (by decide) ?_
          refine r_lv C [(0, vr (some mo)), (1, vi (nI t)), (2, vi _), (3, vi (nI (i + 1)))] rfl (ih _ ?_)
          simp only [allU]
          cases hq1 : liked M n t <;> cases hq2 : anc M n h t i <;> cases hq3 : liked M n i <;> cases hq4 : allU (fun a => !anc M n h t a || liked M n a) i <;> simp_all [bi_0, bi_t, bi_f, nI_0]
        · refine r_aload_n (pc := 25) C dX10_isStrong_25 rfl ?_
          refine r_mA (pc := 26) C hV1 dX10_isStrong_26 fx_RX10_52 (len := 140) (by decide) ?_
          refine r_iload_n (pc := 29) C dX10_isStrong_29 rfl ?_
          refine r_mkL (pc := 30) C hV1 dX10_isStrong_30 (k := 20) (by decide) (by omega) (hB i (by omega)) ?_
          refine r_if_eq (pc := 31) (tgt := 42) C dX10_isStrong_31 (by decide) (fun c31 => ?_) (fun c31 => ?_)
          · refine r_iconst (pc := 42) C (nI 1) dX10_isStrong_42 rfl ?_
            refine r_goto (pc := 43) (tgt := 47) C dX10_isStrong_43 (by decide) ?_
            refine r_istore_n (pc := 47) C dX10_isStrong_47 (by decide) rfl ?_
            refine r_iinc (pc := 48) C _ dX10_isStrong_48 rfl (nI_1 _) (by decide) rfl ?_
            refine r_goto (pc := 51) (tgt := 13) C dX10_isStrong_51 (by decide) ?_
            refine r_lv C [(0, vr (some mo)), (1, vi (nI t)), (2, vi _), (3, vi (nI (i + 1)))] rfl (ih _ ?_)
            simp only [allU]
            cases hq1 : liked M n t <;> cases hq2 : anc M n h t i <;> cases hq3 : liked M n i <;> cases hq4 : allU (fun a => !anc M n h t a || liked M n a) i <;> simp_all [bi_0, bi_t, bi_f, nI_0]
          · refine r_aload_n (pc := 34) C dX10_isStrong_34 rfl ?_
            refine r_iload_n (pc := 35) C dX10_isStrong_35 rfl ?_
            refine r_callV (pc := 36) C (cm_liked hV1 (hA i hi (by cases hq : anc M n h t i <;> simp_all [bi_0]))) iX10_isLiked ml_RX10_280 dX10_isStrong_36 (ci := 11) rfl rfl hV1.1.1 rfl (by decide) rfl (by simp [cv, Value.category, va_rf]) (by omega) (by omega) (fun r36 S36 h36 => ?_)
            obtain ⟨rfl, e36⟩ := h36
            subst S36
            dsimp only [Option.toList, List.cons_append, List.nil_append]
            refine r_if_eq (pc := 39) (tgt := 46) C dX10_isStrong_39 (by decide) (fun c39 => ?_) (fun c39 => ?_)
            · refine r_iconst (pc := 46) C (nI 0) dX10_isStrong_46 rfl ?_
              refine r_istore_n (pc := 47) C dX10_isStrong_47 (by decide) rfl ?_
              refine r_iinc (pc := 48) C _ dX10_isStrong_48 rfl (nI_1 _) (by decide) rfl ?_
              refine r_goto (pc := 51) (tgt := 13) C dX10_isStrong_51 (by decide) ?_
              refine r_lv C [(0, vr (some mo)), (1, vi (nI t)), (2, vi _), (3, vi (nI (i + 1)))] rfl (ih _ ?_)
              simp only [allU]
              cases hq1 : liked M n t <;> cases hq2 : anc M n h t i <;> cases hq3 : liked M n i <;> cases hq4 : allU (fun a => !anc M n h t a || liked M n a) i <;> simp_all [bi_0, bi_t, bi_f, nI_0]
            · refine r_iconst (pc := 42) C (nI 1) dX10_isStrong_42 rfl ?_
              refine r_goto (pc := 43) (tgt := 47) C dX10_isStrong_43 (by decide) ?_
              refine r_istore_n (pc := 47) C dX10_isStrong_47 (by decide) rfl ?_
              refine r_iinc (pc := 48) C _ dX10_isStrong_48 rfl (nI_1 _) (by decide) rfl ?_
              refine r_goto (pc := 51) (tgt := 13) C dX10_isStrong_51 (by decide) ?_
              refine r_lv C [(0, vr (some mo)), (1, vi (nI t)), (2, vi _), (3, vi (nI (i + 1)))] rfl (ih _ ?_)
              simp only [allU]
              cases hq1 : liked M n t <;> cases hq2 : anc M n h t i <;> cases hq3 : liked M n i <;> cases hq4 : allU (fun a => !anc M n h t a || liked M n a) i <;> simp_all [bi_0, bi_t, bi_f, nI_0]
  refine r_aload_n (pc := 0) C dX10_isStrong_0 rfl ?_
  refine r_iload_n (pc := 1) C dX10_isStrong_1 rfl ?_
  refine r_callV (pc := 2) C (cx_markAncestors hV ht.p) iX10_markAncestors ml_RX10_242 dX10_isStrong_2 (ci := 11) rfl rfl hV.1.1 rfl (by decide) rfl (by simp [cv, Value.category, va_rf]) (by omega) (by omega) (fun r2 S2 h2 => ?_)
  obtain ⟨rfl, hCr, hV2, hB⟩ := h2
  have hC2 := hC0.trk hCr
  dsimp only [Option.toList, List.cons_append, List.nil_append]
  refine r_aload_n (pc := 5) C dX10_isStrong_5 rfl ?_
  refine r_iload_n (pc := 6) C dX10_isStrong_6 rfl ?_
  refine r_callV (pc := 7) C (cm_liked hV2 ht) iX10_isLiked ml_RX10_280 dX10_isStrong_7 (ci := 11) rfl rfl hV2.1.1 rfl (by decide) rfl (by simp [cv, Value.category, va_rf]) (by omega) (by omega) (fun r7 S7 h7 => ?_)
  obtain ⟨rfl, e7⟩ := h7
  subst S7
  dsimp only [Option.toList, List.cons_append, List.nil_append]
  refine r_istore_n (pc := 10) C dX10_isStrong_10 (by decide) rfl ?_
  refine r_iconst (pc := 11) C (nI 0) dX10_isStrong_11 rfl ?_
  refine r_istore_n (pc := 12) C dX10_isStrong_12 (by decide) rfl ?_
  exact r_lv C [(0, vr (some mo)), (1, vi (nI t)), (2, vi _), (3, vi (nI 0))] rfl (L _ hC2 hV2 hB 0 _ (by omega) (by simp [allU]))
theorem cm_spoken {t : Nat} {w : Bool} (hV : MV S mo M n h) (ht : Ht M n t) (hF : Fav M n) : Sp l g mX10_spoken 0 0 [vr (some mo), vi (nI t), vi (bi w)] S (fun r S' => r = none ∧ Gch S S' mo (Gs S mo) ∧ MV S' mo (spk M n h t w) n h) := by
  have hG := hV.G
  have hn2 := hG.1
  have htn := ht.1
  have hR := hV.R ht.1
  have hx4 := hR.2.2.1
  have hct := conf_le (M := M) (n := n) (h := h) (t := t)
  refine Sp.start (own := RX10) [(0, vr (some mo)), (1, vi (nI t)), (2, vi (bi w))] (by decide +kernel) rfl rfl (Nat.le_of_ble_eq_true rfl) ?_
  intro J C
  have hC0 : Gch S S mo (Gs S mo) := Gc.rf
  have L : ∀ i S1, i ≤ nX (M 11) t → (Gch S S1 mo (Gs S mo) ∧ MV S1 mo (spkL M n h t w i) n h) → J 9 [(0, vr (some mo)), (1, vi (nI t)), (2, vi (bi w)), (3, vi (nI (conf M n h t))), (4, vi (nI i))] [] S1 0 0 := by
    refine up_loop _ _ _ ?_ ?_
    · intro S1 hS
      obtain ⟨hC1, hV1⟩ := hS
      refine r_iload (pc := 9) C dX10_spoken_9 rfl ?_
      refine r_aload_n (pc := 11) C dX10_spoken_11 rfl ?_
      refine r_iload_n (pc := 12) C dX10_spoken_12 rfl ?_
      refine r_callV (pc := 13) C (mv_inputsOf hV1 htn) iX10_inputsOf ml_RX10_188 dX10_spoken_13 (ci := 11) rfl rfl hV1.1.1 rfl (by decide) rfl (by simp [cv, Value.category, va_rf]) (by omega) (by omega) (fun r13 S13 h13 => ?_)
      obtain ⟨rfl, e13⟩ := h13
      subst S13
      dsimp only [Option.toList, List.cons_append, List.nil_append]
      rw [(spkL_sm _).2.1]
      refine r_icmp_ge (pc := 16) (tgt := 121) C dX10_spoken_16 (by decide) (fun c16 => ?_) (fun c16 => ?_)
      · refine r_ret (pc := 121) C dX10_spoken_121 rfl (by omega) (by omega) ?_
        exact ⟨rfl, hC1, hV1⟩
      · exact absurd (Int32.le_refl _) c16
    · intro i S1 hi hS ih
      obtain ⟨hC1, hV1⟩ := hS
      have hsm := spkL_sm (M := M) (n := n) (h := h) (t := t) (w := w) i
      have ht1 := ht.sm hsm
      have ho := ht.out_lt hG hi
      have hi1 : i < nX (spkL M n h t w i 11) t := by rw [hsm.2.1]; exact hi
      obtain ⟨hf1, hf2⟩ := spkL_fav (h := h) (w := w) hF hn2 htn i _ ho
      refine r_iload (pc := 9) C dX10_spoken_9 rfl ?_
      refine r_aload_n (pc := 11) C dX10_spoken_11 rfl ?_
      refine r_iload_n (pc := 12) C dX10_spoken_12 rfl ?_
      refine r_callV (pc := 13) C (mv_inputsOf hV1 htn) iX10_inputsOf ml_RX10_188 dX10_spoken_13 (ci := 11) rfl rfl hV1.1.1 rfl (by decide) rfl (by simp [cv, Value.category, va_rf]) (by omega) (by omega) (fun r13 S13 h13 => ?_)
      obtain ⟨rfl, e13⟩ := h13
      subst S13
      dsimp only [Option.toList, List.cons_append, List.nil_append]
      rw [hsm.2.1]
      refine r_icmp_ge (pc := 16) (tgt := 121) C dX10_spoken_16 (by decide) (fun c16 => ?_) (fun c16 => ?_)
      · exact absurd c16 (nI_ge hi (by omega))
      · refine r_aload_n (pc := 19) C dX10_spoken_19 rfl ?_
        refine r_iload_n (pc := 20) C dX10_spoken_20 rfl ?_
        refine r_iload (pc := 21) C dX10_spoken_21 rfl ?_
        refine r_callV (pc := 23) C (cm_outputOf hV1 ht1 hi1) iX10_outputOf ml_RX10_255 dX10_spoken_23 (ci := 11) rfl rfl hV1.1.1 rfl (by decide) rfl (by simp [cv, Value.category, va_rf]) (by omega) (by omega) (fun r23 S23 h23 => ?_)
        obtain ⟨rfl, e23⟩ := h23
        subst S23
        dsimp only [Option.toList, List.cons_append, List.nil_append]
        rw [out_sm hsm]
        refine r_istore (pc := 26) C dX10_spoken_26 (by decide) rfl ?_
        refine r_iload_n (pc := 28) C dX10_spoken_28 rfl ?_
        refine r_if_ne (pc := 29) (tgt := 43) C dX10_spoken_29 (by decide) (fun c29 => ?_) (fun c29 => ?_)
        · rw [bi_0] at c29
          have hw : w = true := by simpa using c29
          refine r_aload_n (pc := 43) C dX10_spoken_43 rfl ?_
          refine r_mA (pc := 44) C hV1 dX10_spoken_44 fx_RX10_58 (len := 564) (by decide) ?_
          refine r_iload (pc := 47) C dX10_spoken_47 rfl ?_
          refine r_mL (pc := 49) C hV1 dX10_spoken_49 (k := 22) (len := 564) (by decide) (by decide) (by decide) (by omega) (by decide) ?_
          rw [hf1]
          refine r_if_lt (pc := 50) (tgt := 68) C dX10_spoken_50 (by decide) (fun c50 => ?_) (fun c50 => ?_)
          · rw [oI_lt (fun u hu => by have := hf2 u hu; omega)] at c50
            have hbt : beat (spkL M n h t w i) n h (conf M n h t) (out M n t i) = true := by simp only [beat, c50]
            refine r_aload_n (pc := 68) C dX10_spoken_68 rfl ?_
            refine r_mA (pc := 69) C hV1 dX10_spoken_69 fx_RX10_58 (len := 564) (by decide) ?_
            refine r_iload (pc := 72) C dX10_spoken_72 rfl ?_
            refine r_iload_n (pc := 74) C dX10_spoken_74 rfl ?_
            refine r_mS (pc := 75) C hV1 dX10_spoken_75 (k := 22) (len := 564) (by decide) (by decide) (by decide) (by decide) (by omega) (by decide) (fun S75 hC75r hV75 => ?_)
            have hC75 := hC1.trk hC75r
            refine r_aload_n (pc := 76) C dX10_spoken_76 rfl ?_
            refine r_mA (pc := 77) C hV75 dX10_spoken_77 fx_RX10_64 (len := 564) (by decide) ?_
            refine r_iload (pc := 80) C dX10_spoken_80 rfl ?_
            refine r_aload_n (pc := 82) C dX10_spoken_82 rfl ?_
            refine r_mA (pc := 83) C hV75 dX10_spoken_83 fx_RX10_61 (len := 564) (by decide) ?_
            refine r_iload (pc := 86) C dX10_spoken_86 rfl ?_
            refine r_mL (pc := 88) C hV75 dX10_spoken_88 (k := 23) (len := 564) (by decide) (by decide) (by decide) (by omega) (by decide) ?_
            refine r_iload_n (pc := 89) C dX10_spoken_89 rfl ?_
            refine r_icmp_ne (pc := 90) (tgt := 105) C dX10_spoken_90 (by decide) (fun c90 => ?_) (fun c90 => ?_)
            · refine r_iconst (pc := 105) C (nI 1) dX10_spoken_105 rfl ?_
              refine r_mS (pc := 106) C hV75 dX10_spoken_106 (k := 24) (len := 564) (by decide) (by decide) (by decide) (by decide) (by omega) (by decide) (fun S106 hC106r hV106 => ?_)
              have hC106 := hC75.trk hC106r
              refine r_aload_n (pc := 107) C dX10_spoken_107 rfl ?_
              refine r_mA (pc := 108) C hV106 dX10_spoken_108 fx_RX10_61 (len := 564) (by decide) ?_
              refine r_iload (pc := 111) C dX10_spoken_111 rfl ?_
              refine r_iload_n (pc := 113) C dX10_spoken_113 rfl ?_
              refine r_mS (pc := 114) C hV106 dX10_spoken_114 (k := 23) (len := 564) (by decide) (by decide) (by decide) (by decide) (by omega) (by decide) (fun S114 hC114r hV114 => ?_)
              have hC114 := hC106.trk hC114r
              refine r_iinc (pc := 115) C _ dX10_spoken_115 rfl (nI_1 _) (by decide) rfl ?_
              refine r_goto (pc := 118) (tgt := 9) C dX10_spoken_118 (by decide) ?_
              refine r_lv C [(0, vr (some mo)), (1, vi (nI t)), (2, vi (bi w)), (3, vi (nI (conf M n h t))), (4, vi (nI (i + 1)))] rfl (ih _ ⟨hC114, ?_⟩)
              have hVV := hV114
              simp only [spkL]
              first
                | (rw [if_neg (by rw [c29]; decide)]; exact hVV)
                | (rw [if_pos hw]; unfold spk1; rw [hbt]; simp only [if_true, Bool.false_eq_true, if_false]; first | (rw [if_pos c90]; exact hVV) | (rw [if_neg c90]; exact hVV))
            · refine r_aload_n (pc := 93) C dX10_spoken_93 rfl ?_
              refine r_mA (pc := 94) C hV75 dX10_spoken_94 fx_RX10_64 (len := 564) (by decide) ?_
              refine r_iload (pc := 97) C dX10_spoken_97 rfl ?_
              refine r_mL (pc := 99) C hV75 dX10_spoken_99 (k := 24) (len := 564) (by decide) (by decide) (by decide) (by omega) (by decide) ?_
              refine r_iconst (pc := 100) C (nI 1) dX10_spoken_100 rfl ?_
              refine r_iadd (pc := 101) C dX10_spoken_101 ?_
              refine r_goto (pc := 102) (tgt := 106) C dX10_spoken_102 (by decide) ?_
              refine r_mS (pc := 106) C hV75 dX10_spoken_106 (k := 24) (len := 564) (by decide) (by decide) (by decide) (by decide) (by omega) (by decide) (fun S106 hC106r hV106 => ?_)
              have hC106 := hC75.trk hC106r
              refine r_aload_n (pc := 107) C dX10_spoken_107 rfl ?_
              refine r_mA (pc := 108) C hV106 dX10_spoken_108 fx_RX10_61 (len := 564) (by decide) ?_
              refine r_iload (pc := 111) C dX10_spoken_111 rfl ?_
              refine r_iload_n (pc := 113) C dX10_spoken_113 rfl ?_
              refine r_mS (pc := 114) C hV106 dX10_spoken_114 (k := 23) (len := 564) (by decide) (by decide) (by decide) (by decide) (by omega) (by decide) (fun S114 hC114r hV114 => ?_)
              have hC114 := hC106.trk hC114r
              refine r_iinc (pc := 115) C _ dX10_spoken_115 rfl (nI_1 _) (by decide) rfl ?_
              refine r_goto (pc := 118) (tgt := 9) C dX10_spoken_118 (by decide) ?_
              refine r_lv C [(0, vr (some mo)), (1, vi (nI t)), (2, vi (bi w)), (3, vi (nI (conf M n h t))), (4, vi (nI (i + 1)))] rfl (ih _ ⟨hC114, ?_⟩)
              have hVV := hV114
              simp only [spkL]
              first
                | (rw [if_neg (by rw [c29]; decide)]; exact hVV)
                | (rw [if_pos hw]; unfold spk1; rw [hbt]; simp only [if_true, Bool.false_eq_true, if_false]; first | (rw [if_pos c90]; exact hVV) | (rw [if_neg c90]; exact hVV))
          · rw [oI_lt (fun u hu => by have := hf2 u hu; omega)] at c50
            obtain ⟨u, hu⟩ := Option.ne_none_iff_exists'.mp c50
            have hun := hf2 u hu
            have hcu := conf_le (M := spkL M n h t w i) (n := n) (h := h) (t := u)
            refine r_iload_n (pc := 53) C dX10_spoken_53 rfl ?_
            refine r_aload_n (pc := 54) C dX10_spoken_54 rfl ?_
            refine r_aload_n (pc := 55) C dX10_spoken_55 rfl ?_
            refine r_mA (pc := 56) C hV1 dX10_spoken_56 fx_RX10_58 (len := 564) (by decide) ?_
            refine r_iload (pc := 59) C dX10_spoken_59 rfl ?_
            refine r_mL (pc := 61) C hV1 dX10_spoken_61 (k := 22) (len := 564) (by decide) (by decide) (by decide) (by omega) (by decide) ?_
            rw [hf1]
            rw [hu]
            simp only [oI]
            refine r_callV (pc := 62) C (cx_confidence hV1 hun) iX10_confidence ml_RX10_277 dX10_spoken_62 (ci := 11) rfl rfl hV1.1.1 rfl (by decide) rfl (by simp [cv, Value.category, va_rf]) (by omega) (by omega) (fun r62 S62 h62 => ?_)
            obtain ⟨rfl, hCr, hV62⟩ := h62
            have hC62 := hC1.trk hCr
            dsimp only [Option.toList, List.cons_append, List.nil_append]
            refine r_icmp_le (pc := 65) (tgt := 76) C dX10_spoken_65 (by decide) (fun c65 => ?_) (fun c65 => ?_)
            · rw [nI_leI (by omega) (by omega)] at c65
              have hbt : beat (spkL M n h t w i) n h (conf M n h t) (out M n t i) = false := by simp only [beat, hu]; exact decide_eq_false (Nat.not_lt.mpr c65)
              refine r_aload_n (pc := 76) C dX10_spoken_76 rfl ?_
              refine r_mA (pc := 77) C hV62 dX10_spoken_77 fx_RX10_64 (len := 564) (by decide) ?_
              refine r_iload (pc := 80) C dX10_spoken_80 rfl ?_
              refine r_aload_n (pc := 82) C dX10_spoken_82 rfl ?_
              refine r_mA (pc := 83) C hV62 dX10_spoken_83 fx_RX10_61 (len := 564) (by decide) ?_
              refine r_iload (pc := 86) C dX10_spoken_86 rfl ?_
              refine r_mL (pc := 88) C hV62 dX10_spoken_88 (k := 23) (len := 564) (by decide) (by decide) (by decide) (by omega) (by decide) ?_
              refine r_iload_n (pc := 89) C dX10_spoken_89 rfl ?_
              refine r_icmp_ne (pc := 90) (tgt := 105) C dX10_spoken_90 (by decide) (fun c90 => ?_) (fun c90 => ?_)
              · refine r_iconst (pc := 105) C (nI 1) dX10_spoken_105 rfl ?_
                refine r_mS (pc := 106) C hV62 dX10_spoken_106 (k := 24) (len := 564) (by decide) (by decide) (by decide) (by decide) (by omega) (by decide) (fun S106 hC106r hV106 => ?_)
                have hC106 := hC62.trk hC106r
                refine r_aload_n (pc := 107) C dX10_spoken_107 rfl ?_
                refine r_mA (pc := 108) C hV106 dX10_spoken_108 fx_RX10_61 (len := 564) (by decide) ?_
                refine r_iload (pc := 111) C dX10_spoken_111 rfl ?_
                refine r_iload_n (pc := 113) C dX10_spoken_113 rfl ?_
                refine r_mS (pc := 114) C hV106 dX10_spoken_114 (k := 23) (len := 564) (by decide) (by decide) (by decide) (by decide) (by omega) (by decide) (fun S114 hC114r hV114 => ?_)
                have hC114 := hC106.trk hC114r
                refine r_iinc (pc := 115) C _ dX10_spoken_115 rfl (nI_1 _) (by decide) rfl ?_
                refine r_goto (pc := 118) (tgt := 9) C dX10_spoken_118 (by decide) ?_
                refine r_lv C [(0, vr (some mo)), (1, vi (nI t)), (2, vi (bi w)), (3, vi (nI (conf M n h t))), (4, vi (nI (i + 1)))] rfl (ih _ ⟨hC114, ?_⟩)
                have hVV := hV114
                simp only [spkL]
                first
                  | (rw [if_neg (by rw [c29]; decide)]; exact hVV)
                  | (rw [if_pos hw]; unfold spk1; rw [hbt]; simp only [if_true, Bool.false_eq_true, if_false]; first | (rw [if_pos c90]; exact hVV) | (rw [if_neg c90]; exact hVV))
              · refine r_aload_n (pc := 93) C dX10_spoken_93 rfl ?_
                refine r_mA (pc := 94) C hV62 dX10_spoken_94 fx_RX10_64 (len := 564) (by decide) ?_
                refine r_iload (pc := 97) C dX10_spoken_97 rfl ?_
                refine r_mL (pc := 99) C hV62 dX10_spoken_99 (k := 24) (len := 564) (by decide) (by decide) (by decide) (by omega) (by decide) ?_
                refine r_iconst (pc := 100) C (nI 1) dX10_spoken_100 rfl ?_
                refine r_iadd (pc := 101) C dX10_spoken_101 ?_
                refine r_goto (pc := 102) (tgt := 106) C dX10_spoken_102 (by decide) ?_
                refine r_mS (pc := 106) C hV62 dX10_spoken_106 (k := 24) (len := 564) (by decide) (by decide) (by decide) (by decide) (by omega) (by decide) (fun S106 hC106r hV106 => ?_)
                have hC106 := hC62.trk hC106r
                refine r_aload_n (pc := 107) C dX10_spoken_107 rfl ?_
                refine r_mA (pc := 108) C hV106 dX10_spoken_108 fx_RX10_61 (len := 564) (by decide) ?_
                refine r_iload (pc := 111) C dX10_spoken_111 rfl ?_
                refine r_iload_n (pc := 113) C dX10_spoken_113 rfl ?_
                refine r_mS (pc := 114) C hV106 dX10_spoken_114 (k := 23) (len := 564) (by decide) (by decide) (by decide) (by decide) (by omega) (by decide) (fun S114 hC114r hV114 => ?_)
                have hC114 := hC106.trk hC114r
                refine r_iinc (pc := 115) C _ dX10_spoken_115 rfl (nI_1 _) (by decide) rfl ?_
                refine r_goto (pc := 118) (tgt := 9) C dX10_spoken_118 (by decide) ?_
                refine r_lv C [(0, vr (some mo)), (1, vi (nI t)), (2, vi (bi w)), (3, vi (nI (conf M n h t))), (4, vi (nI (i + 1)))] rfl (ih _ ⟨hC114, ?_⟩)
                have hVV := hV114
                simp only [spkL]
                first
                  | (rw [if_neg (by rw [c29]; decide)]; exact hVV)
                  | (rw [if_pos hw]; unfold spk1; rw [hbt]; simp only [if_true, Bool.false_eq_true, if_false]; first | (rw [if_pos c90]; exact hVV) | (rw [if_neg c90]; exact hVV))
            · rw [nI_leI (by omega) (by omega)] at c65
              have hbt : beat (spkL M n h t w i) n h (conf M n h t) (out M n t i) = true := by simp only [beat, hu]; exact decide_eq_true (Nat.not_le.mp c65)
              refine r_aload_n (pc := 68) C dX10_spoken_68 rfl ?_
              refine r_mA (pc := 69) C hV62 dX10_spoken_69 fx_RX10_58 (len := 564) (by decide) ?_
              refine r_iload (pc := 72) C dX10_spoken_72 rfl ?_
              refine r_iload_n (pc := 74) C dX10_spoken_74 rfl ?_
              refine r_mS (pc := 75) C hV62 dX10_spoken_75 (k := 22) (len := 564) (by decide) (by decide) (by decide) (by decide) (by omega) (by decide) (fun S75 hC75r hV75 => ?_)
              have hC75 := hC62.trk hC75r
              refine r_aload_n (pc := 76) C dX10_spoken_76 rfl ?_
              refine r_mA (pc := 77) C hV75 dX10_spoken_77 fx_RX10_64 (len := 564) (by decide) ?_
              refine r_iload (pc := 80) C dX10_spoken_80 rfl ?_
              refine r_aload_n (pc := 82) C dX10_spoken_82 rfl ?_
              refine r_mA (pc := 83) C hV75 dX10_spoken_83 fx_RX10_61 (len := 564) (by decide) ?_
              refine r_iload (pc := 86) C dX10_spoken_86 rfl ?_
              refine r_mL (pc := 88) C hV75 dX10_spoken_88 (k := 23) (len := 564) (by decide) (by decide) (by decide) (by omega) (by decide) ?_
              refine r_iload_n (pc := 89) C dX10_spoken_89 rfl ?_
              refine r_icmp_ne (pc := 90) (tgt := 105) C dX10_spoken_90 (by decide) (fun c90 => ?_) (fun c90 => ?_)
              · refine r_iconst (pc := 105) C (nI 1) dX10_spoken_105 rfl ?_
                refine r_mS (pc := 106) C hV75 dX10_spoken_106 (k := 24) (len := 564) (by decide) (by decide) (by decide) (by decide) (by omega) (by decide) (fun S106 hC106r hV106 => ?_)
                have hC106 := hC75.trk hC106r
                refine r_aload_n (pc := 107) C dX10_spoken_107 rfl ?_
                refine r_mA (pc := 108) C hV106 dX10_spoken_108 fx_RX10_61 (len := 564) (by decide) ?_
                refine r_iload (pc := 111) C dX10_spoken_111 rfl ?_
                refine r_iload_n (pc := 113) C dX10_spoken_113 rfl ?_
                refine r_mS (pc := 114) C hV106 dX10_spoken_114 (k := 23) (len := 564) (by decide) (by decide) (by decide) (by decide) (by omega) (by decide) (fun S114 hC114r hV114 => ?_)
                have hC114 := hC106.trk hC114r
                refine r_iinc (pc := 115) C _ dX10_spoken_115 rfl (nI_1 _) (by decide) rfl ?_
                refine r_goto (pc := 118) (tgt := 9) C dX10_spoken_118 (by decide) ?_
                refine r_lv C [(0, vr (some mo)), (1, vi (nI t)), (2, vi (bi w)), (3, vi (nI (conf M n h t))), (4, vi (nI (i + 1)))] rfl (ih _ ⟨hC114, ?_⟩)
                have hVV := hV114
                simp only [spkL]
                first
                  | (rw [if_neg (by rw [c29]; decide)]; exact hVV)
                  | (rw [if_pos hw]; unfold spk1; rw [hbt]; simp only [if_true, Bool.false_eq_true, if_false]; first | (rw [if_pos c90]; exact hVV) | (rw [if_neg c90]; exact hVV))
              · refine r_aload_n (pc := 93) C dX10_spoken_93 rfl ?_
                refine r_mA (pc := 94) C hV75 dX10_spoken_94 fx_RX10_64 (len := 564) (by decide) ?_
                refine r_iload (pc := 97) C dX10_spoken_97 rfl ?_
                refine r_mL (pc := 99) C hV75 dX10_spoken_99 (k := 24) (len := 564) (by decide) (by decide) (by decide) (by omega) (by decide) ?_
                refine r_iconst (pc := 100) C (nI 1) dX10_spoken_100 rfl ?_
                refine r_iadd (pc := 101) C dX10_spoken_101 ?_
                refine r_goto (pc := 102) (tgt := 106) C dX10_spoken_102 (by decide) ?_
                refine r_mS (pc := 106) C hV75 dX10_spoken_106 (k := 24) (len := 564) (by decide) (by decide) (by decide) (by decide) (by omega) (by decide) (fun S106 hC106r hV106 => ?_)
                have hC106 := hC75.trk hC106r
                refine r_aload_n (pc := 107) C dX10_spoken_107 rfl ?_
                refine r_mA (pc := 108) C hV106 dX10_spoken_108 fx_RX10_61 (len := 564) (by decide) ?_
                refine r_iload (pc := 111) C dX10_spoken_111 rfl ?_
                refine r_iload_n (pc := 113) C dX10_spoken_113 rfl ?_
                refine r_mS (pc := 114) C hV106 dX10_spoken_114 (k := 23) (len := 564) (by decide) (by decide) (by decide) (by decide) (by omega) (by decide) (fun S114 hC114r hV114 => ?_)
                have hC114 := hC106.trk hC114r
                refine r_iinc (pc := 115) C _ dX10_spoken_115 rfl (nI_1 _) (by decide) rfl ?_
                refine r_goto (pc := 118) (tgt := 9) C dX10_spoken_118 (by decide) ?_
                refine r_lv C [(0, vr (some mo)), (1, vi (nI t)), (2, vi (bi w)), (3, vi (nI (conf M n h t))), (4, vi (nI (i + 1)))] rfl (ih _ ⟨hC114, ?_⟩)
                have hVV := hV114
                simp only [spkL]
                first
                  | (rw [if_neg (by rw [c29]; decide)]; exact hVV)
                  | (rw [if_pos hw]; unfold spk1; rw [hbt]; simp only [if_true, Bool.false_eq_true, if_false]; first | (rw [if_pos c90]; exact hVV) | (rw [if_neg c90]; exact hVV))
        · rw [bi_0] at c29
          refine r_aload_n (pc := 32) C dX10_spoken_32 rfl ?_
          refine r_mA (pc := 33) C hV1 dX10_spoken_33 fx_RX10_64 (len := 564) (by decide) ?_
          refine r_iload (pc := 36) C dX10_spoken_36 rfl ?_
          refine r_iconst (pc := 38) C (nI 0) dX10_spoken_38 rfl ?_
          refine r_mS (pc := 39) C hV1 dX10_spoken_39 (k := 24) (len := 564) (by decide) (by decide) (by decide) (by decide) (by omega) (by decide) (fun S39 hC39r hV39 => ?_)
          have hC39 := hC1.trk hC39r
          refine r_goto (pc := 40) (tgt := 115) C dX10_spoken_40 (by decide) ?_
          refine r_iinc (pc := 115) C _ dX10_spoken_115 rfl (nI_1 _) (by decide) rfl ?_
          refine r_goto (pc := 118) (tgt := 9) C dX10_spoken_118 (by decide) ?_
          refine r_lv C [(0, vr (some mo)), (1, vi (nI t)), (2, vi (bi w)), (3, vi (nI (conf M n h t))), (4, vi (nI (i + 1)))] rfl (ih _ ⟨hC39, ?_⟩)
          have hVV := hV39
          simp only [spkL]
          first
            | (rw [if_neg (by rw [c29]; decide)]; exact hVV)
            | (rw [if_pos hw]; unfold spk1; rw [hbt]; simp only [if_true, Bool.false_eq_true, if_false]; first | (rw [if_pos c90]; exact hVV) | (rw [if_neg c90]; exact hVV))
  refine r_aload_n (pc := 0) C dX10_spoken_0 rfl ?_
  refine r_iload_n (pc := 1) C dX10_spoken_1 rfl ?_
  refine r_callV (pc := 2) C (cx_confidence hV htn) iX10_confidence ml_RX10_277 dX10_spoken_2 (ci := 11) rfl rfl hV.1.1 rfl (by decide) rfl (by simp [cv, Value.category, va_rf]) (by omega) (by omega) (fun r2 S2 h2 => ?_)
  obtain ⟨rfl, hCr, hV2⟩ := h2
  have hC2 := hC0.trk hCr
  dsimp only [Option.toList, List.cons_append, List.nil_append]
  refine r_istore_n (pc := 5) C dX10_spoken_5 (by decide) rfl ?_
  refine r_iconst (pc := 6) C (nI 0) dX10_spoken_6 rfl ?_
  refine r_istore (pc := 7) C dX10_spoken_7 (by decide) rfl ?_
  exact r_lv C [(0, vr (some mo)), (1, vi (nI t)), (2, vi (bi w)), (3, vi _), (4, vi (nI 0))] rfl (L 0 _ (by omega) ⟨hC2, hV2⟩)
end Speak
