/-! The reference: accepting, the end of a poll -/
def acc1 (M : MM) (n h t a : Nat) : MM := rr (um (um M 13 t (nI 3)) 18 a (nI t)) n h t
def accL (M : MM) (n h : Nat) (b1 b2 : Int32) (a : Nat) : Nat → MM × Nat
  | 0 => (M, a)
  | k + 1 => if k = 0 then (M, a) else if acp (accL M n h b1 b2 a k).1 n h b1 b2 (hdN M k) then (acc1 (accL M n h b1 b2 a k).1 n h (hdN M k) (accL M n h b1 b2 a k).2, (accL M n h b1 b2 a k).2 + 1) else accL M n h b1 b2 a k
theorem rr_sm {M : MM} {n h t : Nat} : Sm M (rr M n h t) := rrL_sm _
theorem acc1_sm {M : MM} {n h t a : Nat} : Sm M (acc1 M n h t a) := ((um_sm (by decide)).tr (um_sm (by decide))).tr rr_sm
theorem accL_sm {M : MM} {n h a : Nat} {b1 b2 : Int32} : ∀ k, Sm M (accL M n h b1 b2 a k).1 ∧ (accL M n h b1 b2 a k).2 ≤ a + k
  | 0 => ⟨Sm.rf, Nat.le_refl _⟩
  | k + 1 => by
    have ih := accL_sm (M := M) (n := n) (h := h) (a := a) (b1 := b1) (b2 := b2) k
    simp only [accL]
    split
    · exact ⟨Sm.rf, by omega⟩
    · split
      · exact ⟨ih.1.tr acc1_sm, by have := ih.2; simp only; omega⟩
      · exact ⟨ih.1, by omega⟩
def goC (M : MM) (n h t a : Nat) : Bool := decide (0 < a) && (anc M n h t a || decide (a = t))
def spoL (M : MM) (n h : Nat) (go : Nat → Bool) (w : Bool) : Nat → MM
  | 0 => M
  | k + 1 => if go (hdN M k) then spk (spoL M n h go w k) n h (hdN M k) w else spoL M n h go w k
theorem spk_sm {M : MM} {n h t : Nat} {w : Bool} : Sm M (spk M n h t w) := spkL_sm _
theorem spoL_sm {M : MM} {n h : Nat} {go : Nat → Bool} {w : Bool} : ∀ k, Sm M (spoL M n h go w k)
  | 0 => Sm.rf
  | k + 1 => by
    have ih := spoL_sm (M := M) (n := n) (h := h) (go := go) (w := w) k
    simp only [spoL]
    split
    · exact ih.tr spk_sm
    · exact ih
theorem spoL_fav {M : MM} {n h : Nat} {go : Nat → Bool} {w : Bool} (hF : Fav M n) (hG : GV M n h) : ∀ k, k ≤ h → Fav (spoL M n h go w k) n
  | 0, _ => hF
  | k + 1, hk => by
    have ih := spoL_fav (go := go) (w := w) hF hG k (by omega)
    have ht := (hG.2.2.2 k (by omega)).2.1
    simp only [spoL]
    split
    · exact spkL_fav ih hG.1 ht _
    · exact ih
/-- the chit of t, and what the poll speaks; then what is accepted -/
def chM (M : MM) (t : Nat) (w : Bool) : MM := um M 14 t (bi (chitB M t || w))
def clo (M : MM) (n h t : Nat) (w : Bool) (b1 b2 : Int32) (a : Nat) : MM × Nat :=
  if M 13 t = nI 4 then (M, a) else accL (spoL (chM M t w) n h (goC (chM M t w) n h t) w h) n h b1 b2 a h
section Close
variable {l : Launch} {g : GG} {S : hS} {mo : Nat} {M : MM} {n h : Nat}
theorem cm_accept {a : Nat} (hV : MV S mo M n h) (h1 : 1 ≤ h) (ha : Gs S mo 19 = nI a) (hah : a + h ≤ 140) : Sp l g mX10_accept 0 0 [vr (some mo)] S (fun r S' => r = none ∧ Gc [20, 21] S S' mo (upd (Gs S mo) 19 (nI (accL M n h (Gs S mo 4) (Gs S mo 5) a h).2)) ∧ MV S' mo (accL M n h (Gs S mo 4) (Gs S mo 5) a h).1 n h) := by
  have hG := hV.G
  have hn2 := hG.1
  have hh2 := hG.2.1
  refine Sp.start (own := RX10) [(0, vr (some mo))] (by decide +kernel) rfl rfl (Nat.le_of_ble_eq_true rfl) ?_
  intro J C
  have L : ∀ k S1, k ≤ h → (1 ≤ k ∧ Gc [20, 21] S S1 mo (upd (Gs S mo) 19 (nI (accL M n h (Gs S mo 4) (Gs S mo 5) a k).2)) ∧ MV S1 mo (accL M n h (Gs S mo 4) (Gs S mo 5) a k).1 n h) → J 2 [(0, vr (some mo)), (1, vi (nI k))] [] S1 0 0 := by
    refine up_loop _ _ _ ?_ ?_
    · intro S1 hS
      obtain ⟨hk1, hC1, hV1⟩ := hS
      refine r_iload_n (pc := 2) C dX10_accept_2 rfl ?_
      refine r_aload_n (pc := 3) C dX10_accept_3 rfl ?_
      refine r_mh (pc := 4) C hV1 dX10_accept_4 fx_RX10_43 ?_
      refine r_icmp_ge (pc := 7) (tgt := 63) C dX10_accept_7 (by decide) (fun c7 => ?_) (fun c7 => ?_)
      · refine r_ret (pc := 63) C dX10_accept_63 rfl (by omega) (by omega) ?_
        exact ⟨rfl, hC1, hV1⟩
      · exact absurd (Int32.le_refl _) c7
    · intro k S1 hk hS ih
      obtain ⟨hk1, hC1, hV1⟩ := hS
      obtain ⟨e16, hti⟩ := hG.2.2.2 k hk
      have htn := hti.1
      have hk0 : ¬ k = 0 := by omega
      obtain ⟨hsm, hal⟩ := accL_sm (M := M) (n := n) (h := h) (a := a) (b1 := Gs S mo 4) (b2 := Gs S mo 5) k
      have hg4 : Gs S1 mo 4 = Gs S mo 4 := by rw [hC1.gs]; rfl
      have hg5 : Gs S1 mo 5 = Gs S mo 5 := by rw [hC1.gs]; rfl
      have hgs := hC1.gs
      have ht1 := hti.sm hsm
      have key : ∀ q : Bool, acp (accL M n h (Gs S mo 4) (Gs S mo 5) a k).1 n h (Gs S mo 4) (Gs S mo 5) (hdN M k) = q → accL M n h (Gs S mo 4) (Gs S mo 5) a (k + 1) = if q then (acc1 (accL M n h (Gs S mo 4) (Gs S mo 5) a k).1 n h (hdN M k) (accL M n h (Gs S mo 4) (Gs S mo 5) a k).2, (accL M n h (Gs S mo 4) (Gs S mo 5) a k).2 + 1) else accL M n h (Gs S mo 4) (Gs S mo 5) a k := fun q hq => by simp only [accL, if_neg hk0, hq]
      generalize hM1 : (accL M n h (Gs S mo 4) (Gs S mo 5) a k).1 = M1 at *
      generalize ha1 : (accL M n h (Gs S mo 4) (Gs S mo 5) a k).2 = a1 at *
      refine r_iload_n (pc := 2) C dX10_accept_2 rfl ?_
      refine r_aload_n (pc := 3) C dX10_accept_3 rfl ?_
      refine r_mh (pc := 4) C hV1 dX10_accept_4 fx_RX10_43 ?_
      refine r_icmp_ge (pc := 7) (tgt := 63) C dX10_accept_7 (by decide) (fun c7 => ?_) (fun c7 => ?_)
      · exact absurd c7 (nI_ge hk (by omega))
      · refine r_aload_n (pc := 10) C dX10_accept_10 rfl ?_
        refine r_mA (pc := 11) C hV1 dX10_accept_11 fx_RX10_40 (len := 140) (by decide) ?_
        refine r_iload_n (pc := 14) C dX10_accept_14 rfl ?_
        refine r_mL (pc := 15) C hV1 dX10_accept_15 (k := 16) (len := 140) (by decide) (by decide) (by decide) (by omega) (by decide) ?_
        rw [hsm.2.2, e16]
        refine r_istore_n (pc := 16) C dX10_accept_16 (by decide) rfl ?_
        refine r_aload_n (pc := 17) C dX10_accept_17 rfl ?_
        refine r_iload_n (pc := 18) C dX10_accept_18 rfl ?_
        refine r_callV (pc := 19) C (cm_isAcceptable hV1 ht1) iX10_isAcceptable ml_RX10_322 dX10_accept_19 (ci := 11) rfl rfl hV1.1.1 rfl (by decide) rfl (by simp [cv, Value.category, va_rf]) (by omega) (by omega) (fun r19 S19 h19 => ?_)
        obtain ⟨rfl, e19⟩ := h19
        subst S19
        dsimp only [Option.toList, List.cons_append, List.nil_append]
        rw [hg4, hg5]
        refine r_if_eq (pc := 22) (tgt := 57) C dX10_accept_22 (by decide) (fun c22 => ?_) (fun c22 => ?_)
        · rw [bi_0] at c22
          have c22f := c22
          refine r_iinc (pc := 57) C _ dX10_accept_57 rfl (nI_1 _) (by decide) rfl ?_
          refine r_goto (pc := 60) (tgt := 2) C dX10_accept_60 (by decide) ?_
          refine r_lv C [(0, vr (some mo)), (1, vi (nI (k + 1)))] rfl (ih _ ⟨by omega, ?_, ?_⟩)
          · have hCC := hC1
            first
              | (rw [key _ c22f]; simp only [Bool.false_eq_true, if_false, ha1]; exact hCC)
              | (rw [key _ c22t]; simp only [if_true, upd_upd] at hCC ⊢; exact hCC)
          · have hVV := hV1
            first
              | (rw [key _ c22f]; simp only [Bool.false_eq_true, if_false, hM1]; exact hVV)
              | (rw [key _ c22t]; simp only [if_true]; exact hVV)
        · rw [bi_0] at c22
          have c22t := ts_nf c22
          refine r_aload_n (pc := 25) C dX10_accept_25 rfl ?_
          refine r_mA (pc := 26) C hV1 dX10_accept_26 fx_RX10_30 (len := 140) (by decide) ?_
          refine r_iload_n (pc := 29) C dX10_accept_29 rfl ?_
          refine r_iconst (pc := 30) C (nI 3) dX10_accept_30 rfl ?_
          refine r_mS (pc := 31) C hV1 dX10_accept_31 (k := 13) (len := 140) (by decide) (by decide) (by decide) (by decide) (by omega) (by decide) (fun S31 hC31r hV31 => ?_)
          have hC31 := hC1.trk hC31r
          refine r_aload_n (pc := 32) C dX10_accept_32 rfl ?_
          refine r_mA (pc := 33) C hV31 dX10_accept_33 fx_RX10_46 (len := 140) (by decide) ?_
          refine r_aload_n (pc := 36) C dX10_accept_36 rfl ?_
          refine r_mI (pc := 37) (k := 19) C hV31 dX10_accept_37 fx_RX10_49 ?_
          rw [show Gs _ mo 19 = nI a1 from by rw [hC31.gs]; simp [upd]]
          refine r_iload_n (pc := 40) C dX10_accept_40 rfl ?_
          refine r_mS (pc := 41) C hV31 dX10_accept_41 (k := 18) (len := 140) (by decide) (by decide) (by decide) (by decide) (by omega) (by decide) (fun S41 hC41r hV41 => ?_)
          have hC41 := hC31.trk hC41r
          refine r_aload_n (pc := 42) C dX10_accept_42 rfl ?_
          refine r_dup (pc := 43) C dX10_accept_43 rfl ?_
          refine r_mI (pc := 44) (k := 19) C hV41 dX10_accept_44 fx_RX10_49 ?_
          rw [show Gs _ mo 19 = nI a1 from by rw [hC41.gs]; simp [upd]]
          refine r_iconst (pc := 47) C (nI 1) dX10_accept_47 rfl ?_
          refine r_iadd (pc := 48) C dX10_accept_48 ?_
          try simp only [nI_add, pk_mul]
          refine r_mP (pc := 49) (k := 19) C hV41 dX10_accept_49 fx_RX10_49 (fp_11_19 _) (by decide) (fun S49 hC49 hV49 => ?_)
          have hC49r := hC49
          have hC49 := hC41.trs hC49
          refine r_aload_n (pc := 52) C dX10_accept_52 rfl ?_
          refine r_iload_n (pc := 53) C dX10_accept_53 rfl ?_
          refine r_callV (pc := 54) C (cm_rejectRivals hV49 (ht1.sm ((um_sm (by decide)).tr (um_sm (by decide)))) h1) iX10_rejectRivals ml_RX10_325 dX10_accept_54 (ci := 11) rfl rfl hV49.1.1 rfl (by decide) rfl (by simp [cv, Value.category, va_rf]) (by omega) (by omega) (fun r54 S54 h54 => ?_)
          obtain ⟨rfl, hCr, hV54⟩ := h54
          have hC54 := hC49.trk hCr
          dsimp only [Option.toList, List.cons_append, List.nil_append]
          refine r_iinc (pc := 57) C _ dX10_accept_57 rfl (nI_1 _) (by decide) rfl ?_
          refine r_goto (pc := 60) (tgt := 2) C dX10_accept_60 (by decide) ?_
          refine r_lv C [(0, vr (some mo)), (1, vi (nI (k + 1)))] rfl (ih _ ⟨by omega, ?_, ?_⟩)
          · have hCC := hC54
            first
              | (rw [key _ c22f]; simp only [Bool.false_eq_true, if_false, ha1]; exact hCC)
              | (rw [key _ c22t]; simp only [if_true, upd_upd] at hCC ⊢; exact hCC)
          · have hVV := hV54
            first
              | (rw [key _ c22f]; simp only [Bool.false_eq_true, if_false, hM1]; exact hVV)
              | (rw [key _ c22t]; simp only [if_true]; exact hVV)
  have hC0 : Gc [20, 21] S S mo (upd (Gs S mo) 19 (nI a)) := by
    have e : upd (Gs S mo) 19 (nI a) = Gs S mo := by
      funext j
      simp only [upd]
      split
      · next q => rw [q, ha]
      · rfl
    rw [e]
    exact Gc.rf
  refine r_iconst (pc := 0) C (nI 1) dX10_accept_0 rfl ?_
  refine r_istore_n (pc := 1) C dX10_accept_1 (by decide) rfl ?_
  exact r_lv C [(0, vr (some mo)), (1, vi (nI 1))] rfl (L 1 S h1 ⟨by omega, hC0, hV⟩)
theorem cm_close {p t a : Nat} {w : Bool} (hV : MV S mo M n h) (h1 : 1 ≤ h) (ha : Gs S mo 19 = nI a) (hah : a + h ≤ 140) (hp : p < 6) (hpt : mI S mo 26 p = nI t) (ht : Ht M n t) (hF : Fav M n) : Sp l g mX10_close 0 0 [vr (some mo), vi (nI p), vi (bi w)] S (fun r S' => r = none ∧ Gc [25, 20, 21] S S' mo (upd (upd (Gs S mo) 30 (Gs S mo 30 + bi w)) 19 (nI (clo M n h t w (Gs S mo 4) (Gs S mo 5) a).2)) ∧ mI S' mo 25 = upd (mI S mo 25) p (-1) ∧ MV S' mo (clo M n h t w (Gs S mo 4) (Gs S mo 5) a).1 n h) := by
  have hG := hV.G
  have hn2 := hG.1
  have hh2 := hG.2.1
  have htn := ht.1
  have hC0 : Gc [25, 20, 21] S S mo (Gs S mo) := Gc.rf
  generalize hG1 : upd (Gs S mo) 30 (Gs S mo 30 + bi w) = G1
  have hg4 : G1 4 = Gs S mo 4 := by subst hG1; rfl
  have hg5 : G1 5 = Gs S mo 5 := by subst hG1; rfl
  have hg19 : G1 19 = nI a := by subst hG1; exact ha
  refine Sp.start (own := RX10) [(0, vr (some mo)), (1, vi (nI p)), (2, vi (bi w))] (by decide +kernel) rfl rfl (Nat.le_of_ble_eq_true rfl) ?_
  intro J C
  have htM : Ht (chM M t w) n t := ht.sm (um_sm (by decide))
  have hGM : GV (chM M t w) n h := hG.sm (um_sm (by decide))
  have hFM : Fav (chM M t w) n := hF.of (um_n (by decide))
  have hhdM : ∀ k, hdN (chM M t w) k = hdN M k := fun k => rfl
  have L2 : ¬ M 13 t = nI 4 → ∀ k S1, k ≤ h → (Gc [25, 20, 21] S S1 mo G1 ∧ mI S1 mo 25 = upd (mI S mo 25) p (-1) ∧ MV S1 mo (spoL (chM M t w) n h (goC (chM M t w) n h t) w k) n h ∧ Bm (mI S1 mo 21) (goC (chM M t w) n h t)) → J 125 [(0, vr (some mo)), (2, vi (bi w)), (4, vi (nI k))] [] S1 0 0 := by
    intro hnr
    refine up_loop _ _ _ ?_ ?_
    · intro S1 hS
      obtain ⟨hC1, h25, hV1, hB⟩ := hS
      have hgs := hC1.gs
      have e4 : Gs S1 mo 4 = Gs S mo 4 := by rw [hgs, hg4]
      have e5 : Gs S1 mo 5 = Gs S mo 5 := by rw [hgs, hg5]
      refine r_iload (pc := 125) C dX10_close_125 rfl ?_
      refine r_aload_n (pc := 127) C dX10_close_127 rfl ?_
      refine r_mh (pc := 128) C hV1 dX10_close_128 fx_RX10_43 ?_
      refine r_icmp_ge (pc := 131) (tgt := 167) C dX10_close_131 (by decide) (fun c131 => ?_) (fun c131 => ?_)
      · refine r_aload_n (pc := 167) C dX10_close_167 rfl ?_
        refine r_callV (pc := 168) C (cm_accept hV1 h1 (show Gs S1 mo 19 = nI a by rw [hgs, hg19]) hah) iX10_accept ml_RX10_319 dX10_close_168 (ci := 11) rfl rfl hV1.1.1 rfl (by decide) rfl (by simp [cv, Value.category, va_rf]) (by omega) (by omega) (fun r168 S168 h168 => ?_)
        obtain ⟨rfl, hCr, hV168⟩ := h168
        dsimp only [Option.toList, List.cons_append, List.nil_append]
        refine r_ret (pc := 171) C dX10_close_171 rfl (by omega) (by omega) ?_
        rw [e4, e5] at hCr hV168
        have hcl : clo M n h t w (Gs S mo 4) (Gs S mo 5) a = accL (spoL (chM M t w) n h (goC (chM M t w) n h t) w h) n h (Gs S mo 4) (Gs S mo 5) a h := by simp only [clo, if_neg hnr]
        rw [hcl]
        exact ⟨rfl, hC1.trs hCr, by rw [hCr.keep (by decide) (by decide) (by decide)]; exact h25, hV168⟩
      · exact absurd (Int32.le_refl _) c131
    · intro k S1 hk hS ih
      obtain ⟨hC1, h25, hV1, hB⟩ := hS
      obtain ⟨e16, hti⟩ := hGM.2.2.2 k hk
      have htkn := hti.1
      have hsm := spoL_sm (M := chM M t w) (n := n) (h := h) (go := goC (chM M t w) n h t) (w := w) k
      have hff := spoL_fav (go := goC (chM M t w) n h t) (w := w) hFM hGM k (by omega)
      refine r_iload (pc := 125) C dX10_close_125 rfl ?_
      refine r_aload_n (pc := 127) C dX10_close_127 rfl ?_
      refine r_mh (pc := 128) C hV1 dX10_close_128 fx_RX10_43 ?_
      refine r_icmp_ge (pc := 131) (tgt := 167) C dX10_close_131 (by decide) (fun c131 => ?_) (fun c131 => ?_)
      · exact absurd c131 (nI_ge hk (by omega))
      · refine r_aload_n (pc := 134) C dX10_close_134 rfl ?_
        refine r_mA (pc := 135) C hV1 dX10_close_135 fx_RX10_55 (len := 140) (by decide) ?_
        refine r_aload_n (pc := 138) C dX10_close_138 rfl ?_
        refine r_mA (pc := 139) C hV1 dX10_close_139 fx_RX10_40 (len := 140) (by decide) ?_
        refine r_iload (pc := 142) C dX10_close_142 rfl ?_
        refine r_mL (pc := 144) C hV1 dX10_close_144 (k := 16) (len := 140) (by decide) (by decide) (by decide) (by omega) (by decide) ?_
        rw [hsm.2.2, e16]
        refine r_mkL (pc := 145) C hV1 dX10_close_145 (k := 21) (by decide) (by omega) (hB _ (by omega)) ?_
        refine r_if_eq (pc := 146) (tgt := 161) C dX10_close_146 (by decide) (fun c146 => ?_) (fun c146 => ?_)
        · rw [bi_0] at c146
          have c146f := c146
          refine r_iinc (pc := 161) C _ dX10_close_161 rfl (nI_1 _) (by decide) rfl ?_
          refine r_goto (pc := 164) (tgt := 125) C dX10_close_164 (by decide) ?_
          refine r_lv C [(0, vr (some mo)), (2, vi (bi w)), (4, vi (nI (k + 1)))] rfl (ih _ ⟨hC1, ?_, ?_, ?_⟩)
          · first
              | (rw [hCr.keep (k := 25) (by decide) (by decide) (by decide)]; exact h25)
              | exact h25
          · have hVV := hV1
            first
              | (simp only [spoL, c146f, Bool.false_eq_true, if_false]; exact hVV)
              | (simp only [spoL, c146t, if_true]; exact hVV)
          · first
              | (intro x hx; rw [hCr.keep (k := 21) (by decide) (by decide) (by decide)]; exact hB x hx)
              | exact hB
        · rw [bi_0] at c146
          have c146t := ts_nf c146
          refine r_aload_n (pc := 149) C dX10_close_149 rfl ?_
          refine r_aload_n (pc := 150) C dX10_close_150 rfl ?_
          refine r_mA (pc := 151) C hV1 dX10_close_151 fx_RX10_40 (len := 140) (by decide) ?_
          refine r_iload (pc := 154) C dX10_close_154 rfl ?_
          refine r_mL (pc := 156) C hV1 dX10_close_156 (k := 16) (len := 140) (by decide) (by decide) (by decide) (by omega) (by decide) ?_
          rw [hsm.2.2, e16]
          refine r_iload_n (pc := 157) C dX10_close_157 rfl ?_
          refine r_callV (pc := 158) C (cm_spoken hV1 (hti.sm hsm) hff) iX10_spoken ml_RX10_316 dX10_close_158 (ci := 11) rfl rfl hV1.1.1 rfl (by decide) rfl (by simp [cv, Value.category, va_rf]) (by omega) (by omega) (fun r158 S158 h158 => ?_)
          obtain ⟨rfl, hCr, hV158⟩ := h158
          have hC158 := hC1.trk hCr
          dsimp only [Option.toList, List.cons_append, List.nil_append]
          refine r_iinc (pc := 161) C _ dX10_close_161 rfl (nI_1 _) (by decide) rfl ?_
          refine r_goto (pc := 164) (tgt := 125) C dX10_close_164 (by decide) ?_
          refine r_lv C [(0, vr (some mo)), (2, vi (bi w)), (4, vi (nI (k + 1)))] rfl (ih _ ⟨hC158, ?_, ?_, ?_⟩)
          · first
              | (rw [hCr.keep (k := 25) (by decide) (by decide) (by decide)]; exact h25)
              | exact h25
          · have hVV := hV158
            first
              | (simp only [spoL, c146f, Bool.false_eq_true, if_false]; exact hVV)
              | (simp only [spoL, c146t, if_true]; exact hVV)
          · first
              | (intro x hx; rw [hCr.keep (k := 21) (by decide) (by decide) (by decide)]; exact hB x hx)
              | exact hB
  have L1 : ¬ M 13 t = nI 4 → ∀ i S1, i ≤ 140 → (Gc [25, 20, 21] S S1 mo G1 ∧ mI S1 mo 25 = upd (mI S mo 25) p (-1) ∧ MV S1 mo (chM M t w) n h ∧ Bm (mI S1 mo 20) (anc (chM M t w) n h t) ∧ ∀ x, x < i → mI S1 mo 21 x = bi (goC (chM M t w) n h t x)) → J 75 [(0, vr (some mo)), (2, vi (bi w)), (3, vi (nI t)), (4, vi (nI i))] [] S1 0 0 := by
    intro hnr
    refine up_loop 140 _ _ ?_ ?_
    · intro S1 hS
      obtain ⟨hC1, h25, hV1, hB, hB2⟩ := hS
      refine r_iload (pc := 75) C dX10_close_75 rfl ?_
      refine r_sipush (pc := 77) C (nI 140) dX10_close_77 rfl ?_
      refine r_icmp_ge (pc := 80) (tgt := 122) C dX10_close_80 (by decide) (fun c80 => ?_) (fun c80 => ?_)
      · refine r_iconst (pc := 122) C (nI 0) dX10_close_122 rfl ?_
        refine r_istore (pc := 123) C dX10_close_123 (by decide) rfl ?_
        exact r_lv C [(0, vr (some mo)), (2, vi (bi w)), (4, vi (nI 0))] rfl (L2 hnr 0 S1 (by omega) ⟨hC1, h25, hV1, hB2⟩)
      · exact absurd (Int32.le_refl _) c80
    · intro i S1 hi hS ih
      obtain ⟨hC1, h25, hV1, hB, hB2⟩ := hS
      have fin : ∀ (q : Int32) (S2 : hS), Gc [25, 20, 21] S S2 mo G1 → MV S2 mo (chM M t w) n h → (∀ j, j ∈ mks → mI S2 mo j = uk (mI S1 mo) 21 (upd (mI S1 mo 21) i q) j) → q = bi (goC (chM M t w) n h t i) → J 75 [(0, vr (some mo)), (2, vi (bi w)), (3, vi (nI t)), (4, vi (nI (i + 1)))] [] S2 0 0 := by
        intro q S2 hC2 hV2 hF2 hq
        refine ih S2 ⟨hC2, ?_, hV2, ?_, ?_⟩
        · rw [hF2 25 (by decide), uk_n (by decide)]; exact h25
        · intro x hx; rw [hF2 20 (by decide), uk_n (by decide)]; exact hB x hx
        · intro x hx
          rw [hF2 21 (by decide), uk_s]
          by_cases e : x = i
          · subst e; simp [upd, hq]
          · simp only [upd, if_neg e]; exact hB2 x (by omega)
      refine r_iload (pc := 75) C dX10_close_75 rfl ?_
      refine r_sipush (pc := 77) C (nI 140) dX10_close_77 rfl ?_
      refine r_icmp_ge (pc := 80) (tgt := 122) C dX10_close_80 (by decide) (fun c80 => ?_) (fun c80 => ?_)
      · exact absurd c80 (nI_ge hi (by omega))
      · refine r_aload_n (pc := 83) C dX10_close_83 rfl ?_
        refine r_mA (pc := 84) C hV1 dX10_close_84 fx_RX10_55 (len := 140) (by decide) ?_
        refine r_iload (pc := 87) C dX10_close_87 rfl ?_
        refine r_iload (pc := 89) C dX10_close_89 rfl ?_
        refine r_if_le (pc := 91) (tgt := 114) C dX10_close_91 (by decide) (fun c91 => ?_) (fun c91 => ?_)
        · have c91 : ¬ 0 < i := fun q => absurd c91 (nI_nle q (by omega))
          refine r_iconst (pc := 114) C (nI 0) dX10_close_114 rfl ?_
          refine r_mkS (pc := 115) C hV1 dX10_close_115 (k := 21) (by decide) (by omega) (by first | exact Or.inl rfl | exact Or.inr rfl) (fun S115 hC115r hV115 hF115 => ?_)
          have hC115 := hC1.trk hC115r
          refine r_iinc (pc := 116) C _ dX10_close_116 rfl (nI_1 _) (by decide) rfl ?_
          refine r_goto (pc := 119) (tgt := 75) C dX10_close_119 (by decide) ?_
          refine r_lv C [(0, vr (some mo)), (2, vi (bi w)), (3, vi (nI t)), (4, vi (nI (i + 1)))] rfl (fin _ _ hC115 hV115 hF115 ?_)
          simp_all [goC, bi_t, bi_f]
        · have c91 : 0 < i := Nat.pos_of_ne_zero (fun e => by subst e; exact c91 (by decide))
          refine r_aload_n (pc := 94) C dX10_close_94 rfl ?_
          refine r_mA (pc := 95) C hV1 dX10_close_95 fx_RX10_52 (len := 140) (by decide) ?_
          refine r_iload (pc := 98) C dX10_close_98 rfl ?_
          refine r_mkL (pc := 100) C hV1 dX10_close_100 (k := 20) (by decide) (by omega) (hB _ (by omega)) ?_
          refine r_if_ne (pc := 101) (tgt := 110) C dX10_close_101 (by decide) (fun c101 => ?_) (fun c101 => ?_)
          · rw [bi_0] at c101
            refine r_iconst (pc := 110) C (nI 1) dX10_close_110 rfl ?_
            refine r_goto (pc := 111) (tgt := 115) C dX10_close_111 (by decide) ?_
            refine r_mkS (pc := 115) C hV1 dX10_close_115 (k := 21) (by decide) (by omega) (by first | exact Or.inl rfl | exact Or.inr rfl) (fun S115 hC115r hV115 hF115 => ?_)
            have hC115 := hC1.trk hC115r
            refine r_iinc (pc := 116) C _ dX10_close_116 rfl (nI_1 _) (by decide) rfl ?_
            refine r_goto (pc := 119) (tgt := 75) C dX10_close_119 (by decide) ?_
            refine r_lv C [(0, vr (some mo)), (2, vi (bi w)), (3, vi (nI t)), (4, vi (nI (i + 1)))] rfl (fin _ _ hC115 hV115 hF115 ?_)
            simp_all [goC, bi_t, bi_f]
          · rw [bi_0] at c101
            refine r_iload (pc := 104) C dX10_close_104 rfl ?_
            refine r_iload_n (pc := 106) C dX10_close_106 rfl ?_
            refine r_icmp_ne (pc := 107) (tgt := 114) C dX10_close_107 (by decide) (fun c107 => ?_) (fun c107 => ?_)
            · rw [nI_eq (by omega) (by omega)] at c107
              refine r_iconst (pc := 114) C (nI 0) dX10_close_114 rfl ?_
              refine r_mkS (pc := 115) C hV1 dX10_close_115 (k := 21) (by decide) (by omega) (by first | exact Or.inl rfl | exact Or.inr rfl) (fun S115 hC115r hV115 hF115 => ?_)
              have hC115 := hC1.trk hC115r
              refine r_iinc (pc := 116) C _ dX10_close_116 rfl (nI_1 _) (by decide) rfl ?_
              refine r_goto (pc := 119) (tgt := 75) C dX10_close_119 (by decide) ?_
              refine r_lv C [(0, vr (some mo)), (2, vi (bi w)), (3, vi (nI t)), (4, vi (nI (i + 1)))] rfl (fin _ _ hC115 hV115 hF115 ?_)
              simp_all [goC, bi_t, bi_f]
            · rw [nI_eq (by omega) (by omega)] at c107
              refine r_iconst (pc := 110) C (nI 1) dX10_close_110 rfl ?_
              refine r_goto (pc := 111) (tgt := 115) C dX10_close_111 (by decide) ?_
              refine r_mkS (pc := 115) C hV1 dX10_close_115 (k := 21) (by decide) (by omega) (by first | exact Or.inl rfl | exact Or.inr rfl) (fun S115 hC115r hV115 hF115 => ?_)
              have hC115 := hC1.trk hC115r
              refine r_iinc (pc := 116) C _ dX10_close_116 rfl (nI_1 _) (by decide) rfl ?_
              refine r_goto (pc := 119) (tgt := 75) C dX10_close_119 (by decide) ?_
              refine r_lv C [(0, vr (some mo)), (2, vi (bi w)), (3, vi (nI t)), (4, vi (nI (i + 1)))] rfl (fin _ _ hC115 hV115 hF115 ?_)
              simp_all [goC, bi_t, bi_f]
  refine r_aload_n (pc := 0) C dX10_close_0 rfl ?_
  refine r_mA (pc := 1) C hV dX10_close_1 fx_RX10_70 (len := 6) (by decide) ?_
  refine r_iload_n (pc := 4) C dX10_close_4 rfl ?_
  refine r_xL (pc := 5) C hV dX10_close_5 (k := 26) (len := 6) (by decide) (by decide) (by omega) (by decide) ?_
  rw [hpt]
  refine r_istore_n (pc := 6) C dX10_close_6 (by decide) rfl ?_
  refine r_aload_n (pc := 7) C dX10_close_7 rfl ?_
  refine r_mA (pc := 8) C hV dX10_close_8 fx_RX10_67 (len := 6) (by decide) ?_
  refine r_iload_n (pc := 11) C dX10_close_11 rfl ?_
  refine r_iconst (pc := 12) C (-1) dX10_close_12 rfl ?_
  refine r_xS (pc := 13) C hV dX10_close_13 (k := 25) (len := 6) (by decide) (by decide) (by decide) (by decide) (by omega) (by decide) (fun S13 hC13r hV13 hF13 => ?_)
  have hC13 := hC0.trk hC13r
  refine r_aload_n (pc := 14) C dX10_close_14 rfl ?_
  refine r_dup (pc := 15) C dX10_close_15 rfl ?_
  refine r_mI (pc := 16) (k := 30) C hV13 dX10_close_16 fx_RX10_313 ?_
  rw [show Gs _ mo 30 = Gs S mo 30 from by rw [hC13.gs]]
  refine r_iload_n (pc := 19) C dX10_close_19 rfl ?_
  refine r_if_eq (pc := 20) (tgt := 27) C dX10_close_20 (by decide) (fun c20 => ?_) (fun c20 => ?_)
  · rw [bi_0] at c20
    refine r_iconst (pc := 27) C (nI 0) dX10_close_27 rfl ?_
    refine r_iadd (pc := 28) C dX10_close_28 ?_
    rw [show Gs S mo 30 + _ = Gs S mo 30 + bi w from by simp_all [bi_t, bi_f]]
    refine r_mP (pc := 29) (k := 30) C hV13 dX10_close_29 fx_RX10_313 (fp_11_30 _) (by decide) (fun S29 hC29 hV29 => ?_)
    have hC29r := hC29
    have hC29 := hC13.trs hC29
    have hC29 : Gc [25, 20, 21] S S29 mo G1 := by rw [← hG1]; exact hC29
    have h25 : mI S29 mo 25 = upd (mI S mo 25) p (-1) := by rw [hC29r.keep (k := 25) (by decide) (by decide) (by decide), hF13 25 (by decide), uk_s]
    refine r_aload_n (pc := 32) C dX10_close_32 rfl ?_
    refine r_mA (pc := 33) C hV29 dX10_close_33 fx_RX10_30 (len := 140) (by decide) ?_
    refine r_iload_n (pc := 36) C dX10_close_36 rfl ?_
    refine r_mL (pc := 37) C hV29 dX10_close_37 (k := 13) (len := 140) (by decide) (by decide) (by decide) (by omega) (by decide) ?_
    refine r_iconst (pc := 38) C (nI 4) dX10_close_38 rfl ?_
    refine r_icmp_ne (pc := 39) (tgt := 43) C dX10_close_39 (by decide) (fun c39 => ?_) (fun c39 => ?_)
    · refine r_aload_n (pc := 43) C dX10_close_43 rfl ?_
      refine r_mA (pc := 44) C hV29 dX10_close_44 fx_RX10_33 (len := 140) (by decide) ?_
      refine r_iload_n (pc := 47) C dX10_close_47 rfl ?_
      refine r_aload_n (pc := 48) C dX10_close_48 rfl ?_
      refine r_mA (pc := 49) C hV29 dX10_close_49 fx_RX10_33 (len := 140) (by decide) ?_
      refine r_iload_n (pc := 52) C dX10_close_52 rfl ?_
      refine r_mLz (pc := 53) C hV29 dX10_close_53 (k := 14) (len := 140) (by decide) (by decide) (by decide) (by omega) (by decide) ?_
      refine r_if_ne (pc := 54) (tgt := 61) C dX10_close_54 (by decide) (fun c54 => ?_) (fun c54 => ?_)
      · have hq : nI 1 = bi (chitB M t || w) := by simp [chitB, c54, bi_t]
        refine r_iconst (pc := 61) C (nI 1) dX10_close_61 rfl ?_
        refine r_goto (pc := 62) (tgt := 66) C dX10_close_62 (by decide) ?_
        refine r_mSz (pc := 66) C hV29 dX10_close_66 (k := 14) (len := 140) (by decide) (by decide) (by decide) (by decide) (by omega) (by decide) (by first | exact Or.inl rfl | exact Or.inr rfl) (fun S66 hC66r hV66 => ?_)
        have hC66 := hC29.trk hC66r
        have hV66 : MV S66 mo (chM M t w) n h := by rw [hq] at hV66; exact hV66
        refine r_aload_n (pc := 67) C dX10_close_67 rfl ?_
        refine r_iload_n (pc := 68) C dX10_close_68 rfl ?_
        refine r_callV (pc := 69) C (cx_markAncestors hV66 htM.p) iX10_markAncestors ml_RX10_242 dX10_close_69 (ci := 11) rfl rfl hV66.1.1 rfl (by decide) rfl (by simp [cv, Value.category, va_rf]) (by omega) (by omega) (fun r69 S69 h69 => ?_)
        obtain ⟨rfl, hCr, hV69, hB⟩ := h69
        have hC69 := hC66.trk hCr
        dsimp only [Option.toList, List.cons_append, List.nil_append]
        refine r_iconst (pc := 72) C (nI 0) dX10_close_72 rfl ?_
        refine r_istore (pc := 73) C dX10_close_73 (by decide) rfl ?_
        refine r_lv C [(0, vr (some mo)), (2, vi (bi w)), (3, vi (nI t)), (4, vi (nI 0))] rfl (L1 c39 0 _ (by omega) ⟨hC69, ?_, hV69, hB, fun x hx => absurd hx (by omega)⟩)
        rw [hCr.keep (k := 25) (by decide) (by decide) (by decide), hC66r.keep (k := 25) (by decide) (by decide) (by decide)]
        exact h25
      · refine r_iload_n (pc := 57) C dX10_close_57 rfl ?_
        refine r_if_eq (pc := 58) (tgt := 65) C dX10_close_58 (by decide) (fun c58 => ?_) (fun c58 => ?_)
        · rw [bi_0] at c58
          have hq : nI 0 = bi (chitB M t || w) := by simp [chitB, c54, c58, bi_f]
          refine r_iconst (pc := 65) C (nI 0) dX10_close_65 rfl ?_
          refine r_mSz (pc := 66) C hV29 dX10_close_66 (k := 14) (len := 140) (by decide) (by decide) (by decide) (by decide) (by omega) (by decide) (by first | exact Or.inl rfl | exact Or.inr rfl) (fun S66 hC66r hV66 => ?_)
          have hC66 := hC29.trk hC66r
          have hV66 : MV S66 mo (chM M t w) n h := by rw [hq] at hV66; exact hV66
          refine r_aload_n (pc := 67) C dX10_close_67 rfl ?_
          refine r_iload_n (pc := 68) C dX10_close_68 rfl ?_
          refine r_callV (pc := 69) C (cx_markAncestors hV66 htM.p) iX10_markAncestors ml_RX10_242 dX10_close_69 (ci := 11) rfl rfl hV66.1.1 rfl (by decide) rfl (by simp [cv, Value.category, va_rf]) (by omega) (by omega) (fun r69 S69 h69 => ?_)
          obtain ⟨rfl, hCr, hV69, hB⟩ := h69
          have hC69 := hC66.trk hCr
          dsimp only [Option.toList, List.cons_append, List.nil_append]
          refine r_iconst (pc := 72) C (nI 0) dX10_close_72 rfl ?_
          refine r_istore (pc := 73) C dX10_close_73 (by decide) rfl ?_
          refine r_lv C [(0, vr (some mo)), (2, vi (bi w)), (3, vi (nI t)), (4, vi (nI 0))] rfl (L1 c39 0 _ (by omega) ⟨hC69, ?_, hV69, hB, fun x hx => absurd hx (by omega)⟩)
          rw [hCr.keep (k := 25) (by decide) (by decide) (by decide), hC66r.keep (k := 25) (by decide) (by decide) (by decide)]
          exact h25
        · rw [bi_0] at c58
          have hq : nI 1 = bi (chitB M t || w) := by simp [ts_nf c58, bi_t]
          refine r_iconst (pc := 61) C (nI 1) dX10_close_61 rfl ?_
          refine r_goto (pc := 62) (tgt := 66) C dX10_close_62 (by decide) ?_
          refine r_mSz (pc := 66) C hV29 dX10_close_66 (k := 14) (len := 140) (by decide) (by decide) (by decide) (by decide) (by omega) (by decide) (by first | exact Or.inl rfl | exact Or.inr rfl) (fun S66 hC66r hV66 => ?_)
          have hC66 := hC29.trk hC66r
          have hV66 : MV S66 mo (chM M t w) n h := by rw [hq] at hV66; exact hV66
          refine r_aload_n (pc := 67) C dX10_close_67 rfl ?_
          refine r_iload_n (pc := 68) C dX10_close_68 rfl ?_
          refine r_callV (pc := 69) C (cx_markAncestors hV66 htM.p) iX10_markAncestors ml_RX10_242 dX10_close_69 (ci := 11) rfl rfl hV66.1.1 rfl (by decide) rfl (by simp [cv, Value.category, va_rf]) (by omega) (by omega) (fun r69 S69 h69 => ?_)
          obtain ⟨rfl, hCr, hV69, hB⟩ := h69
          have hC69 := hC66.trk hCr
          dsimp only [Option.toList, List.cons_append, List.nil_append]
          refine r_iconst (pc := 72) C (nI 0) dX10_close_72 rfl ?_
          refine r_istore (pc := 73) C dX10_close_73 (by decide) rfl ?_
          refine r_lv C [(0, vr (some mo)), (2, vi (bi w)), (3, vi (nI t)), (4, vi (nI 0))] rfl (L1 c39 0 _ (by omega) ⟨hC69, ?_, hV69, hB, fun x hx => absurd hx (by omega)⟩)
          rw [hCr.keep (k := 25) (by decide) (by decide) (by decide), hC66r.keep (k := 25) (by decide) (by decide) (by decide)]
          exact h25
    · have hcl : clo M n h t w (Gs S mo 4) (Gs S mo 5) a = (M, a) := by simp only [clo, if_pos c39]
      refine r_ret (pc := 42) C dX10_close_42 rfl (by omega) (by omega) ?_
      rw [hcl]
      refine ⟨rfl, ?_, h25, hV29⟩
      have hCC := hC29
      have e : upd G1 19 (nI a) = G1 := by
        funext j; simp only [upd]; split
        · next q => rw [q, hg19]
        · rfl
      simp only [e]
      exact hCC
  · rw [bi_0] at c20
    refine r_iconst (pc := 23) C (nI 1) dX10_close_23 rfl ?_
    refine r_goto (pc := 24) (tgt := 28) C dX10_close_24 (by decide) ?_
    refine r_iadd (pc := 28) C dX10_close_28 ?_
    rw [show Gs S mo 30 + _ = Gs S mo 30 + bi w from by simp_all [bi_t, bi_f]]
    refine r_mP (pc := 29) (k := 30) C hV13 dX10_close_29 fx_RX10_313 (fp_11_30 _) (by decide) (fun S29 hC29 hV29 => ?_)
    have hC29r := hC29
    have hC29 := hC13.trs hC29
    have hC29 : Gc [25, 20, 21] S S29 mo G1 := by rw [← hG1]; exact hC29
    have h25 : mI S29 mo 25 = upd (mI S mo 25) p (-1) := by rw [hC29r.keep (k := 25) (by decide) (by decide) (by decide), hF13 25 (by decide), uk_s]
    refine r_aload_n (pc := 32) C dX10_close_32 rfl ?_
    refine r_mA (pc := 33) C hV29 dX10_close_33 fx_RX10_30 (len := 140) (by decide) ?_
    refine r_iload_n (pc := 36) C dX10_close_36 rfl ?_
    refine r_mL (pc := 37) C hV29 dX10_close_37 (k := 13) (len := 140) (by decide) (by decide) (by decide) (by omega) (by decide) ?_
    refine r_iconst (pc := 38) C (nI 4) dX10_close_38 rfl ?_
    refine r_icmp_ne (pc := 39) (tgt := 43) C dX10_close_39 (by decide) (fun c39 => ?_) (fun c39 => ?_)
    · refine r_aload_n (pc := 43) C dX10_close_43 rfl ?_
      refine r_mA (pc := 44) C hV29 dX10_close_44 fx_RX10_33 (len := 140) (by decide) ?_
      refine r_iload_n (pc := 47) C dX10_close_47 rfl ?_
      refine r_aload_n (pc := 48) C dX10_close_48 rfl ?_
      refine r_mA (pc := 49) C hV29 dX10_close_49 fx_RX10_33 (len := 140) (by decide) ?_
      refine r_iload_n (pc := 52) C dX10_close_52 rfl ?_
      refine r_mLz (pc := 53) C hV29 dX10_close_53 (k := 14) (len := 140) (by decide) (by decide) (by decide) (by omega) (by decide) ?_
      refine r_if_ne (pc := 54) (tgt := 61) C dX10_close_54 (by decide) (fun c54 => ?_) (fun c54 => ?_)
      · have hq : nI 1 = bi (chitB M t || w) := by simp [chitB, c54, bi_t]
        refine r_iconst (pc := 61) C (nI 1) dX10_close_61 rfl ?_
        refine r_goto (pc := 62) (tgt := 66) C dX10_close_62 (by decide) ?_
        refine r_mSz (pc := 66) C hV29 dX10_close_66 (k := 14) (len := 140) (by decide) (by decide) (by decide) (by decide) (by omega) (by decide) (by first | exact Or.inl rfl | exact Or.inr rfl) (fun S66 hC66r hV66 => ?_)
        have hC66 := hC29.trk hC66r
        have hV66 : MV S66 mo (chM M t w) n h := by rw [hq] at hV66; exact hV66
        refine r_aload_n (pc := 67) C dX10_close_67 rfl ?_
        refine r_iload_n (pc := 68) C dX10_close_68 rfl ?_
        refine r_callV (pc := 69) C (cx_markAncestors hV66 htM.p) iX10_markAncestors ml_RX10_242 dX10_close_69 (ci := 11) rfl rfl hV66.1.1 rfl (by decide) rfl (by simp [cv, Value.category, va_rf]) (by omega) (by omega) (fun r69 S69 h69 => ?_)
        obtain ⟨rfl, hCr, hV69, hB⟩ := h69
        have hC69 := hC66.trk hCr
        dsimp only [Option.toList, List.cons_append, List.nil_append]
        refine r_iconst (pc := 72) C (nI 0) dX10_close_72 rfl ?_
        refine r_istore (pc := 73) C dX10_close_73 (by decide) rfl ?_
        refine r_lv C [(0, vr (some mo)), (2, vi (bi w)), (3, vi (nI t)), (4, vi (nI 0))] rfl (L1 c39 0 _ (by omega) ⟨hC69, ?_, hV69, hB, fun x hx => absurd hx (by omega)⟩)
        rw [hCr.keep (k := 25) (by decide) (by decide) (by decide), hC66r.keep (k := 25) (by decide) (by decide) (by decide)]
        exact h25
      · refine r_iload_n (pc := 57) C dX10_close_57 rfl ?_
        refine r_if_eq (pc := 58) (tgt := 65) C dX10_close_58 (by decide) (fun c58 => ?_) (fun c58 => ?_)
        · rw [bi_0] at c58
          have hq : nI 0 = bi (chitB M t || w) := by simp [chitB, c54, c58, bi_f]
          refine r_iconst (pc := 65) C (nI 0) dX10_close_65 rfl ?_
          refine r_mSz (pc := 66) C hV29 dX10_close_66 (k := 14) (len := 140) (by decide) (by decide) (by decide) (by decide) (by omega) (by decide) (by first | exact Or.inl rfl | exact Or.inr rfl) (fun S66 hC66r hV66 => ?_)
          have hC66 := hC29.trk hC66r
          have hV66 : MV S66 mo (chM M t w) n h := by rw [hq] at hV66; exact hV66
          refine r_aload_n (pc := 67) C dX10_close_67 rfl ?_
          refine r_iload_n (pc := 68) C dX10_close_68 rfl ?_
          refine r_callV (pc := 69) C (cx_markAncestors hV66 htM.p) iX10_markAncestors ml_RX10_242 dX10_close_69 (ci := 11) rfl rfl hV66.1.1 rfl (by decide) rfl (by simp [cv, Value.category, va_rf]) (by omega) (by omega) (fun r69 S69 h69 => ?_)
          obtain ⟨rfl, hCr, hV69, hB⟩ := h69
          have hC69 := hC66.trk hCr
          dsimp only [Option.toList, List.cons_append, List.nil_append]
          refine r_iconst (pc := 72) C (nI 0) dX10_close_72 rfl ?_
          refine r_istore (pc := 73) C dX10_close_73 (by decide) rfl ?_
          refine r_lv C [(0, vr (some mo)), (2, vi (bi w)), (3, vi (nI t)), (4, vi (nI 0))] rfl (L1 c39 0 _ (by omega) ⟨hC69, ?_, hV69, hB, fun x hx => absurd hx (by omega)⟩)
          rw [hCr.keep (k := 25) (by decide) (by decide) (by decide), hC66r.keep (k := 25) (by decide) (by decide) (by decide)]
          exact h25
        · rw [bi_0] at c58
          have hq : nI 1 = bi (chitB M t || w) := by simp [ts_nf c58, bi_t]
          refine r_iconst (pc := 61) C (nI 1) dX10_close_61 rfl ?_
          refine r_goto (pc := 62) (tgt := 66) C dX10_close_62 (by decide) ?_
          refine r_mSz (pc := 66) C hV29 dX10_close_66 (k := 14) (len := 140) (by decide) (by decide) (by decide) (by decide) (by omega) (by decide) (by first | exact Or.inl rfl | exact Or.inr rfl) (fun S66 hC66r hV66 => ?_)
          have hC66 := hC29.trk hC66r
          have hV66 : MV S66 mo (chM M t w) n h := by rw [hq] at hV66; exact hV66
          refine r_aload_n (pc := 67) C dX10_close_67 rfl ?_
          refine r_iload_n (pc := 68) C dX10_close_68 rfl ?_
          refine r_callV (pc := 69) C (cx_markAncestors hV66 htM.p) iX10_markAncestors ml_RX10_242 dX10_close_69 (ci := 11) rfl rfl hV66.1.1 rfl (by decide) rfl (by simp [cv, Value.category, va_rf]) (by omega) (by omega) (fun r69 S69 h69 => ?_)
          obtain ⟨rfl, hCr, hV69, hB⟩ := h69
          have hC69 := hC66.trk hCr
          dsimp only [Option.toList, List.cons_append, List.nil_append]
          refine r_iconst (pc := 72) C (nI 0) dX10_close_72 rfl ?_
          refine r_istore (pc := 73) C dX10_close_73 (by decide) rfl ?_
          refine r_lv C [(0, vr (some mo)), (2, vi (bi w)), (3, vi (nI t)), (4, vi (nI 0))] rfl (L1 c39 0 _ (by omega) ⟨hC69, ?_, hV69, hB, fun x hx => absurd hx (by omega)⟩)
          rw [hCr.keep (k := 25) (by decide) (by decide) (by decide), hC66r.keep (k := 25) (by decide) (by decide) (by decide)]
          exact h25
    · have hcl : clo M n h t w (Gs S mo 4) (Gs S mo 5) a = (M, a) := by simp only [clo, if_pos c39]
      refine r_ret (pc := 42) C dX10_close_42 rfl (by omega) (by omega) ?_
      rw [hcl]
      refine ⟨rfl, ?_, h25, hV29⟩
      have hCC := hC29
      have e : upd G1 19 (nI a) = G1 := by
        funext j; simp only [upd]; split
        · next q => rw [q, hg19]
        · rfl
      simp only [e]
      exact hCC
end Close
