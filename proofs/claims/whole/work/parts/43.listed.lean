/-! The reference: listed -/
def tipB (M : MM) (n h t : Nat) : Bool := stg M n h t && allU (fun k => !(pset M n (hdN M k) t && stg M n h (hdN M k))) h
/-- the b-th from above -/
def tpS (f : Nat → Bool) : Nat → Nat → Option Nat
  | 0, _ => none
  | k + 1, b => if f k then (if b = 0 then some k else tpS f k (b - 1)) else tpS f k b
def tipV (M : MM) (n h b : Nat) : Int32 := idO M ((tpS (fun k => tipB M n h (hdN M k)) h b).map (hdN M))
def earJ (M : MM) (t i w : Nat) (j : Nat) : Bool := anyU (fun j => decide (M 13 w = nI 1) && (decide (w < t) || decide (j < i)) && decide (pid (M 11) w j = pid (M 11) t i)) j
def ear (M : MM) (t i : Nat) : Bool := anyU (fun w => earJ M t i w (nP (M 11) w)) (t + 1)
def misQ (M : MM) (n t i : Nat) : Bool := (decide (M 13 t = nI 1) && decide (fdo (M 10) (pid (M 11) t i) n = none)) && !ear M t i
def miI (M : MM) (n t b : Nat) : Nat → Nat ⊕ Int32
  | 0 => .inl b
  | i + 1 => match miI M n t b i with
    | .inr v => .inr v
    | .inl b' => if misQ M n t i then (if b' = 0 then .inr (pid (M 11) t i) else .inl (b' - 1)) else .inl b'
def miO (M : MM) (n b : Nat) : Nat → Nat ⊕ Int32
  | 0 => .inl b
  | t + 1 => match miO M n b t with
    | .inr v => .inr v
    | .inl b' => miI M n t b' (nP (M 11) t)
def miV (M : MM) (n b : Nat) : Int32 := match miO M n b n with
  | .inr v => v
  | .inl _ => -1
def lsR (M : MM) (n h a : Nat) (w i : Int32) : Int32 := if i < 0 then -1 else if w = 0 then (if i < nI 4 then tipV M n h i.toNatClampNeg else -1) else if w = nI 1 then (if i < nI a then M 10 (acN M i.toNatClampNeg) else -1) else if w = nI 2 then miV M n i.toNatClampNeg else -1
theorem anyU_t {f : Nat → Bool} {i n : Nat} (hi : i < n) (h : f i = true) : anyU f n = true := anyU_iff.mpr ⟨i, hi, h⟩
theorem miI_r {M : MM} {n t b i : Nat} {v : Int32} (h : miI M n t b i = .inr v) : ∀ k, i ≤ k → miI M n t b k = .inr v := by
  intro k
  induction k with
  | zero => intro hk; have : i = 0 := by omega
            subst this; exact h
  | succ k ih =>
    intro hk
    by_cases e : i = k + 1
    · subst e; exact h
    · simp only [miI, ih (by omega)]
theorem miO_r {M : MM} {n b t : Nat} {v : Int32} (h : miO M n b t = .inr v) : ∀ k, t ≤ k → miO M n b k = .inr v := by
  intro k
  induction k with
  | zero => intro hk; have : t = 0 := by omega
            subst this; exact h
  | succ k ih =>
    intro hk
    by_cases e : t = k + 1
    · subst e; exact h
    · simp only [miO, ih (by omega)]
section Listed
variable {l : Launch} {g : GG} {S : hS} {mo : Nat} {M F : MM} {G : Nat → Int32} {X : Int64} {n h : Nat} {Post : Option AV → hS → Prop} {J : JJ}
theorem cm_isTip {t : Nat} (hV : MV S mo M n h) (hQ : Hq M n h) (hH : ∀ k, k < h → hv M (hdN M k) = true) (ht : t < n) (hht : hv M t = true) : Sp l g mX10_isTip 0 0 [vr (some mo), vi (nI t)] S (fun r S' => r = some (vi (bi (tipB M n h t))) ∧ Gch S S' mo (Gs S mo) ∧ MV S' mo M n h) := by
  have hC0 : Gch S S mo (Gs S mo) := Gc.rf
  have hG := hV.G
  have hn2 := hG.1
  have hh2 := hG.2.1
  refine Sp.start (own := RX10) [(0, vr (some mo)), (1, vi (nI t))] (by decide +kernel) rfl rfl (Nat.le_of_ble_eq_true rfl) ?_
  intro J C
  have L : ∀ k x S1, k ≤ h → (x = bi (stg M n h t && allU (fun k => !(pset M n (hdN M k) t && stg M n h (hdN M k))) k) ∧ Gch S S1 mo (Gs S mo) ∧ MV S1 mo M n h) → J 8 [(0, vr (some mo)), (1, vi (nI t)), (2, vi x), (3, vi (nI k))] [] S1 0 0 := by
    refine up2 _ _ _ ?_ ?_
    · intro x S1 hS
      obtain ⟨hx, hC1, hV1⟩ := hS
      refine r_iload_n (pc := 8) C dX10_isTip_8 rfl ?_
      refine r_aload_n (pc := 9) C dX10_isTip_9 rfl ?_
      refine r_mh (pc := 10) C hV1 dX10_isTip_10 fx_RX10_43 ?_
      refine r_icmp_ge (pc := 13) (tgt := 105) C dX10_isTip_13 (by decide) (fun c13 => ?_) (fun c13 => ?_)
      · refine r_iload_n (pc := 105) C dX10_isTip_105 rfl ?_
        refine r_zret (pc := 106) C dX10_isTip_106 rfl (by rw [hx]; exact bi_01 _) (by omega) (by omega) ?_
        exact ⟨by rw [hx]; rfl, hC1, hV1⟩
      · exact absurd (Int32.le_refl _) c13
    · intro k x S1 hk hS ih
      obtain ⟨hx, hC1, hV1⟩ := hS
      obtain ⟨e16, hto⟩ := hG.2.2.2 k hk
      have hon := hto.1
      have ho140 : hdN M k < 140 := by omega
      have hp4 := (hV.R hon).2.1
      have hqo := hQ _ hon (hH k hk)
      subst hx
      generalize ho : hdN M k = o at *
      cases hb : (stg M n h t && allU (fun k => !(pset M n (hdN M k) t && stg M n h (hdN M k))) k) with
      | false =>
        have e : tipB M n h t = false := by
          simp only [tipB]
          cases hs : stg M n h t with
          | false => rfl
          | true =>
            rw [hs, Bool.true_and] at hb
            rw [Bool.true_and]
            exact allU_f hb (by omega)
        refine r_iload_n (pc := 8) C dX10_isTip_8 rfl ?_
        refine r_aload_n (pc := 9) C dX10_isTip_9 rfl ?_
        refine r_mh (pc := 10) C hV1 dX10_isTip_10 fx_RX10_43 ?_
        refine r_icmp_ge (pc := 13) (tgt := 105) C dX10_isTip_13 (by decide) (fun c13 => ?_) (fun c13 => ?_)
        · exact absurd c13 (nI_ge hk (by omega))
        · refine r_iload_n (pc := 16) C dX10_isTip_16 rfl ?_
          refine r_if_eq (pc := 17) (tgt := 105) C dX10_isTip_17 (by decide) (fun c17 => ?_) (fun c17 => ?_)
          · refine r_iload_n (pc := 105) C dX10_isTip_105 rfl ?_
            refine r_zret (pc := 106) C dX10_isTip_106 rfl (bi_01 _) (by omega) (by omega) ?_
            exact ⟨by rw [e], hC1, hV1⟩
          · exact absurd (show bi false = 0 from rfl) c17
      | true =>
        have hal : ∀ q : Bool, (pset M n o t && stg M n h o) = q → (stg M n h t && allU (fun k => !(pset M n (hdN M k) t && stg M n h (hdN M k))) (k + 1)) = !q := by
          intro q hq
          simp only [allU]
          rw [← Bool.and_assoc, hb, ho, hq, Bool.true_and]
        have L2 : ∀ i y, i ≤ nP (M 11) o → y = bi (anyU (fun i => decide (par M n o i = t)) i) → J 34 [(0, vr (some mo)), (1, vi (nI t)), (2, vi (bi true)), (3, vi (nI k)), (4, vi (nI o)), (5, vi y), (6, vi (nI i))] [] S1 0 0 := by
          refine up_loop _ _ _ ?_ ?_
          · intro y hy
            subst hy
            have hps : anyU (fun i => decide (par M n o i = t)) (nP (M 11) o) = pset M n o t := rfl
            refine r_iload (pc := 34) C dX10_isTip_34 rfl ?_
            refine r_aload_n (pc := 36) C dX10_isTip_36 rfl ?_
            refine r_iload (pc := 37) C dX10_isTip_37 rfl ?_
            refine r_callV (pc := 39) C (mv_parentsOf hV1 ho140) iX10_parentsOf ml_RX10_182 dX10_isTip_39 (ci := 11) rfl rfl hV1.1.1 rfl (by decide) rfl (by simp [cv, Value.category, va_rf]) (by omega) (by omega) (fun r39 S39 h39 => ?_)
            obtain ⟨rfl, e39⟩ := h39
            subst S39
            dsimp only [Option.toList, List.cons_append, List.nil_append]
            refine r_icmp_ge (pc := 42) (tgt := 79) C dX10_isTip_42 (by decide) (fun c42 => ?_) (fun c42 => ?_)
            · refine r_iload (pc := 79) C dX10_isTip_79 rfl ?_
              refine r_if_eq (pc := 81) (tgt := 93) C dX10_isTip_81 (by decide) (fun c81 => ?_) (fun c81 => ?_)
              · rw [bi_0, hps] at c81
                have hv2 : nI 1 = bi (stg M n h t && allU (fun k => !(pset M n (hdN M k) t && stg M n h (hdN M k))) (k + 1)) := by rw [hal false (by rw [c81]; rfl)]; rfl
                refine r_iconst (pc := 93) C (nI 1) dX10_isTip_93 rfl ?_
                refine r_goto (pc := 94) (tgt := 98) C dX10_isTip_94 (by decide) ?_
                refine r_istore_n (pc := 98) C dX10_isTip_98 (by decide) rfl ?_
                refine r_iinc (pc := 99) C _ dX10_isTip_99 rfl (nI_1 _) (by decide) rfl ?_
                refine r_goto (pc := 102) (tgt := 8) C dX10_isTip_102 (by decide) ?_
                exact r_lv C [(0, vr (some mo)), (1, vi (nI t)), (2, vi _), (3, vi (nI (k + 1)))] rfl (ih _ _ ⟨hv2, hC1, hV1⟩)
              · rw [bi_0, hps] at c81
                have c81t := ts_nf c81
                refine r_aload_n (pc := 84) C dX10_isTip_84 rfl ?_
                refine r_iload (pc := 85) C dX10_isTip_85 rfl ?_
                refine r_callV (pc := 87) C (cm_isStrong hV1 hto hqo.2) iX10_isStrong ml_RX10_286 dX10_isTip_87 (ci := 11) rfl rfl hV1.1.1 rfl (by decide) rfl (by simp [cv, Value.category, va_rf]) (by omega) (by omega) (fun r87 S87 h87 => ?_)
                obtain ⟨rfl, hCr, hV87⟩ := h87
                have hC87 := hC1.trk hCr
                dsimp only [Option.toList, List.cons_append, List.nil_append]
                refine r_if_ne (pc := 90) (tgt := 97) C dX10_isTip_90 (by decide) (fun c90 => ?_) (fun c90 => ?_)
                · rw [bi_0] at c90
                  have hv2 : nI 0 = bi (stg M n h t && allU (fun k => !(pset M n (hdN M k) t && stg M n h (hdN M k))) (k + 1)) := by rw [hal true (by rw [c81t, ts_nf c90]; rfl)]; rfl
                  refine r_iconst (pc := 97) C (nI 0) dX10_isTip_97 rfl ?_
                  refine r_istore_n (pc := 98) C dX10_isTip_98 (by decide) rfl ?_
                  refine r_iinc (pc := 99) C _ dX10_isTip_99 rfl (nI_1 _) (by decide) rfl ?_
                  refine r_goto (pc := 102) (tgt := 8) C dX10_isTip_102 (by decide) ?_
                  exact r_lv C [(0, vr (some mo)), (1, vi (nI t)), (2, vi _), (3, vi (nI (k + 1)))] rfl (ih _ _ ⟨hv2, hC87, hV87⟩)
                · rw [bi_0] at c90
                  have hv2 : nI 1 = bi (stg M n h t && allU (fun k => !(pset M n (hdN M k) t && stg M n h (hdN M k))) (k + 1)) := by rw [hal false (by rw [c81t, c90]; rfl)]; rfl
                  refine r_iconst (pc := 93) C (nI 1) dX10_isTip_93 rfl ?_
                  refine r_goto (pc := 94) (tgt := 98) C dX10_isTip_94 (by decide) ?_
                  refine r_istore_n (pc := 98) C dX10_isTip_98 (by decide) rfl ?_
                  refine r_iinc (pc := 99) C _ dX10_isTip_99 rfl (nI_1 _) (by decide) rfl ?_
                  refine r_goto (pc := 102) (tgt := 8) C dX10_isTip_102 (by decide) ?_
                  exact r_lv C [(0, vr (some mo)), (1, vi (nI t)), (2, vi _), (3, vi (nI (k + 1)))] rfl (ih _ _ ⟨hv2, hC87, hV87⟩)
            · exact absurd (Int32.le_refl _) c42
          · intro i y hi hy ih2
            subst hy
            have hpl := hto.par_lt hi
            refine r_iload (pc := 34) C dX10_isTip_34 rfl ?_
            refine r_aload_n (pc := 36) C dX10_isTip_36 rfl ?_
            refine r_iload (pc := 37) C dX10_isTip_37 rfl ?_
            refine r_callV (pc := 39) C (mv_parentsOf hV1 ho140) iX10_parentsOf ml_RX10_182 dX10_isTip_39 (ci := 11) rfl rfl hV1.1.1 rfl (by decide) rfl (by simp [cv, Value.category, va_rf]) (by omega) (by omega) (fun r39 S39 h39 => ?_)
            obtain ⟨rfl, e39⟩ := h39
            subst S39
            dsimp only [Option.toList, List.cons_append, List.nil_append]
            refine r_icmp_ge (pc := 42) (tgt := 79) C dX10_isTip_42 (by decide) (fun c42 => ?_) (fun c42 => ?_)
            · exact absurd c42 (nI_ge hi (by omega))
            · refine r_iload (pc := 45) C dX10_isTip_45 rfl ?_
              refine r_if_ne (pc := 47) (tgt := 66) C dX10_isTip_47 (by decide) (fun c47 => ?_) (fun c47 => ?_)
              · rw [bi_0] at c47
                refine r_iconst (pc := 66) C (nI 1) dX10_isTip_66 rfl ?_
                refine r_goto (pc := 67) (tgt := 71) C dX10_isTip_67 (by decide) ?_
                refine r_istore (pc := 71) C dX10_isTip_71 (by decide) rfl ?_
                refine r_iinc (pc := 73) C _ dX10_isTip_73 rfl (nI_1 _) (by decide) rfl ?_
                refine r_goto (pc := 76) (tgt := 34) C dX10_isTip_76 (by decide) ?_
                refine r_lv C [(0, vr (some mo)), (1, vi (nI t)), (2, vi (bi true)), (3, vi (nI k)), (4, vi (nI o)), (5, vi _), (6, vi (nI (i + 1)))] rfl (ih2 _ ?_)
                simp only [anyU]
                generalize anyU (fun i => decide (par M n o i = t)) i = q at *
                cases q <;> simp_all [bi_t, bi_f]
              · rw [bi_0] at c47
                refine r_aload_n (pc := 50) C dX10_isTip_50 rfl ?_
                refine r_aload_n (pc := 51) C dX10_isTip_51 rfl ?_
                refine r_iload (pc := 52) C dX10_isTip_52 rfl ?_
                refine r_iload (pc := 54) C dX10_isTip_54 rfl ?_
                refine r_callV (pc := 56) C (mv_parentId hV1 ho140 (by omega)) iX10_parentId ml_RX10_224 dX10_isTip_56 (ci := 11) rfl rfl hV1.1.1 rfl (by decide) rfl (by simp [cv, Value.category, va_rf]) (by omega) (by omega) (fun r56 S56 h56 => ?_)
                obtain ⟨rfl, e56⟩ := h56
                subst S56
                dsimp only [Option.toList, List.cons_append, List.nil_append]
                refine r_callV (pc := 59) C (mv_findS hV1 (hto.2.1 i hi)) iX10_find ml_RX10_198 dX10_isTip_59 (ci := 11) rfl rfl hV1.1.1 rfl (by decide) rfl (by simp [cv, Value.category, va_rf]) (by omega) (by omega) (fun r59 S59 h59 => ?_)
                obtain ⟨rfl, e59⟩ := h59
                subst S59
                dsimp only [Option.toList, List.cons_append, List.nil_append]
                refine r_iload_n (pc := 62) C dX10_isTip_62 rfl ?_
                refine r_icmp_ne (pc := 63) (tgt := 70) C dX10_isTip_63 (by decide) (fun c63 => ?_) (fun c63 => ?_)
                · have c63 := mt (nI_eq (by omega) (by omega)).mpr c63
                  refine r_iconst (pc := 70) C (nI 0) dX10_isTip_70 rfl ?_
                  refine r_istore (pc := 71) C dX10_isTip_71 (by decide) rfl ?_
                  refine r_iinc (pc := 73) C _ dX10_isTip_73 rfl (nI_1 _) (by decide) rfl ?_
                  refine r_goto (pc := 76) (tgt := 34) C dX10_isTip_76 (by decide) ?_
                  refine r_lv C [(0, vr (some mo)), (1, vi (nI t)), (2, vi (bi true)), (3, vi (nI k)), (4, vi (nI o)), (5, vi _), (6, vi (nI (i + 1)))] rfl (ih2 _ ?_)
                  simp only [anyU]
                  generalize anyU (fun i => decide (par M n o i = t)) i = q at *
                  cases q <;> simp_all [bi_t, bi_f]
                · have c63 := (nI_eq (by omega) (by omega)).mp c63
                  refine r_iconst (pc := 66) C (nI 1) dX10_isTip_66 rfl ?_
                  refine r_goto (pc := 67) (tgt := 71) C dX10_isTip_67 (by decide) ?_
                  refine r_istore (pc := 71) C dX10_isTip_71 (by decide) rfl ?_
                  refine r_iinc (pc := 73) C _ dX10_isTip_73 rfl (nI_1 _) (by decide) rfl ?_
                  refine r_goto (pc := 76) (tgt := 34) C dX10_isTip_76 (by decide) ?_
                  refine r_lv C [(0, vr (some mo)), (1, vi (nI t)), (2, vi (bi true)), (3, vi (nI k)), (4, vi (nI o)), (5, vi _), (6, vi (nI (i + 1)))] rfl (ih2 _ ?_)
                  simp only [anyU]
                  generalize anyU (fun i => decide (par M n o i = t)) i = q at *
                  cases q <;> simp_all [bi_t, bi_f]
        refine r_iload_n (pc := 8) C dX10_isTip_8 rfl ?_
        refine r_aload_n (pc := 9) C dX10_isTip_9 rfl ?_
        refine r_mh (pc := 10) C hV1 dX10_isTip_10 fx_RX10_43 ?_
        refine r_icmp_ge (pc := 13) (tgt := 105) C dX10_isTip_13 (by decide) (fun c13 => ?_) (fun c13 => ?_)
        · exact absurd c13 (nI_ge hk (by omega))
        · refine r_iload_n (pc := 16) C dX10_isTip_16 rfl ?_
          refine r_if_eq (pc := 17) (tgt := 105) C dX10_isTip_17 (by decide) (fun c17 => ?_) (fun c17 => ?_)
          · exact absurd c17 (by decide)
          · refine r_aload_n (pc := 20) C dX10_isTip_20 rfl ?_
            refine r_mA (pc := 21) C hV1 dX10_isTip_21 fx_RX10_40 (len := 140) (by decide) ?_
            refine r_iload_n (pc := 24) C dX10_isTip_24 rfl ?_
            refine r_mL (pc := 25) C hV1 dX10_isTip_25 (k := 16) (len := 140) (by decide) (by decide) (by decide) (by omega) (by decide) ?_
            rw [e16]
            refine r_istore (pc := 26) C dX10_isTip_26 (by decide) rfl ?_
            refine r_iconst (pc := 28) C (nI 0) dX10_isTip_28 rfl ?_
            refine r_istore (pc := 29) C dX10_isTip_29 (by decide) rfl ?_
            refine r_iconst (pc := 31) C (nI 0) dX10_isTip_31 rfl ?_
            refine r_istore (pc := 32) C dX10_isTip_32 (by decide) rfl ?_
            exact r_lv C [(0, vr (some mo)), (1, vi (nI t)), (2, vi (bi true)), (3, vi (nI k)), (4, vi (nI o)), (5, vi (bi false)), (6, vi (nI 0))] rfl (L2 0 _ (by omega) rfl)
  refine r_aload_n (pc := 0) C dX10_isTip_0 rfl ?_
  refine r_iload_n (pc := 1) C dX10_isTip_1 rfl ?_
  refine r_callV (pc := 2) C (cm_isStrong hV (hQ t ht hht).1 (hQ t ht hht).2) iX10_isStrong ml_RX10_286 dX10_isTip_2 (ci := 11) rfl rfl hV.1.1 rfl (by decide) rfl (by simp [cv, Value.category, va_rf]) (by omega) (by omega) (fun r2 S2 h2 => ?_)
  obtain ⟨rfl, hCr, hV2⟩ := h2
  have hC2 := hC0.trk hCr
  dsimp only [Option.toList, List.cons_append, List.nil_append]
  refine r_istore_n (pc := 5) C dX10_isTip_5 (by decide) rfl ?_
  refine r_iconst (pc := 6) C (nI 0) dX10_isTip_6 rfl ?_
  refine r_istore_n (pc := 7) C dX10_isTip_7 (by decide) rfl ?_
  exact r_lv C [(0, vr (some mo)), (1, vi (nI t)), (2, vi _), (3, vi (nI 0))] rfl (L 0 _ _ (by omega) ⟨by simp only [allU, Bool.and_true], hC2, hV2⟩)
theorem cm_tip {b : Nat} (hV : MV S mo M n h) (hQ : Hq M n h) (hH : ∀ k, k < h → hv M (hdN M k) = true) (hb : b < 1000) : Sp l g mX10_tip 0 0 [vr (some mo), vi (nI b)] S (fun r S' => r = some (vi (tipV M n h b)) ∧ Gch S S' mo (Gs S mo) ∧ MV S' mo M n h) := by
  have hC0 : Gch S S mo (Gs S mo) := Gc.rf
  have hG := hV.G
  have hn2 := hG.1
  have hh2 := hG.2.1
  generalize hv0 : tipV M n h b = v
  refine Sp.start (own := RX10) [(0, vr (some mo)), (1, vi (nI b))] (by decide +kernel) rfl rfl (Nat.le_of_ble_eq_true rfl) ?_
  intro J C
  have L : ∀ k (c : Nat) S1, (k ≤ h ∧ c ≤ b ∧ tpS (fun k => tipB M n h (hdN M k)) k (b - c) = tpS (fun k => tipB M n h (hdN M k)) h b ∧ Gch S S1 mo (Gs S mo) ∧ MV S1 mo M n h) → J 9 [(0, vr (some mo)), (1, vi (nI b)), (2, vi (nI c)), (3, vi (nI k - 1))] [] S1 0 0 := by
    refine dn2 _ _ ?_ ?_
    · intro c S1 hS
      obtain ⟨-, -, he, hC1, hV1⟩ := hS
      refine r_iload_n (pc := 9) C dX10_tip_9 rfl ?_
      refine r_if_lt (pc := 10) (tgt := 52) C dX10_tip_10 (by decide) (fun c10 => ?_) (fun c10 => ?_)
      · refine r_iconst (pc := 52) C (-1) dX10_tip_52 rfl ?_
        refine r_iret (pc := 53) C dX10_tip_53 rfl (by omega) (by omega) ?_
        exact ⟨by rw [← hv0]; simp only [tipV]; rw [← he]; rfl, hC1, hV1⟩
      · exact absurd (by decide) c10
    · intro k c S1 hS ih
      obtain ⟨hk, hcb, he, hC1, hV1⟩ := hS
      obtain ⟨e16, hto⟩ := hG.2.2.2 k hk
      have hon := hto.1
      rw [nI_pred]
      refine r_iload_n (pc := 9) C dX10_tip_9 rfl ?_
      refine r_if_lt (pc := 10) (tgt := 52) C dX10_tip_10 (by decide) (fun c10 => ?_) (fun c10 => ?_)
      · exact absurd c10 (nI_pos (by omega))
      · refine r_aload_n (pc := 13) C dX10_tip_13 rfl ?_
        refine r_aload_n (pc := 14) C dX10_tip_14 rfl ?_
        refine r_mA (pc := 15) C hV1 dX10_tip_15 fx_RX10_40 (len := 140) (by decide) ?_
        refine r_iload_n (pc := 18) C dX10_tip_18 rfl ?_
        refine r_mL (pc := 19) C hV1 dX10_tip_19 (k := 16) (len := 140) (by decide) (by decide) (by decide) (by omega) (by decide) ?_
        rw [e16]
        refine r_callV (pc := 20) C (cm_isTip hV1 hQ hH hon (hH k hk)) iX10_isTip ml_RX10_331 dX10_tip_20 (ci := 11) rfl rfl hV1.1.1 rfl (by decide) rfl (by simp [cv, Value.category, va_rf]) (by omega) (by omega) (fun r20 S20 h20 => ?_)
        obtain ⟨rfl, hCr, hV20⟩ := h20
        have hC20 := hC1.trk hCr
        dsimp only [Option.toList, List.cons_append, List.nil_append]
        refine r_if_eq (pc := 23) (tgt := 46) C dX10_tip_23 (by decide) (fun c23 => ?_) (fun c23 => ?_)
        · rw [bi_0] at c23
          have hnx : tpS (fun k => tipB M n h (hdN M k)) k (b - c) = tpS (fun k => tipB M n h (hdN M k)) h b := by rw [← he]; simp only [tpS, c23, Bool.false_eq_true, if_false]
          refine r_iinc (pc := 46) C (nI k - 1) dX10_tip_46 rfl (dec1 _) (by decide) rfl ?_
          refine r_goto (pc := 49) (tgt := 9) C dX10_tip_49 (by decide) ?_
          first
            | exact r_lv C [(0, vr (some mo)), (1, vi (nI b)), (2, vi (nI c)), (3, vi (nI k - 1))] rfl (ih c _ ⟨by omega, hcb, hnx, hC20, hV20⟩)
            | exact r_lv C [(0, vr (some mo)), (1, vi (nI b)), (2, vi (nI (c + 1))), (3, vi (nI k - 1))] rfl (ih (c + 1) _ ⟨by omega, by omega, hnx2, hC20, hV20⟩)
        · rw [bi_0] at c23
          have c23t := ts_nf c23
          refine r_iload_n (pc := 26) C dX10_tip_26 rfl ?_
          refine r_iload_n (pc := 27) C dX10_tip_27 rfl ?_
          refine r_icmp_ne (pc := 28) (tgt := 43) C dX10_tip_28 (by decide) (fun c28 => ?_) (fun c28 => ?_)
          · have c28n := mt (nI_eq (a := c) (b := b) (by omega) (by omega)).mpr c28
            have hnx2 : tpS (fun k => tipB M n h (hdN M k)) k (b - (c + 1)) = tpS (fun k => tipB M n h (hdN M k)) h b := by rw [← he]; simp only [tpS, c23t, if_true]; rw [if_neg (by omega), Nat.sub_sub]
            refine r_iinc (pc := 43) C _ dX10_tip_43 rfl (nI_1 _) (by decide) rfl ?_
            refine r_iinc (pc := 46) C (nI k - 1) dX10_tip_46 rfl (dec1 _) (by decide) rfl ?_
            refine r_goto (pc := 49) (tgt := 9) C dX10_tip_49 (by decide) ?_
            first
              | exact r_lv C [(0, vr (some mo)), (1, vi (nI b)), (2, vi (nI c)), (3, vi (nI k - 1))] rfl (ih c _ ⟨by omega, hcb, hnx, hC20, hV20⟩)
              | exact r_lv C [(0, vr (some mo)), (1, vi (nI b)), (2, vi (nI (c + 1))), (3, vi (nI k - 1))] rfl (ih (c + 1) _ ⟨by omega, by omega, hnx2, hC20, hV20⟩)
          · have c28e := (nI_eq (by omega) (by omega)).mp c28
            have hfi : tpS (fun k => tipB M n h (hdN M k)) h b = some k := by rw [← he]; simp only [tpS, c23t, if_true]; rw [if_pos (by omega)]
            refine r_aload_n (pc := 31) C dX10_tip_31 rfl ?_
            refine r_mA (pc := 32) C hV20 dX10_tip_32 fx_RX10_20 (len := 140) (by decide) ?_
            refine r_aload_n (pc := 35) C dX10_tip_35 rfl ?_
            refine r_mA (pc := 36) C hV20 dX10_tip_36 fx_RX10_40 (len := 140) (by decide) ?_
            refine r_iload_n (pc := 39) C dX10_tip_39 rfl ?_
            refine r_mL (pc := 40) C hV20 dX10_tip_40 (k := 16) (len := 140) (by decide) (by decide) (by decide) (by omega) (by decide) ?_
            rw [e16]
            refine r_mL (pc := 41) C hV20 dX10_tip_41 (k := 10) (len := 140) (by decide) (by decide) (by decide) (by omega) (by decide) ?_
            refine r_iret (pc := 42) C dX10_tip_42 rfl (by omega) (by omega) ?_
            refine ⟨?_, hC20, hV20⟩
            rw [← hv0]
            simp only [tipV, hfi]
            rfl
  refine r_iconst (pc := 0) C (nI 0) dX10_tip_0 rfl ?_
  refine r_istore_n (pc := 1) C dX10_tip_1 (by decide) rfl ?_
  refine r_aload_n (pc := 2) C dX10_tip_2 rfl ?_
  refine r_mh (pc := 3) C hV dX10_tip_3 fx_RX10_43 ?_
  refine r_iconst (pc := 6) C (nI 1) dX10_tip_6 rfl ?_
  refine r_isub (pc := 7) C dX10_tip_7 ?_
  refine r_istore_n (pc := 8) C dX10_tip_8 (by decide) rfl ?_
  exact r_lv C [(0, vr (some mo)), (1, vi (nI b)), (2, vi (nI 0)), (3, vi (nI h - 1))] rfl (L h 0 S ⟨by omega, by omega, rfl, hC0, hV⟩)
theorem cm_isEarlier {t i : Nat} (hV : MV S mo M n h) (ht : t < n) (hi : i < 4) : Sp l g mX10_isEarlier 0 0 [vr (some mo), vi (nI t), vi (nI i)] S (fun r S' => r = some (vi (bi (ear M t i))) ∧ S' = S) := by
  have hC0 : Gch S S mo (Gs S mo) := Gc.rf
  have hG := hV.G
  have hn2 := hG.1
  refine Sp.start (own := RX10) [(0, vr (some mo)), (1, vi (nI t)), (2, vi (nI i))] (by decide +kernel) rfl rfl (Nat.le_of_ble_eq_true rfl) ?_
  intro J C
  have L : ∀ w x, w ≤ t + 1 → (1 ≤ w ∧ x = bi (anyU (fun w => earJ M t i w (nP (M 11) w)) w)) → J 5 [(0, vr (some mo)), (1, vi (nI t)), (2, vi (nI i)), (3, vi x), (4, vi (nI w))] [] S 0 0 := by
    refine up_loop _ _ _ ?_ ?_
    · intro x hx
      refine r_iload (pc := 5) C dX10_isEarlier_5 rfl ?_
      refine r_iload_n (pc := 7) C dX10_isEarlier_7 rfl ?_
      refine r_icmp_gt (pc := 8) (tgt := 87) C dX10_isEarlier_8 (by decide) (fun c8 => ?_) (fun c8 => ?_)
      · refine r_iload_n (pc := 87) C dX10_isEarlier_87 rfl ?_
        refine r_zret (pc := 88) C dX10_isEarlier_88 rfl (by rw [hx.2]; exact bi_01 _) (by omega) (by omega) ?_
        exact ⟨by rw [hx.2]; rfl, rfl⟩
      · exact absurd (nI_lt (show t < t + 1 by omega) (by omega)) c8
    · intro w x hw hx ih
      obtain ⟨hw1, hx⟩ := hx
      have hwn : w < n := by omega
      have hp4 := (hV.R hwn).2.1
      have L2 : ∀ j y, j ≤ nP (M 11) w → y = bi (anyU (fun w => earJ M t i w (nP (M 11) w)) w || earJ M t i w j) → J 14 [(0, vr (some mo)), (1, vi (nI t)), (2, vi (nI i)), (3, vi y), (4, vi (nI w)), (5, vi (nI j))] [] S 0 0 := by
        refine up_loop _ _ _ ?_ ?_
        · intro y hy
          refine r_iload (pc := 14) C dX10_isEarlier_14 rfl ?_
          refine r_aload_n (pc := 16) C dX10_isEarlier_16 rfl ?_
          refine r_iload (pc := 17) C dX10_isEarlier_17 rfl ?_
          refine r_callV (pc := 19) C (mv_parentsOf hV (by omega)) iX10_parentsOf ml_RX10_182 dX10_isEarlier_19 (ci := 11) rfl rfl hV.1.1 rfl (by decide) rfl (by simp [cv, Value.category, va_rf]) (by omega) (by omega) (fun r19 S19 h19 => ?_)
          obtain ⟨rfl, e19⟩ := h19
          subst S19
          dsimp only [Option.toList, List.cons_append, List.nil_append]
          refine r_icmp_ge (pc := 22) (tgt := 81) C dX10_isEarlier_22 (by decide) (fun c22 => ?_) (fun c22 => ?_)
          · refine r_iinc (pc := 81) C _ dX10_isEarlier_81 rfl (nI_1 _) (by decide) rfl ?_
            refine r_goto (pc := 84) (tgt := 5) C dX10_isEarlier_84 (by decide) ?_
            exact r_lv C [(0, vr (some mo)), (1, vi (nI t)), (2, vi (nI i)), (3, vi y), (4, vi (nI (w + 1)))] rfl (ih _ ⟨by omega, by rw [hy]; rfl⟩)
          · exact absurd (Int32.le_refl _) c22
        · intro j y hj hy ih2
          subst hy
          refine r_iload (pc := 14) C dX10_isEarlier_14 rfl ?_
          refine r_aload_n (pc := 16) C dX10_isEarlier_16 rfl ?_
          refine r_iload (pc := 17) C dX10_isEarlier_17 rfl ?_
          refine r_callV (pc := 19) C (mv_parentsOf hV (by omega)) iX10_parentsOf ml_RX10_182 dX10_isEarlier_19 (ci := 11) rfl rfl hV.1.1 rfl (by decide) rfl (by simp [cv, Value.category, va_rf]) (by omega) (by omega) (fun r19 S19 h19 => ?_)
          obtain ⟨rfl, e19⟩ := h19
          subst S19
          dsimp only [Option.toList, List.cons_append, List.nil_append]
          refine r_icmp_ge (pc := 22) (tgt := 81) C dX10_isEarlier_22 (by decide) (fun c22 => ?_) (fun c22 => ?_)
          · exact absurd c22 (nI_ge hj (by omega))
          · refine r_iload_n (pc := 25) C dX10_isEarlier_25 rfl ?_
            refine r_if_ne (pc := 26) (tgt := 69) C dX10_isEarlier_26 (by decide) (fun c26 => ?_) (fun c26 => ?_)
            · rw [bi_0] at c26
              refine r_iconst (pc := 69) C (nI 1) dX10_isEarlier_69 rfl ?_
              refine r_goto (pc := 70) (tgt := 74) C dX10_isEarlier_70 (by decide) ?_
              refine r_istore_n (pc := 74) C dX10_isEarlier_74 (by decide) rfl ?_
              refine r_iinc (pc := 75) C _ dX10_isEarlier_75 rfl (nI_1 _) (by decide) rfl ?_
              refine r_goto (pc := 78) (tgt := 14) C dX10_isEarlier_78 (by decide) ?_
              refine r_lv C [(0, vr (some mo)), (1, vi (nI t)), (2, vi (nI i)), (3, vi _), (4, vi (nI w)), (5, vi (nI (j + 1)))] rfl (ih2 _ ?_)
              simp only [earJ, anyU] at *
              generalize anyU (fun w => anyU (fun j => decide (M 13 w = nI 1) && (decide (w < t) || decide (j < i)) && decide (pid (M 11) w j = pid (M 11) t i)) (nP (M 11) w)) w = q at *
              generalize anyU (fun j => decide (M 13 w = nI 1) && (decide (w < t) || decide (j < i)) && decide (pid (M 11) w j = pid (M 11) t i)) j = q2 at *
              cases q <;> cases q2 <;> simp_all [bi_t, bi_f] <;> (rw [decide_eq_false (show ¬ w < t by omega), decide_eq_false (show ¬ j < i by omega)]; rfl)
            · rw [bi_0] at c26
              refine r_aload_n (pc := 29) C dX10_isEarlier_29 rfl ?_
              refine r_mA (pc := 30) C hV dX10_isEarlier_30 fx_RX10_30 (len := 140) (by decide) ?_
              refine r_iload (pc := 33) C dX10_isEarlier_33 rfl ?_
              refine r_mL (pc := 35) C hV dX10_isEarlier_35 (k := 13) (len := 140) (by decide) (by decide) (by decide) (by omega) (by decide) ?_
              refine r_iconst (pc := 36) C (nI 1) dX10_isEarlier_36 rfl ?_
              refine r_icmp_ne (pc := 37) (tgt := 73) C dX10_isEarlier_37 (by decide) (fun c37 => ?_) (fun c37 => ?_)
              · refine r_iconst (pc := 73) C (nI 0) dX10_isEarlier_73 rfl ?_
                refine r_istore_n (pc := 74) C dX10_isEarlier_74 (by decide) rfl ?_
                refine r_iinc (pc := 75) C _ dX10_isEarlier_75 rfl (nI_1 _) (by decide) rfl ?_
                refine r_goto (pc := 78) (tgt := 14) C dX10_isEarlier_78 (by decide) ?_
                refine r_lv C [(0, vr (some mo)), (1, vi (nI t)), (2, vi (nI i)), (3, vi _), (4, vi (nI w)), (5, vi (nI (j + 1)))] rfl (ih2 _ ?_)
                simp only [earJ, anyU] at *
                generalize anyU (fun w => anyU (fun j => decide (M 13 w = nI 1) && (decide (w < t) || decide (j < i)) && decide (pid (M 11) w j = pid (M 11) t i)) (nP (M 11) w)) w = q at *
                generalize anyU (fun j => decide (M 13 w = nI 1) && (decide (w < t) || decide (j < i)) && decide (pid (M 11) w j = pid (M 11) t i)) j = q2 at *
                cases q <;> cases q2 <;> simp_all [bi_t, bi_f] <;> (rw [decide_eq_false (show ¬ w < t by omega), decide_eq_false (show ¬ j < i by omega)]; rfl)
              · refine r_iload (pc := 40) C dX10_isEarlier_40 rfl ?_
                refine r_iload_n (pc := 42) C dX10_isEarlier_42 rfl ?_
                refine r_icmp_lt (pc := 43) (tgt := 52) C dX10_isEarlier_43 (by decide) (fun c43 => ?_) (fun c43 => ?_)
                · rw [nI_ltI (by omega) (by omega)] at c43
                  refine r_aload_n (pc := 52) C dX10_isEarlier_52 rfl ?_
                  refine r_iload (pc := 53) C dX10_isEarlier_53 rfl ?_
                  refine r_iload (pc := 55) C dX10_isEarlier_55 rfl ?_
                  refine r_callV (pc := 57) C (mv_parentId hV (by omega) (by omega)) iX10_parentId ml_RX10_224 dX10_isEarlier_57 (ci := 11) rfl rfl hV.1.1 rfl (by decide) rfl (by simp [cv, Value.category, va_rf]) (by omega) (by omega) (fun r57 S57 h57 => ?_)
                  obtain ⟨rfl, e57⟩ := h57
                  subst S57
                  dsimp only [Option.toList, List.cons_append, List.nil_append]
                  refine r_aload_n (pc := 60) C dX10_isEarlier_60 rfl ?_
                  refine r_iload_n (pc := 61) C dX10_isEarlier_61 rfl ?_
                  refine r_iload_n (pc := 62) C dX10_isEarlier_62 rfl ?_
                  refine r_callV (pc := 63) C (mv_parentId hV (by omega) hi) iX10_parentId ml_RX10_224 dX10_isEarlier_63 (ci := 11) rfl rfl hV.1.1 rfl (by decide) rfl (by simp [cv, Value.category, va_rf]) (by omega) (by omega) (fun r63 S63 h63 => ?_)
                  obtain ⟨rfl, e63⟩ := h63
                  subst S63
                  dsimp only [Option.toList, List.cons_append, List.nil_append]
                  refine r_icmp_ne (pc := 66) (tgt := 73) C dX10_isEarlier_66 (by decide) (fun c66 => ?_) (fun c66 => ?_)
                  · refine r_iconst (pc := 73) C (nI 0) dX10_isEarlier_73 rfl ?_
                    refine r_istore_n (pc := 74) C dX10_isEarlier_74 (by decide) rfl ?_
                    refine r_iinc (pc := 75) C _ dX10_isEarlier_75 rfl (nI_1 _) (by decide) rfl ?_
                    refine r_goto (pc := 78) (tgt := 14) C dX10_isEarlier_78 (by decide) ?_
                    refine r_lv C [(0, vr (some mo)), (1, vi (nI t)), (2, vi (nI i)), (3, vi _), (4, vi (nI w)), (5, vi (nI (j + 1)))] rfl (ih2 _ ?_)
                    simp only [earJ, anyU] at *
                    generalize anyU (fun w => anyU (fun j => decide (M 13 w = nI 1) && (decide (w < t) || decide (j < i)) && decide (pid (M 11) w j = pid (M 11) t i)) (nP (M 11) w)) w = q at *
                    generalize anyU (fun j => decide (M 13 w = nI 1) && (decide (w < t) || decide (j < i)) && decide (pid (M 11) w j = pid (M 11) t i)) j = q2 at *
                    cases q <;> cases q2 <;> simp_all [bi_t, bi_f] <;> (rw [decide_eq_false (show ¬ w < t by omega), decide_eq_false (show ¬ j < i by omega)]; rfl)
                  · refine r_iconst (pc := 69) C (nI 1) dX10_isEarlier_69 rfl ?_
                    refine r_goto (pc := 70) (tgt := 74) C dX10_isEarlier_70 (by decide) ?_
                    refine r_istore_n (pc := 74) C dX10_isEarlier_74 (by decide) rfl ?_
                    refine r_iinc (pc := 75) C _ dX10_isEarlier_75 rfl (nI_1 _) (by decide) rfl ?_
                    refine r_goto (pc := 78) (tgt := 14) C dX10_isEarlier_78 (by decide) ?_
                    refine r_lv C [(0, vr (some mo)), (1, vi (nI t)), (2, vi (nI i)), (3, vi _), (4, vi (nI w)), (5, vi (nI (j + 1)))] rfl (ih2 _ ?_)
                    simp only [earJ, anyU] at *
                    generalize anyU (fun w => anyU (fun j => decide (M 13 w = nI 1) && (decide (w < t) || decide (j < i)) && decide (pid (M 11) w j = pid (M 11) t i)) (nP (M 11) w)) w = q at *
                    generalize anyU (fun j => decide (M 13 w = nI 1) && (decide (w < t) || decide (j < i)) && decide (pid (M 11) w j = pid (M 11) t i)) j = q2 at *
                    cases q <;> cases q2 <;> simp_all [bi_t, bi_f] <;> (rw [decide_eq_false (show ¬ w < t by omega), decide_eq_false (show ¬ j < i by omega)]; rfl)
                · rw [nI_ltI (by omega) (by omega)] at c43
                  refine r_iload (pc := 46) C dX10_isEarlier_46 rfl ?_
                  refine r_iload_n (pc := 48) C dX10_isEarlier_48 rfl ?_
                  refine r_icmp_ge (pc := 49) (tgt := 73) C dX10_isEarlier_49 (by decide) (fun c49 => ?_) (fun c49 => ?_)
                  · rw [nI_leI (by omega) (by omega)] at c49
                    have c49n : ¬ j < i := by omega
                    refine r_iconst (pc := 73) C (nI 0) dX10_isEarlier_73 rfl ?_
                    refine r_istore_n (pc := 74) C dX10_isEarlier_74 (by decide) rfl ?_
                    refine r_iinc (pc := 75) C _ dX10_isEarlier_75 rfl (nI_1 _) (by decide) rfl ?_
                    refine r_goto (pc := 78) (tgt := 14) C dX10_isEarlier_78 (by decide) ?_
                    refine r_lv C [(0, vr (some mo)), (1, vi (nI t)), (2, vi (nI i)), (3, vi _), (4, vi (nI w)), (5, vi (nI (j + 1)))] rfl (ih2 _ ?_)
                    simp only [earJ, anyU] at *
                    generalize anyU (fun w => anyU (fun j => decide (M 13 w = nI 1) && (decide (w < t) || decide (j < i)) && decide (pid (M 11) w j = pid (M 11) t i)) (nP (M 11) w)) w = q at *
                    generalize anyU (fun j => decide (M 13 w = nI 1) && (decide (w < t) || decide (j < i)) && decide (pid (M 11) w j = pid (M 11) t i)) j = q2 at *
                    cases q <;> cases q2 <;> simp_all [bi_t, bi_f] <;> (rw [decide_eq_false (show ¬ w < t by omega), decide_eq_false (show ¬ j < i by omega)]; rfl)
                  · rw [nI_leI (by omega) (by omega)] at c49
                    have c49p : j < i := by omega
                    refine r_aload_n (pc := 52) C dX10_isEarlier_52 rfl ?_
                    refine r_iload (pc := 53) C dX10_isEarlier_53 rfl ?_
                    refine r_iload (pc := 55) C dX10_isEarlier_55 rfl ?_
                    refine r_callV (pc := 57) C (mv_parentId hV (by omega) (by omega)) iX10_parentId ml_RX10_224 dX10_isEarlier_57 (ci := 11) rfl rfl hV.1.1 rfl (by decide) rfl (by simp [cv, Value.category, va_rf]) (by omega) (by omega) (fun r57 S57 h57 => ?_)
                    obtain ⟨rfl, e57⟩ := h57
                    subst S57
                    dsimp only [Option.toList, List.cons_append, List.nil_append]
                    refine r_aload_n (pc := 60) C dX10_isEarlier_60 rfl ?_
                    refine r_iload_n (pc := 61) C dX10_isEarlier_61 rfl ?_
                    refine r_iload_n (pc := 62) C dX10_isEarlier_62 rfl ?_
                    refine r_callV (pc := 63) C (mv_parentId hV (by omega) hi) iX10_parentId ml_RX10_224 dX10_isEarlier_63 (ci := 11) rfl rfl hV.1.1 rfl (by decide) rfl (by simp [cv, Value.category, va_rf]) (by omega) (by omega) (fun r63 S63 h63 => ?_)
                    obtain ⟨rfl, e63⟩ := h63
                    subst S63
                    dsimp only [Option.toList, List.cons_append, List.nil_append]
                    refine r_icmp_ne (pc := 66) (tgt := 73) C dX10_isEarlier_66 (by decide) (fun c66 => ?_) (fun c66 => ?_)
                    · refine r_iconst (pc := 73) C (nI 0) dX10_isEarlier_73 rfl ?_
                      refine r_istore_n (pc := 74) C dX10_isEarlier_74 (by decide) rfl ?_
                      refine r_iinc (pc := 75) C _ dX10_isEarlier_75 rfl (nI_1 _) (by decide) rfl ?_
                      refine r_goto (pc := 78) (tgt := 14) C dX10_isEarlier_78 (by decide) ?_
                      refine r_lv C [(0, vr (some mo)), (1, vi (nI t)), (2, vi (nI i)), (3, vi _), (4, vi (nI w)), (5, vi (nI (j + 1)))] rfl (ih2 _ ?_)
                      simp only [earJ, anyU] at *
                      generalize anyU (fun w => anyU (fun j => decide (M 13 w = nI 1) && (decide (w < t) || decide (j < i)) && decide (pid (M 11) w j = pid (M 11) t i)) (nP (M 11) w)) w = q at *
                      generalize anyU (fun j => decide (M 13 w = nI 1) && (decide (w < t) || decide (j < i)) && decide (pid (M 11) w j = pid (M 11) t i)) j = q2 at *
                      cases q <;> cases q2 <;> simp_all [bi_t, bi_f] <;> (rw [decide_eq_false (show ¬ w < t by omega), decide_eq_false (show ¬ j < i by omega)]; rfl)
                    · refine r_iconst (pc := 69) C (nI 1) dX10_isEarlier_69 rfl ?_
                      refine r_goto (pc := 70) (tgt := 74) C dX10_isEarlier_70 (by decide) ?_
                      refine r_istore_n (pc := 74) C dX10_isEarlier_74 (by decide) rfl ?_
                      refine r_iinc (pc := 75) C _ dX10_isEarlier_75 rfl (nI_1 _) (by decide) rfl ?_
                      refine r_goto (pc := 78) (tgt := 14) C dX10_isEarlier_78 (by decide) ?_
                      refine r_lv C [(0, vr (some mo)), (1, vi (nI t)), (2, vi (nI i)), (3, vi _), (4, vi (nI w)), (5, vi (nI (j + 1)))] rfl (ih2 _ ?_)
                      simp only [earJ, anyU] at *
                      generalize anyU (fun w => anyU (fun j => decide (M 13 w = nI 1) && (decide (w < t) || decide (j < i)) && decide (pid (M 11) w j = pid (M 11) t i)) (nP (M 11) w)) w = q at *
                      generalize anyU (fun j => decide (M 13 w = nI 1) && (decide (w < t) || decide (j < i)) && decide (pid (M 11) w j = pid (M 11) t i)) j = q2 at *
                      cases q <;> cases q2 <;> simp_all [bi_t, bi_f] <;> (rw [decide_eq_false (show ¬ w < t by omega), decide_eq_false (show ¬ j < i by omega)]; rfl)
      refine r_iload (pc := 5) C dX10_isEarlier_5 rfl ?_
      refine r_iload_n (pc := 7) C dX10_isEarlier_7 rfl ?_
      refine r_icmp_gt (pc := 8) (tgt := 87) C dX10_isEarlier_8 (by decide) (fun c8 => ?_) (fun c8 => ?_)
      · exact absurd c8 (nI_nlt (by omega) (by omega))
      · refine r_iconst (pc := 11) C (nI 0) dX10_isEarlier_11 rfl ?_
        refine r_istore (pc := 12) C dX10_isEarlier_12 (by decide) rfl ?_
        exact r_lv C [(0, vr (some mo)), (1, vi (nI t)), (2, vi (nI i)), (3, vi x), (4, vi (nI w)), (5, vi (nI 0))] rfl (L2 0 _ (by omega) (by rw [hx]; simp [earJ, anyU]))
  refine r_iconst (pc := 0) C (nI 0) dX10_isEarlier_0 rfl ?_
  refine r_istore_n (pc := 1) C dX10_isEarlier_1 (by decide) rfl ?_
  refine r_iconst (pc := 2) C (nI 1) dX10_isEarlier_2 rfl ?_
  refine r_istore (pc := 3) C dX10_isEarlier_3 (by decide) rfl ?_
  exact r_lv C [(0, vr (some mo)), (1, vi (nI t)), (2, vi (nI i)), (3, vi (bi false)), (4, vi (nI 1))] rfl (L 1 _ (by omega) ⟨by omega, by simp [anyU, earJ, nP]⟩)
theorem cm_missing {b : Nat} (hV : MV S mo M n h) (hn1 : 1 ≤ n) (hb : b < 2 ^ 31) : Sp l g mX10_missing 0 0 [vr (some mo), vi (nI b)] S (fun r S' => r = some (vi (miV M n b)) ∧ S' = S) := by
  have hC0 : Gch S S mo (Gs S mo) := Gc.rf
  have hG := hV.G
  have hn2 := hG.1
  refine Sp.start (own := RX10) [(0, vr (some mo)), (1, vi (nI b))] (by decide +kernel) rfl rfl (Nat.le_of_ble_eq_true rfl) ?_
  intro J C
  have L : ∀ t (c : Nat), t ≤ n → (1 ≤ t ∧ c ≤ b ∧ miO M n b t = .inl c) → J 4 [(0, vr (some mo)), (1, vi (nI b)), (2, vi (nI c)), (3, vi (nI t))] [] S 0 0 := by
    refine up_loop _ _ _ ?_ ?_
    · intro c hc
      refine r_iload_n (pc := 4) C dX10_missing_4 rfl ?_
      refine r_aload_n (pc := 5) C dX10_missing_5 rfl ?_
      refine r_mn (pc := 6) C hV dX10_missing_6 fx_RX10_16 ?_
      refine r_icmp_ge (pc := 9) (tgt := 86) C dX10_missing_9 (by decide) (fun c9 => ?_) (fun c9 => ?_)
      · refine r_iconst (pc := 86) C (-1) dX10_missing_86 rfl ?_
        refine r_iret (pc := 87) C dX10_missing_87 rfl (by omega) (by omega) ?_
        exact ⟨by simp only [miV, hc.2.2], rfl⟩
      · exact absurd (Int32.le_refl _) c9
    · intro t c ht hc ih
      obtain ⟨ht1, hcb, hmo⟩ := hc
      have hp4 := (hV.R ht).2.1
      have L2 : ∀ i (d : Nat), i ≤ nP (M 11) t → (d ≤ b ∧ miI M n t c i = .inl d) → J 15 [(0, vr (some mo)), (1, vi (nI b)), (2, vi (nI d)), (3, vi (nI t)), (4, vi (nI i))] [] S 0 0 := by
        refine up_loop _ _ _ ?_ ?_
        · intro d hd
          refine r_iload (pc := 15) C dX10_missing_15 rfl ?_
          refine r_aload_n (pc := 17) C dX10_missing_17 rfl ?_
          refine r_iload_n (pc := 18) C dX10_missing_18 rfl ?_
          refine r_callV (pc := 19) C (mv_parentsOf hV (by omega)) iX10_parentsOf ml_RX10_182 dX10_missing_19 (ci := 11) rfl rfl hV.1.1 rfl (by decide) rfl (by simp [cv, Value.category, va_rf]) (by omega) (by omega) (fun r19 S19 h19 => ?_)
          obtain ⟨rfl, e19⟩ := h19
          subst S19
          dsimp only [Option.toList, List.cons_append, List.nil_append]
          refine r_icmp_ge (pc := 22) (tgt := 80) C dX10_missing_22 (by decide) (fun c22 => ?_) (fun c22 => ?_)
          · refine r_iinc (pc := 80) C _ dX10_missing_80 rfl (nI_1 _) (by decide) rfl ?_
            refine r_goto (pc := 83) (tgt := 4) C dX10_missing_83 (by decide) ?_
            exact r_lv C [(0, vr (some mo)), (1, vi (nI b)), (2, vi (nI d)), (3, vi (nI (t + 1)))] rfl (ih _ ⟨by omega, hd.1, by simp only [miO, hmo]; exact hd.2⟩)
          · exact absurd (Int32.le_refl _) c22
        · intro i d hi hd ih2
          obtain ⟨hdb, hmi⟩ := hd
          have hfl : ∀ u, fdo (M 10) (pid (M 11) t i) n = some u → u < 1000 := fun u hu => by have := fdo_lt u hu; omega
          have hno : ∀ q : Bool, misQ M n t i = q → miI M n t c (i + 1) = if q then (if d = 0 then .inr (pid (M 11) t i) else .inl (d - 1)) else .inl d := fun q hq => by simp only [miI, hmi, hq]
          refine r_iload (pc := 15) C dX10_missing_15 rfl ?_
          refine r_aload_n (pc := 17) C dX10_missing_17 rfl ?_
          refine r_iload_n (pc := 18) C dX10_missing_18 rfl ?_
          refine r_callV (pc := 19) C (mv_parentsOf hV (by omega)) iX10_parentsOf ml_RX10_182 dX10_missing_19 (ci := 11) rfl rfl hV.1.1 rfl (by decide) rfl (by simp [cv, Value.category, va_rf]) (by omega) (by omega) (fun r19 S19 h19 => ?_)
          obtain ⟨rfl, e19⟩ := h19
          subst S19
          dsimp only [Option.toList, List.cons_append, List.nil_append]
          refine r_icmp_ge (pc := 22) (tgt := 80) C dX10_missing_22 (by decide) (fun c22 => ?_) (fun c22 => ?_)
          · exact absurd c22 (nI_ge hi (by omega))
          · refine r_aload_n (pc := 25) C dX10_missing_25 rfl ?_
            refine r_mA (pc := 26) C hV dX10_missing_26 fx_RX10_30 (len := 140) (by decide) ?_
            refine r_iload_n (pc := 29) C dX10_missing_29 rfl ?_
            refine r_mL (pc := 30) C hV dX10_missing_30 (k := 13) (len := 140) (by decide) (by decide) (by decide) (by omega) (by decide) ?_
            refine r_iconst (pc := 31) C (nI 1) dX10_missing_31 rfl ?_
            refine r_icmp_ne (pc := 32) (tgt := 74) C dX10_missing_32 (by decide) (fun c32 => ?_) (fun c32 => ?_)
            · have hq := hno false (by simp only [misQ, decide_eq_false c32, Bool.false_and])
              refine r_iinc (pc := 74) C _ dX10_missing_74 rfl (nI_1 _) (by decide) rfl ?_
              refine r_goto (pc := 77) (tgt := 15) C dX10_missing_77 (by decide) ?_
              first
                | exact r_lv C [(0, vr (some mo)), (1, vi (nI b)), (2, vi (nI d)), (3, vi (nI t)), (4, vi (nI (i + 1)))] rfl (ih2 d ⟨hdb, by rw [hq]; rfl⟩)
                | exact r_lv C [(0, vr (some mo)), (1, vi (nI b)), (2, vi (nI d')), (3, vi (nI t)), (4, vi (nI (i + 1)))] rfl (ih2 d' ⟨by omega, by rw [hq2, if_pos rfl, if_neg (by omega)]; rfl⟩)
            · refine r_aload_n (pc := 35) C dX10_missing_35 rfl ?_
              refine r_aload_n (pc := 36) C dX10_missing_36 rfl ?_
              refine r_iload_n (pc := 37) C dX10_missing_37 rfl ?_
              refine r_iload (pc := 38) C dX10_missing_38 rfl ?_
              refine r_callV (pc := 40) C (mv_parentId hV (by omega) (by omega)) iX10_parentId ml_RX10_224 dX10_missing_40 (ci := 11) rfl rfl hV.1.1 rfl (by decide) rfl (by simp [cv, Value.category, va_rf]) (by omega) (by omega) (fun r40 S40 h40 => ?_)
              obtain ⟨rfl, e40⟩ := h40
              subst S40
              dsimp only [Option.toList, List.cons_append, List.nil_append]
              refine r_callV (pc := 43) C (mv_find hV) iX10_find ml_RX10_198 dX10_missing_43 (ci := 11) rfl rfl hV.1.1 rfl (by decide) rfl (by simp [cv, Value.category, va_rf]) (by omega) (by omega) (fun r43 S43 h43 => ?_)
              obtain ⟨rfl, e43⟩ := h43
              subst S43
              dsimp only [Option.toList, List.cons_append, List.nil_append]
              refine r_if_ge (pc := 46) (tgt := 74) C dX10_missing_46 (by decide) (fun c46 => ?_) (fun c46 => ?_)
              · have c46n : ¬ fdo (M 10) (pid (M 11) t i) n = none := fun q => absurd ((oI_lt hfl).mpr q) (Int32.not_lt.mpr c46)
                have hq := hno false (by simp only [misQ, decide_eq_false c46n, Bool.and_false, Bool.false_and])
                refine r_iinc (pc := 74) C _ dX10_missing_74 rfl (nI_1 _) (by decide) rfl ?_
                refine r_goto (pc := 77) (tgt := 15) C dX10_missing_77 (by decide) ?_
                first
                  | exact r_lv C [(0, vr (some mo)), (1, vi (nI b)), (2, vi (nI d)), (3, vi (nI t)), (4, vi (nI (i + 1)))] rfl (ih2 d ⟨hdb, by rw [hq]; rfl⟩)
                  | exact r_lv C [(0, vr (some mo)), (1, vi (nI b)), (2, vi (nI d')), (3, vi (nI t)), (4, vi (nI (i + 1)))] rfl (ih2 d' ⟨by omega, by rw [hq2, if_pos rfl, if_neg (by omega)]; rfl⟩)
              · have c46p := (oI_lt hfl).mp (Int32.not_le.mp c46)
                refine r_aload_n (pc := 49) C dX10_missing_49 rfl ?_
                refine r_iload_n (pc := 50) C dX10_missing_50 rfl ?_
                refine r_iload (pc := 51) C dX10_missing_51 rfl ?_
                refine r_callV (pc := 53) C (cm_isEarlier hV ht (by omega)) iX10_isEarlier ml_RX10_334 dX10_missing_53 (ci := 11) rfl rfl hV.1.1 rfl (by decide) rfl (by simp [cv, Value.category, va_rf]) (by omega) (by omega) (fun r53 S53 h53 => ?_)
                obtain ⟨rfl, e53⟩ := h53
                subst S53
                dsimp only [Option.toList, List.cons_append, List.nil_append]
                refine r_if_ne (pc := 56) (tgt := 74) C dX10_missing_56 (by decide) (fun c56 => ?_) (fun c56 => ?_)
                · rw [bi_0] at c56
                  have hq := hno false (by simp only [misQ, ts_nf c56, Bool.not_true, Bool.and_false])
                  refine r_iinc (pc := 74) C _ dX10_missing_74 rfl (nI_1 _) (by decide) rfl ?_
                  refine r_goto (pc := 77) (tgt := 15) C dX10_missing_77 (by decide) ?_
                  first
                    | exact r_lv C [(0, vr (some mo)), (1, vi (nI b)), (2, vi (nI d)), (3, vi (nI t)), (4, vi (nI (i + 1)))] rfl (ih2 d ⟨hdb, by rw [hq]; rfl⟩)
                    | exact r_lv C [(0, vr (some mo)), (1, vi (nI b)), (2, vi (nI d')), (3, vi (nI t)), (4, vi (nI (i + 1)))] rfl (ih2 d' ⟨by omega, by rw [hq2, if_pos rfl, if_neg (by omega)]; rfl⟩)
                · rw [bi_0] at c56
                  have hq2 := hno true (by simp only [misQ, c56, decide_eq_true c46p, decide_eq_true c32]; rfl)
                  refine r_iload_n (pc := 59) C dX10_missing_59 rfl ?_
                  refine r_if_ne (pc := 60) (tgt := 71) C dX10_missing_60 (by decide) (fun c60 => ?_) (fun c60 => ?_)
                  · have c60n : ¬ d = 0 := fun q => by subst q; exact c60 rfl
                    obtain ⟨d', rfl⟩ : ∃ d', d = d' + 1 := ⟨d - 1, by omega⟩
                    refine r_iinc (pc := 71) C (nI d') dX10_missing_71 rfl (by rw [dec1]; exact nI_pred d') (by decide) rfl ?_
                    refine r_iinc (pc := 74) C _ dX10_missing_74 rfl (nI_1 _) (by decide) rfl ?_
                    refine r_goto (pc := 77) (tgt := 15) C dX10_missing_77 (by decide) ?_
                    first
                      | exact r_lv C [(0, vr (some mo)), (1, vi (nI b)), (2, vi (nI d)), (3, vi (nI t)), (4, vi (nI (i + 1)))] rfl (ih2 d ⟨hdb, by rw [hq]; rfl⟩)
                      | exact r_lv C [(0, vr (some mo)), (1, vi (nI b)), (2, vi (nI d')), (3, vi (nI t)), (4, vi (nI (i + 1)))] rfl (ih2 d' ⟨by omega, by rw [hq2, if_pos rfl, if_neg (by omega)]; rfl⟩)
                  · have c60p : d = 0 := (nI_eq (b := 0) (by omega) (by omega)).mp c60
                    refine r_aload_n (pc := 63) C dX10_missing_63 rfl ?_
                    refine r_iload_n (pc := 64) C dX10_missing_64 rfl ?_
                    refine r_iload (pc := 65) C dX10_missing_65 rfl ?_
                    refine r_callV (pc := 67) C (mv_parentId hV (by omega) (by omega)) iX10_parentId ml_RX10_224 dX10_missing_67 (ci := 11) rfl rfl hV.1.1 rfl (by decide) rfl (by simp [cv, Value.category, va_rf]) (by omega) (by omega) (fun r67 S67 h67 => ?_)
                    obtain ⟨rfl, e67⟩ := h67
                    subst S67
                    dsimp only [Option.toList, List.cons_append, List.nil_append]
                    refine r_iret (pc := 70) C dX10_missing_70 rfl (by omega) (by omega) ?_
                    refine ⟨?_, rfl⟩
                    rw [if_pos rfl, if_pos c60p] at hq2
                    have e1 := miI_r hq2 (nP (M 11) t) (by omega)
                    have e2 : miO M n b (t + 1) = .inr (pid (M 11) t i) := by simp only [miO, hmo]; exact e1
                    have e3 := miO_r e2 n (by omega)
                    simp only [miV, e3]
      refine r_iload_n (pc := 4) C dX10_missing_4 rfl ?_
      refine r_aload_n (pc := 5) C dX10_missing_5 rfl ?_
      refine r_mn (pc := 6) C hV dX10_missing_6 fx_RX10_16 ?_
      refine r_icmp_ge (pc := 9) (tgt := 86) C dX10_missing_9 (by decide) (fun c9 => ?_) (fun c9 => ?_)
      · exact absurd c9 (nI_ge ht (by omega))
      · refine r_iconst (pc := 12) C (nI 0) dX10_missing_12 rfl ?_
        refine r_istore (pc := 13) C dX10_missing_13 (by decide) rfl ?_
        exact r_lv C [(0, vr (some mo)), (1, vi (nI b)), (2, vi (nI c)), (3, vi (nI t)), (4, vi (nI 0))] rfl (L2 0 c (by omega) ⟨hcb, rfl⟩)
  refine r_iload_n (pc := 0) C dX10_missing_0 rfl ?_
  refine r_istore_n (pc := 1) C dX10_missing_1 (by decide) rfl ?_
  refine r_iconst (pc := 2) C (nI 1) dX10_missing_2 rfl ?_
  refine r_istore_n (pc := 3) C dX10_missing_3 (by decide) rfl ?_
  exact r_lv C [(0, vr (some mo)), (1, vi (nI b)), (2, vi (nI b)), (3, vi (nI 1))] rfl (L 1 b hn1 ⟨by omega, by omega, by simp [miO, nP, miI]⟩)
theorem cm_listed {w i : Int32} {a : Nat} (hX : MX S mo M F G X n h) (hQ : Hq M n h) (hH : ∀ k, k < h → hv M (hdN M k) = true) (hn1 : 1 ≤ n) (ha : G 19 = nI a) (ha2 : a ≤ 140) (hA : Acc M n a) : Sp l g mX10_listed 0 0 [vr (some mo), vi w, vi i] S (fun r S' => r = some (vi (lsR M n h a w i)) ∧ MX S' mo M F (upd G 0 (nI 0)) X n h ∧ Rf S S' mo) := by
  have hV := hX.V
  have hC0 : Gch S S mo (Gs S mo) := Gc.rf
  rw [hX.gg] at hC0
  have hn2 := hV.G.1
  generalize hRR : lsR M n h a w i = R
  by_cases hi : i < 0
  · have e : -1 = R := by rw [← hRR]; simp only [lsR]; rw [if_pos hi]
    subst e
    refine Sp.start (own := RX10) [(0, vr (some mo)), (1, vi w), (2, vi i)] (by decide +kernel) rfl rfl (Nat.le_of_ble_eq_true rfl) ?_
    intro J C
    refine r_aload_n (pc := 0) C dX10_listed_0 rfl ?_
    refine r_iconst (pc := 1) C (nI 0) dX10_listed_1 rfl ?_
    refine r_mP (pc := 2) (k := 0) C hV dX10_listed_2 fx_RX10_145 (fp_11_0 _) (by decide) (fun S2 hC2 hV2 => ?_)
    have hC2r := hC2
    have hC2 := hC0.trs hC2
    refine r_iload_n (pc := 5) C dX10_listed_5 rfl ?_
    refine r_if_ge (pc := 6) (tgt := 11) C dX10_listed_6 (by decide) (fun c6 => ?_) (fun c6 => ?_)
    · exact absurd hi (Int32.not_lt.mpr c6)
    · refine r_iconst (pc := 9) C (-1) dX10_listed_9 rfl ?_
      refine r_iret (pc := 10) C dX10_listed_10 rfl (by omega) (by omega) ?_
      exact ⟨rfl, hX.fin0 hC2 hV2⟩
  · obtain ⟨j, hj, rfl⟩ := nI_of hi
    have eR : (if w = 0 then (if nI j < nI 4 then tipV M n h j else -1) else if w = nI 1 then (if nI j < nI a then M 10 (acN M j) else -1) else if w = nI 2 then miV M n j else -1) = R := by
      rw [← hRR]
      simp only [lsR]
      rw [if_neg hi, nI_clamp hj]
    refine Sp.start (own := RX10) [(0, vr (some mo)), (1, vi w), (2, vi (nI j))] (by decide +kernel) rfl rfl (Nat.le_of_ble_eq_true rfl) ?_
    intro J C
    refine r_aload_n (pc := 0) C dX10_listed_0 rfl ?_
    refine r_iconst (pc := 1) C (nI 0) dX10_listed_1 rfl ?_
    refine r_mP (pc := 2) (k := 0) C hV dX10_listed_2 fx_RX10_145 (fp_11_0 _) (by decide) (fun S2 hC2 hV2 => ?_)
    have hC2r := hC2
    have hC2 := hC0.trs hC2
    refine r_iload_n (pc := 5) C dX10_listed_5 rfl ?_
    refine r_if_ge (pc := 6) (tgt := 11) C dX10_listed_6 (by decide) (fun c6 => ?_) (fun c6 => ?_)
    · refine r_iload_n (pc := 11) C dX10_listed_11 rfl ?_
      refine r_if_ne (pc := 12) (tgt := 30) C dX10_listed_12 (by decide) (fun c12 => ?_) (fun c12 => ?_)
      · rw [if_neg c12] at eR
        refine r_iload_n (pc := 30) C dX10_listed_30 rfl ?_
        refine r_iconst (pc := 31) C (nI 1) dX10_listed_31 rfl ?_
        refine r_icmp_ne (pc := 32) (tgt := 59) C dX10_listed_32 (by decide) (fun c32 => ?_) (fun c32 => ?_)
        · rw [if_neg c32] at eR
          refine r_iload_n (pc := 59) C dX10_listed_59 rfl ?_
          refine r_iconst (pc := 60) C (nI 2) dX10_listed_60 rfl ?_
          refine r_icmp_ne (pc := 61) (tgt := 72) C dX10_listed_61 (by decide) (fun c61 => ?_) (fun c61 => ?_)
          · rw [if_neg c61] at eR
            refine r_iconst (pc := 72) C (-1) dX10_listed_72 rfl ?_
            refine r_iret (pc := 73) C dX10_listed_73 rfl (by omega) (by omega) ?_
            exact ⟨by rw [← eR], hX.fin0 hC2 hV2⟩
          · rw [if_pos c61] at eR
            refine r_aload_n (pc := 64) C dX10_listed_64 rfl ?_
            refine r_iload_n (pc := 65) C dX10_listed_65 rfl ?_
            refine r_callV (pc := 66) C (cm_missing hV2 hn1 hj) iX10_missing ml_RX10_340 dX10_listed_66 (ci := 11) rfl rfl hV2.1.1 rfl (by decide) rfl (by simp [cv, Value.category, va_rf]) (by omega) (by omega) (fun r66 S66 h66 => ?_)
            obtain ⟨rfl, e66⟩ := h66
            subst S66
            dsimp only [Option.toList, List.cons_append, List.nil_append]
            refine r_goto (pc := 69) (tgt := 73) C dX10_listed_69 (by decide) ?_
            refine r_iret (pc := 73) C dX10_listed_73 rfl (by omega) (by omega) ?_
            exact ⟨by rw [← eR], hX.fin0 hC2 hV2⟩
        · rw [if_pos c32] at eR
          refine r_iload_n (pc := 35) C dX10_listed_35 rfl ?_
          refine r_aload_n (pc := 36) C dX10_listed_36 rfl ?_
          refine r_mI (pc := 37) (k := 19) C hV2 dX10_listed_37 fx_RX10_49 ?_
          rw [hC2.gs, show upd G 0 (nI 0) 19 = nI a from ha]
          refine r_icmp_ge (pc := 40) (tgt := 57) C dX10_listed_40 (by decide) (fun c40 => ?_) (fun c40 => ?_)
          · rw [if_neg (Int32.not_lt.mpr c40)] at eR
            refine r_iconst (pc := 57) C (-1) dX10_listed_57 rfl ?_
            refine r_iret (pc := 58) C dX10_listed_58 rfl (by omega) (by omega) ?_
            exact ⟨by rw [← eR], hX.fin0 hC2 hV2⟩
          · rw [if_pos (Int32.not_le.mp c40)] at eR
            have c40p := (nI_ltI hj (by omega)).mp (Int32.not_le.mp c40)
            obtain ⟨e18, hac⟩ := hA j c40p
            refine r_aload_n (pc := 43) C dX10_listed_43 rfl ?_
            refine r_mA (pc := 44) C hV2 dX10_listed_44 fx_RX10_20 (len := 140) (by decide) ?_
            refine r_aload_n (pc := 47) C dX10_listed_47 rfl ?_
            refine r_mA (pc := 48) C hV2 dX10_listed_48 fx_RX10_46 (len := 140) (by decide) ?_
            refine r_iload_n (pc := 51) C dX10_listed_51 rfl ?_
            refine r_mL (pc := 52) C hV2 dX10_listed_52 (k := 18) (len := 140) (by decide) (by decide) (by decide) (by omega) (by decide) ?_
            rw [e18]
            refine r_mL (pc := 53) C hV2 dX10_listed_53 (k := 10) (len := 140) (by decide) (by decide) (by decide) (by omega) (by decide) ?_
            refine r_goto (pc := 54) (tgt := 58) C dX10_listed_54 (by decide) ?_
            refine r_iret (pc := 58) C dX10_listed_58 rfl (by omega) (by omega) ?_
            exact ⟨by rw [← eR], hX.fin0 hC2 hV2⟩
      · rw [if_pos c12] at eR
        refine r_iload_n (pc := 15) C dX10_listed_15 rfl ?_
        refine r_iconst (pc := 16) C (nI 4) dX10_listed_16 rfl ?_
        refine r_icmp_ge (pc := 17) (tgt := 28) C dX10_listed_17 (by decide) (fun c17 => ?_) (fun c17 => ?_)
        · rw [if_neg (Int32.not_lt.mpr c17)] at eR
          refine r_iconst (pc := 28) C (-1) dX10_listed_28 rfl ?_
          refine r_iret (pc := 29) C dX10_listed_29 rfl (by omega) (by omega) ?_
          exact ⟨by rw [← eR], hX.fin0 hC2 hV2⟩
        · rw [if_pos (Int32.not_le.mp c17)] at eR
          have c17p := (nI_ltI hj (by omega)).mp (Int32.not_le.mp c17)
          refine r_aload_n (pc := 20) C dX10_listed_20 rfl ?_
          refine r_iload_n (pc := 21) C dX10_listed_21 rfl ?_
          refine r_callV (pc := 22) C (cm_tip hV2 hQ hH (by omega)) iX10_tip ml_RX10_337 dX10_listed_22 (ci := 11) rfl rfl hV2.1.1 rfl (by decide) rfl (by simp [cv, Value.category, va_rf]) (by omega) (by omega) (fun r22 S22 h22 => ?_)
          obtain ⟨rfl, hCr, hV22⟩ := h22
          have hC22 := hC2.trk hCr
          dsimp only [Option.toList, List.cons_append, List.nil_append]
          refine r_goto (pc := 25) (tgt := 29) C dX10_listed_25 (by decide) ?_
          refine r_iret (pc := 29) C dX10_listed_29 rfl (by omega) (by omega) ?_
          exact ⟨by rw [← eR], hX.fin0 hC22 hV22⟩
    · exact absurd (Int32.not_lt.mp hi) c6
end Listed
