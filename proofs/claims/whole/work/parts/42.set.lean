/-! The reference: set, byteOf, unspent, count -/
def idO (M : MM) (o : Option Nat) : Int32 := match o with
  | none => -1
  | some u => M 10 u
def latN (M : MM) (s : Nat) : Option Nat := if M 23 s < 0 then none else some (M 23 s).toNatClampNeg
def Lat (M : MM) (n : Nat) : Prop := ∀ s, s < 564 → M 23 s = oI (latN M s) ∧ ∀ u, latN M s = some u → u < n
def stV (M : MM) (n h s w : Nat) : Int32 := match w with
  | 0 => nI (mbs M n h s)
  | 1 => idO M (favN M s)
  | 2 => idO M (latN M s)
  | 3 => M 24 s
  | _ => idO M (acO M n h s)
/-- an index of an output of t -/
def ixo (M : MM) (t : Nat) (ix : Int32) : Option Nat := if ix < 0 ∨ nI (nO (M 11) t) ≤ ix then none else some ix.toNatClampNeg
def stR (M : MM) (n h : Nat) (id ix w : Int32) : Nat × Int32 := match fdo (M 10) id n with
  | none => (1, nI 0)
  | some t => if hv M t then (match ixo M t ix with
    | none => (1, nI 0)
    | some i => if w < 0 ∨ nI 5 ≤ w then (1, nI 0) else (0, stV M n h (onum t i) w.toNatClampNeg)) else (1, nI 0)
def szN (M : MM) (t : Nat) : Nat := (M 12 t).toNatClampNeg
def Sz (M : MM) (n : Nat) : Prop := ∀ t, t < n → M 12 t = nI (szN M t) ∧ szN M t ≤ 55
def byR (M : MM) (n : Nat) (id i : Int32) : Int32 := match fdo (M 10) id n with
  | none => -1
  | some t => if i < 0 ∨ nI (szN M t) ≤ i then -1 else nI (rN (M 11) t i.toNatClampNeg)
def lft (M : MM) (n h t i : Nat) : Int32 := if M 13 t = nI 3 ∧ acO M n h (onum t i) = none then amt (M 11) t i else nI 0
def unR (M : MM) (n h : Nat) (id ix : Int32) : Int32 := match fdo (M 10) id n with
  | none => nI 0
  | some t => if hv M t then (match ixo M t ix with
    | none => nI 0
    | some i => lft M n h t i) else nI 0
def inN (M : MM) (n : Nat) (v : Int32) : Nat := cntU (fun t => decide (M 13 t = v)) n
def acN (M : MM) (i : Nat) : Nat := (M 18 i).toNatClampNeg
def Acc (M : MM) (n a : Nat) : Prop := ∀ i, i < a → M 18 i = nI (acN M i) ∧ acN M i < n
def lfS (M : MM) (n h t : Nat) (s : Int32) : Nat → Int32
  | 0 => s
  | i + 1 => lfS M n h t s i + lft M n h t i
def alS (M : MM) (n h : Nat) : Nat → Int32
  | 0 => nI 0
  | a + 1 => lfS M n h (acN M a) (alS M n h a) (nO (M 11) (acN M a))
def cnV (M F : MM) (G : Nat → Int32) (n h a w : Nat) : Int32 := match w with
  | 0 => nI n
  | 1 => nI (inN M n (nI 1))
  | 2 => nI h
  | 3 => nI a
  | 4 => nI (inN M n (nI 4))
  | 5 => nI (inN M n (nI 5))
  | 6 => nI (opn (F 25))
  | 7 => G 29
  | 8 => G 30
  | 9 => G 8
  | _ => alS M n h a
def cnR (M F : MM) (G : Nat → Int32) (n h a : Nat) (w : Int32) : Int32 := if w < 0 ∨ nI 11 ≤ w then -1 else cnV M F G n h a w.toNatClampNeg
theorem nI_le1 {k : Nat} {w : Int32} (hk : k + 1 < 2 ^ 31) (h : nI (k + 1) ≤ w) : ¬ w ≤ nI k := by
  intro q
  have h1 := Int32.le_iff_toInt_le.mp h
  have h2 := Int32.le_iff_toInt_le.mp q
  rw [nI_toInt hk] at h1
  rw [nI_toInt (by omega)] at h2
  omega
theorem sw_out {w : Int32} {k : Nat} (hk : k + 1 < 2 ^ 31) (h : w < 0 ∨ nI (k + 1) ≤ w) : w.toInt < 0 ∨ (k : Int) < w.toInt := by
  rcases h with h | h
  · exact Or.inl (Int32.lt_iff_toInt_lt.mp h)
  · have h1 := Int32.le_iff_toInt_le.mp h
    rw [nI_toInt hk] at h1
    exact Or.inr (by omega)
theorem ixo_some {M : MM} {t i : Nat} {ix : Int32} (h : ixo M t ix = some i) (ho : nO (M 11) t < 2 ^ 31) : ix = nI i ∧ i < nO (M 11) t := by
  unfold ixo at h
  split at h
  · cases h
  · next e =>
    rcases pk_ix ix ho with h0 | h0 | ⟨j, hj, rfl⟩
    · exact absurd (Or.inl h0) e
    · exact absurd (Or.inr h0) e
    · rw [nI_clamp (by omega)] at h
      cases h
      exact ⟨rfl, hj⟩
section SetP
variable {l : Launch} {g : GG} {S : hS} {mo : Nat} {M F : MM} {G : Nat → Int32} {X : Int64} {n h : Nat} {Post : Option AV → hS → Prop} {J : JJ}
theorem onum_lt (hG : GV M n h) {t i : Nat} (ht : t < n) (hi : i < nO (M 11) t) : onum t i < 564 := by
  obtain ⟨-, -, -, h5, h6⟩ := hG.2.2.1 t ht
  have := hG.1
  unfold onum
  split
  · omega
  · next h0 => have := h6 h0; omega
theorem acO_lt (hG : GV M n h) {s : Nat} : ∀ u, acO M n h s = some u → u < n := by
  intro u hu
  unfold acO at hu
  obtain ⟨k, hk, rfl⟩ := Option.map_eq_some_iff.mp hu
  exact (hG.2.2.2 k (lastU_lt hk).1).2.1
theorem cm_idOf {o : Option Nat} (hV : MV S mo M n h) (ho : ∀ u, o = some u → u < n) : Sp l g mX10_idOf 0 0 [vr (some mo), vi (oI o)] S (fun r S' => r = some (vi (idO M o)) ∧ S' = S) := by
  have hC0 : Gch S S mo (Gs S mo) := Gc.rf
  have hn2 := hV.G.1
  cases o with
  | none =>
    refine Sp.start (own := RX10) [(0, vr (some mo)), (1, vi (-1))] (by decide +kernel) rfl rfl (Nat.le_of_ble_eq_true rfl) ?_
    intro J C
    refine r_iload_n (pc := 0) C dX10_idOf_0 rfl ?_
    refine r_if_ge (pc := 1) (tgt := 8) C dX10_idOf_1 (by decide) (fun c1 => ?_) (fun c1 => ?_)
    · exact absurd c1 (by decide)
    · refine r_iconst (pc := 4) C (-1) dX10_idOf_4 rfl ?_
      refine r_goto (pc := 5) (tgt := 14) C dX10_idOf_5 (by decide) ?_
      refine r_iret (pc := 14) C dX10_idOf_14 rfl (by omega) (by omega) ?_
      exact ⟨rfl, rfl⟩
  | some u =>
    have hu := ho u rfl
    refine Sp.start (own := RX10) [(0, vr (some mo)), (1, vi (nI u))] (by decide +kernel) rfl rfl (Nat.le_of_ble_eq_true rfl) ?_
    intro J C
    refine r_iload_n (pc := 0) C dX10_idOf_0 rfl ?_
    refine r_if_ge (pc := 1) (tgt := 8) C dX10_idOf_1 (by decide) (fun c1 => ?_) (fun c1 => ?_)
    · refine r_aload_n (pc := 8) C dX10_idOf_8 rfl ?_
      refine r_mA (pc := 9) C hV dX10_idOf_9 fx_RX10_20 (len := 140) (by decide) ?_
      refine r_iload_n (pc := 12) C dX10_idOf_12 rfl ?_
      refine r_mL (pc := 13) C hV dX10_idOf_13 (k := 10) (len := 140) (by decide) (by decide) (by decide) (by omega) (by decide) ?_
      refine r_iret (pc := 14) C dX10_idOf_14 rfl (by omega) (by omega) ?_
      exact ⟨rfl, rfl⟩
    · exact absurd (nI_pos' (by omega)) c1
theorem cm_set {id ix w : Int32} (hX : MX S mo M F G X n h) (hFa : Fav M n) (hLa : Lat M n) : Sp l g mX10_set 0 0 [vr (some mo), vi id, vi ix, vi w] S (fun r S' => r = some (vi (stR M n h id ix w).2) ∧ MX S' mo M F (upd G 0 (nI (stR M n h id ix w).1)) X n h ∧ Rf S S' mo) := by
  have hV := hX.V
  have hC0 : Gch S S mo (Gs S mo) := Gc.rf
  rw [hX.gg] at hC0
  have hG := hV.G
  have hn2 := hG.1
  generalize hRR : stR M n h id ix w = R
  cases hf : fdo (M 10) id n with
  | none =>
    have e : (1, nI 0) = R := by rw [← hRR]; simp only [stR, hf]
    subst e
    refine Sp.start (own := RX10) [(0, vr (some mo)), (1, vi id), (2, vi ix), (3, vi w)] (by decide +kernel) rfl rfl (Nat.le_of_ble_eq_true rfl) ?_
    intro J C
    refine r_aload_n (pc := 0) C dX10_set_0 rfl ?_
    refine r_iload_n (pc := 1) C dX10_set_1 rfl ?_
    refine r_callV (pc := 2) C (mv_find hV) iX10_find ml_RX10_198 dX10_set_2 (ci := 11) rfl rfl hV.1.1 rfl (by decide) rfl (by simp [cv, Value.category, va_rf]) (by omega) (by omega) (fun r2 S2 h2 => ?_)
    obtain ⟨rfl, e2⟩ := h2
    subst S2
    dsimp only [Option.toList, List.cons_append, List.nil_append]
    rw [hf]
    refine r_istore (pc := 5) C dX10_set_5 (by decide) rfl ?_
    refine r_aload_n (pc := 7) C dX10_set_7 rfl ?_
    refine r_aload_n (pc := 8) C dX10_set_8 rfl ?_
    refine r_iload (pc := 9) C dX10_set_9 rfl ?_
    refine r_callV (pc := 11) C (cm_isHeld (o := none) hV (fun u hu => by cases hu)) iX10_isHeld ml_RX10_283 dX10_set_11 (ci := 11) rfl rfl hV.1.1 rfl (by decide) rfl (by simp [cv, Value.category, va_rf]) (by omega) (by omega) (fun r11 S11 h11 => ?_)
    obtain ⟨rfl, e11⟩ := h11
    subst S11
    dsimp only [Option.toList, List.cons_append, List.nil_append]
    refine r_if_eq (pc := 14) (tgt := 40) C dX10_set_14 (by decide) (fun c14 => ?_) (fun c14 => ?_)
    · refine r_iconst (pc := 40) C (nI 1) dX10_set_40 rfl ?_
      refine r_goto (pc := 41) (tgt := 45) C dX10_set_41 (by decide) ?_
      refine r_mP (pc := 45) (k := 0) C hV dX10_set_45 fx_RX10_145 (fp_11_0 _) (by decide) (fun S45 hC45 hV45 => ?_)
      have hC45r := hC45
      have hC45 := hC0.trs hC45
      refine r_aload_n (pc := 48) C dX10_set_48 rfl ?_
      refine r_mI (pc := 49) (k := 0) C hV45 dX10_set_49 fx_RX10_145 ?_
      rw [show Gs _ mo 0 = nI 1 from by rw [hC45.gs]; rfl]
      refine r_if_le (pc := 52) (tgt := 57) C dX10_set_52 (by decide) (fun c52 => ?_) (fun c52 => ?_)
      · exact absurd c52 (by decide)
      · refine r_iconst (pc := 55) C (nI 0) dX10_set_55 rfl ?_
        refine r_iret (pc := 56) C dX10_set_56 rfl (by omega) (by omega) ?_
        exact ⟨rfl, hX.fin0 hC45 hV45⟩
    · exact absurd (show bi (hvo M none) = 0 from rfl) c14
  | some t =>
    have htn := fdo_lt t hf
    have ho8 := (hV.R htn).2.2.2.1
    cases hh : hv M t with
    | false =>
      have e : (1, nI 0) = R := by rw [← hRR]; simp only [stR, hf, hh, Bool.false_eq_true, if_false]
      subst e
      refine Sp.start (own := RX10) [(0, vr (some mo)), (1, vi id), (2, vi ix), (3, vi w)] (by decide +kernel) rfl rfl (Nat.le_of_ble_eq_true rfl) ?_
      intro J C
      refine r_aload_n (pc := 0) C dX10_set_0 rfl ?_
      refine r_iload_n (pc := 1) C dX10_set_1 rfl ?_
      refine r_callV (pc := 2) C (mv_findS hV hf) iX10_find ml_RX10_198 dX10_set_2 (ci := 11) rfl rfl hV.1.1 rfl (by decide) rfl (by simp [cv, Value.category, va_rf]) (by omega) (by omega) (fun r2 S2 h2 => ?_)
      obtain ⟨rfl, e2⟩ := h2
      subst S2
      dsimp only [Option.toList, List.cons_append, List.nil_append]
      refine r_istore (pc := 5) C dX10_set_5 (by decide) rfl ?_
      refine r_aload_n (pc := 7) C dX10_set_7 rfl ?_
      refine r_aload_n (pc := 8) C dX10_set_8 rfl ?_
      refine r_iload (pc := 9) C dX10_set_9 rfl ?_
      refine r_callV (pc := 11) C (cm_isHeld (o := some t) hV (fun u hu => by cases hu; exact htn)) iX10_isHeld ml_RX10_283 dX10_set_11 (ci := 11) rfl rfl hV.1.1 rfl (by decide) rfl (by simp [cv, Value.category, va_rf]) (by omega) (by omega) (fun r11 S11 h11 => ?_)
      obtain ⟨rfl, e11⟩ := h11
      subst S11
      dsimp only [Option.toList, List.cons_append, List.nil_append]
      rw [show hvo M (some t) = false from hh]
      refine r_if_eq (pc := 14) (tgt := 40) C dX10_set_14 (by decide) (fun c14 => ?_) (fun c14 => ?_)
      · refine r_iconst (pc := 40) C (nI 1) dX10_set_40 rfl ?_
        refine r_goto (pc := 41) (tgt := 45) C dX10_set_41 (by decide) ?_
        refine r_mP (pc := 45) (k := 0) C hV dX10_set_45 fx_RX10_145 (fp_11_0 _) (by decide) (fun S45 hC45 hV45 => ?_)
        have hC45r := hC45
        have hC45 := hC0.trs hC45
        refine r_aload_n (pc := 48) C dX10_set_48 rfl ?_
        refine r_mI (pc := 49) (k := 0) C hV45 dX10_set_49 fx_RX10_145 ?_
        rw [show Gs _ mo 0 = nI 1 from by rw [hC45.gs]; rfl]
        refine r_if_le (pc := 52) (tgt := 57) C dX10_set_52 (by decide) (fun c52 => ?_) (fun c52 => ?_)
        · exact absurd c52 (by decide)
        · refine r_iconst (pc := 55) C (nI 0) dX10_set_55 rfl ?_
          refine r_iret (pc := 56) C dX10_set_56 rfl (by omega) (by omega) ?_
          exact ⟨rfl, hX.fin0 hC45 hV45⟩
      · exact absurd (show bi false = 0 from rfl) c14
    | true =>
      cases hi : ixo M t ix with
      | none =>
        have e : (1, nI 0) = R := by rw [← hRR]; simp only [stR, hf, hh, hi, if_true]
        subst e
        have hi2 : ix < 0 ∨ nI (nO (M 11) t) ≤ ix := by
          unfold ixo at hi
          split at hi
          · assumption
          · cases hi
        refine Sp.start (own := RX10) [(0, vr (some mo)), (1, vi id), (2, vi ix), (3, vi w)] (by decide +kernel) rfl rfl (Nat.le_of_ble_eq_true rfl) ?_
        intro J C
        refine r_aload_n (pc := 0) C dX10_set_0 rfl ?_
        refine r_iload_n (pc := 1) C dX10_set_1 rfl ?_
        refine r_callV (pc := 2) C (mv_findS hV hf) iX10_find ml_RX10_198 dX10_set_2 (ci := 11) rfl rfl hV.1.1 rfl (by decide) rfl (by simp [cv, Value.category, va_rf]) (by omega) (by omega) (fun r2 S2 h2 => ?_)
        obtain ⟨rfl, e2⟩ := h2
        subst S2
        dsimp only [Option.toList, List.cons_append, List.nil_append]
        refine r_istore (pc := 5) C dX10_set_5 (by decide) rfl ?_
        refine r_aload_n (pc := 7) C dX10_set_7 rfl ?_
        refine r_aload_n (pc := 8) C dX10_set_8 rfl ?_
        refine r_iload (pc := 9) C dX10_set_9 rfl ?_
        refine r_callV (pc := 11) C (cm_isHeld (o := some t) hV (fun u hu => by cases hu; exact htn)) iX10_isHeld ml_RX10_283 dX10_set_11 (ci := 11) rfl rfl hV.1.1 rfl (by decide) rfl (by simp [cv, Value.category, va_rf]) (by omega) (by omega) (fun r11 S11 h11 => ?_)
        obtain ⟨rfl, e11⟩ := h11
        subst S11
        dsimp only [Option.toList, List.cons_append, List.nil_append]
        rw [show hvo M (some t) = true from hh]
        refine r_if_eq (pc := 14) (tgt := 40) C dX10_set_14 (by decide) (fun c14 => ?_) (fun c14 => ?_)
        · exact absurd c14 (by decide)
        · refine r_iload_n (pc := 17) C dX10_set_17 rfl ?_
          refine r_if_lt (pc := 18) (tgt := 40) C dX10_set_18 (by decide) (fun c18 => ?_) (fun c18 => ?_)
          · refine r_iconst (pc := 40) C (nI 1) dX10_set_40 rfl ?_
            refine r_goto (pc := 41) (tgt := 45) C dX10_set_41 (by decide) ?_
            refine r_mP (pc := 45) (k := 0) C hV dX10_set_45 fx_RX10_145 (fp_11_0 _) (by decide) (fun S45 hC45 hV45 => ?_)
            have hC45r := hC45
            have hC45 := hC0.trs hC45
            refine r_aload_n (pc := 48) C dX10_set_48 rfl ?_
            refine r_mI (pc := 49) (k := 0) C hV45 dX10_set_49 fx_RX10_145 ?_
            rw [show Gs _ mo 0 = nI 1 from by rw [hC45.gs]; rfl]
            refine r_if_le (pc := 52) (tgt := 57) C dX10_set_52 (by decide) (fun c52 => ?_) (fun c52 => ?_)
            · exact absurd c52 (by decide)
            · refine r_iconst (pc := 55) C (nI 0) dX10_set_55 rfl ?_
              refine r_iret (pc := 56) C dX10_set_56 rfl (by omega) (by omega) ?_
              exact ⟨rfl, hX.fin0 hC45 hV45⟩
          · refine r_iload_n (pc := 21) C dX10_set_21 rfl ?_
            refine r_aload_n (pc := 22) C dX10_set_22 rfl ?_
            refine r_iload (pc := 23) C dX10_set_23 rfl ?_
            refine r_callV (pc := 25) C (mv_outputsOf hV htn) iX10_outputsOf ml_RX10_245 dX10_set_25 (ci := 11) rfl rfl hV.1.1 rfl (by decide) rfl (by simp [cv, Value.category, va_rf]) (by omega) (by omega) (fun r25 S25 h25 => ?_)
            obtain ⟨rfl, e25⟩ := h25
            subst S25
            dsimp only [Option.toList, List.cons_append, List.nil_append]
            refine r_icmp_ge (pc := 28) (tgt := 40) C dX10_set_28 (by decide) (fun c28 => ?_) (fun c28 => ?_)
            · refine r_iconst (pc := 40) C (nI 1) dX10_set_40 rfl ?_
              refine r_goto (pc := 41) (tgt := 45) C dX10_set_41 (by decide) ?_
              refine r_mP (pc := 45) (k := 0) C hV dX10_set_45 fx_RX10_145 (fp_11_0 _) (by decide) (fun S45 hC45 hV45 => ?_)
              have hC45r := hC45
              have hC45 := hC0.trs hC45
              refine r_aload_n (pc := 48) C dX10_set_48 rfl ?_
              refine r_mI (pc := 49) (k := 0) C hV45 dX10_set_49 fx_RX10_145 ?_
              rw [show Gs _ mo 0 = nI 1 from by rw [hC45.gs]; rfl]
              refine r_if_le (pc := 52) (tgt := 57) C dX10_set_52 (by decide) (fun c52 => ?_) (fun c52 => ?_)
              · exact absurd c52 (by decide)
              · refine r_iconst (pc := 55) C (nI 0) dX10_set_55 rfl ?_
                refine r_iret (pc := 56) C dX10_set_56 rfl (by omega) (by omega) ?_
                exact ⟨rfl, hX.fin0 hC45 hV45⟩
            · exact hi2.elim (fun q => absurd q c18) (fun q => absurd q c28)
      | some i =>
        obtain ⟨rfl, hio⟩ := ixo_some hi (by omega)
        have hon := onum_lt hG htn hio
        rcases pk_ix w (n := 5) (by omega) with h0 | h0 | ⟨j, hj, rfl⟩
        · have e : (1, nI 0) = R := by rw [← hRR]; simp only [stR, hf, hh, hi, if_true]; rw [if_pos (Or.inl h0)]
          subst e
          refine Sp.start (own := RX10) [(0, vr (some mo)), (1, vi id), (2, vi (nI i)), (3, vi w)] (by decide +kernel) rfl rfl (Nat.le_of_ble_eq_true rfl) ?_
          intro J C
          refine r_aload_n (pc := 0) C dX10_set_0 rfl ?_
          refine r_iload_n (pc := 1) C dX10_set_1 rfl ?_
          refine r_callV (pc := 2) C (mv_findS hV hf) iX10_find ml_RX10_198 dX10_set_2 (ci := 11) rfl rfl hV.1.1 rfl (by decide) rfl (by simp [cv, Value.category, va_rf]) (by omega) (by omega) (fun r2 S2 h2 => ?_)
          obtain ⟨rfl, e2⟩ := h2
          subst S2
          dsimp only [Option.toList, List.cons_append, List.nil_append]
          refine r_istore (pc := 5) C dX10_set_5 (by decide) rfl ?_
          refine r_aload_n (pc := 7) C dX10_set_7 rfl ?_
          refine r_aload_n (pc := 8) C dX10_set_8 rfl ?_
          refine r_iload (pc := 9) C dX10_set_9 rfl ?_
          refine r_callV (pc := 11) C (cm_isHeld (o := some t) hV (fun u hu => by cases hu; exact htn)) iX10_isHeld ml_RX10_283 dX10_set_11 (ci := 11) rfl rfl hV.1.1 rfl (by decide) rfl (by simp [cv, Value.category, va_rf]) (by omega) (by omega) (fun r11 S11 h11 => ?_)
          obtain ⟨rfl, e11⟩ := h11
          subst S11
          dsimp only [Option.toList, List.cons_append, List.nil_append]
          rw [show hvo M (some t) = true from hh]
          refine r_if_eq (pc := 14) (tgt := 40) C dX10_set_14 (by decide) (fun c14 => ?_) (fun c14 => ?_)
          · exact absurd c14 (by decide)
          · refine r_iload_n (pc := 17) C dX10_set_17 rfl ?_
            refine r_if_lt (pc := 18) (tgt := 40) C dX10_set_18 (by decide) (fun c18 => ?_) (fun c18 => ?_)
            · exact absurd c18 (nI_pos (by omega))
            · refine r_iload_n (pc := 21) C dX10_set_21 rfl ?_
              refine r_aload_n (pc := 22) C dX10_set_22 rfl ?_
              refine r_iload (pc := 23) C dX10_set_23 rfl ?_
              refine r_callV (pc := 25) C (mv_outputsOf hV htn) iX10_outputsOf ml_RX10_245 dX10_set_25 (ci := 11) rfl rfl hV.1.1 rfl (by decide) rfl (by simp [cv, Value.category, va_rf]) (by omega) (by omega) (fun r25 S25 h25 => ?_)
              obtain ⟨rfl, e25⟩ := h25
              subst S25
              dsimp only [Option.toList, List.cons_append, List.nil_append]
              refine r_icmp_ge (pc := 28) (tgt := 40) C dX10_set_28 (by decide) (fun c28 => ?_) (fun c28 => ?_)
              · exact absurd c28 (nI_ge hio (by omega))
              · refine r_iload_n (pc := 31) C dX10_set_31 rfl ?_
                refine r_if_lt (pc := 32) (tgt := 40) C dX10_set_32 (by decide) (fun c32 => ?_) (fun c32 => ?_)
                · refine r_iconst (pc := 40) C (nI 1) dX10_set_40 rfl ?_
                  refine r_goto (pc := 41) (tgt := 45) C dX10_set_41 (by decide) ?_
                  refine r_mP (pc := 45) (k := 0) C hV dX10_set_45 fx_RX10_145 (fp_11_0 _) (by decide) (fun S45 hC45 hV45 => ?_)
                  have hC45r := hC45
                  have hC45 := hC0.trs hC45
                  refine r_aload_n (pc := 48) C dX10_set_48 rfl ?_
                  refine r_mI (pc := 49) (k := 0) C hV45 dX10_set_49 fx_RX10_145 ?_
                  rw [show Gs _ mo 0 = nI 1 from by rw [hC45.gs]; rfl]
                  refine r_if_le (pc := 52) (tgt := 57) C dX10_set_52 (by decide) (fun c52 => ?_) (fun c52 => ?_)
                  · exact absurd c52 (by decide)
                  · refine r_iconst (pc := 55) C (nI 0) dX10_set_55 rfl ?_
                    refine r_iret (pc := 56) C dX10_set_56 rfl (by omega) (by omega) ?_
                    exact ⟨rfl, hX.fin0 hC45 hV45⟩
                · exact absurd h0 c32
        · have e : (1, nI 0) = R := by rw [← hRR]; simp only [stR, hf, hh, hi, if_true]; rw [if_pos (Or.inr h0)]
          subst e
          refine Sp.start (own := RX10) [(0, vr (some mo)), (1, vi id), (2, vi (nI i)), (3, vi w)] (by decide +kernel) rfl rfl (Nat.le_of_ble_eq_true rfl) ?_
          intro J C
          refine r_aload_n (pc := 0) C dX10_set_0 rfl ?_
          refine r_iload_n (pc := 1) C dX10_set_1 rfl ?_
          refine r_callV (pc := 2) C (mv_findS hV hf) iX10_find ml_RX10_198 dX10_set_2 (ci := 11) rfl rfl hV.1.1 rfl (by decide) rfl (by simp [cv, Value.category, va_rf]) (by omega) (by omega) (fun r2 S2 h2 => ?_)
          obtain ⟨rfl, e2⟩ := h2
          subst S2
          dsimp only [Option.toList, List.cons_append, List.nil_append]
          refine r_istore (pc := 5) C dX10_set_5 (by decide) rfl ?_
          refine r_aload_n (pc := 7) C dX10_set_7 rfl ?_
          refine r_aload_n (pc := 8) C dX10_set_8 rfl ?_
          refine r_iload (pc := 9) C dX10_set_9 rfl ?_
          refine r_callV (pc := 11) C (cm_isHeld (o := some t) hV (fun u hu => by cases hu; exact htn)) iX10_isHeld ml_RX10_283 dX10_set_11 (ci := 11) rfl rfl hV.1.1 rfl (by decide) rfl (by simp [cv, Value.category, va_rf]) (by omega) (by omega) (fun r11 S11 h11 => ?_)
          obtain ⟨rfl, e11⟩ := h11
          subst S11
          dsimp only [Option.toList, List.cons_append, List.nil_append]
          rw [show hvo M (some t) = true from hh]
          refine r_if_eq (pc := 14) (tgt := 40) C dX10_set_14 (by decide) (fun c14 => ?_) (fun c14 => ?_)
          · exact absurd c14 (by decide)
          · refine r_iload_n (pc := 17) C dX10_set_17 rfl ?_
            refine r_if_lt (pc := 18) (tgt := 40) C dX10_set_18 (by decide) (fun c18 => ?_) (fun c18 => ?_)
            · exact absurd c18 (nI_pos (by omega))
            · refine r_iload_n (pc := 21) C dX10_set_21 rfl ?_
              refine r_aload_n (pc := 22) C dX10_set_22 rfl ?_
              refine r_iload (pc := 23) C dX10_set_23 rfl ?_
              refine r_callV (pc := 25) C (mv_outputsOf hV htn) iX10_outputsOf ml_RX10_245 dX10_set_25 (ci := 11) rfl rfl hV.1.1 rfl (by decide) rfl (by simp [cv, Value.category, va_rf]) (by omega) (by omega) (fun r25 S25 h25 => ?_)
              obtain ⟨rfl, e25⟩ := h25
              subst S25
              dsimp only [Option.toList, List.cons_append, List.nil_append]
              refine r_icmp_ge (pc := 28) (tgt := 40) C dX10_set_28 (by decide) (fun c28 => ?_) (fun c28 => ?_)
              · exact absurd c28 (nI_ge hio (by omega))
              · refine r_iload_n (pc := 31) C dX10_set_31 rfl ?_
                refine r_if_lt (pc := 32) (tgt := 40) C dX10_set_32 (by decide) (fun c32 => ?_) (fun c32 => ?_)
                · refine r_iconst (pc := 40) C (nI 1) dX10_set_40 rfl ?_
                  refine r_goto (pc := 41) (tgt := 45) C dX10_set_41 (by decide) ?_
                  refine r_mP (pc := 45) (k := 0) C hV dX10_set_45 fx_RX10_145 (fp_11_0 _) (by decide) (fun S45 hC45 hV45 => ?_)
                  have hC45r := hC45
                  have hC45 := hC0.trs hC45
                  refine r_aload_n (pc := 48) C dX10_set_48 rfl ?_
                  refine r_mI (pc := 49) (k := 0) C hV45 dX10_set_49 fx_RX10_145 ?_
                  rw [show Gs _ mo 0 = nI 1 from by rw [hC45.gs]; rfl]
                  refine r_if_le (pc := 52) (tgt := 57) C dX10_set_52 (by decide) (fun c52 => ?_) (fun c52 => ?_)
                  · exact absurd c52 (by decide)
                  · refine r_iconst (pc := 55) C (nI 0) dX10_set_55 rfl ?_
                    refine r_iret (pc := 56) C dX10_set_56 rfl (by omega) (by omega) ?_
                    exact ⟨rfl, hX.fin0 hC45 hV45⟩
                · refine r_iload_n (pc := 35) C dX10_set_35 rfl ?_
                  refine r_iconst (pc := 36) C (nI 4) dX10_set_36 rfl ?_
                  refine r_icmp_le (pc := 37) (tgt := 44) C dX10_set_37 (by decide) (fun c37 => ?_) (fun c37 => ?_)
                  · exact absurd c37 (nI_le1 (by omega) h0)
                  · refine r_iconst (pc := 40) C (nI 1) dX10_set_40 rfl ?_
                    refine r_goto (pc := 41) (tgt := 45) C dX10_set_41 (by decide) ?_
                    refine r_mP (pc := 45) (k := 0) C hV dX10_set_45 fx_RX10_145 (fp_11_0 _) (by decide) (fun S45 hC45 hV45 => ?_)
                    have hC45r := hC45
                    have hC45 := hC0.trs hC45
                    refine r_aload_n (pc := 48) C dX10_set_48 rfl ?_
                    refine r_mI (pc := 49) (k := 0) C hV45 dX10_set_49 fx_RX10_145 ?_
                    rw [show Gs _ mo 0 = nI 1 from by rw [hC45.gs]; rfl]
                    refine r_if_le (pc := 52) (tgt := 57) C dX10_set_52 (by decide) (fun c52 => ?_) (fun c52 => ?_)
                    · exact absurd c52 (by decide)
                    · refine r_iconst (pc := 55) C (nI 0) dX10_set_55 rfl ?_
                      refine r_iret (pc := 56) C dX10_set_56 rfl (by omega) (by omega) ?_
                      exact ⟨rfl, hX.fin0 hC45 hV45⟩
        · have e : (0, stV M n h (onum t i) j) = R := by rw [← hRR]; simp only [stR, hf, hh, hi, if_true]; rw [if_neg (fun q => q.elim (nI_pos (by omega)) (nI_ge hj (by omega))), nI_clamp (by omega)]
          subst e
          refine Sp.start (own := RX10) [(0, vr (some mo)), (1, vi id), (2, vi (nI i)), (3, vi (nI j))] (by decide +kernel) rfl rfl (Nat.le_of_ble_eq_true rfl) ?_
          intro J C
          have hj5 : j = 0 ∨ j = 1 ∨ j = 2 ∨ j = 3 ∨ j = 4 := by omega
          rcases hj5 with rfl | rfl | rfl | rfl | rfl
          · refine r_aload_n (pc := 0) C dX10_set_0 rfl ?_
            refine r_iload_n (pc := 1) C dX10_set_1 rfl ?_
            refine r_callV (pc := 2) C (mv_findS hV hf) iX10_find ml_RX10_198 dX10_set_2 (ci := 11) rfl rfl hV.1.1 rfl (by decide) rfl (by simp [cv, Value.category, va_rf]) (by omega) (by omega) (fun r2 S2 h2 => ?_)
            obtain ⟨rfl, e2⟩ := h2
            subst S2
            dsimp only [Option.toList, List.cons_append, List.nil_append]
            refine r_istore (pc := 5) C dX10_set_5 (by decide) rfl ?_
            refine r_aload_n (pc := 7) C dX10_set_7 rfl ?_
            refine r_aload_n (pc := 8) C dX10_set_8 rfl ?_
            refine r_iload (pc := 9) C dX10_set_9 rfl ?_
            refine r_callV (pc := 11) C (cm_isHeld (o := some t) hV (fun u hu => by cases hu; exact htn)) iX10_isHeld ml_RX10_283 dX10_set_11 (ci := 11) rfl rfl hV.1.1 rfl (by decide) rfl (by simp [cv, Value.category, va_rf]) (by omega) (by omega) (fun r11 S11 h11 => ?_)
            obtain ⟨rfl, e11⟩ := h11
            subst S11
            dsimp only [Option.toList, List.cons_append, List.nil_append]
            rw [show hvo M (some t) = true from hh]
            refine r_if_eq (pc := 14) (tgt := 40) C dX10_set_14 (by decide) (fun c14 => ?_) (fun c14 => ?_)
            · exact absurd c14 (by decide)
            · refine r_iload_n (pc := 17) C dX10_set_17 rfl ?_
              refine r_if_lt (pc := 18) (tgt := 40) C dX10_set_18 (by decide) (fun c18 => ?_) (fun c18 => ?_)
              · exact absurd c18 (nI_pos (by omega))
              · refine r_iload_n (pc := 21) C dX10_set_21 rfl ?_
                refine r_aload_n (pc := 22) C dX10_set_22 rfl ?_
                refine r_iload (pc := 23) C dX10_set_23 rfl ?_
                refine r_callV (pc := 25) C (mv_outputsOf hV htn) iX10_outputsOf ml_RX10_245 dX10_set_25 (ci := 11) rfl rfl hV.1.1 rfl (by decide) rfl (by simp [cv, Value.category, va_rf]) (by omega) (by omega) (fun r25 S25 h25 => ?_)
                obtain ⟨rfl, e25⟩ := h25
                subst S25
                dsimp only [Option.toList, List.cons_append, List.nil_append]
                refine r_icmp_ge (pc := 28) (tgt := 40) C dX10_set_28 (by decide) (fun c28 => ?_) (fun c28 => ?_)
                · exact absurd c28 (nI_ge hio (by omega))
                · refine r_iload_n (pc := 31) C dX10_set_31 rfl ?_
                  refine r_if_lt (pc := 32) (tgt := 40) C dX10_set_32 (by decide) (fun c32 => ?_) (fun c32 => ?_)
                  · exact absurd c32 (by decide)
                  · refine r_iload_n (pc := 35) C dX10_set_35 rfl ?_
                    refine r_iconst (pc := 36) C (nI 4) dX10_set_36 rfl ?_
                    refine r_icmp_le (pc := 37) (tgt := 44) C dX10_set_37 (by decide) (fun c37 => ?_) (fun c37 => ?_)
                    · refine r_iconst (pc := 44) C (nI 0) dX10_set_44 rfl ?_
                      refine r_mP (pc := 45) (k := 0) C hV dX10_set_45 fx_RX10_145 (fp_11_0 _) (by decide) (fun S45 hC45 hV45 => ?_)
                      have hC45r := hC45
                      have hC45 := hC0.trs hC45
                      refine r_aload_n (pc := 48) C dX10_set_48 rfl ?_
                      refine r_mI (pc := 49) (k := 0) C hV45 dX10_set_49 fx_RX10_145 ?_
                      rw [show Gs _ mo 0 = nI 0 from by rw [hC45.gs]; rfl]
                      refine r_if_le (pc := 52) (tgt := 57) C dX10_set_52 (by decide) (fun c52 => ?_) (fun c52 => ?_)
                      · refine r_iload (pc := 57) C dX10_set_57 rfl ?_
                        refine r_iload_n (pc := 59) C dX10_set_59 rfl ?_
                        refine r_callS (pc := 60) C (cm_number (by omega)) iX10_number ml_RX10_204 dX10_set_60 rfl (by decide) rfl (by simp [cv, Value.category, va_rf]) (by omega) (by omega) (fun r60 S60 h60 => ?_)
                        obtain ⟨rfl, e60⟩ := h60
                        subst S60
                        dsimp only [Option.toList, List.cons_append, List.nil_append]
                        refine r_istore (pc := 63) C dX10_set_63 (by decide) rfl ?_
                        refine r_iload_n (pc := 65) C dX10_set_65 rfl ?_
                        refine r_if_ne (pc := 66) (tgt := 76) C dX10_set_66 (by decide) (fun c66 => ?_) (fun c66 => ?_)
                        · exact absurd (by decide) c66
                        · refine r_aload_n (pc := 69) C dX10_set_69 rfl ?_
                          refine r_iload (pc := 70) C dX10_set_70 rfl ?_
                          refine r_callV (pc := 72) C (cm_membersOf hV45 (by omega)) iX10_membersOf ml_RX10_268 dX10_set_72 (ci := 11) rfl rfl hV45.1.1 rfl (by decide) rfl (by simp [cv, Value.category, va_rf]) (by omega) (by omega) (fun r72 S72 h72 => ?_)
                          obtain ⟨rfl, e72⟩ := h72
                          subst S72
                          dsimp only [Option.toList, List.cons_append, List.nil_append]
                          refine r_iret (pc := 75) C dX10_set_75 rfl (by omega) (by omega) ?_
                          exact ⟨rfl, hX.fin0 hC45 hV45⟩
                      · exact absurd (by decide) c52
                    · exact absurd (by decide) c37
          · refine r_aload_n (pc := 0) C dX10_set_0 rfl ?_
            refine r_iload_n (pc := 1) C dX10_set_1 rfl ?_
            refine r_callV (pc := 2) C (mv_findS hV hf) iX10_find ml_RX10_198 dX10_set_2 (ci := 11) rfl rfl hV.1.1 rfl (by decide) rfl (by simp [cv, Value.category, va_rf]) (by omega) (by omega) (fun r2 S2 h2 => ?_)
            obtain ⟨rfl, e2⟩ := h2
            subst S2
            dsimp only [Option.toList, List.cons_append, List.nil_append]
            refine r_istore (pc := 5) C dX10_set_5 (by decide) rfl ?_
            refine r_aload_n (pc := 7) C dX10_set_7 rfl ?_
            refine r_aload_n (pc := 8) C dX10_set_8 rfl ?_
            refine r_iload (pc := 9) C dX10_set_9 rfl ?_
            refine r_callV (pc := 11) C (cm_isHeld (o := some t) hV (fun u hu => by cases hu; exact htn)) iX10_isHeld ml_RX10_283 dX10_set_11 (ci := 11) rfl rfl hV.1.1 rfl (by decide) rfl (by simp [cv, Value.category, va_rf]) (by omega) (by omega) (fun r11 S11 h11 => ?_)
            obtain ⟨rfl, e11⟩ := h11
            subst S11
            dsimp only [Option.toList, List.cons_append, List.nil_append]
            rw [show hvo M (some t) = true from hh]
            refine r_if_eq (pc := 14) (tgt := 40) C dX10_set_14 (by decide) (fun c14 => ?_) (fun c14 => ?_)
            · exact absurd c14 (by decide)
            · refine r_iload_n (pc := 17) C dX10_set_17 rfl ?_
              refine r_if_lt (pc := 18) (tgt := 40) C dX10_set_18 (by decide) (fun c18 => ?_) (fun c18 => ?_)
              · exact absurd c18 (nI_pos (by omega))
              · refine r_iload_n (pc := 21) C dX10_set_21 rfl ?_
                refine r_aload_n (pc := 22) C dX10_set_22 rfl ?_
                refine r_iload (pc := 23) C dX10_set_23 rfl ?_
                refine r_callV (pc := 25) C (mv_outputsOf hV htn) iX10_outputsOf ml_RX10_245 dX10_set_25 (ci := 11) rfl rfl hV.1.1 rfl (by decide) rfl (by simp [cv, Value.category, va_rf]) (by omega) (by omega) (fun r25 S25 h25 => ?_)
                obtain ⟨rfl, e25⟩ := h25
                subst S25
                dsimp only [Option.toList, List.cons_append, List.nil_append]
                refine r_icmp_ge (pc := 28) (tgt := 40) C dX10_set_28 (by decide) (fun c28 => ?_) (fun c28 => ?_)
                · exact absurd c28 (nI_ge hio (by omega))
                · refine r_iload_n (pc := 31) C dX10_set_31 rfl ?_
                  refine r_if_lt (pc := 32) (tgt := 40) C dX10_set_32 (by decide) (fun c32 => ?_) (fun c32 => ?_)
                  · exact absurd c32 (by decide)
                  · refine r_iload_n (pc := 35) C dX10_set_35 rfl ?_
                    refine r_iconst (pc := 36) C (nI 4) dX10_set_36 rfl ?_
                    refine r_icmp_le (pc := 37) (tgt := 44) C dX10_set_37 (by decide) (fun c37 => ?_) (fun c37 => ?_)
                    · refine r_iconst (pc := 44) C (nI 0) dX10_set_44 rfl ?_
                      refine r_mP (pc := 45) (k := 0) C hV dX10_set_45 fx_RX10_145 (fp_11_0 _) (by decide) (fun S45 hC45 hV45 => ?_)
                      have hC45r := hC45
                      have hC45 := hC0.trs hC45
                      refine r_aload_n (pc := 48) C dX10_set_48 rfl ?_
                      refine r_mI (pc := 49) (k := 0) C hV45 dX10_set_49 fx_RX10_145 ?_
                      rw [show Gs _ mo 0 = nI 0 from by rw [hC45.gs]; rfl]
                      refine r_if_le (pc := 52) (tgt := 57) C dX10_set_52 (by decide) (fun c52 => ?_) (fun c52 => ?_)
                      · refine r_iload (pc := 57) C dX10_set_57 rfl ?_
                        refine r_iload_n (pc := 59) C dX10_set_59 rfl ?_
                        refine r_callS (pc := 60) C (cm_number (by omega)) iX10_number ml_RX10_204 dX10_set_60 rfl (by decide) rfl (by simp [cv, Value.category, va_rf]) (by omega) (by omega) (fun r60 S60 h60 => ?_)
                        obtain ⟨rfl, e60⟩ := h60
                        subst S60
                        dsimp only [Option.toList, List.cons_append, List.nil_append]
                        refine r_istore (pc := 63) C dX10_set_63 (by decide) rfl ?_
                        refine r_iload_n (pc := 65) C dX10_set_65 rfl ?_
                        refine r_if_ne (pc := 66) (tgt := 76) C dX10_set_66 (by decide) (fun c66 => ?_) (fun c66 => ?_)
                        · refine r_iload_n (pc := 76) C dX10_set_76 rfl ?_
                          refine r_iconst (pc := 77) C (nI 3) dX10_set_77 rfl ?_
                          refine r_icmp_ge (pc := 78) (tgt := 108) C dX10_set_78 (by decide) (fun c78 => ?_) (fun c78 => ?_)
                          · exact absurd c78 (by decide)
                          · refine r_aload_n (pc := 81) C dX10_set_81 rfl ?_
                            refine r_iload_n (pc := 82) C dX10_set_82 rfl ?_
                            refine r_iconst (pc := 83) C (nI 1) dX10_set_83 rfl ?_
                            refine r_icmp_ne (pc := 84) (tgt := 97) C dX10_set_84 (by decide) (fun c84 => ?_) (fun c84 => ?_)
                            · exact absurd (by decide) c84
                            · refine r_aload_n (pc := 87) C dX10_set_87 rfl ?_
                              refine r_mA (pc := 88) C hV45 dX10_set_88 fx_RX10_58 (len := 564) (by decide) ?_
                              refine r_iload (pc := 91) C dX10_set_91 rfl ?_
                              refine r_mL (pc := 93) C hV45 dX10_set_93 (k := 22) (len := 564) (by decide) (by decide) (by decide) (by omega) (by decide) ?_
                              rw [(hFa _ hon).1]
                              refine r_goto (pc := 94) (tgt := 104) C dX10_set_94 (by decide) ?_
                              refine r_callV (pc := 104) C (cm_idOf hV45 (hFa _ hon).2) iX10_idOf ml_RX10_328 dX10_set_104 (ci := 11) rfl rfl hV45.1.1 rfl (by decide) rfl (by simp [cv, Value.category, va_rf]) (by omega) (by omega) (fun r104 S104 h104 => ?_)
                              obtain ⟨rfl, e104⟩ := h104
                              subst S104
                              dsimp only [Option.toList, List.cons_append, List.nil_append]
                              refine r_iret (pc := 107) C dX10_set_107 rfl (by omega) (by omega) ?_
                              exact ⟨rfl, hX.fin0 hC45 hV45⟩
                        · exact absurd c66 (by decide)
                      · exact absurd (by decide) c52
                    · exact absurd (by decide) c37
          · refine r_aload_n (pc := 0) C dX10_set_0 rfl ?_
            refine r_iload_n (pc := 1) C dX10_set_1 rfl ?_
            refine r_callV (pc := 2) C (mv_findS hV hf) iX10_find ml_RX10_198 dX10_set_2 (ci := 11) rfl rfl hV.1.1 rfl (by decide) rfl (by simp [cv, Value.category, va_rf]) (by omega) (by omega) (fun r2 S2 h2 => ?_)
            obtain ⟨rfl, e2⟩ := h2
            subst S2
            dsimp only [Option.toList, List.cons_append, List.nil_append]
            refine r_istore (pc := 5) C dX10_set_5 (by decide) rfl ?_
            refine r_aload_n (pc := 7) C dX10_set_7 rfl ?_
            refine r_aload_n (pc := 8) C dX10_set_8 rfl ?_
            refine r_iload (pc := 9) C dX10_set_9 rfl ?_
            refine r_callV (pc := 11) C (cm_isHeld (o := some t) hV (fun u hu => by cases hu; exact htn)) iX10_isHeld ml_RX10_283 dX10_set_11 (ci := 11) rfl rfl hV.1.1 rfl (by decide) rfl (by simp [cv, Value.category, va_rf]) (by omega) (by omega) (fun r11 S11 h11 => ?_)
            obtain ⟨rfl, e11⟩ := h11
            subst S11
            dsimp only [Option.toList, List.cons_append, List.nil_append]
            rw [show hvo M (some t) = true from hh]
            refine r_if_eq (pc := 14) (tgt := 40) C dX10_set_14 (by decide) (fun c14 => ?_) (fun c14 => ?_)
            · exact absurd c14 (by decide)
            · refine r_iload_n (pc := 17) C dX10_set_17 rfl ?_
              refine r_if_lt (pc := 18) (tgt := 40) C dX10_set_18 (by decide) (fun c18 => ?_) (fun c18 => ?_)
              · exact absurd c18 (nI_pos (by omega))
              · refine r_iload_n (pc := 21) C dX10_set_21 rfl ?_
                refine r_aload_n (pc := 22) C dX10_set_22 rfl ?_
                refine r_iload (pc := 23) C dX10_set_23 rfl ?_
                refine r_callV (pc := 25) C (mv_outputsOf hV htn) iX10_outputsOf ml_RX10_245 dX10_set_25 (ci := 11) rfl rfl hV.1.1 rfl (by decide) rfl (by simp [cv, Value.category, va_rf]) (by omega) (by omega) (fun r25 S25 h25 => ?_)
                obtain ⟨rfl, e25⟩ := h25
                subst S25
                dsimp only [Option.toList, List.cons_append, List.nil_append]
                refine r_icmp_ge (pc := 28) (tgt := 40) C dX10_set_28 (by decide) (fun c28 => ?_) (fun c28 => ?_)
                · exact absurd c28 (nI_ge hio (by omega))
                · refine r_iload_n (pc := 31) C dX10_set_31 rfl ?_
                  refine r_if_lt (pc := 32) (tgt := 40) C dX10_set_32 (by decide) (fun c32 => ?_) (fun c32 => ?_)
                  · exact absurd c32 (by decide)
                  · refine r_iload_n (pc := 35) C dX10_set_35 rfl ?_
                    refine r_iconst (pc := 36) C (nI 4) dX10_set_36 rfl ?_
                    refine r_icmp_le (pc := 37) (tgt := 44) C dX10_set_37 (by decide) (fun c37 => ?_) (fun c37 => ?_)
                    · refine r_iconst (pc := 44) C (nI 0) dX10_set_44 rfl ?_
                      refine r_mP (pc := 45) (k := 0) C hV dX10_set_45 fx_RX10_145 (fp_11_0 _) (by decide) (fun S45 hC45 hV45 => ?_)
                      have hC45r := hC45
                      have hC45 := hC0.trs hC45
                      refine r_aload_n (pc := 48) C dX10_set_48 rfl ?_
                      refine r_mI (pc := 49) (k := 0) C hV45 dX10_set_49 fx_RX10_145 ?_
                      rw [show Gs _ mo 0 = nI 0 from by rw [hC45.gs]; rfl]
                      refine r_if_le (pc := 52) (tgt := 57) C dX10_set_52 (by decide) (fun c52 => ?_) (fun c52 => ?_)
                      · refine r_iload (pc := 57) C dX10_set_57 rfl ?_
                        refine r_iload_n (pc := 59) C dX10_set_59 rfl ?_
                        refine r_callS (pc := 60) C (cm_number (by omega)) iX10_number ml_RX10_204 dX10_set_60 rfl (by decide) rfl (by simp [cv, Value.category, va_rf]) (by omega) (by omega) (fun r60 S60 h60 => ?_)
                        obtain ⟨rfl, e60⟩ := h60
                        subst S60
                        dsimp only [Option.toList, List.cons_append, List.nil_append]
                        refine r_istore (pc := 63) C dX10_set_63 (by decide) rfl ?_
                        refine r_iload_n (pc := 65) C dX10_set_65 rfl ?_
                        refine r_if_ne (pc := 66) (tgt := 76) C dX10_set_66 (by decide) (fun c66 => ?_) (fun c66 => ?_)
                        · refine r_iload_n (pc := 76) C dX10_set_76 rfl ?_
                          refine r_iconst (pc := 77) C (nI 3) dX10_set_77 rfl ?_
                          refine r_icmp_ge (pc := 78) (tgt := 108) C dX10_set_78 (by decide) (fun c78 => ?_) (fun c78 => ?_)
                          · exact absurd c78 (by decide)
                          · refine r_aload_n (pc := 81) C dX10_set_81 rfl ?_
                            refine r_iload_n (pc := 82) C dX10_set_82 rfl ?_
                            refine r_iconst (pc := 83) C (nI 1) dX10_set_83 rfl ?_
                            refine r_icmp_ne (pc := 84) (tgt := 97) C dX10_set_84 (by decide) (fun c84 => ?_) (fun c84 => ?_)
                            · refine r_aload_n (pc := 97) C dX10_set_97 rfl ?_
                              refine r_mA (pc := 98) C hV45 dX10_set_98 fx_RX10_61 (len := 564) (by decide) ?_
                              refine r_iload (pc := 101) C dX10_set_101 rfl ?_
                              refine r_mL (pc := 103) C hV45 dX10_set_103 (k := 23) (len := 564) (by decide) (by decide) (by decide) (by omega) (by decide) ?_
                              rw [(hLa _ hon).1]
                              refine r_callV (pc := 104) C (cm_idOf hV45 (hLa _ hon).2) iX10_idOf ml_RX10_328 dX10_set_104 (ci := 11) rfl rfl hV45.1.1 rfl (by decide) rfl (by simp [cv, Value.category, va_rf]) (by omega) (by omega) (fun r104 S104 h104 => ?_)
                              obtain ⟨rfl, e104⟩ := h104
                              subst S104
                              dsimp only [Option.toList, List.cons_append, List.nil_append]
                              refine r_iret (pc := 107) C dX10_set_107 rfl (by omega) (by omega) ?_
                              exact ⟨rfl, hX.fin0 hC45 hV45⟩
                            · exact absurd c84 (by decide)
                        · exact absurd c66 (by decide)
                      · exact absurd (by decide) c52
                    · exact absurd (by decide) c37
          · refine r_aload_n (pc := 0) C dX10_set_0 rfl ?_
            refine r_iload_n (pc := 1) C dX10_set_1 rfl ?_
            refine r_callV (pc := 2) C (mv_findS hV hf) iX10_find ml_RX10_198 dX10_set_2 (ci := 11) rfl rfl hV.1.1 rfl (by decide) rfl (by simp [cv, Value.category, va_rf]) (by omega) (by omega) (fun r2 S2 h2 => ?_)
            obtain ⟨rfl, e2⟩ := h2
            subst S2
            dsimp only [Option.toList, List.cons_append, List.nil_append]
            refine r_istore (pc := 5) C dX10_set_5 (by decide) rfl ?_
            refine r_aload_n (pc := 7) C dX10_set_7 rfl ?_
            refine r_aload_n (pc := 8) C dX10_set_8 rfl ?_
            refine r_iload (pc := 9) C dX10_set_9 rfl ?_
            refine r_callV (pc := 11) C (cm_isHeld (o := some t) hV (fun u hu => by cases hu; exact htn)) iX10_isHeld ml_RX10_283 dX10_set_11 (ci := 11) rfl rfl hV.1.1 rfl (by decide) rfl (by simp [cv, Value.category, va_rf]) (by omega) (by omega) (fun r11 S11 h11 => ?_)
            obtain ⟨rfl, e11⟩ := h11
            subst S11
            dsimp only [Option.toList, List.cons_append, List.nil_append]
            rw [show hvo M (some t) = true from hh]
            refine r_if_eq (pc := 14) (tgt := 40) C dX10_set_14 (by decide) (fun c14 => ?_) (fun c14 => ?_)
            · exact absurd c14 (by decide)
            · refine r_iload_n (pc := 17) C dX10_set_17 rfl ?_
              refine r_if_lt (pc := 18) (tgt := 40) C dX10_set_18 (by decide) (fun c18 => ?_) (fun c18 => ?_)
              · exact absurd c18 (nI_pos (by omega))
              · refine r_iload_n (pc := 21) C dX10_set_21 rfl ?_
                refine r_aload_n (pc := 22) C dX10_set_22 rfl ?_
                refine r_iload (pc := 23) C dX10_set_23 rfl ?_
                refine r_callV (pc := 25) C (mv_outputsOf hV htn) iX10_outputsOf ml_RX10_245 dX10_set_25 (ci := 11) rfl rfl hV.1.1 rfl (by decide) rfl (by simp [cv, Value.category, va_rf]) (by omega) (by omega) (fun r25 S25 h25 => ?_)
                obtain ⟨rfl, e25⟩ := h25
                subst S25
                dsimp only [Option.toList, List.cons_append, List.nil_append]
                refine r_icmp_ge (pc := 28) (tgt := 40) C dX10_set_28 (by decide) (fun c28 => ?_) (fun c28 => ?_)
                · exact absurd c28 (nI_ge hio (by omega))
                · refine r_iload_n (pc := 31) C dX10_set_31 rfl ?_
                  refine r_if_lt (pc := 32) (tgt := 40) C dX10_set_32 (by decide) (fun c32 => ?_) (fun c32 => ?_)
                  · exact absurd c32 (by decide)
                  · refine r_iload_n (pc := 35) C dX10_set_35 rfl ?_
                    refine r_iconst (pc := 36) C (nI 4) dX10_set_36 rfl ?_
                    refine r_icmp_le (pc := 37) (tgt := 44) C dX10_set_37 (by decide) (fun c37 => ?_) (fun c37 => ?_)
                    · refine r_iconst (pc := 44) C (nI 0) dX10_set_44 rfl ?_
                      refine r_mP (pc := 45) (k := 0) C hV dX10_set_45 fx_RX10_145 (fp_11_0 _) (by decide) (fun S45 hC45 hV45 => ?_)
                      have hC45r := hC45
                      have hC45 := hC0.trs hC45
                      refine r_aload_n (pc := 48) C dX10_set_48 rfl ?_
                      refine r_mI (pc := 49) (k := 0) C hV45 dX10_set_49 fx_RX10_145 ?_
                      rw [show Gs _ mo 0 = nI 0 from by rw [hC45.gs]; rfl]
                      refine r_if_le (pc := 52) (tgt := 57) C dX10_set_52 (by decide) (fun c52 => ?_) (fun c52 => ?_)
                      · refine r_iload (pc := 57) C dX10_set_57 rfl ?_
                        refine r_iload_n (pc := 59) C dX10_set_59 rfl ?_
                        refine r_callS (pc := 60) C (cm_number (by omega)) iX10_number ml_RX10_204 dX10_set_60 rfl (by decide) rfl (by simp [cv, Value.category, va_rf]) (by omega) (by omega) (fun r60 S60 h60 => ?_)
                        obtain ⟨rfl, e60⟩ := h60
                        subst S60
                        dsimp only [Option.toList, List.cons_append, List.nil_append]
                        refine r_istore (pc := 63) C dX10_set_63 (by decide) rfl ?_
                        refine r_iload_n (pc := 65) C dX10_set_65 rfl ?_
                        refine r_if_ne (pc := 66) (tgt := 76) C dX10_set_66 (by decide) (fun c66 => ?_) (fun c66 => ?_)
                        · refine r_iload_n (pc := 76) C dX10_set_76 rfl ?_
                          refine r_iconst (pc := 77) C (nI 3) dX10_set_77 rfl ?_
                          refine r_icmp_ge (pc := 78) (tgt := 108) C dX10_set_78 (by decide) (fun c78 => ?_) (fun c78 => ?_)
                          · refine r_iload_n (pc := 108) C dX10_set_108 rfl ?_
                            refine r_iconst (pc := 109) C (nI 3) dX10_set_109 rfl ?_
                            refine r_icmp_ne (pc := 110) (tgt := 123) C dX10_set_110 (by decide) (fun c110 => ?_) (fun c110 => ?_)
                            · exact absurd (by decide) c110
                            · refine r_aload_n (pc := 113) C dX10_set_113 rfl ?_
                              refine r_mA (pc := 114) C hV45 dX10_set_114 fx_RX10_64 (len := 564) (by decide) ?_
                              refine r_iload (pc := 117) C dX10_set_117 rfl ?_
                              refine r_mL (pc := 119) C hV45 dX10_set_119 (k := 24) (len := 564) (by decide) (by decide) (by decide) (by omega) (by decide) ?_
                              refine r_goto (pc := 120) (tgt := 133) C dX10_set_120 (by decide) ?_
                              refine r_iret (pc := 133) C dX10_set_133 rfl (by omega) (by omega) ?_
                              exact ⟨rfl, hX.fin0 hC45 hV45⟩
                          · exact absurd (by decide) c78
                        · exact absurd c66 (by decide)
                      · exact absurd (by decide) c52
                    · exact absurd (by decide) c37
          · refine r_aload_n (pc := 0) C dX10_set_0 rfl ?_
            refine r_iload_n (pc := 1) C dX10_set_1 rfl ?_
            refine r_callV (pc := 2) C (mv_findS hV hf) iX10_find ml_RX10_198 dX10_set_2 (ci := 11) rfl rfl hV.1.1 rfl (by decide) rfl (by simp [cv, Value.category, va_rf]) (by omega) (by omega) (fun r2 S2 h2 => ?_)
            obtain ⟨rfl, e2⟩ := h2
            subst S2
            dsimp only [Option.toList, List.cons_append, List.nil_append]
            refine r_istore (pc := 5) C dX10_set_5 (by decide) rfl ?_
            refine r_aload_n (pc := 7) C dX10_set_7 rfl ?_
            refine r_aload_n (pc := 8) C dX10_set_8 rfl ?_
            refine r_iload (pc := 9) C dX10_set_9 rfl ?_
            refine r_callV (pc := 11) C (cm_isHeld (o := some t) hV (fun u hu => by cases hu; exact htn)) iX10_isHeld ml_RX10_283 dX10_set_11 (ci := 11) rfl rfl hV.1.1 rfl (by decide) rfl (by simp [cv, Value.category, va_rf]) (by omega) (by omega) (fun r11 S11 h11 => ?_)
            obtain ⟨rfl, e11⟩ := h11
            subst S11
            dsimp only [Option.toList, List.cons_append, List.nil_append]
            rw [show hvo M (some t) = true from hh]
            refine r_if_eq (pc := 14) (tgt := 40) C dX10_set_14 (by decide) (fun c14 => ?_) (fun c14 => ?_)
            · exact absurd c14 (by decide)
            · refine r_iload_n (pc := 17) C dX10_set_17 rfl ?_
              refine r_if_lt (pc := 18) (tgt := 40) C dX10_set_18 (by decide) (fun c18 => ?_) (fun c18 => ?_)
              · exact absurd c18 (nI_pos (by omega))
              · refine r_iload_n (pc := 21) C dX10_set_21 rfl ?_
                refine r_aload_n (pc := 22) C dX10_set_22 rfl ?_
                refine r_iload (pc := 23) C dX10_set_23 rfl ?_
                refine r_callV (pc := 25) C (mv_outputsOf hV htn) iX10_outputsOf ml_RX10_245 dX10_set_25 (ci := 11) rfl rfl hV.1.1 rfl (by decide) rfl (by simp [cv, Value.category, va_rf]) (by omega) (by omega) (fun r25 S25 h25 => ?_)
                obtain ⟨rfl, e25⟩ := h25
                subst S25
                dsimp only [Option.toList, List.cons_append, List.nil_append]
                refine r_icmp_ge (pc := 28) (tgt := 40) C dX10_set_28 (by decide) (fun c28 => ?_) (fun c28 => ?_)
                · exact absurd c28 (nI_ge hio (by omega))
                · refine r_iload_n (pc := 31) C dX10_set_31 rfl ?_
                  refine r_if_lt (pc := 32) (tgt := 40) C dX10_set_32 (by decide) (fun c32 => ?_) (fun c32 => ?_)
                  · exact absurd c32 (by decide)
                  · refine r_iload_n (pc := 35) C dX10_set_35 rfl ?_
                    refine r_iconst (pc := 36) C (nI 4) dX10_set_36 rfl ?_
                    refine r_icmp_le (pc := 37) (tgt := 44) C dX10_set_37 (by decide) (fun c37 => ?_) (fun c37 => ?_)
                    · refine r_iconst (pc := 44) C (nI 0) dX10_set_44 rfl ?_
                      refine r_mP (pc := 45) (k := 0) C hV dX10_set_45 fx_RX10_145 (fp_11_0 _) (by decide) (fun S45 hC45 hV45 => ?_)
                      have hC45r := hC45
                      have hC45 := hC0.trs hC45
                      refine r_aload_n (pc := 48) C dX10_set_48 rfl ?_
                      refine r_mI (pc := 49) (k := 0) C hV45 dX10_set_49 fx_RX10_145 ?_
                      rw [show Gs _ mo 0 = nI 0 from by rw [hC45.gs]; rfl]
                      refine r_if_le (pc := 52) (tgt := 57) C dX10_set_52 (by decide) (fun c52 => ?_) (fun c52 => ?_)
                      · refine r_iload (pc := 57) C dX10_set_57 rfl ?_
                        refine r_iload_n (pc := 59) C dX10_set_59 rfl ?_
                        refine r_callS (pc := 60) C (cm_number (by omega)) iX10_number ml_RX10_204 dX10_set_60 rfl (by decide) rfl (by simp [cv, Value.category, va_rf]) (by omega) (by omega) (fun r60 S60 h60 => ?_)
                        obtain ⟨rfl, e60⟩ := h60
                        subst S60
                        dsimp only [Option.toList, List.cons_append, List.nil_append]
                        refine r_istore (pc := 63) C dX10_set_63 (by decide) rfl ?_
                        refine r_iload_n (pc := 65) C dX10_set_65 rfl ?_
                        refine r_if_ne (pc := 66) (tgt := 76) C dX10_set_66 (by decide) (fun c66 => ?_) (fun c66 => ?_)
                        · refine r_iload_n (pc := 76) C dX10_set_76 rfl ?_
                          refine r_iconst (pc := 77) C (nI 3) dX10_set_77 rfl ?_
                          refine r_icmp_ge (pc := 78) (tgt := 108) C dX10_set_78 (by decide) (fun c78 => ?_) (fun c78 => ?_)
                          · refine r_iload_n (pc := 108) C dX10_set_108 rfl ?_
                            refine r_iconst (pc := 109) C (nI 3) dX10_set_109 rfl ?_
                            refine r_icmp_ne (pc := 110) (tgt := 123) C dX10_set_110 (by decide) (fun c110 => ?_) (fun c110 => ?_)
                            · refine r_aload_n (pc := 123) C dX10_set_123 rfl ?_
                              refine r_aload_n (pc := 124) C dX10_set_124 rfl ?_
                              refine r_iload (pc := 125) C dX10_set_125 rfl ?_
                              refine r_callV (pc := 127) C (cm_acceptedOf hV45 (by omega)) iX10_acceptedOf ml_RX10_265 dX10_set_127 (ci := 11) rfl rfl hV45.1.1 rfl (by decide) rfl (by simp [cv, Value.category, va_rf]) (by omega) (by omega) (fun r127 S127 h127 => ?_)
                              obtain ⟨rfl, e127⟩ := h127
                              subst S127
                              dsimp only [Option.toList, List.cons_append, List.nil_append]
                              refine r_callV (pc := 130) C (cm_idOf hV45 (acO_lt hG)) iX10_idOf ml_RX10_328 dX10_set_130 (ci := 11) rfl rfl hV45.1.1 rfl (by decide) rfl (by simp [cv, Value.category, va_rf]) (by omega) (by omega) (fun r130 S130 h130 => ?_)
                              obtain ⟨rfl, e130⟩ := h130
                              subst S130
                              dsimp only [Option.toList, List.cons_append, List.nil_append]
                              refine r_iret (pc := 133) C dX10_set_133 rfl (by omega) (by omega) ?_
                              exact ⟨rfl, hX.fin0 hC45 hV45⟩
                            · exact absurd c110 (by decide)
                          · exact absurd (by decide) c78
                        · exact absurd c66 (by decide)
                      · exact absurd (by decide) c52
                    · exact absurd (by decide) c37
theorem cm_byteOf {id i : Int32} (hX : MX S mo M F G X n h) (hSz : Sz M n) : Sp l g mX10_byteOf 0 0 [vr (some mo), vi id, vi i] S (fun r S' => r = some (vi (byR M n id i)) ∧ MX S' mo M F (upd G 0 (nI 0)) X n h ∧ Rf S S' mo) := by
  have hV := hX.V
  have hC0 : Gch S S mo (Gs S mo) := Gc.rf
  rw [hX.gg] at hC0
  have hn2 := hV.G.1
  generalize hRR : byR M n id i = R
  cases hf : fdo (M 10) id n with
  | none =>
    have e : -1 = R := by rw [← hRR]; simp only [byR, hf]
    subst e
    refine Sp.start (own := RX10) [(0, vr (some mo)), (1, vi id), (2, vi i)] (by decide +kernel) rfl rfl (Nat.le_of_ble_eq_true rfl) ?_
    intro J C
    refine r_aload_n (pc := 0) C dX10_byteOf_0 rfl ?_
    refine r_iconst (pc := 1) C (nI 0) dX10_byteOf_1 rfl ?_
    refine r_mP (pc := 2) (k := 0) C hV dX10_byteOf_2 fx_RX10_145 (fp_11_0 _) (by decide) (fun S2 hC2 hV2 => ?_)
    have hC2r := hC2
    have hC2 := hC0.trs hC2
    refine r_aload_n (pc := 5) C dX10_byteOf_5 rfl ?_
    refine r_iload_n (pc := 6) C dX10_byteOf_6 rfl ?_
    refine r_callV (pc := 7) C (mv_find hV2) iX10_find ml_RX10_198 dX10_byteOf_7 (ci := 11) rfl rfl hV2.1.1 rfl (by decide) rfl (by simp [cv, Value.category, va_rf]) (by omega) (by omega) (fun r7 S7 h7 => ?_)
    obtain ⟨rfl, e7⟩ := h7
    subst S7
    dsimp only [Option.toList, List.cons_append, List.nil_append]
    rw [hf]
    refine r_istore_n (pc := 10) C dX10_byteOf_10 (by decide) rfl ?_
    refine r_iload_n (pc := 11) C dX10_byteOf_11 rfl ?_
    refine r_if_lt (pc := 12) (tgt := 29) C dX10_byteOf_12 (by decide) (fun c12 => ?_) (fun c12 => ?_)
    · refine r_iconst (pc := 29) C (-1) dX10_byteOf_29 rfl ?_
      refine r_goto (pc := 30) (tgt := 39) C dX10_byteOf_30 (by decide) ?_
      refine r_iret (pc := 39) C dX10_byteOf_39 rfl (by omega) (by omega) ?_
      exact ⟨rfl, hX.fin0 hC2 hV2⟩
    · exact absurd (show oI (none : Option Nat) < 0 by decide) c12
  | some t =>
    have htn := fdo_lt t hf
    obtain ⟨e12, hz⟩ := hSz t htn
    rcases pk_ix i (n := szN M t) (by omega) with h0 | h0 | ⟨j, hj, rfl⟩
    · have e : -1 = R := by rw [← hRR]; simp only [byR, hf]; rw [if_pos (Or.inl h0)]
      subst e
      refine Sp.start (own := RX10) [(0, vr (some mo)), (1, vi id), (2, vi i)] (by decide +kernel) rfl rfl (Nat.le_of_ble_eq_true rfl) ?_
      intro J C
      refine r_aload_n (pc := 0) C dX10_byteOf_0 rfl ?_
      refine r_iconst (pc := 1) C (nI 0) dX10_byteOf_1 rfl ?_
      refine r_mP (pc := 2) (k := 0) C hV dX10_byteOf_2 fx_RX10_145 (fp_11_0 _) (by decide) (fun S2 hC2 hV2 => ?_)
      have hC2r := hC2
      have hC2 := hC0.trs hC2
      refine r_aload_n (pc := 5) C dX10_byteOf_5 rfl ?_
      refine r_iload_n (pc := 6) C dX10_byteOf_6 rfl ?_
      refine r_callV (pc := 7) C (mv_findS hV2 hf) iX10_find ml_RX10_198 dX10_byteOf_7 (ci := 11) rfl rfl hV2.1.1 rfl (by decide) rfl (by simp [cv, Value.category, va_rf]) (by omega) (by omega) (fun r7 S7 h7 => ?_)
      obtain ⟨rfl, e7⟩ := h7
      subst S7
      dsimp only [Option.toList, List.cons_append, List.nil_append]
      refine r_istore_n (pc := 10) C dX10_byteOf_10 (by decide) rfl ?_
      refine r_iload_n (pc := 11) C dX10_byteOf_11 rfl ?_
      refine r_if_lt (pc := 12) (tgt := 29) C dX10_byteOf_12 (by decide) (fun c12 => ?_) (fun c12 => ?_)
      · exact absurd c12 (nI_pos (by omega))
      · refine r_iload_n (pc := 15) C dX10_byteOf_15 rfl ?_
        refine r_if_lt (pc := 16) (tgt := 29) C dX10_byteOf_16 (by decide) (fun c16 => ?_) (fun c16 => ?_)
        · refine r_iconst (pc := 29) C (-1) dX10_byteOf_29 rfl ?_
          refine r_goto (pc := 30) (tgt := 39) C dX10_byteOf_30 (by decide) ?_
          refine r_iret (pc := 39) C dX10_byteOf_39 rfl (by omega) (by omega) ?_
          exact ⟨rfl, hX.fin0 hC2 hV2⟩
        · exact absurd h0 c16
    · have e : -1 = R := by rw [← hRR]; simp only [byR, hf]; rw [if_pos (Or.inr h0)]
      subst e
      refine Sp.start (own := RX10) [(0, vr (some mo)), (1, vi id), (2, vi i)] (by decide +kernel) rfl rfl (Nat.le_of_ble_eq_true rfl) ?_
      intro J C
      refine r_aload_n (pc := 0) C dX10_byteOf_0 rfl ?_
      refine r_iconst (pc := 1) C (nI 0) dX10_byteOf_1 rfl ?_
      refine r_mP (pc := 2) (k := 0) C hV dX10_byteOf_2 fx_RX10_145 (fp_11_0 _) (by decide) (fun S2 hC2 hV2 => ?_)
      have hC2r := hC2
      have hC2 := hC0.trs hC2
      refine r_aload_n (pc := 5) C dX10_byteOf_5 rfl ?_
      refine r_iload_n (pc := 6) C dX10_byteOf_6 rfl ?_
      refine r_callV (pc := 7) C (mv_findS hV2 hf) iX10_find ml_RX10_198 dX10_byteOf_7 (ci := 11) rfl rfl hV2.1.1 rfl (by decide) rfl (by simp [cv, Value.category, va_rf]) (by omega) (by omega) (fun r7 S7 h7 => ?_)
      obtain ⟨rfl, e7⟩ := h7
      subst S7
      dsimp only [Option.toList, List.cons_append, List.nil_append]
      refine r_istore_n (pc := 10) C dX10_byteOf_10 (by decide) rfl ?_
      refine r_iload_n (pc := 11) C dX10_byteOf_11 rfl ?_
      refine r_if_lt (pc := 12) (tgt := 29) C dX10_byteOf_12 (by decide) (fun c12 => ?_) (fun c12 => ?_)
      · exact absurd c12 (nI_pos (by omega))
      · refine r_iload_n (pc := 15) C dX10_byteOf_15 rfl ?_
        refine r_if_lt (pc := 16) (tgt := 29) C dX10_byteOf_16 (by decide) (fun c16 => ?_) (fun c16 => ?_)
        · refine r_iconst (pc := 29) C (-1) dX10_byteOf_29 rfl ?_
          refine r_goto (pc := 30) (tgt := 39) C dX10_byteOf_30 (by decide) ?_
          refine r_iret (pc := 39) C dX10_byteOf_39 rfl (by omega) (by omega) ?_
          exact ⟨rfl, hX.fin0 hC2 hV2⟩
        · refine r_iload_n (pc := 19) C dX10_byteOf_19 rfl ?_
          refine r_aload_n (pc := 20) C dX10_byteOf_20 rfl ?_
          refine r_mA (pc := 21) C hV2 dX10_byteOf_21 fx_RX10_27 (len := 140) (by decide) ?_
          refine r_iload_n (pc := 24) C dX10_byteOf_24 rfl ?_
          refine r_mL (pc := 25) C hV2 dX10_byteOf_25 (k := 12) (len := 140) (by decide) (by decide) (by decide) (by omega) (by decide) ?_
          rw [e12]
          refine r_icmp_lt (pc := 26) (tgt := 33) C dX10_byteOf_26 (by decide) (fun c26 => ?_) (fun c26 => ?_)
          · exact absurd c26 (Int32.not_lt.mpr h0)
          · refine r_iconst (pc := 29) C (-1) dX10_byteOf_29 rfl ?_
            refine r_goto (pc := 30) (tgt := 39) C dX10_byteOf_30 (by decide) ?_
            refine r_iret (pc := 39) C dX10_byteOf_39 rfl (by omega) (by omega) ?_
            exact ⟨rfl, hX.fin0 hC2 hV2⟩
    · have e : nI (rN (M 11) t j) = R := by rw [← hRR]; simp only [byR, hf]; rw [if_neg (fun q => q.elim (nI_pos (by omega)) (nI_ge hj (by omega))), nI_clamp (by omega)]
      subst e
      refine Sp.start (own := RX10) [(0, vr (some mo)), (1, vi id), (2, vi (nI j))] (by decide +kernel) rfl rfl (Nat.le_of_ble_eq_true rfl) ?_
      intro J C
      refine r_aload_n (pc := 0) C dX10_byteOf_0 rfl ?_
      refine r_iconst (pc := 1) C (nI 0) dX10_byteOf_1 rfl ?_
      refine r_mP (pc := 2) (k := 0) C hV dX10_byteOf_2 fx_RX10_145 (fp_11_0 _) (by decide) (fun S2 hC2 hV2 => ?_)
      have hC2r := hC2
      have hC2 := hC0.trs hC2
      refine r_aload_n (pc := 5) C dX10_byteOf_5 rfl ?_
      refine r_iload_n (pc := 6) C dX10_byteOf_6 rfl ?_
      refine r_callV (pc := 7) C (mv_findS hV2 hf) iX10_find ml_RX10_198 dX10_byteOf_7 (ci := 11) rfl rfl hV2.1.1 rfl (by decide) rfl (by simp [cv, Value.category, va_rf]) (by omega) (by omega) (fun r7 S7 h7 => ?_)
      obtain ⟨rfl, e7⟩ := h7
      subst S7
      dsimp only [Option.toList, List.cons_append, List.nil_append]
      refine r_istore_n (pc := 10) C dX10_byteOf_10 (by decide) rfl ?_
      refine r_iload_n (pc := 11) C dX10_byteOf_11 rfl ?_
      refine r_if_lt (pc := 12) (tgt := 29) C dX10_byteOf_12 (by decide) (fun c12 => ?_) (fun c12 => ?_)
      · exact absurd c12 (nI_pos (by omega))
      · refine r_iload_n (pc := 15) C dX10_byteOf_15 rfl ?_
        refine r_if_lt (pc := 16) (tgt := 29) C dX10_byteOf_16 (by decide) (fun c16 => ?_) (fun c16 => ?_)
        · exact absurd c16 (nI_pos (by omega))
        · refine r_iload_n (pc := 19) C dX10_byteOf_19 rfl ?_
          refine r_aload_n (pc := 20) C dX10_byteOf_20 rfl ?_
          refine r_mA (pc := 21) C hV2 dX10_byteOf_21 fx_RX10_27 (len := 140) (by decide) ?_
          refine r_iload_n (pc := 24) C dX10_byteOf_24 rfl ?_
          refine r_mL (pc := 25) C hV2 dX10_byteOf_25 (k := 12) (len := 140) (by decide) (by decide) (by decide) (by omega) (by decide) ?_
          rw [e12]
          refine r_icmp_lt (pc := 26) (tgt := 33) C dX10_byteOf_26 (by decide) (fun c26 => ?_) (fun c26 => ?_)
          · refine r_aload_n (pc := 33) C dX10_byteOf_33 rfl ?_
            refine r_iload_n (pc := 34) C dX10_byteOf_34 rfl ?_
            refine r_iload_n (pc := 35) C dX10_byteOf_35 rfl ?_
            refine r_callV (pc := 36) C (mv_at hV2 (by omega) (by omega)) iX10_at ml_RX10_176 dX10_byteOf_36 (ci := 11) rfl rfl hV2.1.1 rfl (by decide) rfl (by simp [cv, Value.category, va_rf]) (by omega) (by omega) (fun r36 S36 h36 => ?_)
            obtain ⟨rfl, e36⟩ := h36
            subst S36
            dsimp only [Option.toList, List.cons_append, List.nil_append]
            refine r_iret (pc := 39) C dX10_byteOf_39 rfl (by omega) (by omega) ?_
            exact ⟨rfl, hX.fin0 hC2 hV2⟩
          · exact absurd (nI_lt hj (by omega)) c26
theorem cm_left {t i : Nat} (hV : MV S mo M n h) (ht : t < n) (hi : i < nO (M 11) t) : Sp l g mX10_left 0 0 [vr (some mo), vi (nI t), vi (nI i)] S (fun r S' => r = some (vi (lft M n h t i)) ∧ S' = S) := by
  have hC0 : Gch S S mo (Gs S mo) := Gc.rf
  have hG := hV.G
  have hn2 := hG.1
  have hon := onum_lt hG ht hi
  have hR := hV.R ht
  have hal : ∀ u, acO M n h (onum t i) = some u → u < 1000 := fun u hu => by have := acO_lt hG u hu; omega
  refine Sp.start (own := RX10) [(0, vr (some mo)), (1, vi (nI t)), (2, vi (nI i))] (by decide +kernel) rfl rfl (Nat.le_of_ble_eq_true rfl) ?_
  intro J C
  refine r_aload_n (pc := 0) C dX10_left_0 rfl ?_
  refine r_mA (pc := 1) C hV dX10_left_1 fx_RX10_30 (len := 140) (by decide) ?_
  refine r_iload_n (pc := 4) C dX10_left_4 rfl ?_
  refine r_mL (pc := 5) C hV dX10_left_5 (k := 13) (len := 140) (by decide) (by decide) (by decide) (by omega) (by decide) ?_
  refine r_iconst (pc := 6) C (nI 3) dX10_left_6 rfl ?_
  refine r_icmp_ne (pc := 7) (tgt := 31) C dX10_left_7 (by decide) (fun c7 => ?_) (fun c7 => ?_)
  · have hv2 : nI 0 = lft M n h t i := by simp only [lft]; rw [if_neg (fun q => c7 q.1)]
    refine r_iconst (pc := 31) C (nI 0) dX10_left_31 rfl ?_
    refine r_iret (pc := 32) C dX10_left_32 rfl (by omega) (by omega) ?_
    exact ⟨by rw [hv2], rfl⟩
  · refine r_aload_n (pc := 10) C dX10_left_10 rfl ?_
    refine r_iload_n (pc := 11) C dX10_left_11 rfl ?_
    refine r_iload_n (pc := 12) C dX10_left_12 rfl ?_
    refine r_callS (pc := 13) C (cm_number (by omega)) iX10_number ml_RX10_204 dX10_left_13 rfl (by decide) rfl (by simp [cv, Value.category, va_rf]) (by omega) (by omega) (fun r13 S13 h13 => ?_)
    obtain ⟨rfl, e13⟩ := h13
    subst S13
    dsimp only [Option.toList, List.cons_append, List.nil_append]
    refine r_callV (pc := 16) C (cm_acceptedOf hV (by omega)) iX10_acceptedOf ml_RX10_265 dX10_left_16 (ci := 11) rfl rfl hV.1.1 rfl (by decide) rfl (by simp [cv, Value.category, va_rf]) (by omega) (by omega) (fun r16 S16 h16 => ?_)
    obtain ⟨rfl, e16⟩ := h16
    subst S16
    dsimp only [Option.toList, List.cons_append, List.nil_append]
    refine r_if_ge (pc := 19) (tgt := 31) C dX10_left_19 (by decide) (fun c19 => ?_) (fun c19 => ?_)
    · have hv2 : nI 0 = lft M n h t i := by simp only [lft]; rw [if_neg (fun q => absurd ((oI_lt hal).mpr q.2) (Int32.not_lt.mpr c19))]
      refine r_iconst (pc := 31) C (nI 0) dX10_left_31 rfl ?_
      refine r_iret (pc := 32) C dX10_left_32 rfl (by omega) (by omega) ?_
      exact ⟨by rw [hv2], rfl⟩
    · have hv2 : amt (M 11) t i = lft M n h t i := by simp only [lft]; rw [if_pos ⟨c7, (oI_lt hal).mp (Int32.not_le.mp c19)⟩]
      refine r_aload_n (pc := 22) C dX10_left_22 rfl ?_
      refine r_iload_n (pc := 23) C dX10_left_23 rfl ?_
      refine r_iload_n (pc := 24) C dX10_left_24 rfl ?_
      refine r_callV (pc := 25) C (mv_amount hV ht (fun q => by have := hR.2.2.2.2 q; omega)) iX10_amount ml_RX10_252 dX10_left_25 (ci := 11) rfl rfl hV.1.1 rfl (by decide) rfl (by simp [cv, Value.category, va_rf]) (by omega) (by omega) (fun r25 S25 h25 => ?_)
      obtain ⟨rfl, e25⟩ := h25
      subst S25
      dsimp only [Option.toList, List.cons_append, List.nil_append]
      refine r_goto (pc := 28) (tgt := 32) C dX10_left_28 (by decide) ?_
      refine r_iret (pc := 32) C dX10_left_32 rfl (by omega) (by omega) ?_
      exact ⟨by rw [hv2], rfl⟩
theorem cm_unspent {id ix : Int32} (hX : MX S mo M F G X n h) : Sp l g mX10_unspent 0 0 [vr (some mo), vi id, vi ix] S (fun r S' => r = some (vi (unR M n h id ix)) ∧ MX S' mo M F (upd G 0 (nI 0)) X n h ∧ Rf S S' mo) := by
  have hV := hX.V
  have hC0 : Gch S S mo (Gs S mo) := Gc.rf
  rw [hX.gg] at hC0
  have hG := hV.G
  have hn2 := hG.1
  generalize hRR : unR M n h id ix = R
  cases hf : fdo (M 10) id n with
  | none =>
    have e : nI 0 = R := by rw [← hRR]; simp only [unR, hf]
    subst e
    refine Sp.start (own := RX10) [(0, vr (some mo)), (1, vi id), (2, vi ix)] (by decide +kernel) rfl rfl (Nat.le_of_ble_eq_true rfl) ?_
    intro J C
    refine r_aload_n (pc := 0) C dX10_unspent_0 rfl ?_
    refine r_iconst (pc := 1) C (nI 0) dX10_unspent_1 rfl ?_
    refine r_mP (pc := 2) (k := 0) C hV dX10_unspent_2 fx_RX10_145 (fp_11_0 _) (by decide) (fun S2 hC2 hV2 => ?_)
    have hC2r := hC2
    have hC2 := hC0.trs hC2
    refine r_aload_n (pc := 5) C dX10_unspent_5 rfl ?_
    refine r_iload_n (pc := 6) C dX10_unspent_6 rfl ?_
    refine r_callV (pc := 7) C (mv_find hV2) iX10_find ml_RX10_198 dX10_unspent_7 (ci := 11) rfl rfl hV2.1.1 rfl (by decide) rfl (by simp [cv, Value.category, va_rf]) (by omega) (by omega) (fun r7 S7 h7 => ?_)
    obtain ⟨rfl, e7⟩ := h7
    subst S7
    dsimp only [Option.toList, List.cons_append, List.nil_append]
    rw [hf]
    refine r_istore_n (pc := 10) C dX10_unspent_10 (by decide) rfl ?_
    refine r_aload_n (pc := 11) C dX10_unspent_11 rfl ?_
    refine r_iload_n (pc := 12) C dX10_unspent_12 rfl ?_
    refine r_callV (pc := 13) C (cm_isHeld (o := none) hV2 (fun u hu => by cases hu)) iX10_isHeld ml_RX10_283 dX10_unspent_13 (ci := 11) rfl rfl hV2.1.1 rfl (by decide) rfl (by simp [cv, Value.category, va_rf]) (by omega) (by omega) (fun r13 S13 h13 => ?_)
    obtain ⟨rfl, e13⟩ := h13
    subst S13
    dsimp only [Option.toList, List.cons_append, List.nil_append]
    refine r_if_eq (pc := 16) (tgt := 32) C dX10_unspent_16 (by decide) (fun c16 => ?_) (fun c16 => ?_)
    · refine r_iconst (pc := 32) C (nI 0) dX10_unspent_32 rfl ?_
      refine r_goto (pc := 33) (tgt := 42) C dX10_unspent_33 (by decide) ?_
      refine r_iret (pc := 42) C dX10_unspent_42 rfl (by omega) (by omega) ?_
      exact ⟨rfl, hX.fin0 hC2 hV2⟩
    · exact absurd (show bi (hvo M none) = 0 from rfl) c16
  | some t =>
    have htn := fdo_lt t hf
    have ho8 := (hV.R htn).2.2.2.1
    cases hh : hv M t with
    | false =>
      have e : nI 0 = R := by rw [← hRR]; simp only [unR, hf, hh, Bool.false_eq_true, if_false]
      subst e
      refine Sp.start (own := RX10) [(0, vr (some mo)), (1, vi id), (2, vi ix)] (by decide +kernel) rfl rfl (Nat.le_of_ble_eq_true rfl) ?_
      intro J C
      refine r_aload_n (pc := 0) C dX10_unspent_0 rfl ?_
      refine r_iconst (pc := 1) C (nI 0) dX10_unspent_1 rfl ?_
      refine r_mP (pc := 2) (k := 0) C hV dX10_unspent_2 fx_RX10_145 (fp_11_0 _) (by decide) (fun S2 hC2 hV2 => ?_)
      have hC2r := hC2
      have hC2 := hC0.trs hC2
      refine r_aload_n (pc := 5) C dX10_unspent_5 rfl ?_
      refine r_iload_n (pc := 6) C dX10_unspent_6 rfl ?_
      refine r_callV (pc := 7) C (mv_findS hV2 hf) iX10_find ml_RX10_198 dX10_unspent_7 (ci := 11) rfl rfl hV2.1.1 rfl (by decide) rfl (by simp [cv, Value.category, va_rf]) (by omega) (by omega) (fun r7 S7 h7 => ?_)
      obtain ⟨rfl, e7⟩ := h7
      subst S7
      dsimp only [Option.toList, List.cons_append, List.nil_append]
      refine r_istore_n (pc := 10) C dX10_unspent_10 (by decide) rfl ?_
      refine r_aload_n (pc := 11) C dX10_unspent_11 rfl ?_
      refine r_iload_n (pc := 12) C dX10_unspent_12 rfl ?_
      refine r_callV (pc := 13) C (cm_isHeld (o := some t) hV2 (fun u hu => by cases hu; exact htn)) iX10_isHeld ml_RX10_283 dX10_unspent_13 (ci := 11) rfl rfl hV2.1.1 rfl (by decide) rfl (by simp [cv, Value.category, va_rf]) (by omega) (by omega) (fun r13 S13 h13 => ?_)
      obtain ⟨rfl, e13⟩ := h13
      subst S13
      dsimp only [Option.toList, List.cons_append, List.nil_append]
      rw [show hvo M (some t) = false from hh]
      refine r_if_eq (pc := 16) (tgt := 32) C dX10_unspent_16 (by decide) (fun c16 => ?_) (fun c16 => ?_)
      · refine r_iconst (pc := 32) C (nI 0) dX10_unspent_32 rfl ?_
        refine r_goto (pc := 33) (tgt := 42) C dX10_unspent_33 (by decide) ?_
        refine r_iret (pc := 42) C dX10_unspent_42 rfl (by omega) (by omega) ?_
        exact ⟨rfl, hX.fin0 hC2 hV2⟩
      · exact absurd (show bi false = 0 from rfl) c16
    | true =>
      cases hi : ixo M t ix with
      | none =>
        have e : nI 0 = R := by rw [← hRR]; simp only [unR, hf, hh, hi, if_true]
        subst e
        have hi2 : ix < 0 ∨ nI (nO (M 11) t) ≤ ix := by
          unfold ixo at hi
          split at hi
          · assumption
          · cases hi
        refine Sp.start (own := RX10) [(0, vr (some mo)), (1, vi id), (2, vi ix)] (by decide +kernel) rfl rfl (Nat.le_of_ble_eq_true rfl) ?_
        intro J C
        refine r_aload_n (pc := 0) C dX10_unspent_0 rfl ?_
        refine r_iconst (pc := 1) C (nI 0) dX10_unspent_1 rfl ?_
        refine r_mP (pc := 2) (k := 0) C hV dX10_unspent_2 fx_RX10_145 (fp_11_0 _) (by decide) (fun S2 hC2 hV2 => ?_)
        have hC2r := hC2
        have hC2 := hC0.trs hC2
        refine r_aload_n (pc := 5) C dX10_unspent_5 rfl ?_
        refine r_iload_n (pc := 6) C dX10_unspent_6 rfl ?_
        refine r_callV (pc := 7) C (mv_findS hV2 hf) iX10_find ml_RX10_198 dX10_unspent_7 (ci := 11) rfl rfl hV2.1.1 rfl (by decide) rfl (by simp [cv, Value.category, va_rf]) (by omega) (by omega) (fun r7 S7 h7 => ?_)
        obtain ⟨rfl, e7⟩ := h7
        subst S7
        dsimp only [Option.toList, List.cons_append, List.nil_append]
        refine r_istore_n (pc := 10) C dX10_unspent_10 (by decide) rfl ?_
        refine r_aload_n (pc := 11) C dX10_unspent_11 rfl ?_
        refine r_iload_n (pc := 12) C dX10_unspent_12 rfl ?_
        refine r_callV (pc := 13) C (cm_isHeld (o := some t) hV2 (fun u hu => by cases hu; exact htn)) iX10_isHeld ml_RX10_283 dX10_unspent_13 (ci := 11) rfl rfl hV2.1.1 rfl (by decide) rfl (by simp [cv, Value.category, va_rf]) (by omega) (by omega) (fun r13 S13 h13 => ?_)
        obtain ⟨rfl, e13⟩ := h13
        subst S13
        dsimp only [Option.toList, List.cons_append, List.nil_append]
        rw [show hvo M (some t) = true from hh]
        refine r_if_eq (pc := 16) (tgt := 32) C dX10_unspent_16 (by decide) (fun c16 => ?_) (fun c16 => ?_)
        · exact absurd c16 (by decide)
        · refine r_iload_n (pc := 19) C dX10_unspent_19 rfl ?_
          refine r_if_lt (pc := 20) (tgt := 32) C dX10_unspent_20 (by decide) (fun c20 => ?_) (fun c20 => ?_)
          · refine r_iconst (pc := 32) C (nI 0) dX10_unspent_32 rfl ?_
            refine r_goto (pc := 33) (tgt := 42) C dX10_unspent_33 (by decide) ?_
            refine r_iret (pc := 42) C dX10_unspent_42 rfl (by omega) (by omega) ?_
            exact ⟨rfl, hX.fin0 hC2 hV2⟩
          · refine r_iload_n (pc := 23) C dX10_unspent_23 rfl ?_
            refine r_aload_n (pc := 24) C dX10_unspent_24 rfl ?_
            refine r_iload_n (pc := 25) C dX10_unspent_25 rfl ?_
            refine r_callV (pc := 26) C (mv_outputsOf hV2 htn) iX10_outputsOf ml_RX10_245 dX10_unspent_26 (ci := 11) rfl rfl hV2.1.1 rfl (by decide) rfl (by simp [cv, Value.category, va_rf]) (by omega) (by omega) (fun r26 S26 h26 => ?_)
            obtain ⟨rfl, e26⟩ := h26
            subst S26
            dsimp only [Option.toList, List.cons_append, List.nil_append]
            refine r_icmp_lt (pc := 29) (tgt := 36) C dX10_unspent_29 (by decide) (fun c29 => ?_) (fun c29 => ?_)
            · exact hi2.elim (fun q => absurd q c20) (fun q => absurd c29 (Int32.not_lt.mpr q))
            · refine r_iconst (pc := 32) C (nI 0) dX10_unspent_32 rfl ?_
              refine r_goto (pc := 33) (tgt := 42) C dX10_unspent_33 (by decide) ?_
              refine r_iret (pc := 42) C dX10_unspent_42 rfl (by omega) (by omega) ?_
              exact ⟨rfl, hX.fin0 hC2 hV2⟩
      | some i =>
        obtain ⟨rfl, hio⟩ := ixo_some hi (by omega)
        have e : lft M n h t i = R := by rw [← hRR]; simp only [unR, hf, hh, hi, if_true]
        subst e
        refine Sp.start (own := RX10) [(0, vr (some mo)), (1, vi id), (2, vi (nI i))] (by decide +kernel) rfl rfl (Nat.le_of_ble_eq_true rfl) ?_
        intro J C
        refine r_aload_n (pc := 0) C dX10_unspent_0 rfl ?_
        refine r_iconst (pc := 1) C (nI 0) dX10_unspent_1 rfl ?_
        refine r_mP (pc := 2) (k := 0) C hV dX10_unspent_2 fx_RX10_145 (fp_11_0 _) (by decide) (fun S2 hC2 hV2 => ?_)
        have hC2r := hC2
        have hC2 := hC0.trs hC2
        refine r_aload_n (pc := 5) C dX10_unspent_5 rfl ?_
        refine r_iload_n (pc := 6) C dX10_unspent_6 rfl ?_
        refine r_callV (pc := 7) C (mv_findS hV2 hf) iX10_find ml_RX10_198 dX10_unspent_7 (ci := 11) rfl rfl hV2.1.1 rfl (by decide) rfl (by simp [cv, Value.category, va_rf]) (by omega) (by omega) (fun r7 S7 h7 => ?_)
        obtain ⟨rfl, e7⟩ := h7
        subst S7
        dsimp only [Option.toList, List.cons_append, List.nil_append]
        refine r_istore_n (pc := 10) C dX10_unspent_10 (by decide) rfl ?_
        refine r_aload_n (pc := 11) C dX10_unspent_11 rfl ?_
        refine r_iload_n (pc := 12) C dX10_unspent_12 rfl ?_
        refine r_callV (pc := 13) C (cm_isHeld (o := some t) hV2 (fun u hu => by cases hu; exact htn)) iX10_isHeld ml_RX10_283 dX10_unspent_13 (ci := 11) rfl rfl hV2.1.1 rfl (by decide) rfl (by simp [cv, Value.category, va_rf]) (by omega) (by omega) (fun r13 S13 h13 => ?_)
        obtain ⟨rfl, e13⟩ := h13
        subst S13
        dsimp only [Option.toList, List.cons_append, List.nil_append]
        rw [show hvo M (some t) = true from hh]
        refine r_if_eq (pc := 16) (tgt := 32) C dX10_unspent_16 (by decide) (fun c16 => ?_) (fun c16 => ?_)
        · exact absurd c16 (by decide)
        · refine r_iload_n (pc := 19) C dX10_unspent_19 rfl ?_
          refine r_if_lt (pc := 20) (tgt := 32) C dX10_unspent_20 (by decide) (fun c20 => ?_) (fun c20 => ?_)
          · exact absurd c20 (nI_pos (by omega))
          · refine r_iload_n (pc := 23) C dX10_unspent_23 rfl ?_
            refine r_aload_n (pc := 24) C dX10_unspent_24 rfl ?_
            refine r_iload_n (pc := 25) C dX10_unspent_25 rfl ?_
            refine r_callV (pc := 26) C (mv_outputsOf hV2 htn) iX10_outputsOf ml_RX10_245 dX10_unspent_26 (ci := 11) rfl rfl hV2.1.1 rfl (by decide) rfl (by simp [cv, Value.category, va_rf]) (by omega) (by omega) (fun r26 S26 h26 => ?_)
            obtain ⟨rfl, e26⟩ := h26
            subst S26
            dsimp only [Option.toList, List.cons_append, List.nil_append]
            refine r_icmp_lt (pc := 29) (tgt := 36) C dX10_unspent_29 (by decide) (fun c29 => ?_) (fun c29 => ?_)
            · refine r_aload_n (pc := 36) C dX10_unspent_36 rfl ?_
              refine r_iload_n (pc := 37) C dX10_unspent_37 rfl ?_
              refine r_iload_n (pc := 38) C dX10_unspent_38 rfl ?_
              refine r_callV (pc := 39) C (cm_left hV2 htn hio) iX10_left ml_RX10_343 dX10_unspent_39 (ci := 11) rfl rfl hV2.1.1 rfl (by decide) rfl (by simp [cv, Value.category, va_rf]) (by omega) (by omega) (fun r39 S39 h39 => ?_)
              obtain ⟨rfl, e39⟩ := h39
              subst S39
              dsimp only [Option.toList, List.cons_append, List.nil_append]
              refine r_iret (pc := 42) C dX10_unspent_42 rfl (by omega) (by omega) ?_
              exact ⟨rfl, hX.fin0 hC2 hV2⟩
            · exact absurd (nI_lt hio (by omega)) c29
theorem cm_inState {v : Int32} (hV : MV S mo M n h) : Sp l g mX10_inState 0 0 [vr (some mo), vi v] S (fun r S' => r = some (vi (nI (inN M n v))) ∧ S' = S) := by
  have hC0 : Gch S S mo (Gs S mo) := Gc.rf
  have hn2 := hV.G.1
  refine Sp.start (own := RX10) [(0, vr (some mo)), (1, vi v)] (by decide +kernel) rfl rfl (Nat.le_of_ble_eq_true rfl) ?_
  intro J C
  have L : ∀ i x, i ≤ n → x = nI (cntU (fun t => decide (M 13 t = v)) i) → J 4 [(0, vr (some mo)), (1, vi v), (2, vi x), (3, vi (nI i))] [] S 0 0 := by
    refine up_loop _ _ _ ?_ ?_
    · intro x hx
      refine r_iload_n (pc := 4) C dX10_inState_4 rfl ?_
      refine r_aload_n (pc := 5) C dX10_inState_5 rfl ?_
      refine r_mn (pc := 6) C hV dX10_inState_6 fx_RX10_16 ?_
      refine r_icmp_ge (pc := 9) (tgt := 36) C dX10_inState_9 (by decide) (fun c9 => ?_) (fun c9 => ?_)
      · refine r_iload_n (pc := 36) C dX10_inState_36 rfl ?_
        refine r_iret (pc := 37) C dX10_inState_37 rfl (by omega) (by omega) ?_
        exact ⟨by rw [hx]; rfl, rfl⟩
      · exact absurd (Int32.le_refl _) c9
    · intro i x hi hx ih
      subst hx
      refine r_iload_n (pc := 4) C dX10_inState_4 rfl ?_
      refine r_aload_n (pc := 5) C dX10_inState_5 rfl ?_
      refine r_mn (pc := 6) C hV dX10_inState_6 fx_RX10_16 ?_
      refine r_icmp_ge (pc := 9) (tgt := 36) C dX10_inState_9 (by decide) (fun c9 => ?_) (fun c9 => ?_)
      · exact absurd c9 (nI_ge hi (by omega))
      · refine r_iload_n (pc := 12) C dX10_inState_12 rfl ?_
        refine r_aload_n (pc := 13) C dX10_inState_13 rfl ?_
        refine r_mA (pc := 14) C hV dX10_inState_14 fx_RX10_30 (len := 140) (by decide) ?_
        refine r_iload_n (pc := 17) C dX10_inState_17 rfl ?_
        refine r_mL (pc := 18) C hV dX10_inState_18 (k := 13) (len := 140) (by decide) (by decide) (by decide) (by omega) (by decide) ?_
        refine r_iload_n (pc := 19) C dX10_inState_19 rfl ?_
        refine r_icmp_ne (pc := 20) (tgt := 27) C dX10_inState_20 (by decide) (fun c20 => ?_) (fun c20 => ?_)
        · have hv2 := cntU_f (f := fun t => decide (M 13 t = v)) (n := i) (decide_eq_false c20)
          refine r_iconst (pc := 27) C (nI 0) dX10_inState_27 rfl ?_
          refine r_iadd (pc := 28) C dX10_inState_28 ?_
          try simp only [nI_add, pk_mul]
          refine r_istore_n (pc := 29) C dX10_inState_29 (by decide) rfl ?_
          refine r_iinc (pc := 30) C _ dX10_inState_30 rfl (nI_1 _) (by decide) rfl ?_
          refine r_goto (pc := 33) (tgt := 4) C dX10_inState_33 (by decide) ?_
          exact r_lv C [(0, vr (some mo)), (1, vi v), (2, vi _), (3, vi (nI (i + 1)))] rfl (ih _ (by rw [hv2]))
        · have hv2 := cntU_t (f := fun t => decide (M 13 t = v)) (n := i) (decide_eq_true c20)
          refine r_iconst (pc := 23) C (nI 1) dX10_inState_23 rfl ?_
          refine r_goto (pc := 24) (tgt := 28) C dX10_inState_24 (by decide) ?_
          refine r_iadd (pc := 28) C dX10_inState_28 ?_
          try simp only [nI_add, pk_mul]
          refine r_istore_n (pc := 29) C dX10_inState_29 (by decide) rfl ?_
          refine r_iinc (pc := 30) C _ dX10_inState_30 rfl (nI_1 _) (by decide) rfl ?_
          refine r_goto (pc := 33) (tgt := 4) C dX10_inState_33 (by decide) ?_
          exact r_lv C [(0, vr (some mo)), (1, vi v), (2, vi _), (3, vi (nI (i + 1)))] rfl (ih _ (by rw [hv2]))
  refine r_iconst (pc := 0) C (nI 0) dX10_inState_0 rfl ?_
  refine r_istore_n (pc := 1) C dX10_inState_1 (by decide) rfl ?_
  refine r_iconst (pc := 2) C (nI 0) dX10_inState_2 rfl ?_
  refine r_istore_n (pc := 3) C dX10_inState_3 (by decide) rfl ?_
  exact r_lv C [(0, vr (some mo)), (1, vi v), (2, vi _), (3, vi (nI 0))] rfl (L 0 _ (by omega) rfl)
theorem cm_allLeft {a : Nat} (hV : MV S mo M n h) (ha : Gs S mo 19 = nI a) (ha2 : a ≤ 140) (hA : Acc M n a) : Sp l g mX10_allLeft 0 0 [vr (some mo)] S (fun r S' => r = some (vi (alS M n h a)) ∧ S' = S) := by
  have hC0 : Gch S S mo (Gs S mo) := Gc.rf
  have hn2 := hV.G.1
  refine Sp.start (own := RX10) [(0, vr (some mo))] (by decide +kernel) rfl rfl (Nat.le_of_ble_eq_true rfl) ?_
  intro J C
  have L : ∀ i x, i ≤ a → x = alS M n h i → J 4 [(0, vr (some mo)), (1, vi x), (2, vi (nI i))] [] S 0 0 := by
    refine up_loop _ _ _ ?_ ?_
    · intro x hx
      refine r_iload_n (pc := 4) C dX10_allLeft_4 rfl ?_
      refine r_aload_n (pc := 5) C dX10_allLeft_5 rfl ?_
      refine r_mI (pc := 6) (k := 19) C hV dX10_allLeft_6 fx_RX10_49 ?_
      rw [ha]
      refine r_icmp_ge (pc := 9) (tgt := 54) C dX10_allLeft_9 (by decide) (fun c9 => ?_) (fun c9 => ?_)
      · refine r_iload_n (pc := 54) C dX10_allLeft_54 rfl ?_
        refine r_iret (pc := 55) C dX10_allLeft_55 rfl (by omega) (by omega) ?_
        exact ⟨by rw [hx], rfl⟩
      · exact absurd (Int32.le_refl _) c9
    · intro i x hi hx ih
      obtain ⟨e18, htn⟩ := hA i hi
      have ho8 := (hV.R htn).2.2.2.1
      have L2 : ∀ j y, j ≤ nO (M 11) (acN M i) → y = lfS M n h (acN M i) (alS M n h i) j → J 22 [(0, vr (some mo)), (1, vi y), (2, vi (nI i)), (3, vi (nI (acN M i))), (4, vi (nI j))] [] S 0 0 := by
        refine up_loop _ _ _ ?_ ?_
        · intro y hy
          refine r_iload (pc := 22) C dX10_allLeft_22 rfl ?_
          refine r_aload_n (pc := 24) C dX10_allLeft_24 rfl ?_
          refine r_iload_n (pc := 25) C dX10_allLeft_25 rfl ?_
          refine r_callV (pc := 26) C (mv_outputsOf hV htn) iX10_outputsOf ml_RX10_245 dX10_allLeft_26 (ci := 11) rfl rfl hV.1.1 rfl (by decide) rfl (by simp [cv, Value.category, va_rf]) (by omega) (by omega) (fun r26 S26 h26 => ?_)
          obtain ⟨rfl, e26⟩ := h26
          subst S26
          dsimp only [Option.toList, List.cons_append, List.nil_append]
          refine r_icmp_ge (pc := 29) (tgt := 48) C dX10_allLeft_29 (by decide) (fun c29 => ?_) (fun c29 => ?_)
          · refine r_iinc (pc := 48) C _ dX10_allLeft_48 rfl (nI_1 _) (by decide) rfl ?_
            refine r_goto (pc := 51) (tgt := 4) C dX10_allLeft_51 (by decide) ?_
            exact r_lv C [(0, vr (some mo)), (1, vi y), (2, vi (nI (i + 1)))] rfl (ih _ (by rw [hy]; rfl))
          · exact absurd (Int32.le_refl _) c29
        · intro j y hj hy ih2
          refine r_iload (pc := 22) C dX10_allLeft_22 rfl ?_
          refine r_aload_n (pc := 24) C dX10_allLeft_24 rfl ?_
          refine r_iload_n (pc := 25) C dX10_allLeft_25 rfl ?_
          refine r_callV (pc := 26) C (mv_outputsOf hV htn) iX10_outputsOf ml_RX10_245 dX10_allLeft_26 (ci := 11) rfl rfl hV.1.1 rfl (by decide) rfl (by simp [cv, Value.category, va_rf]) (by omega) (by omega) (fun r26 S26 h26 => ?_)
          obtain ⟨rfl, e26⟩ := h26
          subst S26
          dsimp only [Option.toList, List.cons_append, List.nil_append]
          refine r_icmp_ge (pc := 29) (tgt := 48) C dX10_allLeft_29 (by decide) (fun c29 => ?_) (fun c29 => ?_)
          · exact absurd c29 (nI_ge hj (by omega))
          · refine r_iload_n (pc := 32) C dX10_allLeft_32 rfl ?_
            refine r_aload_n (pc := 33) C dX10_allLeft_33 rfl ?_
            refine r_iload_n (pc := 34) C dX10_allLeft_34 rfl ?_
            refine r_iload (pc := 35) C dX10_allLeft_35 rfl ?_
            refine r_callV (pc := 37) C (cm_left hV htn hj) iX10_left ml_RX10_343 dX10_allLeft_37 (ci := 11) rfl rfl hV.1.1 rfl (by decide) rfl (by simp [cv, Value.category, va_rf]) (by omega) (by omega) (fun r37 S37 h37 => ?_)
            obtain ⟨rfl, e37⟩ := h37
            subst S37
            dsimp only [Option.toList, List.cons_append, List.nil_append]
            refine r_iadd (pc := 40) C dX10_allLeft_40 ?_
            refine r_istore_n (pc := 41) C dX10_allLeft_41 (by decide) rfl ?_
            refine r_iinc (pc := 42) C _ dX10_allLeft_42 rfl (nI_1 _) (by decide) rfl ?_
            refine r_goto (pc := 45) (tgt := 22) C dX10_allLeft_45 (by decide) ?_
            exact r_lv C [(0, vr (some mo)), (1, vi _), (2, vi (nI i)), (3, vi (nI (acN M i))), (4, vi (nI (j + 1)))] rfl (ih2 _ (by rw [hy]; rfl))
      refine r_iload_n (pc := 4) C dX10_allLeft_4 rfl ?_
      refine r_aload_n (pc := 5) C dX10_allLeft_5 rfl ?_
      refine r_mI (pc := 6) (k := 19) C hV dX10_allLeft_6 fx_RX10_49 ?_
      rw [ha]
      refine r_icmp_ge (pc := 9) (tgt := 54) C dX10_allLeft_9 (by decide) (fun c9 => ?_) (fun c9 => ?_)
      · exact absurd c9 (nI_ge hi (by omega))
      · refine r_aload_n (pc := 12) C dX10_allLeft_12 rfl ?_
        refine r_mA (pc := 13) C hV dX10_allLeft_13 fx_RX10_46 (len := 140) (by decide) ?_
        refine r_iload_n (pc := 16) C dX10_allLeft_16 rfl ?_
        refine r_mL (pc := 17) C hV dX10_allLeft_17 (k := 18) (len := 140) (by decide) (by decide) (by decide) (by omega) (by decide) ?_
        rw [e18]
        refine r_istore_n (pc := 18) C dX10_allLeft_18 (by decide) rfl ?_
        refine r_iconst (pc := 19) C (nI 0) dX10_allLeft_19 rfl ?_
        refine r_istore (pc := 20) C dX10_allLeft_20 (by decide) rfl ?_
        exact r_lv C [(0, vr (some mo)), (1, vi x), (2, vi (nI i)), (3, vi (nI (acN M i))), (4, vi (nI 0))] rfl (L2 0 _ (by omega) hx)
  refine r_iconst (pc := 0) C (nI 0) dX10_allLeft_0 rfl ?_
  refine r_istore_n (pc := 1) C dX10_allLeft_1 (by decide) rfl ?_
  refine r_iconst (pc := 2) C (nI 0) dX10_allLeft_2 rfl ?_
  refine r_istore_n (pc := 3) C dX10_allLeft_3 (by decide) rfl ?_
  exact r_lv C [(0, vr (some mo)), (1, vi _), (2, vi (nI 0))] rfl (L 0 _ (by omega) rfl)
theorem cm_count {w : Int32} {a : Nat} (hX : MX S mo M F G X n h) (ha : G 19 = nI a) (ha2 : a ≤ 140) (hA : Acc M n a) : Sp l g mX10_count 0 0 [vr (some mo), vi w] S (fun r S' => r = some (vi (cnR M F G n h a w)) ∧ MX S' mo M F (upd G 0 (nI 0)) X n h ∧ Rf S S' mo) := by
  have hV := hX.V
  have hC0 : Gch S S mo (Gs S mo) := Gc.rf
  rw [hX.gg] at hC0
  generalize hRR : cnR M F G n h a w = R
  by_cases h0 : w < 0 ∨ nI 11 ≤ w
  · have e : -1 = R := by rw [← hRR]; simp only [cnR]; rw [if_pos h0]
    subst e
    refine Sp.start (own := RX10) [(0, vr (some mo)), (1, vi w)] (by decide +kernel) rfl rfl (Nat.le_of_ble_eq_true rfl) ?_
    intro J C
    refine r_aload_n (pc := 0) C dX10_count_0 rfl ?_
    refine r_iconst (pc := 1) C (nI 0) dX10_count_1 rfl ?_
    refine r_mP (pc := 2) (k := 0) C hV dX10_count_2 fx_RX10_145 (fp_11_0 _) (by decide) (fun S2 hC2 hV2 => ?_)
    have hC2r := hC2
    have hC2 := hC0.trs hC2
    refine r_iload_n (pc := 5) C dX10_count_5 rfl ?_
    refine r_swOut (pc := 6) C dX10_count_6 (tgt := 122) (sw_out (k := 10) (by omega) h0) (by decide) ?_
    refine r_iconst (pc := 122) C (-1) dX10_count_122 rfl ?_
    refine r_iret (pc := 123) C dX10_count_123 rfl (by omega) (by omega) ?_
    exact ⟨rfl, hX.fin0 hC2 hV2⟩
  · rcases pk_ix w (n := 11) (by omega) with h1 | h1 | ⟨j, hj, rfl⟩
    · exact absurd (Or.inl h1) h0
    · exact absurd (Or.inr h1) h0
    · have e : cnV M F G n h a j = R := by rw [← hRR]; simp only [cnR]; rw [if_neg h0, nI_clamp (by omega)]
      subst e
      refine Sp.start (own := RX10) [(0, vr (some mo)), (1, vi (nI j))] (by decide +kernel) rfl rfl (Nat.le_of_ble_eq_true rfl) ?_
      intro J C
      have hj11 : j = 0 ∨ j = 1 ∨ j = 2 ∨ j = 3 ∨ j = 4 ∨ j = 5 ∨ j = 6 ∨ j = 7 ∨ j = 8 ∨ j = 9 ∨ j = 10 := by omega
      rcases hj11 with rfl | rfl | rfl | rfl | rfl | rfl | rfl | rfl | rfl | rfl | rfl
      · refine r_aload_n (pc := 0) C dX10_count_0 rfl ?_
        refine r_iconst (pc := 1) C (nI 0) dX10_count_1 rfl ?_
        refine r_mP (pc := 2) (k := 0) C hV dX10_count_2 fx_RX10_145 (fp_11_0 _) (by decide) (fun S2 hC2 hV2 => ?_)
        have hC2r := hC2
        have hC2 := hC0.trs hC2
        refine r_iload_n (pc := 5) C dX10_count_5 rfl ?_
        refine r_swIn (pc := 6) C dX10_count_6 (tgt := 64) (by decide) (by decide) (off := 58) rfl (by decide) ?_
        refine r_aload_n (pc := 64) C dX10_count_64 rfl ?_
        refine r_mn (pc := 65) C hV2 dX10_count_65 fx_RX10_16 ?_
        refine r_iret (pc := 68) C dX10_count_68 rfl (by omega) (by omega) ?_
        exact ⟨rfl, hX.fin0 hC2 hV2⟩
      · refine r_aload_n (pc := 0) C dX10_count_0 rfl ?_
        refine r_iconst (pc := 1) C (nI 0) dX10_count_1 rfl ?_
        refine r_mP (pc := 2) (k := 0) C hV dX10_count_2 fx_RX10_145 (fp_11_0 _) (by decide) (fun S2 hC2 hV2 => ?_)
        have hC2r := hC2
        have hC2 := hC0.trs hC2
        refine r_iload_n (pc := 5) C dX10_count_5 rfl ?_
        refine r_swIn (pc := 6) C dX10_count_6 (tgt := 69) (by decide) (by decide) (off := 63) rfl (by decide) ?_
        refine r_aload_n (pc := 69) C dX10_count_69 rfl ?_
        refine r_iconst (pc := 70) C (nI 1) dX10_count_70 rfl ?_
        refine r_callV (pc := 71) C (cm_inState hV2) iX10_inState ml_RX10_365 dX10_count_71 (ci := 11) rfl rfl hV2.1.1 rfl (by decide) rfl (by simp [cv, Value.category, va_rf]) (by omega) (by omega) (fun r71 S71 h71 => ?_)
        obtain ⟨rfl, e71⟩ := h71
        subst S71
        dsimp only [Option.toList, List.cons_append, List.nil_append]
        refine r_iret (pc := 74) C dX10_count_74 rfl (by omega) (by omega) ?_
        exact ⟨rfl, hX.fin0 hC2 hV2⟩
      · refine r_aload_n (pc := 0) C dX10_count_0 rfl ?_
        refine r_iconst (pc := 1) C (nI 0) dX10_count_1 rfl ?_
        refine r_mP (pc := 2) (k := 0) C hV dX10_count_2 fx_RX10_145 (fp_11_0 _) (by decide) (fun S2 hC2 hV2 => ?_)
        have hC2r := hC2
        have hC2 := hC0.trs hC2
        refine r_iload_n (pc := 5) C dX10_count_5 rfl ?_
        refine r_swIn (pc := 6) C dX10_count_6 (tgt := 75) (by decide) (by decide) (off := 69) rfl (by decide) ?_
        refine r_aload_n (pc := 75) C dX10_count_75 rfl ?_
        refine r_mh (pc := 76) C hV2 dX10_count_76 fx_RX10_43 ?_
        refine r_iret (pc := 79) C dX10_count_79 rfl (by omega) (by omega) ?_
        exact ⟨rfl, hX.fin0 hC2 hV2⟩
      · refine r_aload_n (pc := 0) C dX10_count_0 rfl ?_
        refine r_iconst (pc := 1) C (nI 0) dX10_count_1 rfl ?_
        refine r_mP (pc := 2) (k := 0) C hV dX10_count_2 fx_RX10_145 (fp_11_0 _) (by decide) (fun S2 hC2 hV2 => ?_)
        have hC2r := hC2
        have hC2 := hC0.trs hC2
        refine r_iload_n (pc := 5) C dX10_count_5 rfl ?_
        refine r_swIn (pc := 6) C dX10_count_6 (tgt := 80) (by decide) (by decide) (off := 74) rfl (by decide) ?_
        refine r_aload_n (pc := 80) C dX10_count_80 rfl ?_
        refine r_mI (pc := 81) (k := 19) C hV2 dX10_count_81 fx_RX10_49 ?_
        rw [hC2.gs, show upd G 0 (nI 0) 19 = nI a from ha]
        refine r_iret (pc := 84) C dX10_count_84 rfl (by omega) (by omega) ?_
        exact ⟨rfl, hX.fin0 hC2 hV2⟩
      · refine r_aload_n (pc := 0) C dX10_count_0 rfl ?_
        refine r_iconst (pc := 1) C (nI 0) dX10_count_1 rfl ?_
        refine r_mP (pc := 2) (k := 0) C hV dX10_count_2 fx_RX10_145 (fp_11_0 _) (by decide) (fun S2 hC2 hV2 => ?_)
        have hC2r := hC2
        have hC2 := hC0.trs hC2
        refine r_iload_n (pc := 5) C dX10_count_5 rfl ?_
        refine r_swIn (pc := 6) C dX10_count_6 (tgt := 85) (by decide) (by decide) (off := 79) rfl (by decide) ?_
        refine r_aload_n (pc := 85) C dX10_count_85 rfl ?_
        refine r_iconst (pc := 86) C (nI 4) dX10_count_86 rfl ?_
        refine r_callV (pc := 87) C (cm_inState hV2) iX10_inState ml_RX10_365 dX10_count_87 (ci := 11) rfl rfl hV2.1.1 rfl (by decide) rfl (by simp [cv, Value.category, va_rf]) (by omega) (by omega) (fun r87 S87 h87 => ?_)
        obtain ⟨rfl, e87⟩ := h87
        subst S87
        dsimp only [Option.toList, List.cons_append, List.nil_append]
        refine r_iret (pc := 90) C dX10_count_90 rfl (by omega) (by omega) ?_
        exact ⟨rfl, hX.fin0 hC2 hV2⟩
      · refine r_aload_n (pc := 0) C dX10_count_0 rfl ?_
        refine r_iconst (pc := 1) C (nI 0) dX10_count_1 rfl ?_
        refine r_mP (pc := 2) (k := 0) C hV dX10_count_2 fx_RX10_145 (fp_11_0 _) (by decide) (fun S2 hC2 hV2 => ?_)
        have hC2r := hC2
        have hC2 := hC0.trs hC2
        refine r_iload_n (pc := 5) C dX10_count_5 rfl ?_
        refine r_swIn (pc := 6) C dX10_count_6 (tgt := 91) (by decide) (by decide) (off := 85) rfl (by decide) ?_
        refine r_aload_n (pc := 91) C dX10_count_91 rfl ?_
        refine r_iconst (pc := 92) C (nI 5) dX10_count_92 rfl ?_
        refine r_callV (pc := 93) C (cm_inState hV2) iX10_inState ml_RX10_365 dX10_count_93 (ci := 11) rfl rfl hV2.1.1 rfl (by decide) rfl (by simp [cv, Value.category, va_rf]) (by omega) (by omega) (fun r93 S93 h93 => ?_)
        obtain ⟨rfl, e93⟩ := h93
        subst S93
        dsimp only [Option.toList, List.cons_append, List.nil_append]
        refine r_iret (pc := 96) C dX10_count_96 rfl (by omega) (by omega) ?_
        exact ⟨rfl, hX.fin0 hC2 hV2⟩
      · refine r_aload_n (pc := 0) C dX10_count_0 rfl ?_
        refine r_iconst (pc := 1) C (nI 0) dX10_count_1 rfl ?_
        refine r_mP (pc := 2) (k := 0) C hV dX10_count_2 fx_RX10_145 (fp_11_0 _) (by decide) (fun S2 hC2 hV2 => ?_)
        have hC2r := hC2
        have hC2 := hC0.trs hC2
        refine r_iload_n (pc := 5) C dX10_count_5 rfl ?_
        refine r_swIn (pc := 6) C dX10_count_6 (tgt := 97) (by decide) (by decide) (off := 91) rfl (by decide) ?_
        refine r_aload_n (pc := 97) C dX10_count_97 rfl ?_
        refine r_callV (pc := 98) C (cm_openPolls hV2) iX10_openPolls ml_RX10_293 dX10_count_98 (ci := 11) rfl rfl hV2.1.1 rfl (by decide) rfl (by simp [cv, Value.category, va_rf]) (by omega) (by omega) (fun r98 S98 h98 => ?_)
        obtain ⟨rfl, e98⟩ := h98
        subst S98
        dsimp only [Option.toList, List.cons_append, List.nil_append]
        rw [hC2r.keep (k := 25) (by decide) (by decide) (by decide), hX.f (by decide)]
        refine r_iret (pc := 101) C dX10_count_101 rfl (by omega) (by omega) ?_
        exact ⟨rfl, hX.fin0 hC2 hV2⟩
      · refine r_aload_n (pc := 0) C dX10_count_0 rfl ?_
        refine r_iconst (pc := 1) C (nI 0) dX10_count_1 rfl ?_
        refine r_mP (pc := 2) (k := 0) C hV dX10_count_2 fx_RX10_145 (fp_11_0 _) (by decide) (fun S2 hC2 hV2 => ?_)
        have hC2r := hC2
        have hC2 := hC0.trs hC2
        refine r_iload_n (pc := 5) C dX10_count_5 rfl ?_
        refine r_swIn (pc := 6) C dX10_count_6 (tgt := 102) (by decide) (by decide) (off := 96) rfl (by decide) ?_
        refine r_aload_n (pc := 102) C dX10_count_102 rfl ?_
        refine r_mI (pc := 103) (k := 29) C hV2 dX10_count_103 fx_RX10_297 ?_
        rw [hC2.gs]
        refine r_iret (pc := 106) C dX10_count_106 rfl (by omega) (by omega) ?_
        exact ⟨rfl, hX.fin0 hC2 hV2⟩
      · refine r_aload_n (pc := 0) C dX10_count_0 rfl ?_
        refine r_iconst (pc := 1) C (nI 0) dX10_count_1 rfl ?_
        refine r_mP (pc := 2) (k := 0) C hV dX10_count_2 fx_RX10_145 (fp_11_0 _) (by decide) (fun S2 hC2 hV2 => ?_)
        have hC2r := hC2
        have hC2 := hC0.trs hC2
        refine r_iload_n (pc := 5) C dX10_count_5 rfl ?_
        refine r_swIn (pc := 6) C dX10_count_6 (tgt := 107) (by decide) (by decide) (off := 101) rfl (by decide) ?_
        refine r_aload_n (pc := 107) C dX10_count_107 rfl ?_
        refine r_mI (pc := 108) (k := 30) C hV2 dX10_count_108 fx_RX10_313 ?_
        rw [hC2.gs]
        refine r_iret (pc := 111) C dX10_count_111 rfl (by omega) (by omega) ?_
        exact ⟨rfl, hX.fin0 hC2 hV2⟩
      · refine r_aload_n (pc := 0) C dX10_count_0 rfl ?_
        refine r_iconst (pc := 1) C (nI 0) dX10_count_1 rfl ?_
        refine r_mP (pc := 2) (k := 0) C hV dX10_count_2 fx_RX10_145 (fp_11_0 _) (by decide) (fun S2 hC2 hV2 => ?_)
        have hC2r := hC2
        have hC2 := hC0.trs hC2
        refine r_iload_n (pc := 5) C dX10_count_5 rfl ?_
        refine r_swIn (pc := 6) C dX10_count_6 (tgt := 112) (by decide) (by decide) (off := 106) rfl (by decide) ?_
        refine r_aload_n (pc := 112) C dX10_count_112 rfl ?_
        refine r_mI (pc := 113) (k := 8) C hV2 dX10_count_113 fx_RX10_173 ?_
        rw [hC2.gs]
        refine r_iret (pc := 116) C dX10_count_116 rfl (by omega) (by omega) ?_
        exact ⟨rfl, hX.fin0 hC2 hV2⟩
      · refine r_aload_n (pc := 0) C dX10_count_0 rfl ?_
        refine r_iconst (pc := 1) C (nI 0) dX10_count_1 rfl ?_
        refine r_mP (pc := 2) (k := 0) C hV dX10_count_2 fx_RX10_145 (fp_11_0 _) (by decide) (fun S2 hC2 hV2 => ?_)
        have hC2r := hC2
        have hC2 := hC0.trs hC2
        refine r_iload_n (pc := 5) C dX10_count_5 rfl ?_
        refine r_swIn (pc := 6) C dX10_count_6 (tgt := 117) (by decide) (by decide) (off := 111) rfl (by decide) ?_
        refine r_aload_n (pc := 117) C dX10_count_117 rfl ?_
        refine r_callV (pc := 118) C (cm_allLeft hV2 (by rw [hC2.gs]; exact ha) ha2 hA) iX10_allLeft ml_RX10_368 dX10_count_118 (ci := 11) rfl rfl hV2.1.1 rfl (by decide) rfl (by simp [cv, Value.category, va_rf]) (by omega) (by omega) (fun r118 S118 h118 => ?_)
        obtain ⟨rfl, e118⟩ := h118
        subst S118
        dsimp only [Option.toList, List.cons_append, List.nil_append]
        refine r_iret (pc := 121) C dX10_count_121 rfl (by omega) (by omega) ?_
        exact ⟨rfl, hX.fin0 hC2 hV2⟩
end SetP
