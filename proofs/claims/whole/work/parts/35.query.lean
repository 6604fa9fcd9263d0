/-! The reference: held ones, query -/
def hv (M : MM) (t : Nat) : Bool := !dlt (M 13 t) (nI 2) && !dlt (nI 4) (M 13 t)
def hvo (M : MM) (o : Option Nat) : Bool := match o with
  | none => false
  | some t => hv M t
def qry (M : MM) (n h : Nat) (id : Int32) : Int32 := match fdo (M 10) id n with
  | none => -1
  | some t => if hv M t then bi (stg M n h t) else -1
/-- a held one stands, and so do its ancestors -/
def Hq (M : MM) (n h : Nat) : Prop := ∀ t, t < n → hv M t = true → Ht M n t ∧ ∀ a, a < n → anc M n h t a = true → Ht M n a
section Query
variable {l : Launch} {g : GG} {S : hS} {mo : Nat} {M : MM} {n h : Nat}
theorem cm_isHeld {o : Option Nat} (hV : MV S mo M n h) (ho : ∀ t, o = some t → t < n) : Sp l g mX10_isHeld 0 0 [vr (some mo), vi (oI o)] S (fun r S' => r = some (vi (bi (hvo M o))) ∧ S' = S) := by
  have hC0 : Gch S S mo (Gs S mo) := Gc.rf
  have hn2 := hV.G.1
  cases o with
  | none =>
    refine Sp.start (own := RX10) [(0, vr (some mo)), (1, vi (-1))] (by decide +kernel) rfl rfl (Nat.le_of_ble_eq_true rfl) ?_
    intro J C
    refine r_iload_n (pc := 0) C dX10_isHeld_0 rfl ?_
    refine r_if_lt (pc := 1) (tgt := 28) C dX10_isHeld_1 (by decide) (fun c1 => ?_) (fun c1 => ?_)
    · refine r_iconst (pc := 28) C (nI 0) dX10_isHeld_28 rfl ?_
      refine r_zret (pc := 29) C dX10_isHeld_29 rfl (by first | exact Or.inl rfl | exact Or.inr rfl | assumption) (by omega) (by omega) ?_
      exact ⟨rfl, rfl⟩
    · exact absurd (by decide) c1
  | some t =>
    have ht := ho t rfl
    refine Sp.start (own := RX10) [(0, vr (some mo)), (1, vi (nI t))] (by decide +kernel) rfl rfl (Nat.le_of_ble_eq_true rfl) ?_
    intro J C
    refine r_iload_n (pc := 0) C dX10_isHeld_0 rfl ?_
    refine r_if_lt (pc := 1) (tgt := 28) C dX10_isHeld_1 (by decide) (fun c1 => ?_) (fun c1 => ?_)
    · exact absurd c1 (nI_pos (by omega))
    · refine r_aload_n (pc := 4) C dX10_isHeld_4 rfl ?_
      refine r_mA (pc := 5) C hV dX10_isHeld_5 fx_RX10_30 (len := 140) (by decide) ?_
      refine r_iload_n (pc := 8) C dX10_isHeld_8 rfl ?_
      refine r_mL (pc := 9) C hV dX10_isHeld_9 (k := 13) (len := 140) (by decide) (by decide) (by decide) (by omega) (by decide) ?_
      refine r_iconst (pc := 10) C (nI 2) dX10_isHeld_10 rfl ?_
      refine r_icmp_lt (pc := 11) (tgt := 28) C dX10_isHeld_11 (by decide) (fun c11 => ?_) (fun c11 => ?_)
      · have hv2 : hv M t = false := by simp only [hv, dlt_t c11]; rfl
        refine r_iconst (pc := 28) C (nI 0) dX10_isHeld_28 rfl ?_
        refine r_zret (pc := 29) C dX10_isHeld_29 rfl (by first | exact Or.inl rfl | exact Or.inr rfl | assumption) (by omega) (by omega) ?_
        exact ⟨by simp only [hvo, hv2]; rfl, rfl⟩
      · have e11 := dlt_f (Int32.not_lt.mp c11)
        refine r_aload_n (pc := 14) C dX10_isHeld_14 rfl ?_
        refine r_mA (pc := 15) C hV dX10_isHeld_15 fx_RX10_30 (len := 140) (by decide) ?_
        refine r_iload_n (pc := 18) C dX10_isHeld_18 rfl ?_
        refine r_mL (pc := 19) C hV dX10_isHeld_19 (k := 13) (len := 140) (by decide) (by decide) (by decide) (by omega) (by decide) ?_
        refine r_iconst (pc := 20) C (nI 4) dX10_isHeld_20 rfl ?_
        refine r_icmp_gt (pc := 21) (tgt := 28) C dX10_isHeld_21 (by decide) (fun c21 => ?_) (fun c21 => ?_)
        · have hv2 : hv M t = false := by simp only [hv, dlt_t c21, Bool.not_true, Bool.and_false]
          refine r_iconst (pc := 28) C (nI 0) dX10_isHeld_28 rfl ?_
          refine r_zret (pc := 29) C dX10_isHeld_29 rfl (by first | exact Or.inl rfl | exact Or.inr rfl | assumption) (by omega) (by omega) ?_
          exact ⟨by simp only [hvo, hv2]; rfl, rfl⟩
        · have hv2 : hv M t = true := by simp only [hv, e11, dlt_f (Int32.not_lt.mp c21)]; rfl
          refine r_iconst (pc := 24) C (nI 1) dX10_isHeld_24 rfl ?_
          refine r_goto (pc := 25) (tgt := 29) C dX10_isHeld_25 (by decide) ?_
          refine r_zret (pc := 29) C dX10_isHeld_29 rfl (by first | exact Or.inl rfl | exact Or.inr rfl | assumption) (by omega) (by omega) ?_
          exact ⟨by simp only [hvo, hv2]; rfl, rfl⟩
theorem fdo_lt {f : Nat → Int32} {x : Int32} {n : Nat} : ∀ t, fdo f x n = some t → t < n := fun _ h => (fdo_some h).1
theorem cm_query {id : Int32} (hV : MV S mo M n h) (hQ : Hq M n h) : Sp l g mX10_query 0 0 [vr (some mo), vi id] S (fun r S' => r = some (vi (qry M n h id)) ∧ Gch S S' mo (upd (Gs S mo) 0 (nI 0)) ∧ MV S' mo M n h) := by
  have hC0 : Gch S S mo (Gs S mo) := Gc.rf
  have hn2 := hV.G.1
  generalize hqr : qry M n h id = qr
  generalize hfo : fdo (M 10) id n = o
  refine Sp.start (own := RX10) [(0, vr (some mo)), (1, vi id)] (by decide +kernel) rfl rfl (Nat.le_of_ble_eq_true rfl) ?_
  intro J C
  simp only [qry, hfo] at hqr
  have hol : ∀ t, o = some t → t < n := fun t e => fdo_lt t (by rw [hfo, e])
  refine r_aload_n (pc := 0) C dX10_query_0 rfl ?_
  refine r_iconst (pc := 1) C (nI 0) dX10_query_1 rfl ?_
  refine r_mP (pc := 2) (k := 0) C hV dX10_query_2 fx_RX10_145 (fp_11_0 _) (by decide) (fun S2 hC2 hV2 => ?_)
  have hC2r := hC2
  have hC2 := hC0.trs hC2
  refine r_aload_n (pc := 5) C dX10_query_5 rfl ?_
  refine r_iload_n (pc := 6) C dX10_query_6 rfl ?_
  refine r_callV (pc := 7) C (mv_find hV2) iX10_find ml_RX10_198 dX10_query_7 (ci := 11) rfl rfl hV2.1.1 rfl (by decide) rfl (by simp [cv, Value.category, va_rf]) (by omega) (by omega) (fun r7 S7 h7 => ?_)
  obtain ⟨rfl, e7⟩ := h7
  subst S7
  dsimp only [Option.toList, List.cons_append, List.nil_append]
  rw [hfo]
  refine r_istore_n (pc := 10) C dX10_query_10 (by decide) rfl ?_
  refine r_aload_n (pc := 11) C dX10_query_11 rfl ?_
  refine r_iload_n (pc := 12) C dX10_query_12 rfl ?_
  refine r_callV (pc := 13) C (cm_isHeld hV2 hol) iX10_isHeld ml_RX10_283 dX10_query_13 (ci := 11) rfl rfl hV2.1.1 rfl (by decide) rfl (by simp [cv, Value.category, va_rf]) (by omega) (by omega) (fun r13 S13 h13 => ?_)
  obtain ⟨rfl, e13⟩ := h13
  subst S13
  dsimp only [Option.toList, List.cons_append, List.nil_append]
  refine r_if_ne (pc := 16) (tgt := 23) C dX10_query_16 (by decide) (fun c16 => ?_) (fun c16 => ?_)
  · rw [bi_0] at c16
    have c16t := ts_nf c16
    obtain ⟨t, rfl⟩ : ∃ t, o = some t := by cases o with | none => cases c16t | some t => exact ⟨t, rfl⟩
    have hht := hQ t (hol t rfl) c16t
    simp only [hvo] at c16t
    simp only [c16t, if_true] at hqr
    dsimp only [oI]
    refine r_aload_n (pc := 23) C dX10_query_23 rfl ?_
    refine r_iload_n (pc := 24) C dX10_query_24 rfl ?_
    refine r_callV (pc := 25) C (cm_isStrong hV2 hht.1 hht.2) iX10_isStrong ml_RX10_286 dX10_query_25 (ci := 11) rfl rfl hV2.1.1 rfl (by decide) rfl (by simp [cv, Value.category, va_rf]) (by omega) (by omega) (fun r25 S25 h25 => ?_)
    obtain ⟨rfl, hCr, hV25⟩ := h25
    have hC25 := hC2.trk hCr
    dsimp only [Option.toList, List.cons_append, List.nil_append]
    refine r_if_eq (pc := 28) (tgt := 35) C dX10_query_28 (by decide) (fun c28 => ?_) (fun c28 => ?_)
    · rw [bi_0] at c28
      have hqr2 : nI 0 = qr := by rw [← hqr, c28]; rfl
      refine r_iconst (pc := 35) C (nI 0) dX10_query_35 rfl ?_
      refine r_iret (pc := 36) C dX10_query_36 rfl (by omega) (by omega) ?_
      exact ⟨by rw [hqr2], hC25, hV25⟩
    · rw [bi_0] at c28
      have hqr2 : nI 1 = qr := by rw [← hqr, ts_nf c28]; rfl
      refine r_iconst (pc := 31) C (nI 1) dX10_query_31 rfl ?_
      refine r_goto (pc := 32) (tgt := 36) C dX10_query_32 (by decide) ?_
      refine r_iret (pc := 36) C dX10_query_36 rfl (by omega) (by omega) ?_
      exact ⟨by rw [hqr2], hC25, hV25⟩
  · rw [bi_0] at c16
    have hqr2 : qr = -1 := by cases o with | none => exact hqr.symm | some t => simp only [hvo] at c16; simp only [c16, Bool.false_eq_true, if_false] at hqr; exact hqr.symm
    refine r_iconst (pc := 19) C (-1) dX10_query_19 rfl ?_
    refine r_goto (pc := 20) (tgt := 36) C dX10_query_20 (by decide) ?_
    refine r_iret (pc := 36) C dX10_query_36 rfl (by omega) (by omega) ?_
    exact ⟨by rw [hqr2], hC2, hV2⟩
end Query
