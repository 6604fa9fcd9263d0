/-! The reference: accepting, the end of a poll -/
def acc1 (M : MM) (n h t a : Nat) : MM := rr (um (um M 13 t (nI 3)) 18 a (nI t)) n h t
def accL (M : MM) (n h : Nat) (b1 b2 : Int32) (a : Nat) : Nat → MM × Nat
  | 0 => (M, a)
  | k + 1 => if k = 0 then (M, a) else if acp (accL M n h b1 b2 a k).1 n h b1 b2 (hdN M k) then (acc1 (accL M n h b1 b2 a k).1 n h (hdN M k) (accL M n h b1 b2 a k).2, (accL M n h b1 b2 a k).2 + 1) else accL M n h b1 b2 a k
theorem rr_sm {M : MM} {n h t : Nat} : Sm M (rr M n h t) := rrL_sm _
theorem acc1_sm {M : MM} {n h t a : Nat} : Sm M (acc1 M n h t a) := ((um_sm (by decide)).tr (um_sm (by decide))).tr rr_sm
theorem accL_sm {M : MM} {n h a : Nat} {b1 b2 : Int32} : ∀ k, Sm M (accL M n h b1 b2 a k).1 ∧ (accL M n h b1 b2 a k).2 ≤ a + k
  | 0 => ⟨Sm.rf, Nat.le_refl _⟩
  | k + 1 => by
    have ih := accL_sm (M := M) (n := n) (h := h) (a := a) (b1 := b1) (b2 := b2) k
    simp only [accL]
    split
    · exact ⟨Sm.rf, by omega⟩
    · split
      · exact ⟨ih.1.tr acc1_sm, by have := ih.2; simp only; omega⟩
      · exact ⟨ih.1, by omega⟩
section Close
variable {l : Launch} {g : GG} {S : hS} {mo : Nat} {M : MM} {n h : Nat}
theorem cm_accept {a : Nat} (hV : MV S mo M n h) (h1 : 1 ≤ h) (ha : Gs S mo 19 = nI a) (hah : a + h ≤ 140) : Sp l g mX10_accept 0 0 [vr (some mo)] S (fun r S' => r = none ∧ Gc [20, 21] S S' mo (upd (Gs S mo) 19 (nI (accL M n h (Gs S mo 4) (Gs S mo 5) a h).2)) ∧ MV S' mo (accL M n h (Gs S mo 4) (Gs S mo 5) a h).1 n h) := by
  have hG := hV.G
  have hn2 := hG.1
  have hh2 := hG.2.1
  refine Sp.start (own := RX10) [(0, vr (some mo))] (by decide +kernel) rfl rfl (Nat.le_of_ble_eq_true rfl) ?_
  intro J C
  have L : ∀ k S1, k ≤ h → (1 ≤ k ∧ Gc [20, 21] S S1 mo (upd (Gs S mo) 19 (nI (accL M n h (Gs S mo 4) (Gs S mo 5) a k).2)) ∧ MV S1 mo (accL M n h (Gs S mo 4) (Gs S mo 5) a k).1 n h) → J 2 [(0, vr (some mo)), (1, vi (nI k))] [] S1 0 0 := by
    refine up_loop _ _ _ ?_ ?_
    · intro S1 hS
      obtain ⟨hk1, hC1, hV1⟩ := hS
      refine r_iload_n (pc := 2) C dX10_accept_2 rfl ?_
      refine r_aload_n (pc := 3) C dX10_accept_3 rfl ?_
      refine r_mh (pc := 4) C hV1 dX10_accept_4 fx_RX10_43 ?_
      refine r_icmp_ge (pc := 7) (tgt := 63) C dX10_accept_7 (by decide) (fun c7 => ?_) (fun c7 => ?_)
      · refine r_ret (pc := 63) C dX10_accept_63 rfl (by omega) (by omega) ?_
        exact ⟨rfl, hC1, hV1⟩
      · exact absurd (Int32.le_refl _) c7
    · intro k S1 hk hS ih
      obtain ⟨hk1, hC1, hV1⟩ := hS
      obtain ⟨e16, hti⟩ := hG.2.2.2 k hk
      have htn := hti.1
      have hk0 : ¬ k = 0 := by omega
      obtain ⟨hsm, hal⟩ := accL_sm (M := M) (n := n) (h := h) (a := a) (b1 := Gs S mo 4) (b2 := Gs S mo 5) k
      have hg4 : Gs S1 mo 4 = Gs S mo 4 := by rw [hC1.gs]; rfl
      have hg5 : Gs S1 mo 5 = Gs S mo 5 := by rw [hC1.gs]; rfl
      have hgs := hC1.gs
      have ht1 := hti.sm hsm
      have key : ∀ q : Bool, acp (accL M n h (Gs S mo 4) (Gs S mo 5) a k).1 n h (Gs S mo 4) (Gs S mo 5) (hdN M k) = q → accL M n h (Gs S mo 4) (Gs S mo 5) a (k + 1) = if q then (acc1 (accL M n h (Gs S mo 4) (Gs S mo 5) a k).1 n h (hdN M k) (accL M n h (Gs S mo 4) (Gs S mo 5) a k).2, (accL M n h (Gs S mo 4) (Gs S mo 5) a k).2 + 1) else accL M n h (Gs S mo 4) (Gs S mo 5) a k := fun q hq => by simp only [accL, if_neg hk0, hq]
      generalize hM1 : (accL M n h (Gs S mo 4) (Gs S mo 5) a k).1 = M1 at *
      generalize ha1 : (accL M n h (Gs S mo 4) (Gs S mo 5) a k).2 = a1 at *
      refine r_iload_n (pc := 2) C dX10_accept_2 rfl ?_
      refine r_aload_n (pc := 3) C dX10_accept_3 rfl ?_
      refine r_mh (pc := 4) C hV1 dX10_accept_4 fx_RX10_43 ?_
      refine r_icmp_ge (pc := 7) (tgt := 63) C dX10_accept_7 (by decide) (fun c7 => ?_) (fun c7 => ?_)
      · exact absurd c7 (nI_ge hk (by omega))
      · refine r_aload_n (pc := 10) C dX10_accept_10 rfl ?_
        refine r_mA (pc := 11) C hV1 dX10_accept_11 fx_RX10_40 (len := 140) (by decide) ?_
        refine r_iload_n (pc := 14) C dX10_accept_14 rfl ?_
        refine r_mL (pc := 15) C hV1 dX10_accept_15 (k := 16) (len := 140) (by decide) (by decide) (by decide) (by omega) (by decide) ?_
        rw [hsm.2.2, e16]
        refine r_istore_n (pc := 16) C dX10_accept_16 (by decide) rfl ?_
        refine r_aload_n (pc := 17) C dX10_accept_17 rfl ?_
        refine r_iload_n (pc := 18) C dX10_accept_18 rfl ?_
        refine r_callV (pc := 19) C (cm_isAcceptable hV1 ht1) iX10_isAcceptable ml_RX10_322 dX10_accept_19 (ci := 11) rfl rfl hV1.1.1 rfl (by decide) rfl (by simp [cv, Value.category, va_rf]) (by omega) (by omega) (fun r19 S19 h19 => ?_)
        obtain ⟨rfl, e19⟩ := h19
        subst S19
        dsimp only [Option.toList, List.cons_append, List.nil_append]
        rw [hg4, hg5]
        refine r_if_eq (pc := 22) (tgt := 57) C dX10_accept_22 (by decide) (fun c22 => ?_) (fun c22 => ?_)
        · rw [bi_0] at c22
          have c22f := c22
          refine r_iinc (pc := 57) C _ dX10_accept_57 rfl (nI_1 _) (by decide) rfl ?_
          refine r_goto (pc := 60) (tgt := 2) C dX10_accept_60 (by decide) ?_
          refine r_lv C [(0, vr (some mo)), (1, vi (nI (k + 1)))] rfl (ih _ ⟨by omega, ?_, ?_⟩)
          · have hCC := hC1
            first
              | (rw [key _ c22f]; simp only [Bool.false_eq_true, if_false, ha1]; exact hCC)
              | (rw [key _ c22t]; simp only [if_true, upd_upd] at hCC ⊢; exact hCC)
          · have hVV := hV1
            first
              | (rw [key _ c22f]; simp only [Bool.false_eq_true, if_false, hM1]; exact hVV)
              | (rw [key _ c22t]; simp only [if_true]; exact hVV)
        · rw [bi_0] at c22
          have c22t := ts_nf c22
          refine r_aload_n (pc := 25) C dX10_accept_25 rfl ?_
          refine r_mA (pc := 26) C hV1 dX10_accept_26 fx_RX10_30 (len := 140) (by decide) ?_
          refine r_iload_n (pc := 29) C dX10_accept_29 rfl ?_
          refine r_iconst (pc := 30) C (nI 3) dX10_accept_30 rfl ?_
          refine r_mS (pc := 31) C hV1 dX10_accept_31 (k := 13) (len := 140) (by decide) (by decide) (by decide) (by decide) (by omega) (by decide) (fun S31 hC31 hV31 => ?_)
          have hC31 := hC1.trk hC31
          refine r_aload_n (pc := 32) C dX10_accept_32 rfl ?_
          refine r_mA (pc := 33) C hV31 dX10_accept_33 fx_RX10_46 (len := 140) (by decide) ?_
          refine r_aload_n (pc := 36) C dX10_accept_36 rfl ?_
          refine r_mI (pc := 37) (k := 19) C hV31 dX10_accept_37 fx_RX10_49 ?_
          rw [show Gs _ mo 19 = nI a1 from by rw [hC31.gs]; simp [upd]]
          refine r_iload_n (pc := 40) C dX10_accept_40 rfl ?_
          refine r_mS (pc := 41) C hV31 dX10_accept_41 (k := 18) (len := 140) (by decide) (by decide) (by decide) (by decide) (by omega) (by decide) (fun S41 hC41 hV41 => ?_)
          have hC41 := hC31.trk hC41
          refine r_aload_n (pc := 42) C dX10_accept_42 rfl ?_
          refine r_dup (pc := 43) C dX10_accept_43 rfl ?_
          refine r_mI (pc := 44) (k := 19) C hV41 dX10_accept_44 fx_RX10_49 ?_
          rw [show Gs _ mo 19 = nI a1 from by rw [hC41.gs]; simp [upd]]
          refine r_iconst (pc := 47) C (nI 1) dX10_accept_47 rfl ?_
          refine r_iadd (pc := 48) C dX10_accept_48 ?_
          try simp only [nI_add, pk_mul]
          refine r_mP (pc := 49) (k := 19) C hV41 dX10_accept_49 fx_RX10_49 (fp_11_19 _) (by decide) (fun S49 hC49 hV49 => ?_)
          have hC49 := hC41.trs hC49
          refine r_aload_n (pc := 52) C dX10_accept_52 rfl ?_
          refine r_iload_n (pc := 53) C dX10_accept_53 rfl ?_
          refine r_callV (pc := 54) C (cm_rejectRivals hV49 (ht1.sm ((um_sm (by decide)).tr (um_sm (by decide)))) h1) iX10_rejectRivals ml_RX10_325 dX10_accept_54 (ci := 11) rfl rfl hV49.1.1 rfl (by decide) rfl (by simp [cv, Value.category, va_rf]) (by omega) (by omega) (fun r54 S54 h54 => ?_)
          obtain ⟨rfl, hCr, hV54⟩ := h54
          have hC54 := hC49.trk hCr
          dsimp only [Option.toList, List.cons_append, List.nil_append]
          refine r_iinc (pc := 57) C _ dX10_accept_57 rfl (nI_1 _) (by decide) rfl ?_
          refine r_goto (pc := 60) (tgt := 2) C dX10_accept_60 (by decide) ?_
          refine r_lv C [(0, vr (some mo)), (1, vi (nI (k + 1)))] rfl (ih _ ⟨by omega, ?_, ?_⟩)
          · have hCC := hC54
            first
              | (rw [key _ c22f]; simp only [Bool.false_eq_true, if_false, ha1]; exact hCC)
              | (rw [key _ c22t]; simp only [if_true, upd_upd] at hCC ⊢; exact hCC)
          · have hVV := hV54
            first
              | (rw [key _ c22f]; simp only [Bool.false_eq_true, if_false, hM1]; exact hVV)
              | (rw [key _ c22t]; simp only [if_true]; exact hVV)
  have hC0 : Gc [20, 21] S S mo (upd (Gs S mo) 19 (nI a)) := by
    have e : upd (Gs S mo) 19 (nI a) = Gs S mo := by
      funext j
      simp only [upd]
      split
      · next q => rw [q, ha]
      · rfl
    rw [e]
    exact Gc.rf
  refine r_iconst (pc := 0) C (nI 1) dX10_accept_0 rfl ?_
  refine r_istore_n (pc := 1) C dX10_accept_1 (by decide) rfl ?_
  exact r_lv C [(0, vr (some mo)), (1, vi (nI 1))] rfl (L 1 S h1 ⟨by omega, hC0, hV⟩)
end Close
