/-! The reference: weigh, feed, choices -/
def chN (F : MM) (c : Int32) : Option Nat := if c < 0 ∨ nI 8 ≤ c then none else if dlt (nI 0) (F 33 c.toNatClampNeg) then some c.toNatClampNeg else none
def coN (F : MM) (j : Nat) : Nat := (F 33 j).toNatClampNeg
def clO (F : MM) (j : Nat) : Option Nat := if F 34 j < 0 then none else some (F 34 j).toNatClampNeg
/-- what holds of the choices -/
def CH (F : MM) : Prop := ∀ j, j < 8 → (F 33 j = nI (coN F j) ∧ coN F j ≤ 8) ∧ (F 34 j = oI (clO F j) ∧ ∀ u, clO F j = some u → u < 8)
def coL (F : MM) (c col : Int32) : Option (Nat × Nat) := match chN F c with
  | none => none
  | some j => if col < 0 ∨ nI (coN F j) ≤ col then none else some (j, col.toNatClampNeg)
theorem chN_some {F : MM} {c : Int32} {j : Nat} (h : chN F c = some j) : c = nI j ∧ j < 8 ∧ dlt (nI 0) (F 33 j) = true := by
  unfold chN at h
  split at h
  · cases h
  · next e =>
    rcases pk_ix c (n := 8) (by omega) with h0 | h0 | ⟨i, hi, rfl⟩
    · exact absurd (Or.inl h0) e
    · exact absurd (Or.inr h0) e
    · rw [nI_clamp (by omega)] at h
      split at h
      · next q => cases h; exact ⟨rfl, hi, q⟩
      · cases h
theorem coL_some {F : MM} {c col : Int32} {j k : Nat} (h : coL F c col = some (j, k)) (hC : CH F) : c = nI j ∧ j < 8 ∧ chN F c = some j ∧ col = nI k ∧ k < coN F j := by
  unfold coL at h
  split at h
  · cases h
  · next i hi =>
    obtain ⟨e1, e2, e3⟩ := chN_some hi
    split at h
    · cases h
    · next e =>
      have hk := (hC i e2).1.2
      rcases pk_ix col (n := coN F i) (by omega) with h0 | h0 | ⟨u, hu, rfl⟩
      · exact absurd (Or.inl h0) e
      · exact absurd (Or.inr h0) e
      · rw [nI_clamp (by omega)] at h
        cases h
        exact ⟨e1, e2, hi, rfl, hu⟩
def zr8 (f : Nat → Int32) (j c : Nat) : Nat → Int32 := fun x => if 8 * j ≤ x ∧ x < 8 * j + c then nI 0 else f x
theorem zr8_0 (f : Nat → Int32) (j : Nat) : zr8 f j 0 = f := by
  funext x
  simp only [zr8]
  rw [if_neg (by omega)]
theorem zr8_s (f : Nat → Int32) (j c : Nat) : upd (zr8 f j c) (8 * j + c) (nI 0) = zr8 f j (c + 1) := by
  funext x
  simp only [upd, zr8]
  by_cases e : x = 8 * j + c
  · subst e; rw [if_pos rfl, if_pos (by omega)]
  · rw [if_neg e]
    by_cases e2 : 8 * j ≤ x ∧ x < 8 * j + c
    · rw [if_pos e2, if_pos (by omega)]
    · rw [if_neg e2, if_neg (by omega)]
def begF (F : MM) (j : Nat) (r k : Int32) : MM := uk (uk (um (um (um (um (um (um F 32 j r) 33 j k) 34 j (-1)) 35 j (nI 0)) 36 j (nI 0)) 37 j (-1)) 38 (zr8 (F 38) j 8)) 39 (zr8 (F 39) j 8)
def begB (c r k : Int32) : Bool := !decide ((c < 0 ∨ nI 8 ≤ c) ∨ (r < 0 ∨ nI 3 ≤ r) ∨ (k < nI 2 ∨ nI 8 < k))
def vts (f : Nat → Int32) (j : Nat) : Nat → Int32
  | 0 => nI 0
  | c + 1 => vts f j c + f (8 * j + c)
def fs (i : Nat) : Int32 := match i with
  | 0 => nI 24
  | 1 => nI 16
  | 2 => nI 8
  | 3 => nI 0
  | _ => -8
def by4 (b : Int32) (i : Nat) : Nat := (b >>> (fs i &&& 31)).toBitVec.toNat % 256
def fd (f : Nat → Int32) (tp : Nat) (b : Int32) : Nat → (Nat → Int32)
  | 0 => f
  | i + 1 => upd (fd f tp b i) (tp + i) (nI (by4 b i))
section Choice
variable {l : Launch} {g : GG} {S : hS} {mo : Nat} {M F : MM} {G : Nat → Int32} {X : Int64} {n h : Nat} {Post : Option AV → hS → Prop} {J : JJ}
theorem cm_thrown (hX : MX S mo M F G X n h) : Sp l g mX10_thrown 0 0 [vr (some mo)] S (fun r S' => r = some (vi (G 0)) ∧ S' = S) := by
  have hV := hX.V
  have hC0 : Gch S S mo (Gs S mo) := Gc.rf
  refine Sp.start (own := RX10) [(0, vr (some mo))] (by decide +kernel) rfl rfl (Nat.le_of_ble_eq_true rfl) ?_
  intro J C
  refine r_aload_n (pc := 0) C dX10_thrown_0 rfl ?_
  refine r_mI (pc := 1) (k := 0) C hV dX10_thrown_1 fx_RX10_145 ?_
  rw [hX.gg]
  refine r_iret (pc := 4) C dX10_thrown_4 rfl (by omega) (by omega) ?_
  exact ⟨rfl, rfl⟩
theorem cm_weigh {p w : Int32} (hX : MX S mo M F G X n h) : Sp l g mX10_weigh 0 0 [vr (some mo), vi p, vi w] S (fun r S' => ∃ q : Bool, (q = true ↔ ((¬ p < 0 ∧ ¬ nI 20 ≤ p) ∧ ¬ w < 0 ∧ ¬ nI 1000 < w)) ∧ r = some (vi (bi q)) ∧ MX S' mo M (if q then um F 6 p.toNatClampNeg w else F) (upd G 0 (nI 0)) X n h ∧ Rf S S' mo) := by
  have hV := hX.V
  have hC0 : Gc [20, 6] S S mo (Gs S mo) := Gc.rf
  rw [hX.gg] at hC0
  refine Sp.start (own := RX10) [(0, vr (some mo)), (1, vi p), (2, vi w)] (by decide +kernel) rfl rfl (Nat.le_of_ble_eq_true rfl) ?_
  intro J C
  rcases pk_ix p (n := 20) (by omega) with h0 | h0 | ⟨i, hi, rfl⟩
  · refine r_aload_n (pc := 0) C dX10_weigh_0 rfl ?_
    refine r_iconst (pc := 1) C (nI 0) dX10_weigh_1 rfl ?_
    refine r_mP (pc := 2) (k := 0) C hV dX10_weigh_2 fx_RX10_145 (fp_11_0 _) (by decide) (fun S2 hC2 hV2 => ?_)
    have hC2r := hC2
    have hC2 := hC0.trs hC2
    refine r_iload_n (pc := 5) C dX10_weigh_5 rfl ?_
    refine r_if_lt (pc := 6) (tgt := 30) C dX10_weigh_6 (by decide) (fun c6 => ?_) (fun c6 => ?_)
    · refine r_iconst (pc := 30) C (nI 0) dX10_weigh_30 rfl ?_
      refine r_istore_n (pc := 31) C dX10_weigh_31 (by decide) rfl ?_
      refine r_iload_n (pc := 32) C dX10_weigh_32 rfl ?_
      refine r_if_eq (pc := 33) (tgt := 43) C dX10_weigh_33 (by decide) (fun c33 => ?_) (fun c33 => ?_)
      · refine r_iload_n (pc := 43) C dX10_weigh_43 rfl ?_
        refine r_zret (pc := 44) C dX10_weigh_44 rfl (by first | exact Or.inl rfl | exact Or.inr rfl | assumption) (by omega) (by omega) ?_
        exact ⟨false, ⟨fun q => (by cases q), fun q => absurd h0 q.1.1⟩, rfl, hX.fin0 (by have := hC2r; rw [hX.gg] at this; exact this) hV2⟩
      · exact absurd (show nI 0 = 0 from rfl) c33
    · exact absurd h0 c6
  · refine r_aload_n (pc := 0) C dX10_weigh_0 rfl ?_
    refine r_iconst (pc := 1) C (nI 0) dX10_weigh_1 rfl ?_
    refine r_mP (pc := 2) (k := 0) C hV dX10_weigh_2 fx_RX10_145 (fp_11_0 _) (by decide) (fun S2 hC2 hV2 => ?_)
    have hC2r := hC2
    have hC2 := hC0.trs hC2
    refine r_iload_n (pc := 5) C dX10_weigh_5 rfl ?_
    refine r_if_lt (pc := 6) (tgt := 30) C dX10_weigh_6 (by decide) (fun c6 => ?_) (fun c6 => ?_)
    · refine r_iconst (pc := 30) C (nI 0) dX10_weigh_30 rfl ?_
      refine r_istore_n (pc := 31) C dX10_weigh_31 (by decide) rfl ?_
      refine r_iload_n (pc := 32) C dX10_weigh_32 rfl ?_
      refine r_if_eq (pc := 33) (tgt := 43) C dX10_weigh_33 (by decide) (fun c33 => ?_) (fun c33 => ?_)
      · refine r_iload_n (pc := 43) C dX10_weigh_43 rfl ?_
        refine r_zret (pc := 44) C dX10_weigh_44 rfl (by first | exact Or.inl rfl | exact Or.inr rfl | assumption) (by omega) (by omega) ?_
        exact ⟨false, ⟨fun q => (by cases q), fun q => absurd h0 q.1.2⟩, rfl, hX.fin0 (by have := hC2r; rw [hX.gg] at this; exact this) hV2⟩
      · exact absurd (show nI 0 = 0 from rfl) c33
    · refine r_iload_n (pc := 9) C dX10_weigh_9 rfl ?_
      refine r_bipush (pc := 10) C (nI 20) dX10_weigh_10 rfl ?_
      refine r_icmp_ge (pc := 12) (tgt := 30) C dX10_weigh_12 (by decide) (fun c12 => ?_) (fun c12 => ?_)
      · refine r_iconst (pc := 30) C (nI 0) dX10_weigh_30 rfl ?_
        refine r_istore_n (pc := 31) C dX10_weigh_31 (by decide) rfl ?_
        refine r_iload_n (pc := 32) C dX10_weigh_32 rfl ?_
        refine r_if_eq (pc := 33) (tgt := 43) C dX10_weigh_33 (by decide) (fun c33 => ?_) (fun c33 => ?_)
        · refine r_iload_n (pc := 43) C dX10_weigh_43 rfl ?_
          refine r_zret (pc := 44) C dX10_weigh_44 rfl (by first | exact Or.inl rfl | exact Or.inr rfl | assumption) (by omega) (by omega) ?_
          exact ⟨false, ⟨fun q => (by cases q), fun q => absurd h0 q.1.2⟩, rfl, hX.fin0 (by have := hC2r; rw [hX.gg] at this; exact this) hV2⟩
        · exact absurd (show nI 0 = 0 from rfl) c33
      · exact absurd h0 c12
  · by_cases hw : ¬ w < 0 ∧ ¬ nI 1000 < w
    · refine r_aload_n (pc := 0) C dX10_weigh_0 rfl ?_
      refine r_iconst (pc := 1) C (nI 0) dX10_weigh_1 rfl ?_
      refine r_mP (pc := 2) (k := 0) C hV dX10_weigh_2 fx_RX10_145 (fp_11_0 _) (by decide) (fun S2 hC2 hV2 => ?_)
      have hC2r := hC2
      have hC2 := hC0.trs hC2
      refine r_iload_n (pc := 5) C dX10_weigh_5 rfl ?_
      refine r_if_lt (pc := 6) (tgt := 30) C dX10_weigh_6 (by decide) (fun c6 => ?_) (fun c6 => ?_)
      · exact absurd c6 (nI_pos (by omega))
      · refine r_iload_n (pc := 9) C dX10_weigh_9 rfl ?_
        refine r_bipush (pc := 10) C (nI 20) dX10_weigh_10 rfl ?_
        refine r_icmp_ge (pc := 12) (tgt := 30) C dX10_weigh_12 (by decide) (fun c12 => ?_) (fun c12 => ?_)
        · exact absurd c12 (nI_ge hi (by omega))
        · refine r_iload_n (pc := 15) C dX10_weigh_15 rfl ?_
          refine r_if_lt (pc := 16) (tgt := 30) C dX10_weigh_16 (by decide) (fun c16 => ?_) (fun c16 => ?_)
          · exact absurd c16 hw.1
          · refine r_iload_n (pc := 19) C dX10_weigh_19 rfl ?_
            refine r_sipush (pc := 20) C (nI 1000) dX10_weigh_20 rfl ?_
            refine r_icmp_gt (pc := 23) (tgt := 30) C dX10_weigh_23 (by decide) (fun c23 => ?_) (fun c23 => ?_)
            · exact absurd c23 hw.2
            · refine r_iconst (pc := 26) C (nI 1) dX10_weigh_26 rfl ?_
              refine r_goto (pc := 27) (tgt := 31) C dX10_weigh_27 (by decide) ?_
              refine r_istore_n (pc := 31) C dX10_weigh_31 (by decide) rfl ?_
              refine r_iload_n (pc := 32) C dX10_weigh_32 rfl ?_
              refine r_if_eq (pc := 33) (tgt := 43) C dX10_weigh_33 (by decide) (fun c33 => ?_) (fun c33 => ?_)
              · exact absurd c33 (by decide)
              · refine r_aload_n (pc := 36) C dX10_weigh_36 rfl ?_
                refine r_mA (pc := 37) C hV2 dX10_weigh_37 fx_RX10_7 (len := 20) (by decide) ?_
                refine r_iload_n (pc := 40) C dX10_weigh_40 rfl ?_
                refine r_iload_n (pc := 41) C dX10_weigh_41 rfl ?_
                refine r_xS (pc := 42) C hV2 dX10_weigh_42 (k := 6) (len := 20) (by decide) (by decide) (by decide) (by decide) (by omega) (by decide) (fun S42 hC42r hV42 hF42 => ?_)
                have hC42 := hC2.trk hC42r
                refine r_iload_n (pc := 43) C dX10_weigh_43 rfl ?_
                refine r_zret (pc := 44) C dX10_weigh_44 rfl (by first | exact Or.inl rfl | exact Or.inr rfl | assumption) (by omega) (by omega) ?_
                refine ⟨true, ⟨fun _ => ⟨⟨nI_pos (by omega), nI_ge hi (by omega)⟩, hw⟩, fun _ => rfl⟩, rfl, ?_⟩
                rw [nI_clamp (by omega)]
                simp only [if_true]
                refine hX.fin _ (by have := hC42.gx; rw [hX.x] at this; exact this) hV42 (fun k hk hE => ?_) (fun k hk hE => ?_)
                · simp only [List.mem_cons, List.not_mem_nil, or_false] at hE
                  rcases hE with rfl | rfl
                  · exact absurd hk (by decide)
                  · rw [hF42 6 (by decide), uk_s, hC2r.keep (by decide) (by decide) (by decide), hX.f (by decide)]; simp only [um, uk_s]
                · simp only [List.mem_cons, List.not_mem_nil, or_false, not_or] at hE
                  exact um_n hE.2
    · refine r_aload_n (pc := 0) C dX10_weigh_0 rfl ?_
      refine r_iconst (pc := 1) C (nI 0) dX10_weigh_1 rfl ?_
      refine r_mP (pc := 2) (k := 0) C hV dX10_weigh_2 fx_RX10_145 (fp_11_0 _) (by decide) (fun S2 hC2 hV2 => ?_)
      have hC2r := hC2
      have hC2 := hC0.trs hC2
      refine r_iload_n (pc := 5) C dX10_weigh_5 rfl ?_
      refine r_if_lt (pc := 6) (tgt := 30) C dX10_weigh_6 (by decide) (fun c6 => ?_) (fun c6 => ?_)
      · exact absurd c6 (nI_pos (by omega))
      · refine r_iload_n (pc := 9) C dX10_weigh_9 rfl ?_
        refine r_bipush (pc := 10) C (nI 20) dX10_weigh_10 rfl ?_
        refine r_icmp_ge (pc := 12) (tgt := 30) C dX10_weigh_12 (by decide) (fun c12 => ?_) (fun c12 => ?_)
        · exact absurd c12 (nI_ge hi (by omega))
        · refine r_iload_n (pc := 15) C dX10_weigh_15 rfl ?_
          refine r_if_lt (pc := 16) (tgt := 30) C dX10_weigh_16 (by decide) (fun c16 => ?_) (fun c16 => ?_)
          · refine r_iconst (pc := 30) C (nI 0) dX10_weigh_30 rfl ?_
            refine r_istore_n (pc := 31) C dX10_weigh_31 (by decide) rfl ?_
            refine r_iload_n (pc := 32) C dX10_weigh_32 rfl ?_
            refine r_if_eq (pc := 33) (tgt := 43) C dX10_weigh_33 (by decide) (fun c33 => ?_) (fun c33 => ?_)
            · refine r_iload_n (pc := 43) C dX10_weigh_43 rfl ?_
              refine r_zret (pc := 44) C dX10_weigh_44 rfl (by first | exact Or.inl rfl | exact Or.inr rfl | assumption) (by omega) (by omega) ?_
              exact ⟨false, ⟨fun q => (by cases q), fun q => absurd q.2 hw⟩, rfl, hX.fin0 (by have := hC2r; rw [hX.gg] at this; exact this) hV2⟩
            · exact absurd (show nI 0 = 0 from rfl) c33
          · refine r_iload_n (pc := 19) C dX10_weigh_19 rfl ?_
            refine r_sipush (pc := 20) C (nI 1000) dX10_weigh_20 rfl ?_
            refine r_icmp_gt (pc := 23) (tgt := 30) C dX10_weigh_23 (by decide) (fun c23 => ?_) (fun c23 => ?_)
            · refine r_iconst (pc := 30) C (nI 0) dX10_weigh_30 rfl ?_
              refine r_istore_n (pc := 31) C dX10_weigh_31 (by decide) rfl ?_
              refine r_iload_n (pc := 32) C dX10_weigh_32 rfl ?_
              refine r_if_eq (pc := 33) (tgt := 43) C dX10_weigh_33 (by decide) (fun c33 => ?_) (fun c33 => ?_)
              · refine r_iload_n (pc := 43) C dX10_weigh_43 rfl ?_
                refine r_zret (pc := 44) C dX10_weigh_44 rfl (by first | exact Or.inl rfl | exact Or.inr rfl | assumption) (by omega) (by omega) ?_
                exact ⟨false, ⟨fun q => (by cases q), fun q => absurd q.2 hw⟩, rfl, hX.fin0 (by have := hC2r; rw [hX.gg] at this; exact this) hV2⟩
              · exact absurd (show nI 0 = 0 from rfl) c33
            · exact absurd ⟨c16, c23⟩ hw
theorem cm_feedN {b : Int32} {tp : Nat} (hX : MX S mo M F G X n h) (ht : G 8 = nI tp) (htp : 124 < tp) (htp2 : tp ≤ 128) : Sp l g mX10_feed 0 0 [vr (some mo), vi b] S (fun r S' => r = some (vi (bi false)) ∧ MX S' mo M F (upd G 0 (nI 0)) X n h ∧ Rf S S' mo) := by
  have hV := hX.V
  have hC0 : Gch S S mo (Gs S mo) := Gc.rf
  rw [hX.gg] at hC0
  refine Sp.start (own := RX10) [(0, vr (some mo)), (1, vi b)] (by decide +kernel) rfl rfl (Nat.le_of_ble_eq_true rfl) ?_
  intro J C
  refine r_aload_n (pc := 0) C dX10_feed_0 rfl ?_
  refine r_iconst (pc := 1) C (nI 0) dX10_feed_1 rfl ?_
  refine r_mP (pc := 2) (k := 0) C hV dX10_feed_2 fx_RX10_145 (fp_11_0 _) (by decide) (fun S2 hC2 hV2 => ?_)
  have hC2r := hC2
  have hC2 := hC0.trs hC2
  refine r_aload_n (pc := 5) C dX10_feed_5 rfl ?_
  refine r_mI (pc := 6) (k := 8) C hV2 dX10_feed_6 fx_RX10_173 ?_
  rw [hC2.gs, show upd G 0 (nI 0) 8 = nI tp from ht]
  refine r_iconst (pc := 9) C (nI 4) dX10_feed_9 rfl ?_
  refine r_iadd (pc := 10) C dX10_feed_10 ?_
  try simp only [nI_add, pk_mul]
  refine r_sipush (pc := 11) C (nI 128) dX10_feed_11 rfl ?_
  refine r_icmp_le (pc := 14) (tgt := 19) C dX10_feed_14 (by decide) (fun c14 => ?_) (fun c14 => ?_)
  · exact absurd c14 (nI_ge (by omega) (by omega))
  · refine r_iconst (pc := 17) C (nI 0) dX10_feed_17 rfl ?_
    refine r_zret (pc := 18) C dX10_feed_18 rfl (by first | exact Or.inl rfl | exact Or.inr rfl | assumption) (by omega) (by omega) ?_
    exact ⟨rfl, hX.fin0 hC2 hV2⟩
theorem cm_feed {b : Int32} {tp : Nat} (hX : MX S mo M F G X n h) (ht : G 8 = nI tp) (htp : tp ≤ 124) : Sp l g mX10_feed 0 0 [vr (some mo), vi b] S (fun r S' => r = some (vi (bi true)) ∧ MX S' mo M (uk F 7 (fd (F 7) tp b 4)) (upd (upd G 0 (nI 0)) 8 (nI (tp + 4))) X n h ∧ Rf S S' mo) := by
  have hV := hX.V
  have hC0 : Gc [20, 7] S S mo (Gs S mo) := Gc.rf
  rw [hX.gg] at hC0
  refine Sp.start (own := RX10) [(0, vr (some mo)), (1, vi b)] (by decide +kernel) rfl rfl (Nat.le_of_ble_eq_true rfl) ?_
  intro J C
  have L : ∀ i S1, i ≤ 4 → (Gc [20, 7] S S1 mo (upd (upd G 0 (nI 0)) 8 (nI (tp + i))) ∧ MV S1 mo M n h ∧ mI S1 mo 7 = fd (F 7) tp b i) → J 22 [(0, vr (some mo)), (1, vi b), (2, vi (fs i))] [] S1 0 0 := by
    refine up_loop _ _ _ ?_ ?_
    · intro S1 hS
      obtain ⟨hC1, hV1, h7⟩ := hS
      refine r_iload_n (pc := 22) C dX10_feed_22 rfl ?_
      refine r_if_lt (pc := 23) (tgt := 58) C dX10_feed_23 (by decide) (fun c23 => ?_) (fun c23 => ?_)
      · refine r_iconst (pc := 58) C (nI 1) dX10_feed_58 rfl ?_
        refine r_zret (pc := 59) C dX10_feed_59 rfl (by first | exact Or.inl rfl | exact Or.inr rfl | assumption) (by omega) (by omega) ?_
        refine ⟨rfl, hX.fin _ (by have := hC1.gx; rw [hX.x] at this; exact this) hV1 (fun k hk hE => ?_) (fun k hk hE => ?_)⟩
        · simp only [List.mem_cons, List.not_mem_nil, or_false] at hE
          rcases hE with rfl | rfl
          · exact absurd hk (by decide)
          · rw [h7, uk_s]
        · simp only [List.mem_cons, List.not_mem_nil, or_false, not_or] at hE
          exact uk_n hE.2
      · exact absurd (show fs 4 < 0 by decide) c23
    · intro i S1 hi hS ih
      obtain ⟨hC1, hV1, h7⟩ := hS
      have hfs : ¬ fs i < 0 ∧ fs i + Int32.ofInt (-8) = fs (i + 1) := by
        have : i = 0 ∨ i = 1 ∨ i = 2 ∨ i = 3 := by omega
        rcases this with rfl | rfl | rfl | rfl <;> decide
      refine r_iload_n (pc := 22) C dX10_feed_22 rfl ?_
      refine r_if_lt (pc := 23) (tgt := 58) C dX10_feed_23 (by decide) (fun c23 => ?_) (fun c23 => ?_)
      · exact absurd c23 hfs.1
      · refine r_aload_n (pc := 26) C dX10_feed_26 rfl ?_
        refine r_mA (pc := 27) C hV1 dX10_feed_27 fx_RX10_13 (len := 128) (by decide) ?_
        refine r_aload_n (pc := 30) C dX10_feed_30 rfl ?_
        refine r_mI (pc := 31) (k := 8) C hV1 dX10_feed_31 fx_RX10_173 ?_
        rw [show Gs _ mo 8 = nI (tp + i) from by rw [hC1.gs]; rfl]
        refine r_iload_n (pc := 34) C dX10_feed_34 rfl ?_
        refine r_iload_n (pc := 35) C dX10_feed_35 rfl ?_
        refine r_ishr (pc := 36) C dX10_feed_36 ?_
        refine r_sipush (pc := 37) C (nI 255) dX10_feed_37 rfl ?_
        refine r_iand (pc := 40) C dX10_feed_40 ?_
        rw [pk_and _ 8 (by decide)]
        refine r_xS (pc := 41) C hV1 dX10_feed_41 (k := 7) (len := 128) (by decide) (by decide) (by decide) (by decide) (by omega) (by decide) (fun S41 hC41r hV41 hF41 => ?_)
        have hC41 := hC1.trk hC41r
        refine r_aload_n (pc := 42) C dX10_feed_42 rfl ?_
        refine r_dup (pc := 43) C dX10_feed_43 rfl ?_
        refine r_mI (pc := 44) (k := 8) C hV41 dX10_feed_44 fx_RX10_173 ?_
        rw [show Gs _ mo 8 = nI (tp + i) from by rw [hC41.gs]; rfl]
        refine r_iconst (pc := 47) C (nI 1) dX10_feed_47 rfl ?_
        refine r_iadd (pc := 48) C dX10_feed_48 ?_
        try simp only [nI_add, pk_mul]
        refine r_mP (pc := 49) (k := 8) C hV41 dX10_feed_49 fx_RX10_173 (fp_11_8 _) (by decide) (fun S49 hC49 hV49 => ?_)
        have hC49r := hC49
        have hC49 := hC41.trs hC49
        refine r_iinc (pc := 52) C (fs (i + 1)) dX10_feed_52 rfl hfs.2 (by decide) rfl ?_
        refine r_goto (pc := 55) (tgt := 22) C dX10_feed_55 (by decide) ?_
        have hCC := hC49
        rw [upd_upd] at hCC
        refine r_lv C [(0, vr (some mo)), (1, vi b), (2, vi (fs (i + 1)))] rfl (ih _ ⟨hCC, hV49, ?_⟩)
        rw [hC49r.keep (k := 7) (by decide) (by decide) (by decide), hF41 7 (by decide), uk_s, h7]
        rfl
  refine r_aload_n (pc := 0) C dX10_feed_0 rfl ?_
  refine r_iconst (pc := 1) C (nI 0) dX10_feed_1 rfl ?_
  refine r_mP (pc := 2) (k := 0) C hV dX10_feed_2 fx_RX10_145 (fp_11_0 _) (by decide) (fun S2 hC2 hV2 => ?_)
  have hC2r := hC2
  have hC2 := hC0.trs hC2
  refine r_aload_n (pc := 5) C dX10_feed_5 rfl ?_
  refine r_mI (pc := 6) (k := 8) C hV2 dX10_feed_6 fx_RX10_173 ?_
  rw [hC2.gs, show upd G 0 (nI 0) 8 = nI tp from ht]
  refine r_iconst (pc := 9) C (nI 4) dX10_feed_9 rfl ?_
  refine r_iadd (pc := 10) C dX10_feed_10 ?_
  try simp only [nI_add, pk_mul]
  refine r_sipush (pc := 11) C (nI 128) dX10_feed_11 rfl ?_
  refine r_icmp_le (pc := 14) (tgt := 19) C dX10_feed_14 (by decide) (fun c14 => ?_) (fun c14 => ?_)
  · refine r_bipush (pc := 19) C (nI 24) dX10_feed_19 rfl ?_
    refine r_istore_n (pc := 21) C dX10_feed_21 (by decide) rfl ?_
    have hCC := hC2
    rw [← upd_id (f := upd G 0 (nI 0)) (k := 8) (v := nI tp) ht] at hCC
    exact r_lv C [(0, vr (some mo)), (1, vi b), (2, vi (fs 0))] rfl (L 0 _ (by omega) ⟨hCC, hV2, by rw [hC2r.keep (k := 7) (by decide) (by decide) (by decide), hX.f (by decide)]; rfl⟩)
  · exact absurd (nI_le (by omega) (by omega)) c14
theorem cm_isBegun {c : Int32} (hV : MV S mo M n h) (hF : ∀ k, k ∈ ek → mI S mo k = F k) : Sp l g mX10_isBegun 0 0 [vr (some mo), vi c] S (fun r S' => r = some (vi (bi (chN F c).isSome)) ∧ S' = S) := by
  have hC0 : Gch S S mo (Gs S mo) := Gc.rf
  refine Sp.start (own := RX10) [(0, vr (some mo)), (1, vi c)] (by decide +kernel) rfl rfl (Nat.le_of_ble_eq_true rfl) ?_
  intro J C
  rcases pk_ix c (n := 8) (by omega) with h0 | h0 | ⟨j, hj, rfl⟩
  · refine r_iload_n (pc := 0) C dX10_isBegun_0 rfl ?_
    refine r_if_lt (pc := 1) (tgt := 23) C dX10_isBegun_1 (by decide) (fun c1 => ?_) (fun c1 => ?_)
    · refine r_iconst (pc := 23) C (nI 0) dX10_isBegun_23 rfl ?_
      refine r_zret (pc := 24) C dX10_isBegun_24 rfl (by first | exact Or.inl rfl | exact Or.inr rfl | assumption) (by omega) (by omega) ?_
      exact ⟨by simp only [chN]; rw [if_pos (Or.inl h0)]; rfl, rfl⟩
    · exact absurd h0 c1
  · refine r_iload_n (pc := 0) C dX10_isBegun_0 rfl ?_
    refine r_if_lt (pc := 1) (tgt := 23) C dX10_isBegun_1 (by decide) (fun c1 => ?_) (fun c1 => ?_)
    · refine r_iconst (pc := 23) C (nI 0) dX10_isBegun_23 rfl ?_
      refine r_zret (pc := 24) C dX10_isBegun_24 rfl (by first | exact Or.inl rfl | exact Or.inr rfl | assumption) (by omega) (by omega) ?_
      exact ⟨by simp only [chN]; rw [if_pos (Or.inr h0)]; rfl, rfl⟩
    · refine r_iload_n (pc := 4) C dX10_isBegun_4 rfl ?_
      refine r_bipush (pc := 5) C (nI 8) dX10_isBegun_5 rfl ?_
      refine r_icmp_ge (pc := 7) (tgt := 23) C dX10_isBegun_7 (by decide) (fun c7 => ?_) (fun c7 => ?_)
      · refine r_iconst (pc := 23) C (nI 0) dX10_isBegun_23 rfl ?_
        refine r_zret (pc := 24) C dX10_isBegun_24 rfl (by first | exact Or.inl rfl | exact Or.inr rfl | assumption) (by omega) (by omega) ?_
        exact ⟨by simp only [chN]; rw [if_pos (Or.inr h0)]; rfl, rfl⟩
      · exact absurd h0 c7
  · have e : chN F (nI j) = if dlt (nI 0) (F 33 j) then some j else none := by
      simp only [chN]
      rw [if_neg (fun q => q.elim (nI_pos (by omega)) (nI_ge hj (by omega))), nI_clamp (by omega)]
    refine r_iload_n (pc := 0) C dX10_isBegun_0 rfl ?_
    refine r_if_lt (pc := 1) (tgt := 23) C dX10_isBegun_1 (by decide) (fun c1 => ?_) (fun c1 => ?_)
    · exact absurd c1 (nI_pos (by omega))
    · refine r_iload_n (pc := 4) C dX10_isBegun_4 rfl ?_
      refine r_bipush (pc := 5) C (nI 8) dX10_isBegun_5 rfl ?_
      refine r_icmp_ge (pc := 7) (tgt := 23) C dX10_isBegun_7 (by decide) (fun c7 => ?_) (fun c7 => ?_)
      · exact absurd c7 (nI_ge hj (by omega))
      · refine r_aload_n (pc := 10) C dX10_isBegun_10 rfl ?_
        refine r_mA (pc := 11) C hV dX10_isBegun_11 fx_RX10_85 (len := 8) (by decide) ?_
        refine r_iload_n (pc := 14) C dX10_isBegun_14 rfl ?_
        refine r_xL (pc := 15) C hV dX10_isBegun_15 (k := 33) (len := 8) (by decide) (by decide) (by omega) (by decide) ?_
        rw [hF 33 (by decide)]
        refine r_if_le (pc := 16) (tgt := 23) C dX10_isBegun_16 (by decide) (fun c16 => ?_) (fun c16 => ?_)
        · have hv2 : dlt (nI 0) (F 33 j) = false := dlt_f c16
          refine r_iconst (pc := 23) C (nI 0) dX10_isBegun_23 rfl ?_
          refine r_zret (pc := 24) C dX10_isBegun_24 rfl (by first | exact Or.inl rfl | exact Or.inr rfl | assumption) (by omega) (by omega) ?_
          exact ⟨by rw [e, hv2]; rfl, rfl⟩
        · have hv2 : dlt (nI 0) (F 33 j) = true := dlt_t (Int32.not_le.mp c16)
          refine r_iconst (pc := 19) C (nI 1) dX10_isBegun_19 rfl ?_
          refine r_goto (pc := 20) (tgt := 24) C dX10_isBegun_20 (by decide) ?_
          refine r_zret (pc := 24) C dX10_isBegun_24 rfl (by first | exact Or.inl rfl | exact Or.inr rfl | assumption) (by omega) (by omega) ?_
          exact ⟨by rw [e, hv2]; rfl, rfl⟩
theorem cm_isColour {c col : Int32} (hV : MV S mo M n h) (hF : ∀ k, k ∈ ek → mI S mo k = F k) (hC : CH F) : Sp l g mX10_isColour 0 0 [vr (some mo), vi c, vi col] S (fun r S' => r = some (vi (bi (coL F c col).isSome)) ∧ S' = S) := by
  have hC0 : Gch S S mo (Gs S mo) := Gc.rf
  refine Sp.start (own := RX10) [(0, vr (some mo)), (1, vi c), (2, vi col)] (by decide +kernel) rfl rfl (Nat.le_of_ble_eq_true rfl) ?_
  intro J C
  cases hc : chN F c with
  | none =>
    refine r_aload_n (pc := 0) C dX10_isColour_0 rfl ?_
    refine r_iload_n (pc := 1) C dX10_isColour_1 rfl ?_
    refine r_callV (pc := 2) C (cm_isBegun hV hF) iX10_isBegun ml_RX10_346 dX10_isColour_2 (ci := 11) rfl rfl hV.1.1 rfl (by decide) rfl (by simp [cv, Value.category, va_rf]) (by omega) (by omega) (fun r2 S2 h2 => ?_)
    obtain ⟨rfl, e2⟩ := h2
    subst S2
    dsimp only [Option.toList, List.cons_append, List.nil_append]
    rw [hc]
    refine r_if_eq (pc := 5) (tgt := 26) C dX10_isColour_5 (by decide) (fun c5 => ?_) (fun c5 => ?_)
    · refine r_iconst (pc := 26) C (nI 0) dX10_isColour_26 rfl ?_
      refine r_zret (pc := 27) C dX10_isColour_27 rfl (by first | exact Or.inl rfl | exact Or.inr rfl | assumption) (by omega) (by omega) ?_
      exact ⟨by simp only [coL, hc]; rfl, rfl⟩
    · exact absurd (show bi (none : Option Nat).isSome = 0 from rfl) c5
  | some j =>
    obtain ⟨rfl, hj, hd⟩ := chN_some hc
    have e33 := (hC j hj).1.1
    have ev : ∀ q : Bool, (q = true ↔ ¬ (col < 0 ∨ nI (coN F j) ≤ col)) → bi (coL F (nI j) col).isSome = bi q := by
      intro q hq
      simp only [coL, hc]
      cases q with
      | false => rw [if_pos (Classical.byContradiction (fun z => by simp [z] at hq))]; rfl
      | true => rw [if_neg (hq.mp rfl)]; rfl
    refine r_aload_n (pc := 0) C dX10_isColour_0 rfl ?_
    refine r_iload_n (pc := 1) C dX10_isColour_1 rfl ?_
    refine r_callV (pc := 2) C (cm_isBegun hV hF) iX10_isBegun ml_RX10_346 dX10_isColour_2 (ci := 11) rfl rfl hV.1.1 rfl (by decide) rfl (by simp [cv, Value.category, va_rf]) (by omega) (by omega) (fun r2 S2 h2 => ?_)
    obtain ⟨rfl, e2⟩ := h2
    subst S2
    dsimp only [Option.toList, List.cons_append, List.nil_append]
    rw [hc]
    refine r_if_eq (pc := 5) (tgt := 26) C dX10_isColour_5 (by decide) (fun c5 => ?_) (fun c5 => ?_)
    · exact absurd c5 (show ¬ bi true = 0 by decide)
    · refine r_iload_n (pc := 8) C dX10_isColour_8 rfl ?_
      refine r_if_lt (pc := 9) (tgt := 26) C dX10_isColour_9 (by decide) (fun c9 => ?_) (fun c9 => ?_)
      · have hv2 := ev false ⟨fun q => (by cases q), fun q => absurd (Or.inl c9) q⟩
        refine r_iconst (pc := 26) C (nI 0) dX10_isColour_26 rfl ?_
        refine r_zret (pc := 27) C dX10_isColour_27 rfl (by first | exact Or.inl rfl | exact Or.inr rfl | assumption) (by omega) (by omega) ?_
        exact ⟨by rw [hv2]; rfl, rfl⟩
      · refine r_iload_n (pc := 12) C dX10_isColour_12 rfl ?_
        refine r_aload_n (pc := 13) C dX10_isColour_13 rfl ?_
        refine r_mA (pc := 14) C hV dX10_isColour_14 fx_RX10_85 (len := 8) (by decide) ?_
        refine r_iload_n (pc := 17) C dX10_isColour_17 rfl ?_
        refine r_xL (pc := 18) C hV dX10_isColour_18 (k := 33) (len := 8) (by decide) (by decide) (by omega) (by decide) ?_
        rw [hF 33 (by decide), e33]
        refine r_icmp_ge (pc := 19) (tgt := 26) C dX10_isColour_19 (by decide) (fun c19 => ?_) (fun c19 => ?_)
        · have hv2 := ev false ⟨fun q => (by cases q), fun q => absurd (Or.inr c19) q⟩
          refine r_iconst (pc := 26) C (nI 0) dX10_isColour_26 rfl ?_
          refine r_zret (pc := 27) C dX10_isColour_27 rfl (by first | exact Or.inl rfl | exact Or.inr rfl | assumption) (by omega) (by omega) ?_
          exact ⟨by rw [hv2]; rfl, rfl⟩
        · have hv2 := ev true ⟨fun _ q => q.elim c9 c19, fun _ => rfl⟩
          refine r_iconst (pc := 22) C (nI 1) dX10_isColour_22 rfl ?_
          refine r_goto (pc := 23) (tgt := 27) C dX10_isColour_23 (by decide) ?_
          refine r_zret (pc := 27) C dX10_isColour_27 rfl (by first | exact Or.inl rfl | exact Or.inr rfl | assumption) (by omega) (by omega) ?_
          exact ⟨by rw [hv2]; rfl, rfl⟩
theorem cm_beginN {c r k : Int32} (hX : MX S mo M F G X n h) (hb : begB c r k = false) : Sp l g mX10_begin 0 0 [vr (some mo), vi c, vi r, vi k] S (fun z S' => z = some (vi (bi false)) ∧ MX S' mo M F (upd G 0 (nI 0)) X n h ∧ Rf S S' mo) := by
  have hV := hX.V
  have hC0 : Gch S S mo (Gs S mo) := Gc.rf
  rw [hX.gg] at hC0
  simp only [begB, Bool.not_eq_false', decide_eq_true_eq] at hb
  have g7 : ∀ {z : Int32}, ¬ nI 7 < z → nI 8 ≤ z → False := fun h1 h2 => nI_le1 (k := 7) (by omega) h2 (Int32.not_lt.mp h1)
  have g2 : ∀ {z : Int32}, ¬ nI 2 < z → nI 3 ≤ z → False := fun h1 h2 => nI_le1 (k := 2) (by omega) h2 (Int32.not_lt.mp h1)
  refine Sp.start (own := RX10) [(0, vr (some mo)), (1, vi c), (2, vi r), (3, vi k)] (by decide +kernel) rfl rfl (Nat.le_of_ble_eq_true rfl) ?_
  intro J C
  refine r_aload_n (pc := 0) C dX10_begin_0 rfl ?_
  refine r_iconst (pc := 1) C (nI 0) dX10_begin_1 rfl ?_
  refine r_mP (pc := 2) (k := 0) C hV dX10_begin_2 fx_RX10_145 (fp_11_0 _) (by decide) (fun S2 hC2 hV2 => ?_)
  have hC2r := hC2
  have hC2 := hC0.trs hC2
  refine r_iload_n (pc := 5) C dX10_begin_5 rfl ?_
  refine r_if_lt (pc := 6) (tgt := 35) C dX10_begin_6 (by decide) (fun c6 => ?_) (fun c6 => ?_)
  · refine r_iconst (pc := 35) C (nI 0) dX10_begin_35 rfl ?_
    refine r_zret (pc := 36) C dX10_begin_36 rfl (by first | exact Or.inl rfl | exact Or.inr rfl | assumption) (by omega) (by omega) ?_
    exact ⟨rfl, hX.fin0 hC2 hV2⟩
  · refine r_iload_n (pc := 9) C dX10_begin_9 rfl ?_
    refine r_bipush (pc := 10) C (nI 7) dX10_begin_10 rfl ?_
    refine r_icmp_gt (pc := 12) (tgt := 35) C dX10_begin_12 (by decide) (fun c12 => ?_) (fun c12 => ?_)
    · refine r_iconst (pc := 35) C (nI 0) dX10_begin_35 rfl ?_
      refine r_zret (pc := 36) C dX10_begin_36 rfl (by first | exact Or.inl rfl | exact Or.inr rfl | assumption) (by omega) (by omega) ?_
      exact ⟨rfl, hX.fin0 hC2 hV2⟩
    · refine r_iload_n (pc := 15) C dX10_begin_15 rfl ?_
      refine r_if_lt (pc := 16) (tgt := 35) C dX10_begin_16 (by decide) (fun c16 => ?_) (fun c16 => ?_)
      · refine r_iconst (pc := 35) C (nI 0) dX10_begin_35 rfl ?_
        refine r_zret (pc := 36) C dX10_begin_36 rfl (by first | exact Or.inl rfl | exact Or.inr rfl | assumption) (by omega) (by omega) ?_
        exact ⟨rfl, hX.fin0 hC2 hV2⟩
      · refine r_iload_n (pc := 19) C dX10_begin_19 rfl ?_
        refine r_iconst (pc := 20) C (nI 2) dX10_begin_20 rfl ?_
        refine r_icmp_gt (pc := 21) (tgt := 35) C dX10_begin_21 (by decide) (fun c21 => ?_) (fun c21 => ?_)
        · refine r_iconst (pc := 35) C (nI 0) dX10_begin_35 rfl ?_
          refine r_zret (pc := 36) C dX10_begin_36 rfl (by first | exact Or.inl rfl | exact Or.inr rfl | assumption) (by omega) (by omega) ?_
          exact ⟨rfl, hX.fin0 hC2 hV2⟩
        · refine r_iload_n (pc := 24) C dX10_begin_24 rfl ?_
          refine r_iconst (pc := 25) C (nI 2) dX10_begin_25 rfl ?_
          refine r_icmp_lt (pc := 26) (tgt := 35) C dX10_begin_26 (by decide) (fun c26 => ?_) (fun c26 => ?_)
          · refine r_iconst (pc := 35) C (nI 0) dX10_begin_35 rfl ?_
            refine r_zret (pc := 36) C dX10_begin_36 rfl (by first | exact Or.inl rfl | exact Or.inr rfl | assumption) (by omega) (by omega) ?_
            exact ⟨rfl, hX.fin0 hC2 hV2⟩
          · refine r_iload_n (pc := 29) C dX10_begin_29 rfl ?_
            refine r_bipush (pc := 30) C (nI 8) dX10_begin_30 rfl ?_
            refine r_icmp_le (pc := 32) (tgt := 37) C dX10_begin_32 (by decide) (fun c32 => ?_) (fun c32 => ?_)
            · exact (hb.elim (fun q => q.elim c6 (g7 c12)) (fun q => q.elim (fun q => q.elim c16 (g2 c21)) (fun q => q.elim c26 (fun z => Int32.not_lt.mpr c32 z)))).elim
            · refine r_iconst (pc := 35) C (nI 0) dX10_begin_35 rfl ?_
              refine r_zret (pc := 36) C dX10_begin_36 rfl (by first | exact Or.inl rfl | exact Or.inr rfl | assumption) (by omega) (by omega) ?_
              exact ⟨rfl, hX.fin0 hC2 hV2⟩
theorem begB_t {c r k : Int32} (hb : begB c r k = true) : ∃ j r' k', c = nI j ∧ j < 8 ∧ r = nI r' ∧ r' < 3 ∧ k = nI k' ∧ 2 ≤ k' ∧ k' ≤ 8 := by
  simp only [begB, Bool.not_eq_true', decide_eq_false_iff_not, not_or] at hb
  obtain ⟨⟨a1, a2⟩, ⟨b1, b2⟩, d1, d2⟩ := hb
  rcases pk_ix c (n := 8) (by omega) with h0 | h0 | ⟨j, hj, rfl⟩
  · exact absurd h0 a1
  · exact absurd h0 a2
  rcases pk_ix r (n := 3) (by omega) with h0 | h0 | ⟨r', hr, rfl⟩
  · exact absurd h0 b1
  · exact absurd h0 b2
  obtain ⟨k', hk, rfl⟩ := nI_of (x := k) (fun q => d1 (Int32.lt_trans q (by decide)))
  rw [nI_ltI hk (by omega)] at d1
  rw [nI_ltI (by omega) hk] at d2
  exact ⟨j, r', k', rfl, hj, rfl, hr, rfl, by omega, by omega⟩
theorem cm_begin {j r k : Nat} (hX : MX S mo M F G X n h) (hj : j < 8) (hr : r < 3) (hk : 2 ≤ k) (hk2 : k ≤ 8) : Sp l g mX10_begin 0 0 [vr (some mo), vi (nI j), vi (nI r), vi (nI k)] S (fun z S' => z = some (vi (bi true)) ∧ MX S' mo M (begF F j (nI r) (nI k)) (upd G 0 (nI 0)) X n h ∧ Rf S S' mo) := by
  have hV := hX.V
  have hC0 : Gc [20, 32, 33, 34, 35, 36, 37, 38, 39] S S mo (Gs S mo) := Gc.rf
  rw [hX.gg] at hC0
  generalize hF1 : um (um (um (um (um (um F 32 j (nI r)) 33 j (nI k)) 34 j (-1)) 35 j (nI 0)) 36 j (nI 0)) 37 j (-1) = F1
  have hbg : begF F j (nI r) (nI k) = uk (uk F1 38 (zr8 (F 38) j 8)) 39 (zr8 (F 39) j 8) := by rw [← hF1]; rfl
  refine Sp.start (own := RX10) [(0, vr (some mo)), (1, vi (nI j)), (2, vi (nI r)), (3, vi (nI k))] (by decide +kernel) rfl rfl (Nat.le_of_ble_eq_true rfl) ?_
  intro J C
  have L : ∀ c S1, c ≤ 8 → (Gc [20, 32, 33, 34, 35, 36, 37, 38, 39] S S1 mo (upd G 0 (nI 0)) ∧ MV S1 mo M n h ∧ ∀ q, q ∈ ek → mI S1 mo q = uk (uk F1 38 (zr8 (F 38) j c)) 39 (zr8 (F 39) j c) q) → J 82 [(0, vr (some mo)), (1, vi (nI j)), (4, vi (nI c))] [] S1 0 0 := by
    refine up_loop _ _ _ ?_ ?_
    · intro S1 hS
      obtain ⟨hC1, hV1, hF⟩ := hS
      refine r_iload (pc := 82) C dX10_begin_82 rfl ?_
      refine r_bipush (pc := 84) C (nI 8) dX10_begin_84 rfl ?_
      refine r_icmp_ge (pc := 86) (tgt := 121) C dX10_begin_86 (by decide) (fun c86 => ?_) (fun c86 => ?_)
      · refine r_iconst (pc := 121) C (nI 1) dX10_begin_121 rfl ?_
        refine r_zret (pc := 122) C dX10_begin_122 rfl (by first | exact Or.inl rfl | exact Or.inr rfl | assumption) (by omega) (by omega) ?_
        refine ⟨rfl, hX.fin _ (by have := hC1.gx; rw [hX.x] at this; exact this) hV1 (fun q hq hE => by rw [hbg]; exact hF q hq) (fun q hq hE => ?_)⟩
        simp only [List.mem_cons, List.not_mem_nil, or_false, not_or] at hE
        rw [hbg, ← hF1]
        obtain ⟨e0, e1, e2, e3, e4, e5, e6, e7, e8⟩ := hE
        rw [uk_n e8, uk_n e7, um_n e6, um_n e5, um_n e4, um_n e3, um_n e2, um_n e1]
      · exact absurd (Int32.le_refl _) c86
    · intro c S1 hc hS ih
      obtain ⟨hC1, hV1, hF⟩ := hS
      refine r_iload (pc := 82) C dX10_begin_82 rfl ?_
      refine r_bipush (pc := 84) C (nI 8) dX10_begin_84 rfl ?_
      refine r_icmp_ge (pc := 86) (tgt := 121) C dX10_begin_86 (by decide) (fun c86 => ?_) (fun c86 => ?_)
      · exact absurd c86 (nI_ge hc (by omega))
      · refine r_aload_n (pc := 89) C dX10_begin_89 rfl ?_
        refine r_mA (pc := 90) C hV1 dX10_begin_90 fx_RX10_100 (len := 64) (by decide) ?_
        refine r_bipush (pc := 93) C (nI 8) dX10_begin_93 rfl ?_
        refine r_iload_n (pc := 95) C dX10_begin_95 rfl ?_
        refine r_imul (pc := 96) C dX10_begin_96 ?_
        try simp only [nI_add, pk_mul]
        refine r_iload (pc := 97) C dX10_begin_97 rfl ?_
        refine r_iadd (pc := 99) C dX10_begin_99 ?_
        try simp only [nI_add, pk_mul]
        refine r_iconst (pc := 100) C (nI 0) dX10_begin_100 rfl ?_
        refine r_xS (pc := 101) C hV1 dX10_begin_101 (k := 38) (len := 64) (by decide) (by decide) (by decide) (by decide) (by omega) (by decide) (fun S101 hC101r hV101 hF101 => ?_)
        have hC101 := hC1.trk hC101r
        refine r_aload_n (pc := 102) C dX10_begin_102 rfl ?_
        refine r_mA (pc := 103) C hV101 dX10_begin_103 fx_RX10_103 (len := 64) (by decide) ?_
        refine r_bipush (pc := 106) C (nI 8) dX10_begin_106 rfl ?_
        refine r_iload_n (pc := 108) C dX10_begin_108 rfl ?_
        refine r_imul (pc := 109) C dX10_begin_109 ?_
        try simp only [nI_add, pk_mul]
        refine r_iload (pc := 110) C dX10_begin_110 rfl ?_
        refine r_iadd (pc := 112) C dX10_begin_112 ?_
        try simp only [nI_add, pk_mul]
        refine r_iconst (pc := 113) C (nI 0) dX10_begin_113 rfl ?_
        refine r_xS (pc := 114) C hV101 dX10_begin_114 (k := 39) (len := 64) (by decide) (by decide) (by decide) (by decide) (by omega) (by decide) (fun S114 hC114r hV114 hF114 => ?_)
        have hC114 := hC101.trk hC114r
        refine r_iinc (pc := 115) C _ dX10_begin_115 rfl (nI_1 _) (by decide) rfl ?_
        refine r_goto (pc := 118) (tgt := 82) C dX10_begin_118 (by decide) ?_
        refine r_lv C [(0, vr (some mo)), (1, vi (nI j)), (4, vi (nI (c + 1)))] rfl (ih _ ⟨hC114, hV114, fun q hq => ?_⟩)
        rw [hF114 q (ek_mks hq).1]
        by_cases e39 : q = 39
        · subst e39
          rw [uk_s, uk_s, hF101 39 (by decide), uk_n (by decide), hF 39 hq, uk_s, zr8_s]
        · rw [uk_n e39, uk_n e39, hF101 q (ek_mks hq).1]
          by_cases e38 : q = 38
          · subst e38
            rw [uk_s, uk_s, hF 38 hq, uk_n (by decide), uk_s, zr8_s]
          · rw [uk_n e38, uk_n e38, hF q hq, uk_n e39, uk_n e38]
  refine r_aload_n (pc := 0) C dX10_begin_0 rfl ?_
  refine r_iconst (pc := 1) C (nI 0) dX10_begin_1 rfl ?_
  refine r_mP (pc := 2) (k := 0) C hV dX10_begin_2 fx_RX10_145 (fp_11_0 _) (by decide) (fun S2 hC2 hV2 => ?_)
  have hC2r := hC2
  have hC2 := hC0.trs hC2
  refine r_iload_n (pc := 5) C dX10_begin_5 rfl ?_
  refine r_if_lt (pc := 6) (tgt := 35) C dX10_begin_6 (by decide) (fun c6 => ?_) (fun c6 => ?_)
  · exact absurd c6 (nI_pos (by omega))
  · refine r_iload_n (pc := 9) C dX10_begin_9 rfl ?_
    refine r_bipush (pc := 10) C (nI 7) dX10_begin_10 rfl ?_
    refine r_icmp_gt (pc := 12) (tgt := 35) C dX10_begin_12 (by decide) (fun c12 => ?_) (fun c12 => ?_)
    · exact absurd c12 (nI_nlt (by omega) (by omega))
    · refine r_iload_n (pc := 15) C dX10_begin_15 rfl ?_
      refine r_if_lt (pc := 16) (tgt := 35) C dX10_begin_16 (by decide) (fun c16 => ?_) (fun c16 => ?_)
      · exact absurd c16 (nI_pos (by omega))
      · refine r_iload_n (pc := 19) C dX10_begin_19 rfl ?_
        refine r_iconst (pc := 20) C (nI 2) dX10_begin_20 rfl ?_
        refine r_icmp_gt (pc := 21) (tgt := 35) C dX10_begin_21 (by decide) (fun c21 => ?_) (fun c21 => ?_)
        · exact absurd c21 (nI_nlt (by omega) (by omega))
        · refine r_iload_n (pc := 24) C dX10_begin_24 rfl ?_
          refine r_iconst (pc := 25) C (nI 2) dX10_begin_25 rfl ?_
          refine r_icmp_lt (pc := 26) (tgt := 35) C dX10_begin_26 (by decide) (fun c26 => ?_) (fun c26 => ?_)
          · exact absurd c26 (nI_nlt (by omega) (by omega))
          · refine r_iload_n (pc := 29) C dX10_begin_29 rfl ?_
            refine r_bipush (pc := 30) C (nI 8) dX10_begin_30 rfl ?_
            refine r_icmp_le (pc := 32) (tgt := 37) C dX10_begin_32 (by decide) (fun c32 => ?_) (fun c32 => ?_)
            · refine r_aload_n (pc := 37) C dX10_begin_37 rfl ?_
              refine r_mA (pc := 38) C hV2 dX10_begin_38 fx_RX10_82 (len := 8) (by decide) ?_
              refine r_iload_n (pc := 41) C dX10_begin_41 rfl ?_
              refine r_iload_n (pc := 42) C dX10_begin_42 rfl ?_
              refine r_xS (pc := 43) C hV2 dX10_begin_43 (k := 32) (len := 8) (by decide) (by decide) (by decide) (by decide) (by omega) (by decide) (fun S43 hC43r hV43 hF43 => ?_)
              have hC43 := hC2.trk hC43r
              refine r_aload_n (pc := 44) C dX10_begin_44 rfl ?_
              refine r_mA (pc := 45) C hV43 dX10_begin_45 fx_RX10_85 (len := 8) (by decide) ?_
              refine r_iload_n (pc := 48) C dX10_begin_48 rfl ?_
              refine r_iload_n (pc := 49) C dX10_begin_49 rfl ?_
              refine r_xS (pc := 50) C hV43 dX10_begin_50 (k := 33) (len := 8) (by decide) (by decide) (by decide) (by decide) (by omega) (by decide) (fun S50 hC50r hV50 hF50 => ?_)
              have hC50 := hC43.trk hC50r
              refine r_aload_n (pc := 51) C dX10_begin_51 rfl ?_
              refine r_mA (pc := 52) C hV50 dX10_begin_52 fx_RX10_88 (len := 8) (by decide) ?_
              refine r_iload_n (pc := 55) C dX10_begin_55 rfl ?_
              refine r_iconst (pc := 56) C (-1) dX10_begin_56 rfl ?_
              refine r_xS (pc := 57) C hV50 dX10_begin_57 (k := 34) (len := 8) (by decide) (by decide) (by decide) (by decide) (by omega) (by decide) (fun S57 hC57r hV57 hF57 => ?_)
              have hC57 := hC50.trk hC57r
              refine r_aload_n (pc := 58) C dX10_begin_58 rfl ?_
              refine r_mA (pc := 59) C hV57 dX10_begin_59 fx_RX10_91 (len := 8) (by decide) ?_
              refine r_iload_n (pc := 62) C dX10_begin_62 rfl ?_
              refine r_iconst (pc := 63) C (nI 0) dX10_begin_63 rfl ?_
              refine r_xS (pc := 64) C hV57 dX10_begin_64 (k := 35) (len := 8) (by decide) (by decide) (by decide) (by decide) (by omega) (by decide) (fun S64 hC64r hV64 hF64 => ?_)
              have hC64 := hC57.trk hC64r
              refine r_aload_n (pc := 65) C dX10_begin_65 rfl ?_
              refine r_mA (pc := 66) C hV64 dX10_begin_66 fx_RX10_94 (len := 8) (by decide) ?_
              refine r_iload_n (pc := 69) C dX10_begin_69 rfl ?_
              refine r_iconst (pc := 70) C (nI 0) dX10_begin_70 rfl ?_
              refine r_xSz (pc := 71) C hV64 dX10_begin_71 (k := 36) (len := 8) (by decide) (by decide) (by decide) (by decide) (by omega) (by decide) (Or.inl rfl) (fun S71 hC71r hV71 hF71 => ?_)
              have hC71 := hC64.trk hC71r
              refine r_aload_n (pc := 72) C dX10_begin_72 rfl ?_
              refine r_mA (pc := 73) C hV71 dX10_begin_73 fx_RX10_97 (len := 8) (by decide) ?_
              refine r_iload_n (pc := 76) C dX10_begin_76 rfl ?_
              refine r_iconst (pc := 77) C (-1) dX10_begin_77 rfl ?_
              refine r_xS (pc := 78) C hV71 dX10_begin_78 (k := 37) (len := 8) (by decide) (by decide) (by decide) (by decide) (by omega) (by decide) (fun S78 hC78r hV78 hF78 => ?_)
              have hC78 := hC71.trk hC78r
              refine r_iconst (pc := 79) C (nI 0) dX10_begin_79 rfl ?_
              refine r_istore (pc := 80) C dX10_begin_80 (by decide) rfl ?_
              refine r_lv C [(0, vr (some mo)), (1, vi (nI j)), (4, vi (nI 0))] rfl (L 0 _ (by omega) ⟨hC78, hV78, fun q hq => ?_⟩)
              have hq2 := (ek_mks hq).1
              have kp : ∀ q, q ∈ ek → mI S2 mo q = F q := fun q hq => by rw [hC2r.keep (ek_mks hq).1 (ek_mks hq).2 (by simp)]; exact hX.f hq
              have k43 : ∀ q, q ∈ ek → mI S43 mo q = um F 32 j (nI r) q := fun q hq => by rw [hF43 q (ek_mks hq).1]; by_cases e : q = 32; (subst e; simp only [um, uk_s]; rw [kp 32 hq]); (rw [uk_n e, um_n e]; exact kp q hq)
              have k50 : ∀ q, q ∈ ek → mI S50 mo q = um (um F 32 j (nI r)) 33 j (nI k) q := fun q hq => by rw [hF50 q (ek_mks hq).1]; by_cases e : q = 33; (subst e; rw [uk_s, k43 33 hq]; simp only [um, uk_s]); (rw [uk_n e, um_n e]; exact k43 q hq)
              have k57 : ∀ q, q ∈ ek → mI S57 mo q = um (um (um F 32 j (nI r)) 33 j (nI k)) 34 j (-1) q := fun q hq => by rw [hF57 q (ek_mks hq).1]; by_cases e : q = 34; (subst e; rw [uk_s, k50 34 hq]; simp only [um, uk_s]); (rw [uk_n e, um_n e]; exact k50 q hq)
              have k64 : ∀ q, q ∈ ek → mI S64 mo q = um (um (um (um F 32 j (nI r)) 33 j (nI k)) 34 j (-1)) 35 j (nI 0) q := fun q hq => by rw [hF64 q (ek_mks hq).1]; by_cases e : q = 35; (subst e; rw [uk_s, k57 35 hq]; simp only [um, uk_s]); (rw [uk_n e, um_n e]; exact k57 q hq)
              have k71 : ∀ q, q ∈ ek → mI S71 mo q = um (um (um (um (um F 32 j (nI r)) 33 j (nI k)) 34 j (-1)) 35 j (nI 0)) 36 j (nI 0) q := fun q hq => by rw [hF71 q (ek_mks hq).1]; by_cases e : q = 36; (subst e; rw [uk_s, k64 36 hq]; simp only [um, uk_s]); (rw [uk_n e, um_n e]; exact k64 q hq)
              have k78 : mI S78 mo q = F1 q := by rw [hF78 q hq2, ← hF1]; by_cases e : q = 37; (subst e; rw [uk_s, k71 37 hq]; simp only [um, uk_s]); (rw [uk_n e, um_n e]; exact k71 q hq)
              rw [k78, zr8_0, zr8_0]
              by_cases e39 : q = 39
              · subst e39; rw [uk_s, ← hF1]; rfl
              · rw [uk_n e39]
                by_cases e38 : q = 38
                · subst e38; rw [uk_s, ← hF1]; rfl
                · rw [uk_n e38]
            · exact absurd (nI_le hk2 (by omega)) c32
theorem cm_votesOf {j : Nat} (hV : MV S mo M n h) (hF : ∀ k, k ∈ ek → mI S mo k = F k) (hj : j < 8) : Sp l g mX10_votesOf 0 0 [vr (some mo), vi (nI j)] S (fun r S' => r = some (vi (vts (F 38) j 8)) ∧ S' = S) := by
  have hC0 : Gch S S mo (Gs S mo) := Gc.rf
  refine Sp.start (own := RX10) [(0, vr (some mo)), (1, vi (nI j))] (by decide +kernel) rfl rfl (Nat.le_of_ble_eq_true rfl) ?_
  intro J C
  have L : ∀ i x, i ≤ 8 → x = vts (F 38) j i → J 4 [(0, vr (some mo)), (1, vi (nI j)), (2, vi x), (3, vi (nI i))] [] S 0 0 := by
    refine up_loop _ _ _ ?_ ?_
    · intro x hx
      refine r_iload_n (pc := 4) C dX10_votesOf_4 rfl ?_
      refine r_bipush (pc := 5) C (nI 8) dX10_votesOf_5 rfl ?_
      refine r_icmp_ge (pc := 7) (tgt := 30) C dX10_votesOf_7 (by decide) (fun c7 => ?_) (fun c7 => ?_)
      · refine r_iload_n (pc := 30) C dX10_votesOf_30 rfl ?_
        refine r_iret (pc := 31) C dX10_votesOf_31 rfl (by omega) (by omega) ?_
        exact ⟨by rw [hx], rfl⟩
      · exact absurd (Int32.le_refl _) c7
    · intro i x hi hx ih
      subst hx
      refine r_iload_n (pc := 4) C dX10_votesOf_4 rfl ?_
      refine r_bipush (pc := 5) C (nI 8) dX10_votesOf_5 rfl ?_
      refine r_icmp_ge (pc := 7) (tgt := 30) C dX10_votesOf_7 (by decide) (fun c7 => ?_) (fun c7 => ?_)
      · exact absurd c7 (nI_ge hi (by omega))
      · refine r_iload_n (pc := 10) C dX10_votesOf_10 rfl ?_
        refine r_aload_n (pc := 11) C dX10_votesOf_11 rfl ?_
        refine r_mA (pc := 12) C hV dX10_votesOf_12 fx_RX10_100 (len := 64) (by decide) ?_
        refine r_bipush (pc := 15) C (nI 8) dX10_votesOf_15 rfl ?_
        refine r_iload_n (pc := 17) C dX10_votesOf_17 rfl ?_
        refine r_imul (pc := 18) C dX10_votesOf_18 ?_
        try simp only [nI_add, pk_mul]
        refine r_iload_n (pc := 19) C dX10_votesOf_19 rfl ?_
        refine r_iadd (pc := 20) C dX10_votesOf_20 ?_
        try simp only [nI_add, pk_mul]
        refine r_xL (pc := 21) C hV dX10_votesOf_21 (k := 38) (len := 64) (by decide) (by decide) (by omega) (by decide) ?_
        rw [hF 38 (by decide)]
        refine r_iadd (pc := 22) C dX10_votesOf_22 ?_
        refine r_istore_n (pc := 23) C dX10_votesOf_23 (by decide) rfl ?_
        refine r_iinc (pc := 24) C _ dX10_votesOf_24 rfl (nI_1 _) (by decide) rfl ?_
        refine r_goto (pc := 27) (tgt := 4) C dX10_votesOf_27 (by decide) ?_
        exact r_lv C [(0, vr (some mo)), (1, vi (nI j)), (2, vi _), (3, vi (nI (i + 1)))] rfl (ih _ rfl)
  refine r_iconst (pc := 0) C (nI 0) dX10_votesOf_0 rfl ?_
  refine r_istore_n (pc := 1) C dX10_votesOf_1 (by decide) rfl ?_
  refine r_iconst (pc := 2) C (nI 0) dX10_votesOf_2 rfl ?_
  refine r_istore_n (pc := 3) C dX10_votesOf_3 (by decide) rfl ?_
  exact r_lv C [(0, vr (some mo)), (1, vi (nI j)), (2, vi (nI 0)), (3, vi (nI 0))] rfl (L 0 _ (by omega) rfl)
end Choice
