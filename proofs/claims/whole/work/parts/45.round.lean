/-! The reference: meet, votes, round, state -/
def EF (S : hS) (mo : Nat) (F : MM) : Prop := ∀ k, k ∈ ek → mI S mo k = F k
theorem um_id {F : MM} {k i : Nat} : um F k i (F k i) = F := by
  funext a
  by_cases e : a = k
  · subst e
    simp only [um, uk_s]
    exact upd_id rfl
  · exact um_n e
def slu (F : MM) (j : Nat) (w : Option Nat) : MM := match w with
  | none => F
  | some k => um (um F 34 j (nI k)) 35 j (F 35 j + nI 1)
def fla (F : MM) (j : Nat) (w : Option Nat) : MM := match w with
  | none => um F 35 j (nI 0)
  | some k => um (um F 35 j (if nI k = F 34 j then F 35 j + nI 1 else nI 1)) 34 j (nI k)
def ba1 (F : MM) (j k : Nat) : MM := um (um (um F 35 j (if nI k = F 37 j then F 35 j + nI 1 else nI 1)) 37 j (nI k)) 39 (8 * j + k) (F 39 (8 * j + k) + nI 1)
def bal (F : MM) (j : Nat) (w : Option Nat) : MM := match w with
  | none => um (um F 35 j (nI 0)) 37 j (-1)
  | some k => match clO F j with
    | none => um (ba1 F j k) 34 j (nI k)
    | some u => if ba1 F j k 39 (8 * j + u) < ba1 F j k 39 (8 * j + k) then um (ba1 F j k) 34 j (nI k) else ba1 F j k
def winW (f : Nat → Int32) (j : Nat) (al : Int32) (c : Nat) : Option Nat := lastU (fun c => !dlt (f (8 * j + c)) al) c
def ru2 (F : MM) (j : Nat) (w : Option Nat) : MM := if F 32 j = 0 then slu F j w else if F 32 j = nI 1 then fla F j w else bal F j w
def rnF (F : MM) (j : Nat) (w : Option Nat) (b1 b2 : Int32) : MM := um (ru2 (uk F 38 (zr8 (F 38) j 8)) j w) 36 j (bi (!dlt (ru2 (uk F 38 (zr8 (F 38) j 8)) j w 34 j) (nI 0) && !dlt (ru2 (uk F 38 (zr8 (F 38) j 8)) j w 35 j) (if F 32 j = nI 1 then b1 else b2)))
section Round
variable {l : Launch} {g : GG} {S S' : hS} {mo : Nat} {M M' F : MM} {G G' : Nat → Int32} {X : Int64} {n h n' h' : Nat} {Post : Option AV → hS → Prop} {J : JJ}
theorem EF.um {k i : Nat} {x : Int32} (hE : EF S mo F) (hF : ∀ j, j ∈ mks → mI S' mo j = uk (mI S mo) k (upd (mI S mo k) i x) j) (hk : k ∈ ek := by decide) : EF S' mo (um F k i x) := by
  intro j hj
  rw [hF j (ek_mks hj).1]
  by_cases e : j = k
  · subst e
    rw [uk_s, hE j hj]
    simp only [_root_.Jvm.Pilot.CSnowNodeLaw_law_r5193_5b532e.um, uk_s]
  · rw [uk_n e, um_n e]
    exact hE j hj
theorem EF.uk {k i : Nat} {x : Int32} {f f' : Nat → Int32} (hE : EF S mo (uk F k f)) (hF : ∀ j, j ∈ mks → mI S' mo j = uk (mI S mo) k (upd (mI S mo k) i x) j) (hf : upd f i x = f') (hk : k ∈ ek := by decide) : EF S' mo (uk F k f') := by
  intro j hj
  rw [hF j (ek_mks hj).1]
  by_cases e : j = k
  · subst e
    rw [uk_s, uk_s, hE j hj, uk_s, hf]
  · rw [uk_n e, uk_n e, hE j hj, uk_n e]
theorem EF.gc {E : List Nat} (hE : EF S mo F) (hC : Gc E S S' mo G) (hk : ∀ k ∈ ek, k ∉ E := by decide) : EF S' mo F := fun k hk2 => by rw [hC.keep (ek_mks hk2).1 (ek_mks hk2).2 (hk k hk2)]; exact hE k hk2
theorem MX.ef {E : List Nat} {F' : MM} (hX : MX S mo M F G X n h) (hC : Gc E S S' mo G') (hV : MV S' mo M' n' h') (hE : EF S' mo F') : MX S' mo M' F' G' X n' h' ∧ Rf S S' mo := by
  have h1 := hC.gx
  rw [hX.x] at h1
  exact ⟨⟨hV, hE, h1.gs, h1.sj⟩, by obtain ⟨F1, e, -⟩ := h1; exact ⟨F1, G', X, e⟩⟩
theorem MX.e (hX : MX S mo M F G X n h) : EF S mo F := hX.2.1
theorem cm_meetN {c col : Int32} (hX : MX S mo M F G X n h) (hC : CH F) (hno : coL F c col = none) : Sp l g mX10_meet 0 0 [vr (some mo), vi c, vi col] S (fun r S' => r = some (vi (nI 0)) ∧ MX S' mo M F (upd G 0 (nI 1)) X n h ∧ Rf S S' mo) := by
  have hV := hX.V
  have hC0 : Gch S S mo (Gs S mo) := Gc.rf
  rw [hX.gg] at hC0
  refine Sp.start (own := RX10) [(0, vr (some mo)), (1, vi c), (2, vi col)] (by decide +kernel) rfl rfl (Nat.le_of_ble_eq_true rfl) ?_
  intro J C
  refine r_aload_n (pc := 0) C dX10_meet_0 rfl ?_
  refine r_aload_n (pc := 1) C dX10_meet_1 rfl ?_
  refine r_iload_n (pc := 2) C dX10_meet_2 rfl ?_
  refine r_iload_n (pc := 3) C dX10_meet_3 rfl ?_
  refine r_callV (pc := 4) C (cm_isColour hV hX.e hC) iX10_isColour ml_RX10_349 dX10_meet_4 (ci := 11) rfl rfl hV.1.1 rfl (by decide) rfl (by simp [cv, Value.category, va_rf]) (by omega) (by omega) (fun r4 S4 h4 => ?_)
  obtain ⟨rfl, e4⟩ := h4
  subst S4
  dsimp only [Option.toList, List.cons_append, List.nil_append]
  rw [hno]
  refine r_if_eq (pc := 7) (tgt := 14) C dX10_meet_7 (by decide) (fun c7 => ?_) (fun c7 => ?_)
  · refine r_iconst (pc := 14) C (nI 1) dX10_meet_14 rfl ?_
    refine r_mP (pc := 15) (k := 0) C hV dX10_meet_15 fx_RX10_145 (fp_11_0 _) (by decide) (fun S15 hC15 hV15 => ?_)
    have hC15r := hC15
    have hC15 := hC0.trs hC15
    refine r_aload_n (pc := 18) C dX10_meet_18 rfl ?_
    refine r_mI (pc := 19) (k := 0) C hV15 dX10_meet_19 fx_RX10_145 ?_
    rw [show Gs _ mo 0 = nI 1 from by rw [hC15.gs]; rfl]
    refine r_if_le (pc := 22) (tgt := 27) C dX10_meet_22 (by decide) (fun c22 => ?_) (fun c22 => ?_)
    · exact absurd c22 (by decide)
    · refine r_iconst (pc := 25) C (nI 0) dX10_meet_25 rfl ?_
      refine r_iret (pc := 26) C dX10_meet_26 rfl (by omega) (by omega) ?_
      exact ⟨rfl, hX.fin0 hC15 hV15⟩
  · exact absurd (show bi (none : Option (Nat × Nat)).isSome = 0 from rfl) c7
theorem cm_meet {c col : Int32} {j k : Nat} (hX : MX S mo M F G X n h) (hC : CH F) (hco : coL F c col = some (j, k)) : Sp l g mX10_meet 0 0 [vr (some mo), vi c, vi col] S (fun r S' => r = some (vi (if F 34 j < 0 then nI k else F 34 j)) ∧ MX S' mo M (um F 34 j (if F 34 j < 0 then nI k else F 34 j)) (upd G 0 (nI 0)) X n h ∧ Rf S S' mo) := by
  have hV := hX.V
  have hC0 : Gc [20, 34] S S mo (Gs S mo) := Gc.rf
  rw [hX.gg] at hC0
  obtain ⟨rfl, hj, hch, rfl, hk⟩ := coL_some hco hC
  refine Sp.start (own := RX10) [(0, vr (some mo)), (1, vi (nI j)), (2, vi (nI k))] (by decide +kernel) rfl rfl (Nat.le_of_ble_eq_true rfl) ?_
  intro J C
  refine r_aload_n (pc := 0) C dX10_meet_0 rfl ?_
  refine r_aload_n (pc := 1) C dX10_meet_1 rfl ?_
  refine r_iload_n (pc := 2) C dX10_meet_2 rfl ?_
  refine r_iload_n (pc := 3) C dX10_meet_3 rfl ?_
  refine r_callV (pc := 4) C (cm_isColour hV hX.e hC) iX10_isColour ml_RX10_349 dX10_meet_4 (ci := 11) rfl rfl hV.1.1 rfl (by decide) rfl (by simp [cv, Value.category, va_rf]) (by omega) (by omega) (fun r4 S4 h4 => ?_)
  obtain ⟨rfl, e4⟩ := h4
  subst S4
  dsimp only [Option.toList, List.cons_append, List.nil_append]
  rw [hco]
  refine r_if_eq (pc := 7) (tgt := 14) C dX10_meet_7 (by decide) (fun c7 => ?_) (fun c7 => ?_)
  · exact absurd c7 (show ¬ bi true = 0 by decide)
  · refine r_iconst (pc := 10) C (nI 0) dX10_meet_10 rfl ?_
    refine r_goto (pc := 11) (tgt := 15) C dX10_meet_11 (by decide) ?_
    refine r_mP (pc := 15) (k := 0) C hV dX10_meet_15 fx_RX10_145 (fp_11_0 _) (by decide) (fun S15 hC15 hV15 => ?_)
    have hC15r := hC15
    have hC15 := hC0.trs hC15
    have hE15 := hX.e.gc hC15r
    refine r_aload_n (pc := 18) C dX10_meet_18 rfl ?_
    refine r_mI (pc := 19) (k := 0) C hV15 dX10_meet_19 fx_RX10_145 ?_
    rw [show Gs _ mo 0 = nI 0 from by rw [hC15.gs]; rfl]
    refine r_if_le (pc := 22) (tgt := 27) C dX10_meet_22 (by decide) (fun c22 => ?_) (fun c22 => ?_)
    · refine r_aload_n (pc := 27) C dX10_meet_27 rfl ?_
      refine r_mA (pc := 28) C hV15 dX10_meet_28 fx_RX10_88 (len := 8) (by decide) ?_
      refine r_iload_n (pc := 31) C dX10_meet_31 rfl ?_
      refine r_xL (pc := 32) C hV15 dX10_meet_32 (k := 34) (len := 8) (by decide) (by decide) (by omega) (by decide) ?_
      rw [hE15 34 (by decide)]
      refine r_if_ge (pc := 33) (tgt := 43) C dX10_meet_33 (by decide) (fun c33 => ?_) (fun c33 => ?_)
      · have hv : (if F 34 j < 0 then nI k else F 34 j) = F 34 j := if_neg (Int32.not_lt.mpr c33)
        have hEE : EF S15 mo (um F 34 j (if F 34 j < 0 then nI k else F 34 j)) := by rw [hv, um_id]; exact hE15
        refine r_aload_n (pc := 43) C dX10_meet_43 rfl ?_
        refine r_mA (pc := 44) C hV15 dX10_meet_44 fx_RX10_88 (len := 8) (by decide) ?_
        refine r_iload_n (pc := 47) C dX10_meet_47 rfl ?_
        refine r_xL (pc := 48) C hV15 dX10_meet_48 (k := 34) (len := 8) (by decide) (by decide) (by omega) (by decide) ?_
        rw [hEE 34 (by decide), show um F 34 j (if F 34 j < 0 then nI k else F 34 j) 34 j = if F 34 j < 0 then nI k else F 34 j from um_s]
        refine r_iret (pc := 49) C dX10_meet_49 rfl (by omega) (by omega) ?_
        exact ⟨rfl, hX.ef hC15 hV15 hEE⟩
      · have hv : (if F 34 j < 0 then nI k else F 34 j) = nI k := if_pos (Int32.not_le.mp c33)
        refine r_aload_n (pc := 36) C dX10_meet_36 rfl ?_
        refine r_mA (pc := 37) C hV15 dX10_meet_37 fx_RX10_88 (len := 8) (by decide) ?_
        refine r_iload_n (pc := 40) C dX10_meet_40 rfl ?_
        refine r_iload_n (pc := 41) C dX10_meet_41 rfl ?_
        refine r_xS (pc := 42) C hV15 dX10_meet_42 (k := 34) (len := 8) (by decide) (by decide) (by decide) (by decide) (by omega) (by decide) (fun S42 hC42r hV42 hF42 => ?_)
        have hC42 := hC15.trk hC42r
        have hEE : EF S42 mo (um F 34 j (if F 34 j < 0 then nI k else F 34 j)) := by rw [hv]; exact hE15.um hF42
        refine r_aload_n (pc := 43) C dX10_meet_43 rfl ?_
        refine r_mA (pc := 44) C hV42 dX10_meet_44 fx_RX10_88 (len := 8) (by decide) ?_
        refine r_iload_n (pc := 47) C dX10_meet_47 rfl ?_
        refine r_xL (pc := 48) C hV42 dX10_meet_48 (k := 34) (len := 8) (by decide) (by decide) (by omega) (by decide) ?_
        rw [hEE 34 (by decide), show um F 34 j (if F 34 j < 0 then nI k else F 34 j) 34 j = if F 34 j < 0 then nI k else F 34 j from um_s]
        refine r_iret (pc := 49) C dX10_meet_49 rfl (by omega) (by omega) ?_
        exact ⟨rfl, hX.ef hC42 hV42 hEE⟩
    · exact absurd (by decide) c22
theorem cm_votes1 {c col y : Int32} (hX : MX S mo M F G X n h) (hC : CH F) (hno : coL F c col = none ∨ ∃ j k, coL F c col = some (j, k) ∧ (F 36 j ≠ 0 ∨ y < nI 1)) : Sp l g mX10_votes 0 0 [vr (some mo), vi c, vi col, vi y] S (fun r S' => r = none ∧ MX S' mo M F (upd G 0 (nI 1)) X n h ∧ Rf S S' mo) := by
  have hV := hX.V
  have hC0 : Gch S S mo (Gs S mo) := Gc.rf
  rw [hX.gg] at hC0
  refine Sp.start (own := RX10) [(0, vr (some mo)), (1, vi c), (2, vi col), (3, vi y)] (by decide +kernel) rfl rfl (Nat.le_of_ble_eq_true rfl) ?_
  intro J C
  rcases hno with hno | ⟨j, k, hco, hno⟩
  · refine r_aload_n (pc := 0) C dX10_votes_0 rfl ?_
    refine r_aload_n (pc := 1) C dX10_votes_1 rfl ?_
    refine r_iload_n (pc := 2) C dX10_votes_2 rfl ?_
    refine r_iload_n (pc := 3) C dX10_votes_3 rfl ?_
    refine r_callV (pc := 4) C (cm_isColour hV hX.e hC) iX10_isColour ml_RX10_349 dX10_votes_4 (ci := 11) rfl rfl hV.1.1 rfl (by decide) rfl (by simp [cv, Value.category, va_rf]) (by omega) (by omega) (fun r4 S4 h4 => ?_)
    obtain ⟨rfl, e4⟩ := h4
    subst S4
    dsimp only [Option.toList, List.cons_append, List.nil_append]
    rw [hno]
    refine r_if_eq (pc := 7) (tgt := 24) C dX10_votes_7 (by decide) (fun c7 => ?_) (fun c7 => ?_)
    · refine r_iconst (pc := 24) C (nI 1) dX10_votes_24 rfl ?_
      refine r_goto (pc := 25) (tgt := 47) C dX10_votes_25 (by decide) ?_
      refine r_mP (pc := 47) (k := 0) C hV dX10_votes_47 fx_RX10_145 (fp_11_0 _) (by decide) (fun S47 hC47 hV47 => ?_)
      have hC47r := hC47
      have hC47 := hC0.trs hC47
      refine r_aload_n (pc := 50) C dX10_votes_50 rfl ?_
      refine r_mI (pc := 51) (k := 0) C hV47 dX10_votes_51 fx_RX10_145 ?_
      rw [show Gs _ mo 0 = nI 1 from by rw [hC47.gs]; rfl]
      refine r_if_ne (pc := 54) (tgt := 72) C dX10_votes_54 (by decide) (fun c54 => ?_) (fun c54 => ?_)
      · refine r_ret (pc := 72) C dX10_votes_72 rfl (by omega) (by omega) ?_
        exact ⟨rfl, hX.fin0 hC47 hV47⟩
      · exact absurd c54 (by decide)
    · exact absurd (show bi (none : Option (Nat × Nat)).isSome = 0 from rfl) c7
  · obtain ⟨rfl, hj, hch, rfl, hk⟩ := coL_some hco hC
    refine r_aload_n (pc := 0) C dX10_votes_0 rfl ?_
    refine r_aload_n (pc := 1) C dX10_votes_1 rfl ?_
    refine r_iload_n (pc := 2) C dX10_votes_2 rfl ?_
    refine r_iload_n (pc := 3) C dX10_votes_3 rfl ?_
    refine r_callV (pc := 4) C (cm_isColour hV hX.e hC) iX10_isColour ml_RX10_349 dX10_votes_4 (ci := 11) rfl rfl hV.1.1 rfl (by decide) rfl (by simp [cv, Value.category, va_rf]) (by omega) (by omega) (fun r4 S4 h4 => ?_)
    obtain ⟨rfl, e4⟩ := h4
    subst S4
    dsimp only [Option.toList, List.cons_append, List.nil_append]
    rw [hco]
    refine r_if_eq (pc := 7) (tgt := 24) C dX10_votes_7 (by decide) (fun c7 => ?_) (fun c7 => ?_)
    · exact absurd c7 (show ¬ bi true = 0 by decide)
    · refine r_aload_n (pc := 10) C dX10_votes_10 rfl ?_
      refine r_mA (pc := 11) C hV dX10_votes_11 fx_RX10_94 (len := 8) (by decide) ?_
      refine r_iload_n (pc := 14) C dX10_votes_14 rfl ?_
      refine r_xLz (pc := 15) C hV dX10_votes_15 (k := 36) (len := 8) (by decide) (by decide) (by omega) (by decide) ?_
      rw [hX.f (by decide)]
      refine r_if_ne (pc := 16) (tgt := 24) C dX10_votes_16 (by decide) (fun c16 => ?_) (fun c16 => ?_)
      · refine r_iconst (pc := 24) C (nI 1) dX10_votes_24 rfl ?_
        refine r_goto (pc := 25) (tgt := 47) C dX10_votes_25 (by decide) ?_
        refine r_mP (pc := 47) (k := 0) C hV dX10_votes_47 fx_RX10_145 (fp_11_0 _) (by decide) (fun S47 hC47 hV47 => ?_)
        have hC47r := hC47
        have hC47 := hC0.trs hC47
        refine r_aload_n (pc := 50) C dX10_votes_50 rfl ?_
        refine r_mI (pc := 51) (k := 0) C hV47 dX10_votes_51 fx_RX10_145 ?_
        rw [show Gs _ mo 0 = nI 1 from by rw [hC47.gs]; rfl]
        refine r_if_ne (pc := 54) (tgt := 72) C dX10_votes_54 (by decide) (fun c54 => ?_) (fun c54 => ?_)
        · refine r_ret (pc := 72) C dX10_votes_72 rfl (by omega) (by omega) ?_
          exact ⟨rfl, hX.fin0 hC47 hV47⟩
        · exact absurd c54 (by decide)
      · refine r_iload_n (pc := 19) C dX10_votes_19 rfl ?_
        refine r_iconst (pc := 20) C (nI 1) dX10_votes_20 rfl ?_
        refine r_icmp_ge (pc := 21) (tgt := 28) C dX10_votes_21 (by decide) (fun c21 => ?_) (fun c21 => ?_)
        · exact hno.elim (fun q => absurd c16 q) (fun q => absurd q (Int32.not_lt.mpr c21))
        · refine r_iconst (pc := 24) C (nI 1) dX10_votes_24 rfl ?_
          refine r_goto (pc := 25) (tgt := 47) C dX10_votes_25 (by decide) ?_
          refine r_mP (pc := 47) (k := 0) C hV dX10_votes_47 fx_RX10_145 (fp_11_0 _) (by decide) (fun S47 hC47 hV47 => ?_)
          have hC47r := hC47
          have hC47 := hC0.trs hC47
          refine r_aload_n (pc := 50) C dX10_votes_50 rfl ?_
          refine r_mI (pc := 51) (k := 0) C hV47 dX10_votes_51 fx_RX10_145 ?_
          rw [show Gs _ mo 0 = nI 1 from by rw [hC47.gs]; rfl]
          refine r_if_ne (pc := 54) (tgt := 72) C dX10_votes_54 (by decide) (fun c54 => ?_) (fun c54 => ?_)
          · refine r_ret (pc := 72) C dX10_votes_72 rfl (by omega) (by omega) ?_
            exact ⟨rfl, hX.fin0 hC47 hV47⟩
          · exact absurd c54 (by decide)
theorem cm_votes2 {c col y : Int32} {j k : Nat} (hX : MX S mo M F G X n h) (hC : CH F) (hco : coL F c col = some (j, k)) (hd : F 36 j = 0) (hy : ¬ y < nI 1) (hno : G 2 - vts (F 38) j 8 < y) : Sp l g mX10_votes 0 0 [vr (some mo), vi c, vi col, vi y] S (fun r S' => r = none ∧ MX S' mo M F (upd G 0 (nI 2)) X n h ∧ Rf S S' mo) := by
  have hV := hX.V
  have hC0 : Gch S S mo (Gs S mo) := Gc.rf
  rw [hX.gg] at hC0
  obtain ⟨rfl, hj, hch, rfl, hk⟩ := coL_some hco hC
  refine Sp.start (own := RX10) [(0, vr (some mo)), (1, vi (nI j)), (2, vi (nI k)), (3, vi y)] (by decide +kernel) rfl rfl (Nat.le_of_ble_eq_true rfl) ?_
  intro J C
  refine r_aload_n (pc := 0) C dX10_votes_0 rfl ?_
  refine r_aload_n (pc := 1) C dX10_votes_1 rfl ?_
  refine r_iload_n (pc := 2) C dX10_votes_2 rfl ?_
  refine r_iload_n (pc := 3) C dX10_votes_3 rfl ?_
  refine r_callV (pc := 4) C (cm_isColour hV hX.e hC) iX10_isColour ml_RX10_349 dX10_votes_4 (ci := 11) rfl rfl hV.1.1 rfl (by decide) rfl (by simp [cv, Value.category, va_rf]) (by omega) (by omega) (fun r4 S4 h4 => ?_)
  obtain ⟨rfl, e4⟩ := h4
  subst S4
  dsimp only [Option.toList, List.cons_append, List.nil_append]
  rw [hco]
  refine r_if_eq (pc := 7) (tgt := 24) C dX10_votes_7 (by decide) (fun c7 => ?_) (fun c7 => ?_)
  · exact absurd c7 (show ¬ bi true = 0 by decide)
  · refine r_aload_n (pc := 10) C dX10_votes_10 rfl ?_
    refine r_mA (pc := 11) C hV dX10_votes_11 fx_RX10_94 (len := 8) (by decide) ?_
    refine r_iload_n (pc := 14) C dX10_votes_14 rfl ?_
    refine r_xLz (pc := 15) C hV dX10_votes_15 (k := 36) (len := 8) (by decide) (by decide) (by omega) (by decide) ?_
    rw [hX.f (by decide)]
    refine r_if_ne (pc := 16) (tgt := 24) C dX10_votes_16 (by decide) (fun c16 => ?_) (fun c16 => ?_)
    · exact absurd hd c16
    · refine r_iload_n (pc := 19) C dX10_votes_19 rfl ?_
      refine r_iconst (pc := 20) C (nI 1) dX10_votes_20 rfl ?_
      refine r_icmp_ge (pc := 21) (tgt := 28) C dX10_votes_21 (by decide) (fun c21 => ?_) (fun c21 => ?_)
      · refine r_iload_n (pc := 28) C dX10_votes_28 rfl ?_
        refine r_aload_n (pc := 29) C dX10_votes_29 rfl ?_
        refine r_mI (pc := 30) (k := 2) C hV dX10_votes_30 fx_RX10_122 ?_
        rw [hX.gg]
        refine r_aload_n (pc := 33) C dX10_votes_33 rfl ?_
        refine r_iload_n (pc := 34) C dX10_votes_34 rfl ?_
        refine r_callV (pc := 35) C (cm_votesOf hV hX.e hj) iX10_votesOf ml_RX10_352 dX10_votes_35 (ci := 11) rfl rfl hV.1.1 rfl (by decide) rfl (by simp [cv, Value.category, va_rf]) (by omega) (by omega) (fun r35 S35 h35 => ?_)
        obtain ⟨rfl, e35⟩ := h35
        subst S35
        dsimp only [Option.toList, List.cons_append, List.nil_append]
        refine r_isub (pc := 38) C dX10_votes_38 ?_
        refine r_icmp_le (pc := 39) (tgt := 46) C dX10_votes_39 (by decide) (fun c39 => ?_) (fun c39 => ?_)
        · exact absurd hno (Int32.not_lt.mpr c39)
        · refine r_iconst (pc := 42) C (nI 2) dX10_votes_42 rfl ?_
          refine r_goto (pc := 43) (tgt := 47) C dX10_votes_43 (by decide) ?_
          refine r_mP (pc := 47) (k := 0) C hV dX10_votes_47 fx_RX10_145 (fp_11_0 _) (by decide) (fun S47 hC47 hV47 => ?_)
          have hC47r := hC47
          have hC47 := hC0.trs hC47
          refine r_aload_n (pc := 50) C dX10_votes_50 rfl ?_
          refine r_mI (pc := 51) (k := 0) C hV47 dX10_votes_51 fx_RX10_145 ?_
          rw [show Gs _ mo 0 = nI 2 from by rw [hC47.gs]; rfl]
          refine r_if_ne (pc := 54) (tgt := 72) C dX10_votes_54 (by decide) (fun c54 => ?_) (fun c54 => ?_)
          · refine r_ret (pc := 72) C dX10_votes_72 rfl (by omega) (by omega) ?_
            exact ⟨rfl, hX.fin0 hC47 hV47⟩
          · exact absurd c54 (by decide)
      · exact absurd (Int32.not_lt.mp hy) c21
theorem cm_votes {c col y : Int32} {j k : Nat} (hX : MX S mo M F G X n h) (hC : CH F) (hco : coL F c col = some (j, k)) (hd : F 36 j = 0) (hy : ¬ y < nI 1) (hno : ¬ G 2 - vts (F 38) j 8 < y) : Sp l g mX10_votes 0 0 [vr (some mo), vi c, vi col, vi y] S (fun r S' => r = none ∧ MX S' mo M (um F 38 (8 * j + k) (F 38 (8 * j + k) + y)) (upd G 0 (nI 0)) X n h ∧ Rf S S' mo) := by
  have hV := hX.V
  have hC0 : Gc [20, 38] S S mo (Gs S mo) := Gc.rf
  rw [hX.gg] at hC0
  obtain ⟨rfl, hj, hch, rfl, hk⟩ := coL_some hco hC
  have hk8 := (hC j hj).1.2
  refine Sp.start (own := RX10) [(0, vr (some mo)), (1, vi (nI j)), (2, vi (nI k)), (3, vi y)] (by decide +kernel) rfl rfl (Nat.le_of_ble_eq_true rfl) ?_
  intro J C
  refine r_aload_n (pc := 0) C dX10_votes_0 rfl ?_
  refine r_aload_n (pc := 1) C dX10_votes_1 rfl ?_
  refine r_iload_n (pc := 2) C dX10_votes_2 rfl ?_
  refine r_iload_n (pc := 3) C dX10_votes_3 rfl ?_
  refine r_callV (pc := 4) C (cm_isColour hV hX.e hC) iX10_isColour ml_RX10_349 dX10_votes_4 (ci := 11) rfl rfl hV.1.1 rfl (by decide) rfl (by simp [cv, Value.category, va_rf]) (by omega) (by omega) (fun r4 S4 h4 => ?_)
  obtain ⟨rfl, e4⟩ := h4
  subst S4
  dsimp only [Option.toList, List.cons_append, List.nil_append]
  rw [hco]
  refine r_if_eq (pc := 7) (tgt := 24) C dX10_votes_7 (by decide) (fun c7 => ?_) (fun c7 => ?_)
  · exact absurd c7 (show ¬ bi true = 0 by decide)
  · refine r_aload_n (pc := 10) C dX10_votes_10 rfl ?_
    refine r_mA (pc := 11) C hV dX10_votes_11 fx_RX10_94 (len := 8) (by decide) ?_
    refine r_iload_n (pc := 14) C dX10_votes_14 rfl ?_
    refine r_xLz (pc := 15) C hV dX10_votes_15 (k := 36) (len := 8) (by decide) (by decide) (by omega) (by decide) ?_
    rw [hX.f (by decide)]
    refine r_if_ne (pc := 16) (tgt := 24) C dX10_votes_16 (by decide) (fun c16 => ?_) (fun c16 => ?_)
    · exact absurd hd c16
    · refine r_iload_n (pc := 19) C dX10_votes_19 rfl ?_
      refine r_iconst (pc := 20) C (nI 1) dX10_votes_20 rfl ?_
      refine r_icmp_ge (pc := 21) (tgt := 28) C dX10_votes_21 (by decide) (fun c21 => ?_) (fun c21 => ?_)
      · refine r_iload_n (pc := 28) C dX10_votes_28 rfl ?_
        refine r_aload_n (pc := 29) C dX10_votes_29 rfl ?_
        refine r_mI (pc := 30) (k := 2) C hV dX10_votes_30 fx_RX10_122 ?_
        rw [hX.gg]
        refine r_aload_n (pc := 33) C dX10_votes_33 rfl ?_
        refine r_iload_n (pc := 34) C dX10_votes_34 rfl ?_
        refine r_callV (pc := 35) C (cm_votesOf hV hX.e hj) iX10_votesOf ml_RX10_352 dX10_votes_35 (ci := 11) rfl rfl hV.1.1 rfl (by decide) rfl (by simp [cv, Value.category, va_rf]) (by omega) (by omega) (fun r35 S35 h35 => ?_)
        obtain ⟨rfl, e35⟩ := h35
        subst S35
        dsimp only [Option.toList, List.cons_append, List.nil_append]
        refine r_isub (pc := 38) C dX10_votes_38 ?_
        refine r_icmp_le (pc := 39) (tgt := 46) C dX10_votes_39 (by decide) (fun c39 => ?_) (fun c39 => ?_)
        · refine r_iconst (pc := 46) C (nI 0) dX10_votes_46 rfl ?_
          refine r_mP (pc := 47) (k := 0) C hV dX10_votes_47 fx_RX10_145 (fp_11_0 _) (by decide) (fun S47 hC47 hV47 => ?_)
          have hC47r := hC47
          have hC47 := hC0.trs hC47
          have hE47 := hX.e.gc hC47r
          refine r_aload_n (pc := 50) C dX10_votes_50 rfl ?_
          refine r_mI (pc := 51) (k := 0) C hV47 dX10_votes_51 fx_RX10_145 ?_
          rw [show Gs _ mo 0 = nI 0 from by rw [hC47.gs]; rfl]
          refine r_if_ne (pc := 54) (tgt := 72) C dX10_votes_54 (by decide) (fun c54 => ?_) (fun c54 => ?_)
          · exact absurd rfl c54
          · refine r_aload_n (pc := 57) C dX10_votes_57 rfl ?_
            refine r_mA (pc := 58) C hV47 dX10_votes_58 fx_RX10_100 (len := 64) (by decide) ?_
            refine r_bipush (pc := 61) C (nI 8) dX10_votes_61 rfl ?_
            refine r_iload_n (pc := 63) C dX10_votes_63 rfl ?_
            refine r_imul (pc := 64) C dX10_votes_64 ?_
            try simp only [nI_add, pk_mul]
            refine r_iload_n (pc := 65) C dX10_votes_65 rfl ?_
            refine r_iadd (pc := 66) C dX10_votes_66 ?_
            try simp only [nI_add, pk_mul]
            refine r_dup2 (pc := 67) C dX10_votes_67 rfl rfl ?_
            refine r_xL (pc := 68) C hV47 dX10_votes_68 (k := 38) (len := 64) (by decide) (by decide) (by omega) (by decide) ?_
            rw [hE47 38 (by decide)]
            refine r_iload_n (pc := 69) C dX10_votes_69 rfl ?_
            refine r_iadd (pc := 70) C dX10_votes_70 ?_
            refine r_xS (pc := 71) C hV47 dX10_votes_71 (k := 38) (len := 64) (by decide) (by decide) (by decide) (by decide) (by omega) (by decide) (fun S71 hC71r hV71 hF71 => ?_)
            have hC71 := hC47.trk hC71r
            refine r_ret (pc := 72) C dX10_votes_72 rfl (by omega) (by omega) ?_
            exact ⟨rfl, hX.ef hC71 hV71 (hE47.um hF71)⟩
        · exact absurd (Int32.not_lt.mp hno) c39
      · exact absurd (Int32.not_lt.mp hy) c21
theorem cm_slush {j : Nat} {w : Option Nat} (hV : MV S mo M n h) (hE : EF S mo F) (hj : j < 8) (hw : ∀ k, w = some k → k < 8) : Sp l g mX10_roundOfSlush 0 0 [vr (some mo), vi (nI j), vi (oI w)] S (fun r S' => r = none ∧ Gc [34, 35, 37, 39] S S' mo (Gs S mo) ∧ MV S' mo M n h ∧ EF S' mo (slu F j w)) := by
  have hC0 : Gc [34, 35, 37, 39] S S mo (Gs S mo) := Gc.rf
  cases w with
  | none =>
    refine Sp.start (own := RX10) [(0, vr (some mo)), (1, vi (nI j)), (2, vi (-1))] (by decide +kernel) rfl rfl (Nat.le_of_ble_eq_true rfl) ?_
    intro J C
    refine r_iload_n (pc := 0) C dX10_roundOfSlush_0 rfl ?_
    refine r_if_ge (pc := 1) (tgt := 5) C dX10_roundOfSlush_1 (by decide) (fun c1 => ?_) (fun c1 => ?_)
    · exact absurd c1 (by decide)
    · refine r_ret (pc := 4) C dX10_roundOfSlush_4 rfl (by omega) (by omega) ?_
      exact ⟨rfl, hC0, hV, hE⟩
  | some k =>
    have hk := hw k rfl
    refine Sp.start (own := RX10) [(0, vr (some mo)), (1, vi (nI j)), (2, vi (nI k))] (by decide +kernel) rfl rfl (Nat.le_of_ble_eq_true rfl) ?_
    intro J C
    refine r_iload_n (pc := 0) C dX10_roundOfSlush_0 rfl ?_
    refine r_if_ge (pc := 1) (tgt := 5) C dX10_roundOfSlush_1 (by decide) (fun c1 => ?_) (fun c1 => ?_)
    · refine r_aload_n (pc := 5) C dX10_roundOfSlush_5 rfl ?_
      refine r_mA (pc := 6) C hV dX10_roundOfSlush_6 fx_RX10_88 (len := 8) (by decide) ?_
      refine r_iload_n (pc := 9) C dX10_roundOfSlush_9 rfl ?_
      refine r_iload_n (pc := 10) C dX10_roundOfSlush_10 rfl ?_
      refine r_xS (pc := 11) C hV dX10_roundOfSlush_11 (k := 34) (len := 8) (by decide) (by decide) (by decide) (by decide) (by omega) (by decide) (fun S11 hC11r hV11 hF11 => ?_)
      have hC11 := hC0.trk hC11r
      have hE11 := hE.um hF11
      refine r_aload_n (pc := 12) C dX10_roundOfSlush_12 rfl ?_
      refine r_mA (pc := 13) C hV11 dX10_roundOfSlush_13 fx_RX10_91 (len := 8) (by decide) ?_
      refine r_iload_n (pc := 16) C dX10_roundOfSlush_16 rfl ?_
      refine r_dup2 (pc := 17) C dX10_roundOfSlush_17 rfl rfl ?_
      refine r_xL (pc := 18) C hV11 dX10_roundOfSlush_18 (k := 35) (len := 8) (by decide) (by decide) (by omega) (by decide) ?_
      rw [hE11 35 (by decide), um_n (by decide)]
      refine r_iconst (pc := 19) C (nI 1) dX10_roundOfSlush_19 rfl ?_
      refine r_iadd (pc := 20) C dX10_roundOfSlush_20 ?_
      refine r_xS (pc := 21) C hV11 dX10_roundOfSlush_21 (k := 35) (len := 8) (by decide) (by decide) (by decide) (by decide) (by omega) (by decide) (fun S21 hC21r hV21 hF21 => ?_)
      have hC21 := hC11.trk hC21r
      refine r_ret (pc := 22) C dX10_roundOfSlush_22 rfl (by omega) (by omega) ?_
      exact ⟨rfl, hC21, hV21, hE11.um hF21⟩
    · exact absurd (nI_pos' (by omega)) c1
theorem cm_flake {j : Nat} {w : Option Nat} (hV : MV S mo M n h) (hE : EF S mo F) (hj : j < 8) (hw : ∀ k, w = some k → k < 8) : Sp l g mX10_roundOfFlake 0 0 [vr (some mo), vi (nI j), vi (oI w)] S (fun r S' => r = none ∧ Gc [34, 35, 37, 39] S S' mo (Gs S mo) ∧ MV S' mo M n h ∧ EF S' mo (fla F j w)) := by
  have hC0 : Gc [34, 35, 37, 39] S S mo (Gs S mo) := Gc.rf
  cases w with
  | none =>
    refine Sp.start (own := RX10) [(0, vr (some mo)), (1, vi (nI j)), (2, vi (-1))] (by decide +kernel) rfl rfl (Nat.le_of_ble_eq_true rfl) ?_
    intro J C
    refine r_aload_n (pc := 0) C dX10_roundOfFlake_0 rfl ?_
    refine r_mA (pc := 1) C hV dX10_roundOfFlake_1 fx_RX10_91 (len := 8) (by decide) ?_
    refine r_iload_n (pc := 4) C dX10_roundOfFlake_4 rfl ?_
    refine r_iload_n (pc := 5) C dX10_roundOfFlake_5 rfl ?_
    refine r_if_ge (pc := 6) (tgt := 13) C dX10_roundOfFlake_6 (by decide) (fun c6 => ?_) (fun c6 => ?_)
    · exact absurd c6 (by decide)
    · refine r_iconst (pc := 9) C (nI 0) dX10_roundOfFlake_9 rfl ?_
      refine r_goto (pc := 10) (tgt := 35) C dX10_roundOfFlake_10 (by decide) ?_
      refine r_xS (pc := 35) C hV dX10_roundOfFlake_35 (k := 35) (len := 8) (by decide) (by decide) (by decide) (by decide) (by omega) (by decide) (fun S35 hC35r hV35 hF35 => ?_)
      have hC35 := hC0.trk hC35r
      refine r_iload_n (pc := 36) C dX10_roundOfFlake_36 rfl ?_
      refine r_if_lt (pc := 37) (tgt := 47) C dX10_roundOfFlake_37 (by decide) (fun c37 => ?_) (fun c37 => ?_)
      · refine r_ret (pc := 47) C dX10_roundOfFlake_47 rfl (by omega) (by omega) ?_
        exact ⟨rfl, hC35, hV35, hE.um hF35⟩
      · exact absurd (by decide) c37
  | some k =>
    have hk := hw k rfl
    refine Sp.start (own := RX10) [(0, vr (some mo)), (1, vi (nI j)), (2, vi (nI k))] (by decide +kernel) rfl rfl (Nat.le_of_ble_eq_true rfl) ?_
    intro J C
    refine r_aload_n (pc := 0) C dX10_roundOfFlake_0 rfl ?_
    refine r_mA (pc := 1) C hV dX10_roundOfFlake_1 fx_RX10_91 (len := 8) (by decide) ?_
    refine r_iload_n (pc := 4) C dX10_roundOfFlake_4 rfl ?_
    refine r_iload_n (pc := 5) C dX10_roundOfFlake_5 rfl ?_
    refine r_if_ge (pc := 6) (tgt := 13) C dX10_roundOfFlake_6 (by decide) (fun c6 => ?_) (fun c6 => ?_)
    · refine r_iload_n (pc := 13) C dX10_roundOfFlake_13 rfl ?_
      refine r_aload_n (pc := 14) C dX10_roundOfFlake_14 rfl ?_
      refine r_mA (pc := 15) C hV dX10_roundOfFlake_15 fx_RX10_88 (len := 8) (by decide) ?_
      refine r_iload_n (pc := 18) C dX10_roundOfFlake_18 rfl ?_
      refine r_xL (pc := 19) C hV dX10_roundOfFlake_19 (k := 34) (len := 8) (by decide) (by decide) (by omega) (by decide) ?_
      rw [hE 34 (by decide)]
      refine r_icmp_ne (pc := 20) (tgt := 34) C dX10_roundOfFlake_20 (by decide) (fun c20 => ?_) (fun c20 => ?_)
      · have hv : nI 1 = if nI k = F 34 j then F 35 j + nI 1 else nI 1 := (if_neg c20).symm
        refine r_iconst (pc := 34) C (nI 1) dX10_roundOfFlake_34 rfl ?_
        refine r_xS (pc := 35) C hV dX10_roundOfFlake_35 (k := 35) (len := 8) (by decide) (by decide) (by decide) (by decide) (by omega) (by decide) (fun S35 hC35r hV35 hF35 => ?_)
        have hC35 := hC0.trk hC35r
        have hE35 := hE.um hF35
        rw [hv] at hE35
        refine r_iload_n (pc := 36) C dX10_roundOfFlake_36 rfl ?_
        refine r_if_lt (pc := 37) (tgt := 47) C dX10_roundOfFlake_37 (by decide) (fun c37 => ?_) (fun c37 => ?_)
        · exact absurd c37 (nI_pos (by omega))
        · refine r_aload_n (pc := 40) C dX10_roundOfFlake_40 rfl ?_
          refine r_mA (pc := 41) C hV35 dX10_roundOfFlake_41 fx_RX10_88 (len := 8) (by decide) ?_
          refine r_iload_n (pc := 44) C dX10_roundOfFlake_44 rfl ?_
          refine r_iload_n (pc := 45) C dX10_roundOfFlake_45 rfl ?_
          refine r_xS (pc := 46) C hV35 dX10_roundOfFlake_46 (k := 34) (len := 8) (by decide) (by decide) (by decide) (by decide) (by omega) (by decide) (fun S46 hC46r hV46 hF46 => ?_)
          have hC46 := hC35.trk hC46r
          refine r_ret (pc := 47) C dX10_roundOfFlake_47 rfl (by omega) (by omega) ?_
          exact ⟨rfl, hC46, hV46, hE35.um hF46⟩
      · have hv : F 35 j + nI 1 = if nI k = F 34 j then F 35 j + nI 1 else nI 1 := (if_pos c20).symm
        refine r_aload_n (pc := 23) C dX10_roundOfFlake_23 rfl ?_
        refine r_mA (pc := 24) C hV dX10_roundOfFlake_24 fx_RX10_91 (len := 8) (by decide) ?_
        refine r_iload_n (pc := 27) C dX10_roundOfFlake_27 rfl ?_
        refine r_xL (pc := 28) C hV dX10_roundOfFlake_28 (k := 35) (len := 8) (by decide) (by decide) (by omega) (by decide) ?_
        rw [hE 35 (by decide)]
        refine r_iconst (pc := 29) C (nI 1) dX10_roundOfFlake_29 rfl ?_
        refine r_iadd (pc := 30) C dX10_roundOfFlake_30 ?_
        refine r_goto (pc := 31) (tgt := 35) C dX10_roundOfFlake_31 (by decide) ?_
        refine r_xS (pc := 35) C hV dX10_roundOfFlake_35 (k := 35) (len := 8) (by decide) (by decide) (by decide) (by decide) (by omega) (by decide) (fun S35 hC35r hV35 hF35 => ?_)
        have hC35 := hC0.trk hC35r
        have hE35 := hE.um hF35
        rw [hv] at hE35
        refine r_iload_n (pc := 36) C dX10_roundOfFlake_36 rfl ?_
        refine r_if_lt (pc := 37) (tgt := 47) C dX10_roundOfFlake_37 (by decide) (fun c37 => ?_) (fun c37 => ?_)
        · exact absurd c37 (nI_pos (by omega))
        · refine r_aload_n (pc := 40) C dX10_roundOfFlake_40 rfl ?_
          refine r_mA (pc := 41) C hV35 dX10_roundOfFlake_41 fx_RX10_88 (len := 8) (by decide) ?_
          refine r_iload_n (pc := 44) C dX10_roundOfFlake_44 rfl ?_
          refine r_iload_n (pc := 45) C dX10_roundOfFlake_45 rfl ?_
          refine r_xS (pc := 46) C hV35 dX10_roundOfFlake_46 (k := 34) (len := 8) (by decide) (by decide) (by decide) (by decide) (by omega) (by decide) (fun S46 hC46r hV46 hF46 => ?_)
          have hC46 := hC35.trk hC46r
          refine r_ret (pc := 47) C dX10_roundOfFlake_47 rfl (by omega) (by omega) ?_
          exact ⟨rfl, hC46, hV46, hE35.um hF46⟩
    · exact absurd (nI_pos' (by omega)) c6
theorem cm_ball {j : Nat} {w : Option Nat} (hV : MV S mo M n h) (hE : EF S mo F) (hC : CH F) (hj : j < 8) (hw : ∀ k, w = some k → k < 8) : Sp l g mX10_roundOfBall 0 0 [vr (some mo), vi (nI j), vi (oI w)] S (fun r S' => r = none ∧ Gc [34, 35, 37, 39] S S' mo (Gs S mo) ∧ MV S' mo M n h ∧ EF S' mo (bal F j w)) := by
  have hC0 : Gc [34, 35, 37, 39] S S mo (Gs S mo) := Gc.rf
  cases w with
  | none =>
    refine Sp.start (own := RX10) [(0, vr (some mo)), (1, vi (nI j)), (2, vi (-1))] (by decide +kernel) rfl rfl (Nat.le_of_ble_eq_true rfl) ?_
    intro J C
    refine r_aload_n (pc := 0) C dX10_roundOfBall_0 rfl ?_
    refine r_mA (pc := 1) C hV dX10_roundOfBall_1 fx_RX10_91 (len := 8) (by decide) ?_
    refine r_iload_n (pc := 4) C dX10_roundOfBall_4 rfl ?_
    refine r_iload_n (pc := 5) C dX10_roundOfBall_5 rfl ?_
    refine r_if_ge (pc := 6) (tgt := 13) C dX10_roundOfBall_6 (by decide) (fun c6 => ?_) (fun c6 => ?_)
    · exact absurd c6 (by decide)
    · refine r_iconst (pc := 9) C (nI 0) dX10_roundOfBall_9 rfl ?_
      refine r_goto (pc := 10) (tgt := 35) C dX10_roundOfBall_10 (by decide) ?_
      refine r_xS (pc := 35) C hV dX10_roundOfBall_35 (k := 35) (len := 8) (by decide) (by decide) (by decide) (by decide) (by omega) (by decide) (fun S35 hC35r hV35 hF35 => ?_)
      have hC35 := hC0.trk hC35r
      have hE35 := hE.um hF35
      refine r_aload_n (pc := 36) C dX10_roundOfBall_36 rfl ?_
      refine r_mA (pc := 37) C hV35 dX10_roundOfBall_37 fx_RX10_97 (len := 8) (by decide) ?_
      refine r_iload_n (pc := 40) C dX10_roundOfBall_40 rfl ?_
      refine r_iload_n (pc := 41) C dX10_roundOfBall_41 rfl ?_
      refine r_xS (pc := 42) C hV35 dX10_roundOfBall_42 (k := 37) (len := 8) (by decide) (by decide) (by decide) (by decide) (by omega) (by decide) (fun S42 hC42r hV42 hF42 => ?_)
      have hC42 := hC35.trk hC42r
      refine r_iload_n (pc := 43) C dX10_roundOfBall_43 rfl ?_
      refine r_if_ge (pc := 44) (tgt := 48) C dX10_roundOfBall_44 (by decide) (fun c44 => ?_) (fun c44 => ?_)
      · exact absurd c44 (by decide)
      · refine r_ret (pc := 47) C dX10_roundOfBall_47 rfl (by omega) (by omega) ?_
        exact ⟨rfl, hC42, hV42, hE35.um hF42⟩
  | some k =>
    have hk := hw k rfl
    obtain ⟨e34, hu⟩ := (hC j hj).2
    generalize hV3 : (if nI k = F 37 j then F 35 j + nI 1 else nI 1) = v3
    have hb1 : ba1 F j k = um (um (um F 35 j v3) 37 j (nI k)) 39 (8 * j + k) (F 39 (8 * j + k) + nI 1) := by simp only [ba1, hV3]
    refine Sp.start (own := RX10) [(0, vr (some mo)), (1, vi (nI j)), (2, vi (nI k))] (by decide +kernel) rfl rfl (Nat.le_of_ble_eq_true rfl) ?_
    intro J C
    have L : ∀ S1 v, v = v3 → Gc [34, 35, 37, 39] S S1 mo (Gs S mo) → MV S1 mo M n h → EF S1 mo F → J 35 [(0, vr (some mo)), (1, vi (nI j)), (2, vi (nI k))] [vi v, vi (nI j), vr (some (ma S1 mo 35))] S1 0 0 := by
      intro S1 v hv hC1 hV1 hE1
      subst hv
      refine r_xS (pc := 35) C hV1 dX10_roundOfBall_35 (k := 35) (len := 8) (by decide) (by decide) (by decide) (by decide) hj (by decide) (fun S35 hC35r hV35 hF35 => ?_)
      have hC35 := hC1.trk hC35r
      have hE35 := hE1.um hF35
      cases hc : clO F j with
      | none =>
        rw [hc] at e34
        refine r_aload_n (pc := 36) C dX10_roundOfBall_36 rfl ?_
        refine r_mA (pc := 37) C hV35 dX10_roundOfBall_37 fx_RX10_97 (len := 8) (by decide) ?_
        refine r_iload_n (pc := 40) C dX10_roundOfBall_40 rfl ?_
        refine r_iload_n (pc := 41) C dX10_roundOfBall_41 rfl ?_
        refine r_xS (pc := 42) C hV35 dX10_roundOfBall_42 (k := 37) (len := 8) (by decide) (by decide) (by decide) (by decide) (by omega) (by decide) (fun S42 hC42r hV42 hF42 => ?_)
        have hC42 := hC35.trk hC42r
        have hE42 := hE35.um hF42
        refine r_iload_n (pc := 43) C dX10_roundOfBall_43 rfl ?_
        refine r_if_ge (pc := 44) (tgt := 48) C dX10_roundOfBall_44 (by decide) (fun c44 => ?_) (fun c44 => ?_)
        · refine r_aload_n (pc := 48) C dX10_roundOfBall_48 rfl ?_
          refine r_mA (pc := 49) C hV42 dX10_roundOfBall_49 fx_RX10_103 (len := 64) (by decide) ?_
          refine r_bipush (pc := 52) C (nI 8) dX10_roundOfBall_52 rfl ?_
          refine r_iload_n (pc := 54) C dX10_roundOfBall_54 rfl ?_
          refine r_imul (pc := 55) C dX10_roundOfBall_55 ?_
          try simp only [nI_add, pk_mul]
          refine r_iload_n (pc := 56) C dX10_roundOfBall_56 rfl ?_
          refine r_iadd (pc := 57) C dX10_roundOfBall_57 ?_
          try simp only [nI_add, pk_mul]
          refine r_dup2 (pc := 58) C dX10_roundOfBall_58 rfl rfl ?_
          refine r_xL (pc := 59) C hV42 dX10_roundOfBall_59 (k := 39) (len := 64) (by decide) (by decide) (by omega) (by decide) ?_
          rw [hE42 39 (by decide), um_n (by decide), um_n (by decide)]
          refine r_iconst (pc := 60) C (nI 1) dX10_roundOfBall_60 rfl ?_
          refine r_iadd (pc := 61) C dX10_roundOfBall_61 ?_
          refine r_xS (pc := 62) C hV42 dX10_roundOfBall_62 (k := 39) (len := 64) (by decide) (by decide) (by decide) (by decide) (by omega) (by decide) (fun S62 hC62r hV62 hF62 => ?_)
          have hC62 := hC42.trk hC62r
          have hE62 := hE42.um hF62
          rw [← hb1] at hE62
          refine r_aload_n (pc := 63) C dX10_roundOfBall_63 rfl ?_
          refine r_mA (pc := 64) C hV62 dX10_roundOfBall_64 fx_RX10_88 (len := 8) (by decide) ?_
          refine r_iload_n (pc := 67) C dX10_roundOfBall_67 rfl ?_
          refine r_xL (pc := 68) C hV62 dX10_roundOfBall_68 (k := 34) (len := 8) (by decide) (by decide) (by omega) (by decide) ?_
          rw [hE62 34 (by decide), hb1, um_n (by decide), um_n (by decide), um_n (by decide), e34]
          refine r_istore_n (pc := 69) C dX10_roundOfBall_69 (by decide) rfl ?_
          refine r_iload_n (pc := 70) C dX10_roundOfBall_70 rfl ?_
          refine r_if_lt (pc := 71) (tgt := 99) C dX10_roundOfBall_71 (by decide) (fun c71 => ?_) (fun c71 => ?_)
          · refine r_aload_n (pc := 99) C dX10_roundOfBall_99 rfl ?_
            refine r_mA (pc := 100) C hV62 dX10_roundOfBall_100 fx_RX10_88 (len := 8) (by decide) ?_
            refine r_iload_n (pc := 103) C dX10_roundOfBall_103 rfl ?_
            refine r_iload_n (pc := 104) C dX10_roundOfBall_104 rfl ?_
            refine r_xS (pc := 105) C hV62 dX10_roundOfBall_105 (k := 34) (len := 8) (by decide) (by decide) (by decide) (by decide) (by omega) (by decide) (fun S105 hC105r hV105 hF105 => ?_)
            have hC105 := hC62.trk hC105r
            have hE105 := hE62.um hF105
            refine r_ret (pc := 106) C dX10_roundOfBall_106 rfl (by omega) (by omega) ?_
            exact ⟨rfl, hC105, hV105, by simp only [bal, hc]; exact hE105⟩
          · exact absurd (show oI (none : Option Nat) < 0 by decide) c71
        · exact absurd (nI_pos' (by omega)) c44
      | some u =>
        have hu8 := hu u hc
        rw [hc] at e34
        refine r_aload_n (pc := 36) C dX10_roundOfBall_36 rfl ?_
        refine r_mA (pc := 37) C hV35 dX10_roundOfBall_37 fx_RX10_97 (len := 8) (by decide) ?_
        refine r_iload_n (pc := 40) C dX10_roundOfBall_40 rfl ?_
        refine r_iload_n (pc := 41) C dX10_roundOfBall_41 rfl ?_
        refine r_xS (pc := 42) C hV35 dX10_roundOfBall_42 (k := 37) (len := 8) (by decide) (by decide) (by decide) (by decide) (by omega) (by decide) (fun S42 hC42r hV42 hF42 => ?_)
        have hC42 := hC35.trk hC42r
        have hE42 := hE35.um hF42
        refine r_iload_n (pc := 43) C dX10_roundOfBall_43 rfl ?_
        refine r_if_ge (pc := 44) (tgt := 48) C dX10_roundOfBall_44 (by decide) (fun c44 => ?_) (fun c44 => ?_)
        · refine r_aload_n (pc := 48) C dX10_roundOfBall_48 rfl ?_
          refine r_mA (pc := 49) C hV42 dX10_roundOfBall_49 fx_RX10_103 (len := 64) (by decide) ?_
          refine r_bipush (pc := 52) C (nI 8) dX10_roundOfBall_52 rfl ?_
          refine r_iload_n (pc := 54) C dX10_roundOfBall_54 rfl ?_
          refine r_imul (pc := 55) C dX10_roundOfBall_55 ?_
          try simp only [nI_add, pk_mul]
          refine r_iload_n (pc := 56) C dX10_roundOfBall_56 rfl ?_
          refine r_iadd (pc := 57) C dX10_roundOfBall_57 ?_
          try simp only [nI_add, pk_mul]
          refine r_dup2 (pc := 58) C dX10_roundOfBall_58 rfl rfl ?_
          refine r_xL (pc := 59) C hV42 dX10_roundOfBall_59 (k := 39) (len := 64) (by decide) (by decide) (by omega) (by decide) ?_
          rw [hE42 39 (by decide), um_n (by decide), um_n (by decide)]
          refine r_iconst (pc := 60) C (nI 1) dX10_roundOfBall_60 rfl ?_
          refine r_iadd (pc := 61) C dX10_roundOfBall_61 ?_
          refine r_xS (pc := 62) C hV42 dX10_roundOfBall_62 (k := 39) (len := 64) (by decide) (by decide) (by decide) (by decide) (by omega) (by decide) (fun S62 hC62r hV62 hF62 => ?_)
          have hC62 := hC42.trk hC62r
          have hE62 := hE42.um hF62
          rw [← hb1] at hE62
          refine r_aload_n (pc := 63) C dX10_roundOfBall_63 rfl ?_
          refine r_mA (pc := 64) C hV62 dX10_roundOfBall_64 fx_RX10_88 (len := 8) (by decide) ?_
          refine r_iload_n (pc := 67) C dX10_roundOfBall_67 rfl ?_
          refine r_xL (pc := 68) C hV62 dX10_roundOfBall_68 (k := 34) (len := 8) (by decide) (by decide) (by omega) (by decide) ?_
          rw [hE62 34 (by decide), hb1, um_n (by decide), um_n (by decide), um_n (by decide), e34]
          dsimp only [oI]
          refine r_istore_n (pc := 69) C dX10_roundOfBall_69 (by decide) rfl ?_
          refine r_iload_n (pc := 70) C dX10_roundOfBall_70 rfl ?_
          refine r_if_lt (pc := 71) (tgt := 99) C dX10_roundOfBall_71 (by decide) (fun c71 => ?_) (fun c71 => ?_)
          · exact absurd c71 (nI_pos (by omega))
          · refine r_aload_n (pc := 74) C dX10_roundOfBall_74 rfl ?_
            refine r_mA (pc := 75) C hV62 dX10_roundOfBall_75 fx_RX10_103 (len := 64) (by decide) ?_
            refine r_bipush (pc := 78) C (nI 8) dX10_roundOfBall_78 rfl ?_
            refine r_iload_n (pc := 80) C dX10_roundOfBall_80 rfl ?_
            refine r_imul (pc := 81) C dX10_roundOfBall_81 ?_
            try simp only [nI_add, pk_mul]
            refine r_iload_n (pc := 82) C dX10_roundOfBall_82 rfl ?_
            refine r_iadd (pc := 83) C dX10_roundOfBall_83 ?_
            try simp only [nI_add, pk_mul]
            refine r_xL (pc := 84) C hV62 dX10_roundOfBall_84 (k := 39) (len := 64) (by decide) (by decide) (by omega) (by decide) ?_
            rw [hE62 39 (by decide)]
            refine r_aload_n (pc := 85) C dX10_roundOfBall_85 rfl ?_
            refine r_mA (pc := 86) C hV62 dX10_roundOfBall_86 fx_RX10_103 (len := 64) (by decide) ?_
            refine r_bipush (pc := 89) C (nI 8) dX10_roundOfBall_89 rfl ?_
            refine r_iload_n (pc := 91) C dX10_roundOfBall_91 rfl ?_
            refine r_imul (pc := 92) C dX10_roundOfBall_92 ?_
            try simp only [nI_add, pk_mul]
            refine r_iload_n (pc := 93) C dX10_roundOfBall_93 rfl ?_
            refine r_iadd (pc := 94) C dX10_roundOfBall_94 ?_
            try simp only [nI_add, pk_mul]
            refine r_xL (pc := 95) C hV62 dX10_roundOfBall_95 (k := 39) (len := 64) (by decide) (by decide) (by omega) (by decide) ?_
            rw [hE62 39 (by decide)]
            refine r_icmp_le (pc := 96) (tgt := 106) C dX10_roundOfBall_96 (by decide) (fun c96 => ?_) (fun c96 => ?_)
            · have hbl : bal F j (some k) = ba1 F j k := by simp only [bal, hc]; exact if_neg (Int32.not_lt.mpr c96)
              have hEE : EF S62 mo (bal F j (some k)) := by rw [hbl]; exact hE62
              refine r_ret (pc := 106) C dX10_roundOfBall_106 rfl (by omega) (by omega) ?_
              exact ⟨rfl, hC62, hV62, hEE⟩
            · have hbl : bal F j (some k) = um (ba1 F j k) 34 j (nI k) := by simp only [bal, hc]; exact if_pos (Int32.not_le.mp c96)
              refine r_aload_n (pc := 99) C dX10_roundOfBall_99 rfl ?_
              refine r_mA (pc := 100) C hV62 dX10_roundOfBall_100 fx_RX10_88 (len := 8) (by decide) ?_
              refine r_iload_n (pc := 103) C dX10_roundOfBall_103 rfl ?_
              refine r_iload_n (pc := 104) C dX10_roundOfBall_104 rfl ?_
              refine r_xS (pc := 105) C hV62 dX10_roundOfBall_105 (k := 34) (len := 8) (by decide) (by decide) (by decide) (by decide) (by omega) (by decide) (fun S105 hC105r hV105 hF105 => ?_)
              have hC105 := hC62.trk hC105r
              have hEE : EF S105 mo (bal F j (some k)) := by rw [hbl]; exact hE62.um hF105
              refine r_ret (pc := 106) C dX10_roundOfBall_106 rfl (by omega) (by omega) ?_
              exact ⟨rfl, hC105, hV105, hEE⟩
        · exact absurd (nI_pos' (by omega)) c44
    refine r_aload_n (pc := 0) C dX10_roundOfBall_0 rfl ?_
    refine r_mA (pc := 1) C hV dX10_roundOfBall_1 fx_RX10_91 (len := 8) (by decide) ?_
    refine r_iload_n (pc := 4) C dX10_roundOfBall_4 rfl ?_
    refine r_iload_n (pc := 5) C dX10_roundOfBall_5 rfl ?_
    refine r_if_ge (pc := 6) (tgt := 13) C dX10_roundOfBall_6 (by decide) (fun c6 => ?_) (fun c6 => ?_)
    · refine r_iload_n (pc := 13) C dX10_roundOfBall_13 rfl ?_
      refine r_aload_n (pc := 14) C dX10_roundOfBall_14 rfl ?_
      refine r_mA (pc := 15) C hV dX10_roundOfBall_15 fx_RX10_97 (len := 8) (by decide) ?_
      refine r_iload_n (pc := 18) C dX10_roundOfBall_18 rfl ?_
      refine r_xL (pc := 19) C hV dX10_roundOfBall_19 (k := 37) (len := 8) (by decide) (by decide) (by omega) (by decide) ?_
      rw [hE 37 (by decide)]
      refine r_icmp_ne (pc := 20) (tgt := 34) C dX10_roundOfBall_20 (by decide) (fun c20 => ?_) (fun c20 => ?_)
      · have hv : nI 1 = v3 := by rw [← hV3]; exact (if_neg c20).symm
        refine r_iconst (pc := 34) C (nI 1) dX10_roundOfBall_34 rfl ?_
        exact r_lv C [(0, vr (some mo)), (1, vi (nI j)), (2, vi (nI k))] rfl (L S _ hv hC0 hV hE)
      · have hv : F 35 j + nI 1 = v3 := by rw [← hV3]; exact (if_pos c20).symm
        refine r_aload_n (pc := 23) C dX10_roundOfBall_23 rfl ?_
        refine r_mA (pc := 24) C hV dX10_roundOfBall_24 fx_RX10_91 (len := 8) (by decide) ?_
        refine r_iload_n (pc := 27) C dX10_roundOfBall_27 rfl ?_
        refine r_xL (pc := 28) C hV dX10_roundOfBall_28 (k := 35) (len := 8) (by decide) (by decide) (by omega) (by decide) ?_
        rw [hE 35 (by decide)]
        refine r_iconst (pc := 29) C (nI 1) dX10_roundOfBall_29 rfl ?_
        refine r_iadd (pc := 30) C dX10_roundOfBall_30 ?_
        refine r_goto (pc := 31) (tgt := 35) C dX10_roundOfBall_31 (by decide) ?_
        exact r_lv C [(0, vr (some mo)), (1, vi (nI j)), (2, vi (nI k))] rfl (L S _ hv hC0 hV hE)
    · exact absurd (nI_pos' (by omega)) c6
theorem cm_roundN {c : Int32} (hX : MX S mo M F G X n h) (hno : chN F c = none ∨ ∃ j, chN F c = some j ∧ F 36 j ≠ 0) : Sp l g mX10_round 0 0 [vr (some mo), vi c] S (fun r S' => r = some (vi (bi false)) ∧ MX S' mo M F (upd G 0 (nI 1)) X n h ∧ Rf S S' mo) := by
  have hV := hX.V
  have hC0 : Gch S S mo (Gs S mo) := Gc.rf
  rw [hX.gg] at hC0
  refine Sp.start (own := RX10) [(0, vr (some mo)), (1, vi c)] (by decide +kernel) rfl rfl (Nat.le_of_ble_eq_true rfl) ?_
  intro J C
  rcases hno with hno | ⟨j, hch, hno⟩
  · refine r_aload_n (pc := 0) C dX10_round_0 rfl ?_
    refine r_aload_n (pc := 1) C dX10_round_1 rfl ?_
    refine r_iload_n (pc := 2) C dX10_round_2 rfl ?_
    refine r_callV (pc := 3) C (cm_isBegun hV hX.e) iX10_isBegun ml_RX10_346 dX10_round_3 (ci := 11) rfl rfl hV.1.1 rfl (by decide) rfl (by simp [cv, Value.category, va_rf]) (by omega) (by omega) (fun r3 S3 h3 => ?_)
    obtain ⟨rfl, e3⟩ := h3
    subst S3
    dsimp only [Option.toList, List.cons_append, List.nil_append]
    rw [hno]
    refine r_if_eq (pc := 6) (tgt := 18) C dX10_round_6 (by decide) (fun c6 => ?_) (fun c6 => ?_)
    · refine r_iconst (pc := 18) C (nI 1) dX10_round_18 rfl ?_
      refine r_goto (pc := 19) (tgt := 23) C dX10_round_19 (by decide) ?_
      refine r_mP (pc := 23) (k := 0) C hV dX10_round_23 fx_RX10_145 (fp_11_0 _) (by decide) (fun S23 hC23 hV23 => ?_)
      have hC23r := hC23
      have hC23 := hC0.trs hC23
      refine r_aload_n (pc := 26) C dX10_round_26 rfl ?_
      refine r_mI (pc := 27) (k := 0) C hV23 dX10_round_27 fx_RX10_145 ?_
      rw [show Gs _ mo 0 = nI 1 from by rw [hC23.gs]; rfl]
      refine r_if_le (pc := 30) (tgt := 35) C dX10_round_30 (by decide) (fun c30 => ?_) (fun c30 => ?_)
      · exact absurd c30 (by decide)
      · refine r_iconst (pc := 33) C (nI 0) dX10_round_33 rfl ?_
        refine r_zret (pc := 34) C dX10_round_34 rfl (by first | exact Or.inl rfl | exact Or.inr rfl | assumption) (by omega) (by omega) ?_
        exact ⟨rfl, hX.fin0 hC23 hV23⟩
    · exact absurd (show bi (none : Option Nat).isSome = 0 from rfl) c6
  · obtain ⟨rfl, hj, -⟩ := chN_some hch
    refine r_aload_n (pc := 0) C dX10_round_0 rfl ?_
    refine r_aload_n (pc := 1) C dX10_round_1 rfl ?_
    refine r_iload_n (pc := 2) C dX10_round_2 rfl ?_
    refine r_callV (pc := 3) C (cm_isBegun hV hX.e) iX10_isBegun ml_RX10_346 dX10_round_3 (ci := 11) rfl rfl hV.1.1 rfl (by decide) rfl (by simp [cv, Value.category, va_rf]) (by omega) (by omega) (fun r3 S3 h3 => ?_)
    obtain ⟨rfl, e3⟩ := h3
    subst S3
    dsimp only [Option.toList, List.cons_append, List.nil_append]
    rw [hch]
    refine r_if_eq (pc := 6) (tgt := 18) C dX10_round_6 (by decide) (fun c6 => ?_) (fun c6 => ?_)
    · exact absurd c6 (show ¬ bi true = 0 by decide)
    · refine r_aload_n (pc := 9) C dX10_round_9 rfl ?_
      refine r_mA (pc := 10) C hV dX10_round_10 fx_RX10_94 (len := 8) (by decide) ?_
      refine r_iload_n (pc := 13) C dX10_round_13 rfl ?_
      refine r_xLz (pc := 14) C hV dX10_round_14 (k := 36) (len := 8) (by decide) (by decide) (by omega) (by decide) ?_
      rw [hX.f (by decide)]
      refine r_if_eq (pc := 15) (tgt := 22) C dX10_round_15 (by decide) (fun c15 => ?_) (fun c15 => ?_)
      · exact absurd c15 hno
      · refine r_iconst (pc := 18) C (nI 1) dX10_round_18 rfl ?_
        refine r_goto (pc := 19) (tgt := 23) C dX10_round_19 (by decide) ?_
        refine r_mP (pc := 23) (k := 0) C hV dX10_round_23 fx_RX10_145 (fp_11_0 _) (by decide) (fun S23 hC23 hV23 => ?_)
        have hC23r := hC23
        have hC23 := hC0.trs hC23
        refine r_aload_n (pc := 26) C dX10_round_26 rfl ?_
        refine r_mI (pc := 27) (k := 0) C hV23 dX10_round_27 fx_RX10_145 ?_
        rw [show Gs _ mo 0 = nI 1 from by rw [hC23.gs]; rfl]
        refine r_if_le (pc := 30) (tgt := 35) C dX10_round_30 (by decide) (fun c30 => ?_) (fun c30 => ?_)
        · exact absurd c30 (by decide)
        · refine r_iconst (pc := 33) C (nI 0) dX10_round_33 rfl ?_
          refine r_zret (pc := 34) C dX10_round_34 rfl (by first | exact Or.inl rfl | exact Or.inr rfl | assumption) (by omega) (by omega) ?_
          exact ⟨rfl, hX.fin0 hC23 hV23⟩
theorem cm_round {c : Int32} {j : Nat} (hX : MX S mo M F G X n h) (hC : CH F) (hch : chN F c = some j) (hd : F 36 j = 0) : Sp l g mX10_round 0 0 [vr (some mo), vi c] S (fun r S' => r = some (vi (bi (winW (F 38) j (G 3) 8).isSome)) ∧ MX S' mo M (rnF F j (winW (F 38) j (G 3) 8) (G 4) (G 5)) (upd G 0 (nI 0)) X n h ∧ Rf S S' mo) := by
  have hV := hX.V
  have hC0 : Gc [20, 34, 35, 36, 37, 38, 39] S S mo (Gs S mo) := Gc.rf
  rw [hX.gg] at hC0
  obtain ⟨rfl, hj, -⟩ := chN_some hch
  have hwl : ∀ k, winW (F 38) j (G 3) 8 = some k → k < 8 := fun k hk => (lastU_lt hk).1
  generalize hR : rnF F j (winW (F 38) j (G 3) 8) (G 4) (G 5) = R
  generalize hF1 : uk F 38 (zr8 (F 38) j 8) = F1
  have hCH1 : CH F1 := by rw [← hF1]; exact hC
  have hW : winW (F 38) j (G 3) 8 = winW (F 38) j (G 3) 8 := rfl
  generalize hwe : winW (F 38) j (G 3) 8 = w at hR hwl ⊢
  have hR2 : um (ru2 F1 j w) 36 j (bi (!dlt (ru2 F1 j w 34 j) (nI 0) && !dlt (ru2 F1 j w 35 j) (if F 32 j = nI 1 then G 4 else G 5))) = R := by rw [← hR, ← hF1]; rfl
  generalize hF2 : ru2 F1 j w = F2 at hR2
  have h32 : F1 32 = F 32 := by rw [← hF1]; rfl
  have hF232 : F2 32 = F 32 := by
    rw [← hF2, ← h32]
    have s1 : slu F1 j w 32 = F1 32 := by unfold slu; split <;> rfl
    have s2 : fla F1 j w 32 = F1 32 := by unfold fla; split <;> rfl
    have s3 : bal F1 j w 32 = F1 32 := by
      cases w with
      | none => rfl
      | some k =>
        simp only [bal]
        cases clO F1 j with
        | none => rfl
        | some u => dsimp only; split <;> rfl
    unfold ru2
    split
    · exact s1
    · split
      · exact s2
      · exact s3
  refine Sp.start (own := RX10) [(0, vr (some mo)), (1, vi (nI j))] (by decide +kernel) rfl rfl (Nat.le_of_ble_eq_true rfl) ?_
  intro J C
  have L2 : ∀ S1, Gc [20, 34, 35, 36, 37, 38, 39] S S1 mo (upd G 0 (nI 0)) → MV S1 mo M n h → EF S1 mo F2 → J 130 [(0, vr (some mo)), (1, vi (nI j)), (2, vi (oI w))] [] S1 0 0 := by
    intro S1 hC1 hV1 hE1
    have hwlt : ∀ u, w = some u → u < 1000 := fun u hu => by have := hwl u hu; omega
    have L3 : ∀ due, due = (if F 32 j = nI 1 then G 4 else G 5) → J 151 [(0, vr (some mo)), (1, vi (nI j)), (2, vi (oI w))] [vi due] S1 0 0 := by
      intro due hdue
      have L4 : ∀ v, v = bi (!dlt (F2 34 j) (nI 0) && !dlt (F2 35 j) due) → J 181 [(0, vr (some mo)), (1, vi (nI j)), (2, vi (oI w))] [vi v, vi (nI j), vr (some (ma S1 mo 36))] S1 0 0 := by
        intro v hv
        refine r_xSz (pc := 181) C hV1 dX10_round_181 (k := 36) (len := 8) (by decide) (by decide) (by decide) (by decide) hj (by decide) (by rw [hv]; exact bi_01 _) (fun S181 hC181r hV181 hF181 => ?_)
        have hC181 := hC1.trk hC181r
        have hE181 := hE1.um hF181
        rw [hv, hdue, hR2] at hE181
        refine r_iload_n (pc := 182) C dX10_round_182 rfl ?_
        refine r_if_lt (pc := 183) (tgt := 190) C dX10_round_183 (by decide) (fun c183 => ?_) (fun c183 => ?_)
        · have hr : bi w.isSome = nI 0 := by rw [oI_lt hwlt] at c183; rw [c183]; rfl
          refine r_iconst (pc := 190) C (nI 0) dX10_round_190 rfl ?_
          refine r_zret (pc := 191) C dX10_round_191 rfl (by first | exact Or.inl rfl | exact Or.inr rfl | assumption) (by omega) (by omega) ?_
          exact ⟨by rw [hr], hX.ef hC181 hV181 hE181⟩
        · have hr : bi w.isSome = nI 1 := by rw [oI_lt hwlt] at c183; cases w with | none => exact absurd rfl c183 | some u => rfl
          refine r_iconst (pc := 186) C (nI 1) dX10_round_186 rfl ?_
          refine r_goto (pc := 187) (tgt := 191) C dX10_round_187 (by decide) ?_
          refine r_zret (pc := 191) C dX10_round_191 rfl (by first | exact Or.inl rfl | exact Or.inr rfl | assumption) (by omega) (by omega) ?_
          exact ⟨by rw [hr], hX.ef hC181 hV181 hE181⟩
      refine r_istore_n (pc := 151) C dX10_round_151 (by decide) rfl ?_
      refine r_aload_n (pc := 152) C dX10_round_152 rfl ?_
      refine r_mA (pc := 153) C hV1 dX10_round_153 fx_RX10_94 (len := 8) (by decide) ?_
      refine r_iload_n (pc := 156) C dX10_round_156 rfl ?_
      refine r_aload_n (pc := 157) C dX10_round_157 rfl ?_
      refine r_mA (pc := 158) C hV1 dX10_round_158 fx_RX10_88 (len := 8) (by decide) ?_
      refine r_iload_n (pc := 161) C dX10_round_161 rfl ?_
      refine r_xL (pc := 162) C hV1 dX10_round_162 (k := 34) (len := 8) (by decide) (by decide) (by omega) (by decide) ?_
      rw [hE1 34 (by decide)]
      refine r_if_lt (pc := 163) (tgt := 180) C dX10_round_163 (by decide) (fun c163 => ?_) (fun c163 => ?_)
      · have hv : nI 0 = bi (!dlt (F2 34 j) (nI 0) && !dlt (F2 35 j) due) := by rw [show dlt (F2 34 j) (nI 0) = true from dlt_t c163]; rfl
        refine r_iconst (pc := 180) C (nI 0) dX10_round_180 rfl ?_
        exact r_lv C [(0, vr (some mo)), (1, vi (nI j)), (2, vi (oI w))] rfl (L4 _ hv)
      · refine r_aload_n (pc := 166) C dX10_round_166 rfl ?_
        refine r_mA (pc := 167) C hV1 dX10_round_167 fx_RX10_91 (len := 8) (by decide) ?_
        refine r_iload_n (pc := 170) C dX10_round_170 rfl ?_
        refine r_xL (pc := 171) C hV1 dX10_round_171 (k := 35) (len := 8) (by decide) (by decide) (by omega) (by decide) ?_
        rw [hE1 35 (by decide)]
        refine r_iload_n (pc := 172) C dX10_round_172 rfl ?_
        refine r_icmp_lt (pc := 173) (tgt := 180) C dX10_round_173 (by decide) (fun c173 => ?_) (fun c173 => ?_)
        · have hv : nI 0 = bi (!dlt (F2 34 j) (nI 0) && !dlt (F2 35 j) due) := by rw [show dlt (F2 35 j) due = true from dlt_t c173, Bool.not_true, Bool.and_false]; rfl
          refine r_iconst (pc := 180) C (nI 0) dX10_round_180 rfl ?_
          exact r_lv C [(0, vr (some mo)), (1, vi (nI j)), (2, vi (oI w))] rfl (L4 _ hv)
        · have hv : nI 1 = bi (!dlt (F2 34 j) (nI 0) && !dlt (F2 35 j) due) := by rw [show dlt (F2 35 j) due = false from dlt_f (Int32.not_lt.mp c173), show dlt (F2 34 j) (nI 0) = false from dlt_f (Int32.not_lt.mp c163)]; rfl
          refine r_iconst (pc := 176) C (nI 1) dX10_round_176 rfl ?_
          refine r_goto (pc := 177) (tgt := 181) C dX10_round_177 (by decide) ?_
          exact r_lv C [(0, vr (some mo)), (1, vi (nI j)), (2, vi (oI w))] rfl (L4 _ hv)
    refine r_aload_n (pc := 130) C dX10_round_130 rfl ?_
    refine r_mA (pc := 131) C hV1 dX10_round_131 fx_RX10_82 (len := 8) (by decide) ?_
    refine r_iload_n (pc := 134) C dX10_round_134 rfl ?_
    refine r_xL (pc := 135) C hV1 dX10_round_135 (k := 32) (len := 8) (by decide) (by decide) (by omega) (by decide) ?_
    rw [hE1 32 (by decide), hF232]
    refine r_iconst (pc := 136) C (nI 1) dX10_round_136 rfl ?_
    refine r_icmp_ne (pc := 137) (tgt := 147) C dX10_round_137 (by decide) (fun c137 => ?_) (fun c137 => ?_)
    · have hv : G 5 = if F 32 j = nI 1 then G 4 else G 5 := (if_neg c137).symm
      refine r_aload_n (pc := 147) C dX10_round_147 rfl ?_
      refine r_mI (pc := 148) (k := 5) C hV1 dX10_round_148 fx_RX10_131 ?_
      rw [hC1.gs]
      exact r_lv C [(0, vr (some mo)), (1, vi (nI j)), (2, vi (oI w))] rfl (L3 _ hv)
    · have hv : G 4 = if F 32 j = nI 1 then G 4 else G 5 := (if_pos c137).symm
      refine r_aload_n (pc := 140) C dX10_round_140 rfl ?_
      refine r_mI (pc := 141) (k := 4) C hV1 dX10_round_141 fx_RX10_128 ?_
      rw [hC1.gs]
      refine r_goto (pc := 144) (tgt := 151) C dX10_round_144 (by decide) ?_
      exact r_lv C [(0, vr (some mo)), (1, vi (nI j)), (2, vi (oI w))] rfl (L3 _ hv)
  have L1 : ∀ c (y : Int32) S1, c ≤ 8 → (y = oI (winW (F 38) j (G 3) c) ∧ Gc [20, 34, 35, 36, 37, 38, 39] S S1 mo (upd G 0 (nI 0)) ∧ MV S1 mo M n h ∧ EF S1 mo (uk F 38 (zr8 (F 38) j c))) → J 39 [(0, vr (some mo)), (1, vi (nI j)), (2, vi y), (3, vi (nI c))] [] S1 0 0 := by
    refine up2 _ _ _ ?_ ?_
    · intro y S1 hS
      obtain ⟨rfl, hC1, hV1, hE1⟩ := hS
      rw [hwe]
      rw [hF1] at hE1
      refine r_iload_n (pc := 39) C dX10_round_39 rfl ?_
      refine r_bipush (pc := 40) C (nI 8) dX10_round_40 rfl ?_
      refine r_icmp_ge (pc := 42) (tgt := 87) C dX10_round_42 (by decide) (fun c42 => ?_) (fun c42 => ?_)
      · refine r_aload_n (pc := 87) C dX10_round_87 rfl ?_
        refine r_mA (pc := 88) C hV1 dX10_round_88 fx_RX10_82 (len := 8) (by decide) ?_
        refine r_iload_n (pc := 91) C dX10_round_91 rfl ?_
        refine r_xL (pc := 92) C hV1 dX10_round_92 (k := 32) (len := 8) (by decide) (by decide) (by omega) (by decide) ?_
        rw [hE1 32 (by decide)]
        refine r_if_ne (pc := 93) (tgt := 105) C dX10_round_93 (by decide) (fun c93 => ?_) (fun c93 => ?_)
        · have e1 : ¬ F1 32 j = 0 := c93
          refine r_aload_n (pc := 105) C dX10_round_105 rfl ?_
          refine r_mA (pc := 106) C hV1 dX10_round_106 fx_RX10_82 (len := 8) (by decide) ?_
          refine r_iload_n (pc := 109) C dX10_round_109 rfl ?_
          refine r_xL (pc := 110) C hV1 dX10_round_110 (k := 32) (len := 8) (by decide) (by decide) (by omega) (by decide) ?_
          rw [hE1 32 (by decide)]
          refine r_iconst (pc := 111) C (nI 1) dX10_round_111 rfl ?_
          refine r_icmp_ne (pc := 112) (tgt := 124) C dX10_round_112 (by decide) (fun c112 => ?_) (fun c112 => ?_)
          · have hv : bal F1 j w = F2 := by rw [← hF2]; unfold ru2; rw [if_neg e1, if_neg c112]
            refine r_aload_n (pc := 124) C dX10_round_124 rfl ?_
            refine r_iload_n (pc := 125) C dX10_round_125 rfl ?_
            refine r_iload_n (pc := 126) C dX10_round_126 rfl ?_
            refine r_callV (pc := 127) C (cm_ball hV1 hE1 hCH1 hj hwl) iX10_roundOfBall ml_RX10_362 dX10_round_127 (ci := 11) rfl rfl hV1.1.1 rfl (by decide) rfl (by simp [cv, Value.category, va_rf]) (by omega) (by omega) (fun r127 S127 h127 => ?_)
            obtain ⟨rfl, hCr, hV127, hE2⟩ := h127
            have hC127 := hC1.trk hCr
            dsimp only [Option.toList, List.cons_append, List.nil_append]
            rw [hv] at hE2
            exact r_lv C [(0, vr (some mo)), (1, vi (nI j)), (2, vi (oI w))] rfl (L2 _ hC127 hV127 hE2)
          · have hv : fla F1 j w = F2 := by rw [← hF2]; unfold ru2; rw [if_neg e1, if_pos c112]
            refine r_aload_n (pc := 115) C dX10_round_115 rfl ?_
            refine r_iload_n (pc := 116) C dX10_round_116 rfl ?_
            refine r_iload_n (pc := 117) C dX10_round_117 rfl ?_
            refine r_callV (pc := 118) C (cm_flake hV1 hE1 hj hwl) iX10_roundOfFlake ml_RX10_359 dX10_round_118 (ci := 11) rfl rfl hV1.1.1 rfl (by decide) rfl (by simp [cv, Value.category, va_rf]) (by omega) (by omega) (fun r118 S118 h118 => ?_)
            obtain ⟨rfl, hCr, hV118, hE2⟩ := h118
            have hC118 := hC1.trk hCr
            dsimp only [Option.toList, List.cons_append, List.nil_append]
            refine r_goto (pc := 121) (tgt := 130) C dX10_round_121 (by decide) ?_
            rw [hv] at hE2
            exact r_lv C [(0, vr (some mo)), (1, vi (nI j)), (2, vi (oI w))] rfl (L2 _ hC118 hV118 hE2)
        · have hv : slu F1 j w = F2 := by rw [← hF2]; exact (if_pos c93).symm
          refine r_aload_n (pc := 96) C dX10_round_96 rfl ?_
          refine r_iload_n (pc := 97) C dX10_round_97 rfl ?_
          refine r_iload_n (pc := 98) C dX10_round_98 rfl ?_
          refine r_callV (pc := 99) C (cm_slush hV1 hE1 hj hwl) iX10_roundOfSlush ml_RX10_355 dX10_round_99 (ci := 11) rfl rfl hV1.1.1 rfl (by decide) rfl (by simp [cv, Value.category, va_rf]) (by omega) (by omega) (fun r99 S99 h99 => ?_)
          obtain ⟨rfl, hCr, hV99, hE2⟩ := h99
          have hC99 := hC1.trk hCr
          dsimp only [Option.toList, List.cons_append, List.nil_append]
          refine r_goto (pc := 102) (tgt := 130) C dX10_round_102 (by decide) ?_
          rw [hv] at hE2
          exact r_lv C [(0, vr (some mo)), (1, vi (nI j)), (2, vi (oI w))] rfl (L2 _ hC99 hV99 hE2)
      · exact absurd (Int32.le_refl _) c42
    · intro c y S1 hc hS ih
      obtain ⟨rfl, hC1, hV1, hE1⟩ := hS
      have hv38 : zr8 (F 38) j c (8 * j + c) = F 38 (8 * j + c) := by simp only [zr8]; rw [if_neg (by omega)]
      have hg := hC1.gs
      refine r_iload_n (pc := 39) C dX10_round_39 rfl ?_
      refine r_bipush (pc := 40) C (nI 8) dX10_round_40 rfl ?_
      refine r_icmp_ge (pc := 42) (tgt := 87) C dX10_round_42 (by decide) (fun c42 => ?_) (fun c42 => ?_)
      · exact absurd c42 (nI_ge hc (by omega))
      · refine r_aload_n (pc := 45) C dX10_round_45 rfl ?_
        refine r_mA (pc := 46) C hV1 dX10_round_46 fx_RX10_100 (len := 64) (by decide) ?_
        refine r_bipush (pc := 49) C (nI 8) dX10_round_49 rfl ?_
        refine r_iload_n (pc := 51) C dX10_round_51 rfl ?_
        refine r_imul (pc := 52) C dX10_round_52 ?_
        try simp only [nI_add, pk_mul]
        refine r_iload_n (pc := 53) C dX10_round_53 rfl ?_
        refine r_iadd (pc := 54) C dX10_round_54 ?_
        try simp only [nI_add, pk_mul]
        refine r_xL (pc := 55) C hV1 dX10_round_55 (k := 38) (len := 64) (by decide) (by decide) (by omega) (by decide) ?_
        rw [hE1 38 (by decide), uk_s, hv38]
        refine r_aload_n (pc := 56) C dX10_round_56 rfl ?_
        refine r_mI (pc := 57) (k := 3) C hV1 dX10_round_57 fx_RX10_125 ?_
        rw [show Gs S1 mo 3 = G 3 by rw [hg]; rfl]
        refine r_icmp_lt (pc := 60) (tgt := 67) C dX10_round_60 (by decide) (fun c60 => ?_) (fun c60 => ?_)
        · have hv : oI (winW (F 38) j (G 3) c) = oI (winW (F 38) j (G 3) (c + 1)) := by simp only [winW]; rw [lastU_f (by rw [dlt_t c60]; rfl)]
          refine r_iload_n (pc := 67) C dX10_round_67 rfl ?_
          refine r_istore_n (pc := 68) C dX10_round_68 (by decide) rfl ?_
          refine r_aload_n (pc := 69) C dX10_round_69 rfl ?_
          refine r_mA (pc := 70) C hV1 dX10_round_70 fx_RX10_100 (len := 64) (by decide) ?_
          refine r_bipush (pc := 73) C (nI 8) dX10_round_73 rfl ?_
          refine r_iload_n (pc := 75) C dX10_round_75 rfl ?_
          refine r_imul (pc := 76) C dX10_round_76 ?_
          try simp only [nI_add, pk_mul]
          refine r_iload_n (pc := 77) C dX10_round_77 rfl ?_
          refine r_iadd (pc := 78) C dX10_round_78 ?_
          try simp only [nI_add, pk_mul]
          refine r_iconst (pc := 79) C (nI 0) dX10_round_79 rfl ?_
          refine r_xS (pc := 80) C hV1 dX10_round_80 (k := 38) (len := 64) (by decide) (by decide) (by decide) (by decide) (by omega) (by decide) (fun S80 hC80r hV80 hF80 => ?_)
          have hC80 := hC1.trk hC80r
          refine r_iinc (pc := 81) C _ dX10_round_81 rfl (nI_1 _) (by decide) rfl ?_
          refine r_goto (pc := 84) (tgt := 39) C dX10_round_84 (by decide) ?_
          exact r_lv C [(0, vr (some mo)), (1, vi (nI j)), (2, vi _), (3, vi (nI (c + 1)))] rfl (ih _ _ ⟨hv, hC80, hV80, hE1.uk hF80 (zr8_s _ _ _)⟩)
        · have hv : nI c = oI (winW (F 38) j (G 3) (c + 1)) := by simp only [winW]; rw [lastU_t (by rw [dlt_f (Int32.not_lt.mp c60)]; rfl)]; rfl
          refine r_iload_n (pc := 63) C dX10_round_63 rfl ?_
          refine r_goto (pc := 64) (tgt := 68) C dX10_round_64 (by decide) ?_
          refine r_istore_n (pc := 68) C dX10_round_68 (by decide) rfl ?_
          refine r_aload_n (pc := 69) C dX10_round_69 rfl ?_
          refine r_mA (pc := 70) C hV1 dX10_round_70 fx_RX10_100 (len := 64) (by decide) ?_
          refine r_bipush (pc := 73) C (nI 8) dX10_round_73 rfl ?_
          refine r_iload_n (pc := 75) C dX10_round_75 rfl ?_
          refine r_imul (pc := 76) C dX10_round_76 ?_
          try simp only [nI_add, pk_mul]
          refine r_iload_n (pc := 77) C dX10_round_77 rfl ?_
          refine r_iadd (pc := 78) C dX10_round_78 ?_
          try simp only [nI_add, pk_mul]
          refine r_iconst (pc := 79) C (nI 0) dX10_round_79 rfl ?_
          refine r_xS (pc := 80) C hV1 dX10_round_80 (k := 38) (len := 64) (by decide) (by decide) (by decide) (by decide) (by omega) (by decide) (fun S80 hC80r hV80 hF80 => ?_)
          have hC80 := hC1.trk hC80r
          refine r_iinc (pc := 81) C _ dX10_round_81 rfl (nI_1 _) (by decide) rfl ?_
          refine r_goto (pc := 84) (tgt := 39) C dX10_round_84 (by decide) ?_
          exact r_lv C [(0, vr (some mo)), (1, vi (nI j)), (2, vi _), (3, vi (nI (c + 1)))] rfl (ih _ _ ⟨hv, hC80, hV80, hE1.uk hF80 (zr8_s _ _ _)⟩)
  refine r_aload_n (pc := 0) C dX10_round_0 rfl ?_
  refine r_aload_n (pc := 1) C dX10_round_1 rfl ?_
  refine r_iload_n (pc := 2) C dX10_round_2 rfl ?_
  refine r_callV (pc := 3) C (cm_isBegun hV hX.e) iX10_isBegun ml_RX10_346 dX10_round_3 (ci := 11) rfl rfl hV.1.1 rfl (by decide) rfl (by simp [cv, Value.category, va_rf]) (by omega) (by omega) (fun r3 S3 h3 => ?_)
  obtain ⟨rfl, e3⟩ := h3
  subst S3
  dsimp only [Option.toList, List.cons_append, List.nil_append]
  rw [hch]
  refine r_if_eq (pc := 6) (tgt := 18) C dX10_round_6 (by decide) (fun c6 => ?_) (fun c6 => ?_)
  · exact absurd c6 (show ¬ bi true = 0 by decide)
  · refine r_aload_n (pc := 9) C dX10_round_9 rfl ?_
    refine r_mA (pc := 10) C hV dX10_round_10 fx_RX10_94 (len := 8) (by decide) ?_
    refine r_iload_n (pc := 13) C dX10_round_13 rfl ?_
    refine r_xLz (pc := 14) C hV dX10_round_14 (k := 36) (len := 8) (by decide) (by decide) (by omega) (by decide) ?_
    rw [hX.f (by decide)]
    refine r_if_eq (pc := 15) (tgt := 22) C dX10_round_15 (by decide) (fun c15 => ?_) (fun c15 => ?_)
    · refine r_iconst (pc := 22) C (nI 0) dX10_round_22 rfl ?_
      refine r_mP (pc := 23) (k := 0) C hV dX10_round_23 fx_RX10_145 (fp_11_0 _) (by decide) (fun S23 hC23 hV23 => ?_)
      have hC23r := hC23
      have hC23 := hC0.trs hC23
      refine r_aload_n (pc := 26) C dX10_round_26 rfl ?_
      refine r_mI (pc := 27) (k := 0) C hV23 dX10_round_27 fx_RX10_145 ?_
      rw [show Gs _ mo 0 = nI 0 from by rw [hC23.gs]; rfl]
      refine r_if_le (pc := 30) (tgt := 35) C dX10_round_30 (by decide) (fun c30 => ?_) (fun c30 => ?_)
      · refine r_iconst (pc := 35) C (-1) dX10_round_35 rfl ?_
        refine r_istore_n (pc := 36) C dX10_round_36 (by decide) rfl ?_
        refine r_iconst (pc := 37) C (nI 0) dX10_round_37 rfl ?_
        refine r_istore_n (pc := 38) C dX10_round_38 (by decide) rfl ?_
        exact r_lv C [(0, vr (some mo)), (1, vi (nI j)), (2, vi (-1)), (3, vi (nI 0))] rfl (L1 0 _ _ (by omega) ⟨rfl, hC23, hV23, by have := hX.e.gc hC23r; intro k hk; rw [this k hk, zr8_0]; by_cases e : k = 38; (subst e; rw [uk_s]); (rw [uk_n e])⟩)
      · exact absurd (by decide) c30
    · exact absurd hd c15
def sttV (F : MM) (j w : Nat) : Int32 := match w with
  | 0 => F 34 j
  | 1 => F 35 j
  | 2 => bi (!decide (F 36 j = 0))
  | 3 => vts (F 38) j 8
  | w + 4 => if w < coN F j then F 39 (8 * j + w) else -1
def sttR (F : MM) (c w : Int32) : Int32 := match chN F c with
  | none => -1
  | some j => if w < 0 then -1 else sttV F j w.toNatClampNeg
theorem cm_state {c w : Int32} (hX : MX S mo M F G X n h) (hC : CH F) : Sp l g mX10_state 0 0 [vr (some mo), vi c, vi w] S (fun r S' => r = some (vi (sttR F c w)) ∧ MX S' mo M F (upd G 0 (nI 0)) X n h ∧ Rf S S' mo) := by
  have hV := hX.V
  have hC0 : Gch S S mo (Gs S mo) := Gc.rf
  rw [hX.gg] at hC0
  generalize hRR : sttR F c w = R
  refine Sp.start (own := RX10) [(0, vr (some mo)), (1, vi c), (2, vi w)] (by decide +kernel) rfl rfl (Nat.le_of_ble_eq_true rfl) ?_
  intro J C
  cases hch : chN F c with
  | none =>
    have e : -1 = R := by rw [← hRR]; simp only [sttR, hch]
    subst e
    refine r_aload_n (pc := 0) C dX10_state_0 rfl ?_
    refine r_iconst (pc := 1) C (nI 0) dX10_state_1 rfl ?_
    refine r_mP (pc := 2) (k := 0) C hV dX10_state_2 fx_RX10_145 (fp_11_0 _) (by decide) (fun S2 hC2 hV2 => ?_)
    have hC2r := hC2
    have hC2 := hC0.trs hC2
    have hE2 := hX.e.gc hC2r
    refine r_aload_n (pc := 5) C dX10_state_5 rfl ?_
    refine r_iload_n (pc := 6) C dX10_state_6 rfl ?_
    refine r_callV (pc := 7) C (cm_isBegun hV2 hE2) iX10_isBegun ml_RX10_346 dX10_state_7 (ci := 11) rfl rfl hV2.1.1 rfl (by decide) rfl (by simp [cv, Value.category, va_rf]) (by omega) (by omega) (fun r7 S7 h7 => ?_)
    obtain ⟨rfl, e7⟩ := h7
    subst S7
    dsimp only [Option.toList, List.cons_append, List.nil_append]
    rw [hch]
    refine r_if_eq (pc := 10) (tgt := 34) C dX10_state_10 (by decide) (fun c10 => ?_) (fun c10 => ?_)
    · refine r_iconst (pc := 34) C (-1) dX10_state_34 rfl ?_
      refine r_iret (pc := 35) C dX10_state_35 rfl (by omega) (by omega) ?_
      exact ⟨rfl, hX.fin0 hC2 hV2⟩
    · exact absurd (show bi (none : Option Nat).isSome = 0 from rfl) c10
  | some j =>
    obtain ⟨rfl, hj, -⟩ := chN_some hch
    obtain ⟨e33, hk8⟩ := (hC j hj).1
    by_cases hw : w < 0
    · have e : -1 = R := by rw [← hRR]; simp only [sttR, hch]; rw [if_pos hw]
      subst e
      refine r_aload_n (pc := 0) C dX10_state_0 rfl ?_
      refine r_iconst (pc := 1) C (nI 0) dX10_state_1 rfl ?_
      refine r_mP (pc := 2) (k := 0) C hV dX10_state_2 fx_RX10_145 (fp_11_0 _) (by decide) (fun S2 hC2 hV2 => ?_)
      have hC2r := hC2
      have hC2 := hC0.trs hC2
      have hE2 := hX.e.gc hC2r
      refine r_aload_n (pc := 5) C dX10_state_5 rfl ?_
      refine r_iload_n (pc := 6) C dX10_state_6 rfl ?_
      refine r_callV (pc := 7) C (cm_isBegun hV2 hE2) iX10_isBegun ml_RX10_346 dX10_state_7 (ci := 11) rfl rfl hV2.1.1 rfl (by decide) rfl (by simp [cv, Value.category, va_rf]) (by omega) (by omega) (fun r7 S7 h7 => ?_)
      obtain ⟨rfl, e7⟩ := h7
      subst S7
      dsimp only [Option.toList, List.cons_append, List.nil_append]
      rw [hch]
      refine r_if_eq (pc := 10) (tgt := 34) C dX10_state_10 (by decide) (fun c10 => ?_) (fun c10 => ?_)
      · exact absurd c10 (show ¬ bi true = 0 by decide)
      · refine r_iload_n (pc := 13) C dX10_state_13 rfl ?_
        refine r_if_lt (pc := 14) (tgt := 34) C dX10_state_14 (by decide) (fun c14 => ?_) (fun c14 => ?_)
        · refine r_iconst (pc := 34) C (-1) dX10_state_34 rfl ?_
          refine r_iret (pc := 35) C dX10_state_35 rfl (by omega) (by omega) ?_
          exact ⟨rfl, hX.fin0 hC2 hV2⟩
        · exact absurd hw c14
    · obtain ⟨m, hm, rfl⟩ := nI_of hw
      have e : sttV F j m = R := by rw [← hRR]; simp only [sttR, hch]; rw [if_neg hw, nI_clamp hm]
      subst e
      have hm5 : m = 0 ∨ m = 1 ∨ m = 2 ∨ m = 3 ∨ ∃ q, m = q + 4 := by
        by_cases q : m < 4
        · omega
        · exact Or.inr (Or.inr (Or.inr (Or.inr ⟨m - 4, by omega⟩)))
      rcases hm5 with rfl | rfl | rfl | rfl | ⟨q, rfl⟩
      · refine r_aload_n (pc := 0) C dX10_state_0 rfl ?_
        refine r_iconst (pc := 1) C (nI 0) dX10_state_1 rfl ?_
        refine r_mP (pc := 2) (k := 0) C hV dX10_state_2 fx_RX10_145 (fp_11_0 _) (by decide) (fun S2 hC2 hV2 => ?_)
        have hC2r := hC2
        have hC2 := hC0.trs hC2
        have hE2 := hX.e.gc hC2r
        refine r_aload_n (pc := 5) C dX10_state_5 rfl ?_
        refine r_iload_n (pc := 6) C dX10_state_6 rfl ?_
        refine r_callV (pc := 7) C (cm_isBegun hV2 hE2) iX10_isBegun ml_RX10_346 dX10_state_7 (ci := 11) rfl rfl hV2.1.1 rfl (by decide) rfl (by simp [cv, Value.category, va_rf]) (by omega) (by omega) (fun r7 S7 h7 => ?_)
        obtain ⟨rfl, e7⟩ := h7
        subst S7
        dsimp only [Option.toList, List.cons_append, List.nil_append]
        rw [hch]
        refine r_if_eq (pc := 10) (tgt := 34) C dX10_state_10 (by decide) (fun c10 => ?_) (fun c10 => ?_)
        · exact absurd c10 (show ¬ bi true = 0 by decide)
        · refine r_iload_n (pc := 13) C dX10_state_13 rfl ?_
          refine r_if_lt (pc := 14) (tgt := 34) C dX10_state_14 (by decide) (fun c14 => ?_) (fun c14 => ?_)
          · exact absurd c14 (by decide)
          · refine r_iload_n (pc := 17) C dX10_state_17 rfl ?_
            refine r_iconst (pc := 18) C (nI 3) dX10_state_18 rfl ?_
            refine r_icmp_le (pc := 19) (tgt := 36) C dX10_state_19 (by decide) (fun c19 => ?_) (fun c19 => ?_)
            · refine r_iload_n (pc := 36) C dX10_state_36 rfl ?_
              refine r_swIn (pc := 37) C dX10_state_37 (tgt := 68) (by decide) (by decide) (off := 31) rfl (by decide) ?_
              refine r_aload_n (pc := 68) C dX10_state_68 rfl ?_
              refine r_mA (pc := 69) C hV2 dX10_state_69 fx_RX10_88 (len := 8) (by decide) ?_
              refine r_iload_n (pc := 72) C dX10_state_72 rfl ?_
              refine r_xL (pc := 73) C hV2 dX10_state_73 (k := 34) (len := 8) (by decide) (by decide) (by omega) (by decide) ?_
              rw [hE2 34 (by decide)]
              refine r_iret (pc := 74) C dX10_state_74 rfl (by omega) (by omega) ?_
              exact ⟨rfl, hX.fin0 hC2 hV2⟩
            · exact absurd (by decide) c19
      · refine r_aload_n (pc := 0) C dX10_state_0 rfl ?_
        refine r_iconst (pc := 1) C (nI 0) dX10_state_1 rfl ?_
        refine r_mP (pc := 2) (k := 0) C hV dX10_state_2 fx_RX10_145 (fp_11_0 _) (by decide) (fun S2 hC2 hV2 => ?_)
        have hC2r := hC2
        have hC2 := hC0.trs hC2
        have hE2 := hX.e.gc hC2r
        refine r_aload_n (pc := 5) C dX10_state_5 rfl ?_
        refine r_iload_n (pc := 6) C dX10_state_6 rfl ?_
        refine r_callV (pc := 7) C (cm_isBegun hV2 hE2) iX10_isBegun ml_RX10_346 dX10_state_7 (ci := 11) rfl rfl hV2.1.1 rfl (by decide) rfl (by simp [cv, Value.category, va_rf]) (by omega) (by omega) (fun r7 S7 h7 => ?_)
        obtain ⟨rfl, e7⟩ := h7
        subst S7
        dsimp only [Option.toList, List.cons_append, List.nil_append]
        rw [hch]
        refine r_if_eq (pc := 10) (tgt := 34) C dX10_state_10 (by decide) (fun c10 => ?_) (fun c10 => ?_)
        · exact absurd c10 (show ¬ bi true = 0 by decide)
        · refine r_iload_n (pc := 13) C dX10_state_13 rfl ?_
          refine r_if_lt (pc := 14) (tgt := 34) C dX10_state_14 (by decide) (fun c14 => ?_) (fun c14 => ?_)
          · exact absurd c14 (by decide)
          · refine r_iload_n (pc := 17) C dX10_state_17 rfl ?_
            refine r_iconst (pc := 18) C (nI 3) dX10_state_18 rfl ?_
            refine r_icmp_le (pc := 19) (tgt := 36) C dX10_state_19 (by decide) (fun c19 => ?_) (fun c19 => ?_)
            · refine r_iload_n (pc := 36) C dX10_state_36 rfl ?_
              refine r_swIn (pc := 37) C dX10_state_37 (tgt := 75) (by decide) (by decide) (off := 38) rfl (by decide) ?_
              refine r_aload_n (pc := 75) C dX10_state_75 rfl ?_
              refine r_mA (pc := 76) C hV2 dX10_state_76 fx_RX10_91 (len := 8) (by decide) ?_
              refine r_iload_n (pc := 79) C dX10_state_79 rfl ?_
              refine r_xL (pc := 80) C hV2 dX10_state_80 (k := 35) (len := 8) (by decide) (by decide) (by omega) (by decide) ?_
              rw [hE2 35 (by decide)]
              refine r_iret (pc := 81) C dX10_state_81 rfl (by omega) (by omega) ?_
              exact ⟨rfl, hX.fin0 hC2 hV2⟩
            · exact absurd (by decide) c19
      · refine r_aload_n (pc := 0) C dX10_state_0 rfl ?_
        refine r_iconst (pc := 1) C (nI 0) dX10_state_1 rfl ?_
        refine r_mP (pc := 2) (k := 0) C hV dX10_state_2 fx_RX10_145 (fp_11_0 _) (by decide) (fun S2 hC2 hV2 => ?_)
        have hC2r := hC2
        have hC2 := hC0.trs hC2
        have hE2 := hX.e.gc hC2r
        refine r_aload_n (pc := 5) C dX10_state_5 rfl ?_
        refine r_iload_n (pc := 6) C dX10_state_6 rfl ?_
        refine r_callV (pc := 7) C (cm_isBegun hV2 hE2) iX10_isBegun ml_RX10_346 dX10_state_7 (ci := 11) rfl rfl hV2.1.1 rfl (by decide) rfl (by simp [cv, Value.category, va_rf]) (by omega) (by omega) (fun r7 S7 h7 => ?_)
        obtain ⟨rfl, e7⟩ := h7
        subst S7
        dsimp only [Option.toList, List.cons_append, List.nil_append]
        rw [hch]
        refine r_if_eq (pc := 10) (tgt := 34) C dX10_state_10 (by decide) (fun c10 => ?_) (fun c10 => ?_)
        · exact absurd c10 (show ¬ bi true = 0 by decide)
        · refine r_iload_n (pc := 13) C dX10_state_13 rfl ?_
          refine r_if_lt (pc := 14) (tgt := 34) C dX10_state_14 (by decide) (fun c14 => ?_) (fun c14 => ?_)
          · exact absurd c14 (by decide)
          · refine r_iload_n (pc := 17) C dX10_state_17 rfl ?_
            refine r_iconst (pc := 18) C (nI 3) dX10_state_18 rfl ?_
            refine r_icmp_le (pc := 19) (tgt := 36) C dX10_state_19 (by decide) (fun c19 => ?_) (fun c19 => ?_)
            · refine r_iload_n (pc := 36) C dX10_state_36 rfl ?_
              refine r_swIn (pc := 37) C dX10_state_37 (tgt := 82) (by decide) (by decide) (off := 45) rfl (by decide) ?_
              refine r_aload_n (pc := 82) C dX10_state_82 rfl ?_
              refine r_mA (pc := 83) C hV2 dX10_state_83 fx_RX10_94 (len := 8) (by decide) ?_
              refine r_iload_n (pc := 86) C dX10_state_86 rfl ?_
              refine r_xLz (pc := 87) C hV2 dX10_state_87 (k := 36) (len := 8) (by decide) (by decide) (by omega) (by decide) ?_
              rw [hE2 36 (by decide)]
              refine r_if_eq (pc := 88) (tgt := 95) C dX10_state_88 (by decide) (fun c88 => ?_) (fun c88 => ?_)
              · have hv : nI 0 = sttV F j 2 := by simp only [sttV, decide_eq_true c88]; rfl
                refine r_iconst (pc := 95) C (nI 0) dX10_state_95 rfl ?_
                refine r_iret (pc := 96) C dX10_state_96 rfl (by omega) (by omega) ?_
                exact ⟨by rw [hv], hX.fin0 hC2 hV2⟩
              · have hv : nI 1 = sttV F j 2 := by simp only [sttV, decide_eq_false c88]; rfl
                refine r_iconst (pc := 91) C (nI 1) dX10_state_91 rfl ?_
                refine r_goto (pc := 92) (tgt := 96) C dX10_state_92 (by decide) ?_
                refine r_iret (pc := 96) C dX10_state_96 rfl (by omega) (by omega) ?_
                exact ⟨by rw [hv], hX.fin0 hC2 hV2⟩
            · exact absurd (by decide) c19
      · refine r_aload_n (pc := 0) C dX10_state_0 rfl ?_
        refine r_iconst (pc := 1) C (nI 0) dX10_state_1 rfl ?_
        refine r_mP (pc := 2) (k := 0) C hV dX10_state_2 fx_RX10_145 (fp_11_0 _) (by decide) (fun S2 hC2 hV2 => ?_)
        have hC2r := hC2
        have hC2 := hC0.trs hC2
        have hE2 := hX.e.gc hC2r
        refine r_aload_n (pc := 5) C dX10_state_5 rfl ?_
        refine r_iload_n (pc := 6) C dX10_state_6 rfl ?_
        refine r_callV (pc := 7) C (cm_isBegun hV2 hE2) iX10_isBegun ml_RX10_346 dX10_state_7 (ci := 11) rfl rfl hV2.1.1 rfl (by decide) rfl (by simp [cv, Value.category, va_rf]) (by omega) (by omega) (fun r7 S7 h7 => ?_)
        obtain ⟨rfl, e7⟩ := h7
        subst S7
        dsimp only [Option.toList, List.cons_append, List.nil_append]
        rw [hch]
        refine r_if_eq (pc := 10) (tgt := 34) C dX10_state_10 (by decide) (fun c10 => ?_) (fun c10 => ?_)
        · exact absurd c10 (show ¬ bi true = 0 by decide)
        · refine r_iload_n (pc := 13) C dX10_state_13 rfl ?_
          refine r_if_lt (pc := 14) (tgt := 34) C dX10_state_14 (by decide) (fun c14 => ?_) (fun c14 => ?_)
          · exact absurd c14 (by decide)
          · refine r_iload_n (pc := 17) C dX10_state_17 rfl ?_
            refine r_iconst (pc := 18) C (nI 3) dX10_state_18 rfl ?_
            refine r_icmp_le (pc := 19) (tgt := 36) C dX10_state_19 (by decide) (fun c19 => ?_) (fun c19 => ?_)
            · refine r_iload_n (pc := 36) C dX10_state_36 rfl ?_
              refine r_swIn (pc := 37) C dX10_state_37 (tgt := 97) (by decide) (by decide) (off := 60) rfl (by decide) ?_
              refine r_aload_n (pc := 97) C dX10_state_97 rfl ?_
              refine r_iload_n (pc := 98) C dX10_state_98 rfl ?_
              refine r_callV (pc := 99) C (cm_votesOf hV2 hE2 hj) iX10_votesOf ml_RX10_352 dX10_state_99 (ci := 11) rfl rfl hV2.1.1 rfl (by decide) rfl (by simp [cv, Value.category, va_rf]) (by omega) (by omega) (fun r99 S99 h99 => ?_)
              obtain ⟨rfl, e99⟩ := h99
              subst S99
              dsimp only [Option.toList, List.cons_append, List.nil_append]
              refine r_iret (pc := 102) C dX10_state_102 rfl (by omega) (by omega) ?_
              exact ⟨rfl, hX.fin0 hC2 hV2⟩
            · exact absurd (by decide) c19
      · by_cases hq : q < coN F j
        · refine r_aload_n (pc := 0) C dX10_state_0 rfl ?_
          refine r_iconst (pc := 1) C (nI 0) dX10_state_1 rfl ?_
          refine r_mP (pc := 2) (k := 0) C hV dX10_state_2 fx_RX10_145 (fp_11_0 _) (by decide) (fun S2 hC2 hV2 => ?_)
          have hC2r := hC2
          have hC2 := hC0.trs hC2
          have hE2 := hX.e.gc hC2r
          refine r_aload_n (pc := 5) C dX10_state_5 rfl ?_
          refine r_iload_n (pc := 6) C dX10_state_6 rfl ?_
          refine r_callV (pc := 7) C (cm_isBegun hV2 hE2) iX10_isBegun ml_RX10_346 dX10_state_7 (ci := 11) rfl rfl hV2.1.1 rfl (by decide) rfl (by simp [cv, Value.category, va_rf]) (by omega) (by omega) (fun r7 S7 h7 => ?_)
          obtain ⟨rfl, e7⟩ := h7
          subst S7
          dsimp only [Option.toList, List.cons_append, List.nil_append]
          rw [hch]
          refine r_if_eq (pc := 10) (tgt := 34) C dX10_state_10 (by decide) (fun c10 => ?_) (fun c10 => ?_)
          · exact absurd c10 (show ¬ bi true = 0 by decide)
          · refine r_iload_n (pc := 13) C dX10_state_13 rfl ?_
            refine r_if_lt (pc := 14) (tgt := 34) C dX10_state_14 (by decide) (fun c14 => ?_) (fun c14 => ?_)
            · exact absurd c14 hw
            · refine r_iload_n (pc := 17) C dX10_state_17 rfl ?_
              refine r_iconst (pc := 18) C (nI 3) dX10_state_18 rfl ?_
              refine r_icmp_le (pc := 19) (tgt := 36) C dX10_state_19 (by decide) (fun c19 => ?_) (fun c19 => ?_)
              · refine r_iload_n (pc := 36) C dX10_state_36 rfl ?_
                refine r_swOut (pc := 37) C dX10_state_37 (tgt := 103) (sw_out (k := 3) (by omega) (Or.inr (nI_le (by omega) hm))) (by decide) ?_
                refine r_aload_n (pc := 103) C dX10_state_103 rfl ?_
                refine r_mA (pc := 104) C hV2 dX10_state_104 fx_RX10_103 (len := 64) (by decide) ?_
                refine r_bipush (pc := 107) C (nI 8) dX10_state_107 rfl ?_
                refine r_iload_n (pc := 109) C dX10_state_109 rfl ?_
                refine r_imul (pc := 110) C dX10_state_110 ?_
                try simp only [nI_add, pk_mul]
                refine r_iload_n (pc := 111) C dX10_state_111 rfl ?_
                refine r_iadd (pc := 112) C dX10_state_112 ?_
                try simp only [nI_add, pk_mul]
                refine r_iconst (pc := 113) C (nI 4) dX10_state_113 rfl ?_
                refine r_isub (pc := 114) C dX10_state_114 ?_
                rw [pk_sub (by omega), show 8 * j + (q + 4) - 4 = 8 * j + q by omega]
                refine r_xL (pc := 115) C hV2 dX10_state_115 (k := 39) (len := 64) (by decide) (by decide) (by omega) (by decide) ?_
                rw [hE2 39 (by decide)]
                refine r_iret (pc := 116) C dX10_state_116 rfl (by omega) (by omega) ?_
                exact ⟨by simp only [sttV]; rw [if_pos hq], hX.fin0 hC2 hV2⟩
              · refine r_iload_n (pc := 22) C dX10_state_22 rfl ?_
                refine r_iconst (pc := 23) C (nI 4) dX10_state_23 rfl ?_
                refine r_isub (pc := 24) C dX10_state_24 ?_
                rw [pk_sub (by omega), show q + 4 - 4 = q by omega]
                refine r_aload_n (pc := 25) C dX10_state_25 rfl ?_
                refine r_mA (pc := 26) C hV2 dX10_state_26 fx_RX10_85 (len := 8) (by decide) ?_
                refine r_iload_n (pc := 29) C dX10_state_29 rfl ?_
                refine r_xL (pc := 30) C hV2 dX10_state_30 (k := 33) (len := 8) (by decide) (by decide) (by omega) (by decide) ?_
                rw [hE2 33 (by decide), e33]
                refine r_icmp_lt (pc := 31) (tgt := 36) C dX10_state_31 (by decide) (fun c31 => ?_) (fun c31 => ?_)
                · refine r_iload_n (pc := 36) C dX10_state_36 rfl ?_
                  refine r_swOut (pc := 37) C dX10_state_37 (tgt := 103) (sw_out (k := 3) (by omega) (Or.inr (nI_le (by omega) hm))) (by decide) ?_
                  refine r_aload_n (pc := 103) C dX10_state_103 rfl ?_
                  refine r_mA (pc := 104) C hV2 dX10_state_104 fx_RX10_103 (len := 64) (by decide) ?_
                  refine r_bipush (pc := 107) C (nI 8) dX10_state_107 rfl ?_
                  refine r_iload_n (pc := 109) C dX10_state_109 rfl ?_
                  refine r_imul (pc := 110) C dX10_state_110 ?_
                  try simp only [nI_add, pk_mul]
                  refine r_iload_n (pc := 111) C dX10_state_111 rfl ?_
                  refine r_iadd (pc := 112) C dX10_state_112 ?_
                  try simp only [nI_add, pk_mul]
                  refine r_iconst (pc := 113) C (nI 4) dX10_state_113 rfl ?_
                  refine r_isub (pc := 114) C dX10_state_114 ?_
                  rw [pk_sub (by omega), show 8 * j + (q + 4) - 4 = 8 * j + q by omega]
                  refine r_xL (pc := 115) C hV2 dX10_state_115 (k := 39) (len := 64) (by decide) (by decide) (by omega) (by decide) ?_
                  rw [hE2 39 (by decide)]
                  refine r_iret (pc := 116) C dX10_state_116 rfl (by omega) (by omega) ?_
                  exact ⟨by simp only [sttV]; rw [if_pos hq], hX.fin0 hC2 hV2⟩
                · exact absurd (nI_lt hq (by omega)) c31
        · refine r_aload_n (pc := 0) C dX10_state_0 rfl ?_
          refine r_iconst (pc := 1) C (nI 0) dX10_state_1 rfl ?_
          refine r_mP (pc := 2) (k := 0) C hV dX10_state_2 fx_RX10_145 (fp_11_0 _) (by decide) (fun S2 hC2 hV2 => ?_)
          have hC2r := hC2
          have hC2 := hC0.trs hC2
          have hE2 := hX.e.gc hC2r
          refine r_aload_n (pc := 5) C dX10_state_5 rfl ?_
          refine r_iload_n (pc := 6) C dX10_state_6 rfl ?_
          refine r_callV (pc := 7) C (cm_isBegun hV2 hE2) iX10_isBegun ml_RX10_346 dX10_state_7 (ci := 11) rfl rfl hV2.1.1 rfl (by decide) rfl (by simp [cv, Value.category, va_rf]) (by omega) (by omega) (fun r7 S7 h7 => ?_)
          obtain ⟨rfl, e7⟩ := h7
          subst S7
          dsimp only [Option.toList, List.cons_append, List.nil_append]
          rw [hch]
          refine r_if_eq (pc := 10) (tgt := 34) C dX10_state_10 (by decide) (fun c10 => ?_) (fun c10 => ?_)
          · exact absurd c10 (show ¬ bi true = 0 by decide)
          · refine r_iload_n (pc := 13) C dX10_state_13 rfl ?_
            refine r_if_lt (pc := 14) (tgt := 34) C dX10_state_14 (by decide) (fun c14 => ?_) (fun c14 => ?_)
            · exact absurd c14 hw
            · refine r_iload_n (pc := 17) C dX10_state_17 rfl ?_
              refine r_iconst (pc := 18) C (nI 3) dX10_state_18 rfl ?_
              refine r_icmp_le (pc := 19) (tgt := 36) C dX10_state_19 (by decide) (fun c19 => ?_) (fun c19 => ?_)
              · exact absurd c19 (nI_ge (by omega) hm)
              · refine r_iload_n (pc := 22) C dX10_state_22 rfl ?_
                refine r_iconst (pc := 23) C (nI 4) dX10_state_23 rfl ?_
                refine r_isub (pc := 24) C dX10_state_24 ?_
                rw [pk_sub (by omega), show q + 4 - 4 = q by omega]
                refine r_aload_n (pc := 25) C dX10_state_25 rfl ?_
                refine r_mA (pc := 26) C hV2 dX10_state_26 fx_RX10_85 (len := 8) (by decide) ?_
                refine r_iload_n (pc := 29) C dX10_state_29 rfl ?_
                refine r_xL (pc := 30) C hV2 dX10_state_30 (k := 33) (len := 8) (by decide) (by decide) (by omega) (by decide) ?_
                rw [hE2 33 (by decide), e33]
                refine r_icmp_lt (pc := 31) (tgt := 36) C dX10_state_31 (by decide) (fun c31 => ?_) (fun c31 => ?_)
                · exact absurd c31 (nI_nlt (by omega) (by omega))
                · refine r_iconst (pc := 34) C (-1) dX10_state_34 rfl ?_
                  refine r_iret (pc := 35) C dX10_state_35 rfl (by omega) (by omega) ?_
                  exact ⟨by simp only [sttV]; rw [if_neg hq], hX.fin0 hC2 hV2⟩
end Round
