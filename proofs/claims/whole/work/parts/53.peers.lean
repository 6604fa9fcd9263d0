/-! The class: peers, tape -/
def PE (S : hS) (po wa : Nat) : Prop := sK S po = 6 ∧ sR S 500 po = some wa ∧ sK S wa = 30 ∧ sN S wa = 20
/-- the peers that a sample names -/
def inA (f : Nat → Int32) (j p : Nat) : Bool := anyU (fun i => decide (f i = nI p)) j
section Peers
variable {l : Launch} {g : GG} {S : hS} {po wa : Nat}
theorem cl_weigh {p w : Int32} (hP : PE S po wa) : Sp l g mX4_changeWeight 0 0 [vr (some po), vi p, vi w] S (fun r S' => ∃ q : Bool, (q = true ↔ ((¬ p < 0 ∧ ¬ nI 20 ≤ p) ∧ ¬ w < 0 ∧ ¬ nI 1000 < w)) ∧ r = some (vi (bi q)) ∧ S' = if q then putI S 30 wa (upd (aI S 30 wa) p.toNatClampNeg w) else S) := by
  obtain ⟨hk, hw, kw, nw⟩ := hP
  refine Sp.start (own := RX4) [(0, vr (some po)), (1, vi p), (2, vi w)] (by decide +kernel) rfl rfl (Nat.le_of_ble_eq_true rfl) ?_
  intro J C
  rcases pk_ix p (n := 20) (by omega) with h0 | h0 | ⟨i, hi, rfl⟩
  · refine r_iload_n (pc := 0) C dX4_changeWeight_0 rfl ?_
    refine r_if_lt (pc := 1) (tgt := 21) C dX4_changeWeight_1 (by decide) (fun c1 => ?_) (fun c1 => ?_)
    · refine r_iconst (pc := 21) C (nI 0) dX4_changeWeight_21 rfl ?_
      refine r_zret (pc := 22) C dX4_changeWeight_22 rfl (by first | exact Or.inl rfl | exact Or.inr rfl | assumption) (by omega) (by omega) ?_
      exact ⟨false, ⟨fun q => (by cases q), fun q => absurd h0 q.1.1⟩, rfl, rfl⟩
    · exact absurd h0 c1
  · refine r_iload_n (pc := 0) C dX4_changeWeight_0 rfl ?_
    refine r_if_lt (pc := 1) (tgt := 21) C dX4_changeWeight_1 (by decide) (fun c1 => ?_) (fun c1 => ?_)
    · refine r_iconst (pc := 21) C (nI 0) dX4_changeWeight_21 rfl ?_
      refine r_zret (pc := 22) C dX4_changeWeight_22 rfl (by first | exact Or.inl rfl | exact Or.inr rfl | assumption) (by omega) (by omega) ?_
      exact ⟨false, ⟨fun q => (by cases q), fun q => absurd h0 q.1.2⟩, rfl, rfl⟩
    · refine r_iload_n (pc := 4) C dX4_changeWeight_4 rfl ?_
      refine r_bipush (pc := 5) C (nI 20) dX4_changeWeight_5 rfl ?_
      refine r_icmp_ge (pc := 7) (tgt := 21) C dX4_changeWeight_7 (by decide) (fun c7 => ?_) (fun c7 => ?_)
      · refine r_iconst (pc := 21) C (nI 0) dX4_changeWeight_21 rfl ?_
        refine r_zret (pc := 22) C dX4_changeWeight_22 rfl (by first | exact Or.inl rfl | exact Or.inr rfl | assumption) (by omega) (by omega) ?_
        exact ⟨false, ⟨fun q => (by cases q), fun q => absurd h0 q.1.2⟩, rfl, rfl⟩
      · exact absurd h0 c7
  · by_cases hw2 : ¬ w < 0 ∧ ¬ nI 1000 < w
    · refine r_iload_n (pc := 0) C dX4_changeWeight_0 rfl ?_
      refine r_if_lt (pc := 1) (tgt := 21) C dX4_changeWeight_1 (by decide) (fun c1 => ?_) (fun c1 => ?_)
      · exact absurd c1 (nI_pos (by omega))
      · refine r_iload_n (pc := 4) C dX4_changeWeight_4 rfl ?_
        refine r_bipush (pc := 5) C (nI 20) dX4_changeWeight_5 rfl ?_
        refine r_icmp_ge (pc := 7) (tgt := 21) C dX4_changeWeight_7 (by decide) (fun c7 => ?_) (fun c7 => ?_)
        · exact absurd c7 (nI_ge hi (by omega))
        · refine r_iload_n (pc := 10) C dX4_changeWeight_10 rfl ?_
          refine r_if_lt (pc := 11) (tgt := 21) C dX4_changeWeight_11 (by decide) (fun c11 => ?_) (fun c11 => ?_)
          · exact absurd c11 hw2.1
          · refine r_iload_n (pc := 14) C dX4_changeWeight_14 rfl ?_
            refine r_sipush (pc := 15) C (nI 1000) dX4_changeWeight_15 rfl ?_
            refine r_icmp_le (pc := 18) (tgt := 23) C dX4_changeWeight_18 (by decide) (fun c18 => ?_) (fun c18 => ?_)
            · refine r_aload_n (pc := 23) C dX4_changeWeight_23 rfl ?_
              refine r_getR (pc := 24) C dX4_changeWeight_24 fx_RX4_15 (by assumption) (by first | assumption | rfl) ?_
              refine r_iload_n (pc := 27) C dX4_changeWeight_27 rfl ?_
              refine r_iload_n (pc := 28) C dX4_changeWeight_28 rfl ?_
              refine r_iast (pc := 29) C dX4_changeWeight_29 (by assumption) (by decide) (by assumption) (by first | assumption | exact vp_in_nI (by omega) (by omega)) (by first | exact nI_clamp (by omega) | rfl) ?_
              refine r_iconst (pc := 30) C (nI 1) dX4_changeWeight_30 rfl ?_
              refine r_zret (pc := 31) C dX4_changeWeight_31 rfl (by first | exact Or.inl rfl | exact Or.inr rfl | assumption) (by omega) (by omega) ?_
              exact ⟨true, ⟨fun _ => ⟨⟨nI_pos (by omega), nI_ge hi (by omega)⟩, hw2⟩, fun _ => rfl⟩, rfl, by rw [nI_clamp (by omega)]; rfl⟩
            · exact absurd (Int32.not_lt.mp hw2.2) c18
    · refine r_iload_n (pc := 0) C dX4_changeWeight_0 rfl ?_
      refine r_if_lt (pc := 1) (tgt := 21) C dX4_changeWeight_1 (by decide) (fun c1 => ?_) (fun c1 => ?_)
      · exact absurd c1 (nI_pos (by omega))
      · refine r_iload_n (pc := 4) C dX4_changeWeight_4 rfl ?_
        refine r_bipush (pc := 5) C (nI 20) dX4_changeWeight_5 rfl ?_
        refine r_icmp_ge (pc := 7) (tgt := 21) C dX4_changeWeight_7 (by decide) (fun c7 => ?_) (fun c7 => ?_)
        · exact absurd c7 (nI_ge hi (by omega))
        · refine r_iload_n (pc := 10) C dX4_changeWeight_10 rfl ?_
          refine r_if_lt (pc := 11) (tgt := 21) C dX4_changeWeight_11 (by decide) (fun c11 => ?_) (fun c11 => ?_)
          · refine r_iconst (pc := 21) C (nI 0) dX4_changeWeight_21 rfl ?_
            refine r_zret (pc := 22) C dX4_changeWeight_22 rfl (by first | exact Or.inl rfl | exact Or.inr rfl | assumption) (by omega) (by omega) ?_
            exact ⟨false, ⟨fun q => (by cases q), fun q => absurd q.2 hw2⟩, rfl, rfl⟩
          · refine r_iload_n (pc := 14) C dX4_changeWeight_14 rfl ?_
            refine r_sipush (pc := 15) C (nI 1000) dX4_changeWeight_15 rfl ?_
            refine r_icmp_le (pc := 18) (tgt := 23) C dX4_changeWeight_18 (by decide) (fun c18 => ?_) (fun c18 => ?_)
            · exact absurd ⟨c11, Int32.not_lt.mpr c18⟩ hw2
            · refine r_iconst (pc := 21) C (nI 0) dX4_changeWeight_21 rfl ?_
              refine r_zret (pc := 22) C dX4_changeWeight_22 rfl (by first | exact Or.inl rfl | exact Or.inr rfl | assumption) (by omega) (by omega) ?_
              exact ⟨false, ⟨fun q => (by cases q), fun q => absurd q.2 hw2⟩, rfl, rfl⟩
theorem cl_heavy (hP : PE S po wa) : Sp l g mX4_countWithWeight 0 0 [vr (some po)] S (fun r S' => r = some (vi (nI (hvy (aI S 30 wa)))) ∧ S' = S) := by
  obtain ⟨hk, hw, kw, nw⟩ := hP
  refine Sp.start (own := RX4) [(0, vr (some po))] (by decide +kernel) rfl rfl (Nat.le_of_ble_eq_true rfl) ?_
  intro J C
  have L : ∀ i x, i ≤ 20 → x = nI (cntU (fun p => dlt (nI 0) (aI S 30 wa p)) i) → J 4 [(0, vr (some po)), (1, vi x), (2, vi (nI i))] [] S 0 0 := by
    refine up_loop _ _ _ ?_ ?_
    · intro x hx
      refine r_iload_n (pc := 4) C dX4_countWithWeight_4 rfl ?_
      refine r_bipush (pc := 5) C (nI 20) dX4_countWithWeight_5 rfl ?_
      refine r_icmp_ge (pc := 7) (tgt := 28) C dX4_countWithWeight_7 (by decide) (fun c7 => ?_) (fun c7 => ?_)
      · refine r_iload_n (pc := 28) C dX4_countWithWeight_28 rfl ?_
        refine r_iret (pc := 29) C dX4_countWithWeight_29 rfl (by omega) (by omega) ?_
        exact ⟨by rw [hx]; rfl, rfl⟩
      · exact absurd (Int32.le_refl _) c7
    · intro i x hi hx ih
      subst hx
      refine r_iload_n (pc := 4) C dX4_countWithWeight_4 rfl ?_
      refine r_bipush (pc := 5) C (nI 20) dX4_countWithWeight_5 rfl ?_
      refine r_icmp_ge (pc := 7) (tgt := 28) C dX4_countWithWeight_7 (by decide) (fun c7 => ?_) (fun c7 => ?_)
      · exact absurd c7 (nI_ge hi (by omega))
      · refine r_aload_n (pc := 10) C dX4_countWithWeight_10 rfl ?_
        refine r_getR (pc := 11) C dX4_countWithWeight_11 fx_RX4_15 (by assumption) (by first | assumption | rfl) ?_
        refine r_iload_n (pc := 14) C dX4_countWithWeight_14 rfl ?_
        refine r_iald (pc := 15) C dX4_countWithWeight_15 (by assumption) (by decide) (by assumption) (by first | assumption | exact vp_in_nI (by omega) (by omega)) (by first | exact nI_clamp (by omega) | rfl) ?_
        refine r_if_le (pc := 16) (tgt := 22) C dX4_countWithWeight_16 (by decide) (fun c16 => ?_) (fun c16 => ?_)
        · have e : nI (cntU (fun p => dlt (nI 0) (aI S 30 wa p)) i) = nI (cntU (fun p => dlt (nI 0) (aI S 30 wa p)) (i + 1)) := by rw [cntU_f (dlt_f c16)]; rfl
          refine r_iinc (pc := 22) C _ dX4_countWithWeight_22 rfl (nI_1 _) (by decide) rfl ?_
          refine r_goto (pc := 25) (tgt := 4) C dX4_countWithWeight_25 (by decide) ?_
          exact r_lv C [(0, vr (some po)), (1, vi _), (2, vi (nI (i + 1)))] rfl (ih _ e)
        · have e : nI (cntU (fun p => dlt (nI 0) (aI S 30 wa p)) i + 1) = nI (cntU (fun p => dlt (nI 0) (aI S 30 wa p)) (i + 1)) := by rw [cntU_t (dlt_t (Int32.not_le.mp c16))]
          refine r_iinc (pc := 19) C _ dX4_countWithWeight_19 rfl (nI_1 _) (by decide) rfl ?_
          refine r_iinc (pc := 22) C _ dX4_countWithWeight_22 rfl (nI_1 _) (by decide) rfl ?_
          refine r_goto (pc := 25) (tgt := 4) C dX4_countWithWeight_25 (by decide) ?_
          exact r_lv C [(0, vr (some po)), (1, vi _), (2, vi (nI (i + 1)))] rfl (ih _ e)
  refine r_iconst (pc := 0) C (nI 0) dX4_countWithWeight_0 rfl ?_
  refine r_istore_n (pc := 1) C dX4_countWithWeight_1 (by decide) rfl ?_
  refine r_iconst (pc := 2) C (nI 0) dX4_countWithWeight_2 rfl ?_
  refine r_istore_n (pc := 3) C dX4_countWithWeight_3 (by decide) rfl ?_
  exact r_lv C [(0, vr (some po)), (1, vi (nI 0)), (2, vi (nI 0))] rfl (L 0 _ (by omega) rfl)
theorem cl_wleft {p j sa : Nat} (hP : PE S po wa) (hp : p < 20) (hs : sK S sa = 39) (hj : j ≤ sN S sa) (hj2 : sN S sa < 2 ^ 31) : Sp l g mX4_weightLeft 0 0 [vr (some po), vi (nI p), vr (some sa), vi (nI j)] S (fun r S' => r = some (vi (if inA (aI S 39 sa) j p then nI 0 else aI S 30 wa p)) ∧ S' = S) := by
  obtain ⟨hk, hw, kw, nw⟩ := hP
  refine Sp.start (own := RX4) [(0, vr (some po)), (1, vi (nI p)), (2, vr (some sa)), (3, vi (nI j))] (by decide +kernel) rfl rfl (Nat.le_of_ble_eq_true rfl) ?_
  intro J C
  have L : ∀ i (u : Unit), i ≤ j → inA (aI S 39 sa) i p = false → J 3 [(0, vr (some po)), (1, vi (nI p)), (2, vr (some sa)), (3, vi (nI j)), (4, vi (nI i))] [] S 0 0 := by
    refine up_loop _ _ _ ?_ ?_
    · intro u hx
      refine r_iload (pc := 3) C dX4_weightLeft_3 rfl ?_
      refine r_iload_n (pc := 5) C dX4_weightLeft_5 rfl ?_
      refine r_icmp_ge (pc := 6) (tgt := 25) C dX4_weightLeft_6 (by decide) (fun c6 => ?_) (fun c6 => ?_)
      · refine r_aload_n (pc := 25) C dX4_weightLeft_25 rfl ?_
        refine r_getR (pc := 26) C dX4_weightLeft_26 fx_RX4_15 (by assumption) (by first | assumption | rfl) ?_
        refine r_iload_n (pc := 29) C dX4_weightLeft_29 rfl ?_
        refine r_iald (pc := 30) C dX4_weightLeft_30 (by assumption) (by decide) (by assumption) (by first | assumption | exact vp_in_nI (by omega) (by omega)) (by first | exact nI_clamp (by omega) | rfl) ?_
        refine r_iret (pc := 31) C dX4_weightLeft_31 rfl (by omega) (by omega) ?_
        exact ⟨by rw [hx]; rfl, rfl⟩
      · exact absurd (Int32.le_refl _) c6
    · intro i u hi hx ih
      refine r_iload (pc := 3) C dX4_weightLeft_3 rfl ?_
      refine r_iload_n (pc := 5) C dX4_weightLeft_5 rfl ?_
      refine r_icmp_ge (pc := 6) (tgt := 25) C dX4_weightLeft_6 (by decide) (fun c6 => ?_) (fun c6 => ?_)
      · exact absurd c6 (nI_ge hi (by omega))
      · refine r_aload_n (pc := 9) C dX4_weightLeft_9 rfl ?_
        refine r_iload (pc := 10) C dX4_weightLeft_10 rfl ?_
        refine r_iald (pc := 12) C dX4_weightLeft_12 (by assumption) (by decide) rfl (by first | assumption | exact vp_in_nI (by omega) (by omega)) (by first | exact nI_clamp (by omega) | rfl) ?_
        refine r_iload_n (pc := 13) C dX4_weightLeft_13 rfl ?_
        refine r_icmp_ne (pc := 14) (tgt := 19) C dX4_weightLeft_14 (by decide) (fun c14 => ?_) (fun c14 => ?_)
        · refine r_iinc (pc := 19) C _ dX4_weightLeft_19 rfl (nI_1 _) (by decide) rfl ?_
          refine r_goto (pc := 22) (tgt := 3) C dX4_weightLeft_22 (by decide) ?_
          exact r_lv C [(0, vr (some po)), (1, vi (nI p)), (2, vr (some sa)), (3, vi (nI j)), (4, vi (nI (i + 1)))] rfl (ih u (by unfold inA at hx ⊢; simp only [anyU]; rw [hx, decide_eq_false c14]; rfl))
        · have e : inA (aI S 39 sa) j p = true := anyU_iff.mpr ⟨i, hi, decide_eq_true c14⟩
          refine r_iconst (pc := 17) C (nI 0) dX4_weightLeft_17 rfl ?_
          refine r_iret (pc := 18) C dX4_weightLeft_18 rfl (by omega) (by omega) ?_
          exact ⟨by rw [e]; rfl, rfl⟩
  refine r_iconst (pc := 0) C (nI 0) dX4_weightLeft_0 rfl ?_
  refine r_istore (pc := 1) C dX4_weightLeft_1 (by decide) rfl ?_
  exact r_lv C [(0, vr (some po)), (1, vi (nI p)), (2, vr (some sa)), (3, vi (nI j)), (4, vi (nI 0))] rfl (L 0 () (by omega) rfl)
/-- the first whose sum passes the rest is not drawn yet -/
theorem dF_fst {wt : Nat → Nat} {D : Nat → Bool} {x : Int64} {p : Nat} (h1 : u33 x % dsum wt D 20 < dsum wt D (p + 1)) (h2 : dsum wt D p ≤ u33 x % dsum wt D 20) (hp : p < 20) (hpos : 0 < dsum wt D 20) : dP wt D x = p := by
  have hDp : D p = false := by
    cases hD : D p with
    | false => rfl
    | true =>
      have e : dsum wt D (p + 1) = dsum wt D p := by show dsum wt D p + (if D p then 0 else wt p) = _; rw [hD]; rfl
      omega
  have hf : dF wt D x p = true := by
    unfold dF
    rw [hDp, decide_eq_true h1]
    rfl
  obtain ⟨q1, q2, q3⟩ := fstU_some (dF_some (x := x) hpos)
  unfold dF at q2
  simp only [Bool.and_eq_true, Bool.not_eq_true', decide_eq_true_eq] at q2
  rcases Nat.lt_trichotomy (dP wt D x) p with h | h | h
  · exfalso
    have := dsum_mono (wt := wt) (D := D) (show dP wt D x + 1 ≤ p by omega)
    omega
  · exact h
  · have := q3 p h
    rw [hf] at this
    cases this
theorem cl_drawOne {j sa : Nat} {wt : Nat → Nat} {D : Nat → Bool} (hP : PE S po wa) (hs : sK S sa = 39) (hj : j ≤ sN S sa) (hj2 : sN S sa < 2 ^ 31) (hw : ∀ p, p < 20 → aI S 30 wa p = nI (wt p)) (hw2 : ∀ p, wt p ≤ 1000) (hD : ∀ p, p < 20 → inA (aI S 39 sa) j p = D p) (hpos : 0 < dsum wt D 20) : Sp l g mX4_drawOne 0 0 [vr (some po), vr (some sa), vi (nI j)] S (fun r S' => r = some (vi (nI (dP wt D (lcg (sJ S 501 po))))) ∧ S' = setJ S 501 po (lcg (sJ S 501 po))) := by
  have hP1 : PE (setJ S 501 po (lcg (sJ S 501 po))) po wa := hP
  have hk := hP.1
  generalize hS1 : setJ S 501 po (lcg (sJ S 501 po)) = S1 at hP1 ⊢
  generalize hx1 : lcg (sJ S 501 po) = x1
  have h30 : aI S1 30 wa = aI S 30 wa := by rw [← hS1]; rfl
  have h39 : aI S1 39 sa = aI S 39 sa := by rw [← hS1]; rfl
  have hs1 : sK S1 sa = 39 := by rw [← hS1]; exact hs
  have hn1 : sN S1 sa = sN S sa := by rw [← hS1]; rfl
  have hj1 : sJ S1 501 po = x1 := by rw [← hS1, sJ_s, hx1]
  have hk1 := hP1.1
  have wl : ∀ p, p < 20 → Sp l g mX4_weightLeft 0 0 [vr (some po), vi (nI p), vr (some sa), vi (nI j)] S1 (fun r S' => r = some (vi (nI (if D p then 0 else wt p))) ∧ S' = S1) := fun p hp => (cl_wleft hP1 hp hs1 (by rw [hn1]; exact hj) (by rw [hn1]; exact hj2)).mono (fun r S' q => by
    obtain ⟨q1, q2⟩ := q
    refine ⟨?_, q2⟩
    rw [q1, h39, h30, hD p hp, hw p hp]
    cases D p <;> rfl)
  have hu := u33_lt x1
  have hr : u33 x1 % dsum wt D 20 < dsum wt D 20 := Nat.mod_lt _ hpos
  have hd20 := dsum_le (D := D) hw2 20
  refine Sp.start (own := RX4) [(0, vr (some po)), (1, vr (some sa)), (2, vi (nI j))] (by decide +kernel) rfl rfl (Nat.le_of_ble_eq_true rfl) ?_
  intro J C
  have L2 : ∀ i x, i ≤ 20 → (x = nI (dsum wt D i) ∧ dsum wt D i ≤ u33 x1 % dsum wt D 20) → J 70 [(0, vr (some po)), (1, vr (some sa)), (2, vi (nI j)), (4, vi (nI (u33 x1 % dsum wt D 20))), (5, vi x), (6, vi (nI i))] [] S1 0 0 := by
    refine up_loop _ _ _ ?_ ?_
    · intro x hx
      exact absurd hx.2 (by omega)
    · intro i x hi hx ih
      obtain ⟨rfl, hle⟩ := hx
      have hdi := dsum_le (D := D) hw2 (i + 1)
      refine r_iload (pc := 70) C dX4_drawOne_70 rfl ?_
      refine r_bipush (pc := 72) C (nI 20) dX4_drawOne_72 rfl ?_
      refine r_icmp_ge (pc := 74) (tgt := 106) C dX4_drawOne_74 (by decide) (fun c74 => ?_) (fun c74 => ?_)
      · exact absurd c74 (nI_ge hi (by omega))
      · refine r_iload (pc := 77) C dX4_drawOne_77 rfl ?_
        refine r_aload_n (pc := 79) C dX4_drawOne_79 rfl ?_
        refine r_iload (pc := 80) C dX4_drawOne_80 rfl ?_
        refine r_aload_n (pc := 82) C dX4_drawOne_82 rfl ?_
        refine r_iload_n (pc := 83) C dX4_drawOne_83 rfl ?_
        refine r_callV (pc := 84) C (wl i hi) iX4_weightLeft ml_RX4_33 dX4_drawOne_84 (ci := 5) rfl rfl (by assumption) rfl (by decide) rfl (by simp [cv, Value.category, va_rf]) (by omega) (by omega) (fun r84 S84 h84 => ?_)
        obtain ⟨rfl, e84⟩ := h84
        subst S84
        dsimp only [Option.toList, List.cons_append, List.nil_append]
        refine r_iadd (pc := 87) C dX4_drawOne_87 ?_
        rw [nI_add, show dsum wt D i + (if D i = true then 0 else wt i) = dsum wt D (i + 1) from rfl]
        refine r_istore (pc := 88) C dX4_drawOne_88 (by decide) rfl ?_
        refine r_iload (pc := 90) C dX4_drawOne_90 rfl ?_
        refine r_iload (pc := 92) C dX4_drawOne_92 rfl ?_
        refine r_icmp_le (pc := 94) (tgt := 100) C dX4_drawOne_94 (by decide) (fun c94 => ?_) (fun c94 => ?_)
        · rw [nI_leI (by omega) (by omega)] at c94
          refine r_iinc (pc := 100) C _ dX4_drawOne_100 rfl (nI_1 _) (by decide) rfl ?_
          refine r_goto (pc := 103) (tgt := 70) C dX4_drawOne_103 (by decide) ?_
          exact r_lv C [(0, vr (some po)), (1, vr (some sa)), (2, vi (nI j)), (4, vi (nI (u33 x1 % dsum wt D 20))), (5, vi _), (6, vi (nI (i + 1)))] rfl (ih _ ⟨rfl, c94⟩)
        · rw [nI_leI (by omega) (by omega)] at c94
          refine r_iload (pc := 97) C dX4_drawOne_97 rfl ?_
          refine r_iret (pc := 99) C dX4_drawOne_99 rfl (by omega) (by omega) ?_
          exact ⟨by rw [dF_fst (Nat.not_le.mp c94) hle hi hpos], rfl⟩
  have L1 : ∀ i x, i ≤ 20 → x = nI (dsum wt D i) → J 21 [(0, vr (some po)), (1, vr (some sa)), (2, vi (nI j)), (3, vi x), (4, vi (nI i))] [] S1 0 0 := by
    refine up_loop _ _ _ ?_ ?_
    · intro x hx
      subst hx
      refine r_iload (pc := 21) C dX4_drawOne_21 rfl ?_
      refine r_bipush (pc := 23) C (nI 20) dX4_drawOne_23 rfl ?_
      refine r_icmp_ge (pc := 25) (tgt := 45) C dX4_drawOne_25 (by decide) (fun c25 => ?_) (fun c25 => ?_)
      · refine r_iload_n (pc := 45) C dX4_drawOne_45 rfl ?_
        refine r_if_gt (pc := 46) (tgt := 51) C dX4_drawOne_46 (by decide) (fun c46 => ?_) (fun c46 => ?_)
        · refine r_aload_n (pc := 51) C dX4_drawOne_51 rfl ?_
          refine r_getJ (pc := 52) C dX4_drawOne_52 fx_RX4_9 (by assumption) ?_
          rw [hj1]
          refine r_bipush (pc := 55) C (nI 33) dX4_drawOne_55 rfl ?_
          refine r_lushr (pc := 57) C dX4_drawOne_57 ?_
          rw [u33_shr]
          refine r_iload_n (pc := 58) C dX4_drawOne_58 rfl ?_
          refine r_i2l (pc := 59) C dX4_drawOne_59 ?_
          rw [nI_l (by omega)]
          refine r_lrem (pc := 60) C dX4_drawOne_60 (fun q => by rw [show (0 : Int64) = lN 0 from rfl, lN_eq (by omega) (by omega)] at q; omega) ?_
          rw [pk_lRem (by omega) hpos (by omega)]
          refine r_l2i (pc := 61) C dX4_drawOne_61 ?_
          rw [lN_i]
          refine r_istore (pc := 62) C dX4_drawOne_62 (by decide) rfl ?_
          refine r_iconst (pc := 64) C (nI 0) dX4_drawOne_64 rfl ?_
          refine r_istore (pc := 65) C dX4_drawOne_65 (by decide) rfl ?_
          refine r_iconst (pc := 67) C (nI 0) dX4_drawOne_67 rfl ?_
          refine r_istore (pc := 68) C dX4_drawOne_68 (by decide) rfl ?_
          exact r_lv C [(0, vr (some po)), (1, vr (some sa)), (2, vi (nI j)), (4, vi (nI (u33 x1 % dsum wt D 20))), (5, vi (nI 0)), (6, vi (nI 0))] rfl (L2 0 _ (by omega) ⟨rfl, Nat.zero_le _⟩)
        · exact absurd (show nI 0 < nI (dsum wt D 20) from nI_lt hpos (by omega)) c46
      · exact absurd (Int32.le_refl _) c25
    · intro i x hi hx ih
      subst hx
      refine r_iload (pc := 21) C dX4_drawOne_21 rfl ?_
      refine r_bipush (pc := 23) C (nI 20) dX4_drawOne_23 rfl ?_
      refine r_icmp_ge (pc := 25) (tgt := 45) C dX4_drawOne_25 (by decide) (fun c25 => ?_) (fun c25 => ?_)
      · exact absurd c25 (nI_ge hi (by omega))
      · refine r_iload_n (pc := 28) C dX4_drawOne_28 rfl ?_
        refine r_aload_n (pc := 29) C dX4_drawOne_29 rfl ?_
        refine r_iload (pc := 30) C dX4_drawOne_30 rfl ?_
        refine r_aload_n (pc := 32) C dX4_drawOne_32 rfl ?_
        refine r_iload_n (pc := 33) C dX4_drawOne_33 rfl ?_
        refine r_callV (pc := 34) C (wl i hi) iX4_weightLeft ml_RX4_33 dX4_drawOne_34 (ci := 5) rfl rfl (by assumption) rfl (by decide) rfl (by simp [cv, Value.category, va_rf]) (by omega) (by omega) (fun r34 S34 h34 => ?_)
        obtain ⟨rfl, e34⟩ := h34
        subst S34
        dsimp only [Option.toList, List.cons_append, List.nil_append]
        refine r_iadd (pc := 37) C dX4_drawOne_37 ?_
        rw [nI_add, show dsum wt D i + (if D i = true then 0 else wt i) = dsum wt D (i + 1) from rfl]
        refine r_istore_n (pc := 38) C dX4_drawOne_38 (by decide) rfl ?_
        refine r_iinc (pc := 39) C _ dX4_drawOne_39 rfl (nI_1 _) (by decide) rfl ?_
        refine r_goto (pc := 42) (tgt := 21) C dX4_drawOne_42 (by decide) ?_
        exact r_lv C [(0, vr (some po)), (1, vr (some sa)), (2, vi (nI j)), (3, vi _), (4, vi (nI (i + 1)))] rfl (ih _ rfl)
  refine r_aload_n (pc := 0) C dX4_drawOne_0 rfl ?_
  refine r_aload_n (pc := 1) C dX4_drawOne_1 rfl ?_
  refine r_getJ (pc := 2) C dX4_drawOne_2 fx_RX4_9 (by assumption) ?_
  refine r_ldc2 (pc := 5) C kc_RX4_29 dX4_drawOne_5 ?_
  refine r_lmul (pc := 8) C dX4_drawOne_8 ?_
  refine r_ldc2 (pc := 9) C kc_RX4_31 dX4_drawOne_9 ?_
  refine r_ladd (pc := 12) C dX4_drawOne_12 ?_
  refine r_putJ (pc := 13) C dX4_drawOne_13 fx_RX4_9 (fp_5_1 _) (by assumption) ?_
  rw [show sJ S 501 po * 6364136223846793005 + 1442695040888963407 = lcg (sJ S 501 po) from rfl, hS1]
  refine r_iconst (pc := 16) C (nI 0) dX4_drawOne_16 rfl ?_
  refine r_istore_n (pc := 17) C dX4_drawOne_17 (by decide) rfl ?_
  refine r_iconst (pc := 18) C (nI 0) dX4_drawOne_18 rfl ?_
  refine r_istore (pc := 19) C dX4_drawOne_19 (by decide) rfl ?_
  exact r_lv C [(0, vr (some po)), (1, vr (some sa)), (2, vi (nI j)), (3, vi (nI 0)), (4, vi (nI 0))] rfl (L1 0 _ (by omega) rfl)
theorem cl_draw {k : Nat} {wt : Nat → Nat} (hP : PE S po wa) (hk10 : k ≤ 10) (hw : ∀ p, p < 20 → aI S 30 wa p = nI (wt p)) (hw2 : ∀ p, wt p ≤ 1000) (hh : k ≤ cntU (fun p => decide (0 < wt p)) 20) : Sp l g mX4_draw 1 10 [vr (some po), vi (nI k)] S (fun r S' => ∃ q f, sK S q = 0 ∧ r = some (vr (some q)) ∧ S' = putI (setJ (newA S q 39 k) 501 po (dX (sJ S 501 po) k)) 39 q f ∧ ∀ i, i < k → f i = nI (smp wt (sJ S 501 po) i)) := by
  have hk := hP.1
  generalize hX : sJ S 501 po = X
  refine Sp.start (own := RX4) [(0, vr (some po)), (1, vi (nI k))] (by decide +kernel) rfl rfl (Nat.le_of_ble_eq_true rfl) ?_
  intro J C
  have L : ∀ q, sK S q = 0 → ∀ i S1, i ≤ k → (∃ f, S1 = putI (setJ (newA S q 39 k) 501 po (dX X i)) 39 q f ∧ ∀ j, j < i → f j = nI (smp wt X j)) → J 6 [(0, vr (some po)), (1, vi (nI k)), (2, vr (some q)), (3, vi (nI i))] [] S1 1 k := by
    intro q hq
    have hpq : po ≠ q := ne_kq hq (by omega)
    have hwq : wa ≠ q := ne_kq hq (by rw [hP.2.2.1]; omega)
    refine up_loop _ _ _ ?_ ?_
    · intro S1 hS
      obtain ⟨f, rfl, hf⟩ := hS
      refine r_iload_n (pc := 6) C dX4_draw_6 rfl ?_
      refine r_iload_n (pc := 7) C dX4_draw_7 rfl ?_
      refine r_icmp_ge (pc := 8) (tgt := 26) C dX4_draw_8 (by decide) (fun c8 => ?_) (fun c8 => ?_)
      · refine r_aload_n (pc := 26) C dX4_draw_26 rfl ?_
        refine r_aret (pc := 27) C dX4_draw_27 rfl (Or.inr ⟨_, rfl⟩) (by omega) (by omega) ?_
        exact ⟨q, f, hq, rfl, rfl, hf⟩
      · exact absurd (Int32.le_refl _) c8
    · intro i S1 hi hS ih
      obtain ⟨f, rfl, hf⟩ := hS
      have hPi : PE (putI (setJ (newA S q 39 k) 501 po (dX X i)) 39 q f) po wa := ⟨(sK_na (S := S) (k := 39) (n := k) hpq).trans hP.1, hP.2.1, (sK_na (S := S) (k := 39) (n := k) hwq).trans hP.2.2.1, (sN_na (S := S) (k := 39) (n := k) hwq).trans hP.2.2.2⟩
      have hji : sJ (putI (setJ (newA S q 39 k) 501 po (dX X i)) 39 q f) 501 po = dX X i := sJ_s (S := newA S q 39 k) (k := 501) (b := po) (v := dX X i)
      have hsq : sK (putI (setJ (newA S q 39 k) 501 po (dX X i)) 39 q f) q = 39 := sK_nas (S := S) (q := q) (k := 39) (n := k)
      have hnq : sN (putI (setJ (newA S q 39 k) 501 po (dX X i)) 39 q f) q = k := sN_nas (S := S) (q := q) (k := 39) (n := k)
      have hai : aI (putI (setJ (newA S q 39 k) 501 po (dX X i)) 39 q f) 39 q = f := aI_ps
      have ha30 : aI (putI (setJ (newA S q 39 k) 501 po (dX X i)) 39 q f) 30 wa = aI S 30 wa := (aI_pn (Or.inl (by decide))).trans (aI_na (S := S) (k := 39) (n := k) hwq)
      have hDi : ∀ p, p < 20 → inA f i p = dD wt X i p := by
        intro p hp
        have : ∀ m, m ≤ i → inA f m p = dD wt X m p := by
          intro m
          induction m with
          | zero => intro _; rfl
          | succ m ihm =>
            intro hm
            show (inA f m p || decide (f m = nI p)) = (dD wt X m p || decide (p = smp wt X m))
            rw [ihm (by omega), hf m (by omega)]
            have hsl : smp wt X m < 20 := (dP_lt (dD_pos hh (by omega))).1
            congr 1
            apply decide_eq_decide.mpr
            rw [nI_eq (by omega) (by omega)]
            exact ⟨fun e => e.symm, fun e => e.symm⟩
        exact this i (Nat.le_refl _)
      have hone := cl_drawOne (l := l) (g := g) (j := i) (sa := q) (wt := wt) (D := dD wt X i) hPi hsq (by rw [hnq]; omega) (by rw [hnq]; omega) (fun p hp => by rw [ha30]; exact hw p hp) hw2 (fun p hp => by rw [hai]; exact hDi p hp) (dD_pos hh hi)
      rw [hji] at hone
      have e1 : setJ (putI (setJ (newA S q 39 k) 501 po (dX X i)) 39 q f) 501 po (lcg (dX X i)) = putI (setJ (newA S q 39 k) 501 po (dX X (i + 1))) 39 q f := by
        unfold setJ putI
        simp only [Prod.mk.injEq, true_and, and_true]
        funext a b
        simp only [u2]
        split
        · split <;> rfl
        · rfl
      rw [e1] at hone
      have hk6 : sK (putI (setJ (newA S q 39 k) 501 po (dX X i)) 39 q f) po = 5 + 1 := hPi.1
      refine r_iload_n (pc := 6) C dX4_draw_6 rfl ?_
      refine r_iload_n (pc := 7) C dX4_draw_7 rfl ?_
      refine r_icmp_ge (pc := 8) (tgt := 26) C dX4_draw_8 (by decide) (fun c8 => ?_) (fun c8 => ?_)
      · exact absurd c8 (nI_ge hi (by omega))
      · refine r_aload_n (pc := 11) C dX4_draw_11 rfl ?_
        refine r_iload_n (pc := 12) C dX4_draw_12 rfl ?_
        refine r_aload_n (pc := 13) C dX4_draw_13 rfl ?_
        refine r_aload_n (pc := 14) C dX4_draw_14 rfl ?_
        refine r_iload_n (pc := 15) C dX4_draw_15 rfl ?_
        refine r_callV (pc := 16) C (hone) iX4_drawOne ml_RX4_25 dX4_draw_16 (ci := 5) rfl rfl hk6 rfl (by decide) rfl (by simp [cv, Value.category, va_rf]) (by omega) (by omega) (fun r16 S16 h16 => ?_)
        obtain ⟨rfl, e16⟩ := h16
        subst S16
        dsimp only [Option.toList, List.cons_append, List.nil_append]
        refine r_iast (pc := 19) C dX4_draw_19 (show sK (putI (setJ (newA S q 39 k) 501 po (dX X (i + 1))) 39 q f) q = 39 from sK_nas (S := S) (q := q) (k := 39) (n := k)) (by decide) (show sN (putI (setJ (newA S q 39 k) 501 po (dX X (i + 1))) 39 q f) q = k from sN_nas (S := S) (q := q) (k := 39) (n := k)) (by first | assumption | exact vp_in_nI (by omega) (by omega)) (by first | exact nI_clamp (by omega) | rfl) ?_
        rw [aI_ps, putI_putI]
        refine r_iinc (pc := 20) C _ dX4_draw_20 rfl (nI_1 _) (by decide) rfl ?_
        refine r_goto (pc := 23) (tgt := 6) C dX4_draw_23 (by decide) ?_
        refine r_lv C [(0, vr (some po)), (1, vi (nI k)), (2, vr (some q)), (3, vi (nI (i + 1)))] rfl (ih _ ⟨_, rfl, fun m hm => ?_⟩)
        simp only [upd]
        by_cases e : m = i
        · subst e; rw [if_pos rfl]; rfl
        · rw [if_neg e]; exact hf m (by omega)
  refine r_iload_n (pc := 0) C dX4_draw_0 rfl ?_
  refine r_newa (pc := 1) C 39 dX4_draw_1 rfl (by decide) (wd_at 53 (by decide +kernel) rfl) (nI_pos (by omega)) (nI_clamp (by omega)) (by omega) (by omega) (by omega) (fun q1 hq1 => ?_)
  refine r_astore_n (pc := 3) C dX4_draw_3 (by decide) rfl ?_
  refine r_iconst (pc := 4) C (nI 0) dX4_draw_4 rfl ?_
  refine r_istore_n (pc := 5) C dX4_draw_5 (by decide) rfl ?_
  refine r_widen C (k2 := 1) (n2 := k) (by omega) (by omega) ?_
  refine r_lv C [(0, vr (some po)), (1, vi (nI k)), (2, vr (some q1)), (3, vi (nI 0))] rfl (L q1 hq1 0 _ (by omega) ⟨fun _ => 0, ?_, fun j hj => absurd hj (by omega)⟩)
  have e2 : setJ (newA S q1 39 k) 501 po (dX X 0) = newA S q1 39 k := by
    unfold setJ newA
    simp only [Prod.mk.injEq, true_and, and_true]
    funext a b
    simp only [u2]
    split
    · next h1 => split
                 · next h2 => rw [h1, h2]; exact hX.symm
                 · rfl
    · rfl
  rw [e2, ← aI_nas (S := S) (q := q1) (k := 39) (n := k) (r := 39), putI_id]
theorem cl_pinit {sd : Int32} (hk : sK S po = 6) : Sp l g mX4_init 1 20 [vr (some po), vi sd] S (fun r S' => r = none ∧ ∃ q f, sK S q = 0 ∧ S' = putI (setR (newA (setJ S 501 po sd.toInt64) q 30 20) 500 po (some q)) 30 q f ∧ ∀ i, i < 20 → f i = nI 1) := by
  refine Sp.start (own := RX4) [(0, vr (some po)), (1, vi sd)] (by decide +kernel) rfl rfl (Nat.le_of_ble_eq_true rfl) ?_
  intro J C
  refine r_aload_n (pc := 0) C dX4_init_0 rfl ?_
  refine r_oinit (pc := 1) C dX4_init_1 ml_RX4_3 (by decide) (by decide) ?_
  refine r_aload_n (pc := 4) C dX4_init_4 rfl ?_
  refine r_iload_n (pc := 5) C dX4_init_5 rfl ?_
  refine r_i2l (pc := 6) C dX4_init_6 ?_
  refine r_putJ (pc := 7) C dX4_init_7 fx_RX4_9 (fp_5_1 _) (by assumption) ?_
  refine r_aload_n (pc := 10) C dX4_init_10 rfl ?_
  refine r_bipush (pc := 11) C (nI 20) dX4_init_11 rfl ?_
  refine r_newa (pc := 13) C 30 dX4_init_13 rfl (by decide) (wd_at 53 (by decide +kernel) rfl) (nI_pos (by omega)) (nI_clamp (by omega)) (by omega) (by omega) (by omega) (fun q13 hq13 => ?_)
  refine r_putR (pc := 15) C dX4_init_15 fx_RX4_15 (fq_5_0 _ rfl rfl) (show sK (newA (setJ S 501 po sd.toInt64) q13 30 20) po = 5 + 1 from by rw [sK_na (ne_kq hq13 (show sK S po ≠ 0 by omega))]; exact hk) ?_
  refine r_aload_n (pc := 18) C dX4_init_18 rfl ?_
  refine r_getR (pc := 19) C dX4_init_19 fx_RX4_15 (show sK (newA (setJ S 501 po sd.toInt64) q13 30 20) po = 5 + 1 from by rw [sK_na (ne_kq hq13 (show sK S po ≠ 0 by omega))]; exact hk) sR_s ?_
  refine r_iconst (pc := 22) C (nI 1) dX4_init_22 rfl ?_
  refine r_callS (pc := 23) C (ct_fill (r := 30) (n := 20) (show sK (setR (newA (setJ S 501 po sd.toInt64) q13 30 20) 500 po (some q13)) q13 = 30 from va_up_self _ _ _) (by decide) (show sN (setR (newA (setJ S 501 po sd.toInt64) q13 30 20) 500 po (some q13)) q13 = 20 from va_up_self _ _ _) (by decide)) iJ7_fill_53178 ml_RX4_19 dX4_init_23 rfl (by decide) rfl (by simp [cv, Value.category, va_rf]) (by omega) (by omega) (fun r23 S23 h23 => ?_)
  obtain ⟨rfl, e23⟩ := h23
  dsimp only [Option.toList, List.cons_append, List.nil_append]
  subst e23
  refine r_ret (pc := 26) C dX4_init_26 rfl (by omega) (by omega) ?_
  exact ⟨rfl, q13, _, hq13, rfl, fun i hi => if_pos hi⟩
end Peers
