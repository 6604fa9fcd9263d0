/-! The class: what is read of transactions -/
/-- parents, spent outputs of t as the heap has them -/
def PT (S : hS) (T : Nat → Nat) (M : MM) (n t : Nat) : Prop := ∀ i, i < nP (M 11) t → aR S 103 (rA S 906 (T t)) i = some (T (par M n t i)) ∧ par M n t i < n
def ST (S : hS) (T O : Nat → Nat) (M : MM) (n t : Nat) : Prop := ∀ i, i < nX (M 11) t → aR S 102 (rA S 907 (T t)) i = some (O (out M n t i)) ∧ oV M n (out M n t i)
theorem Ht.oV {M : MM} {n t i : Nat} (h : Ht M n t) (hi : i < nX (M 11) t) : oV M n (out M n t i) := ⟨_, _, h.src_lt hi, (h.2.2 i hi).2, rfl⟩
theorem oV.lt {M : MM} {n h s : Nat} (hG : GV M n h) (hs : oV M n s) : s < 564 := by
  obtain ⟨t, i, ht, hi, rfl⟩ := hs
  exact onum_lt hG ht hi
theorem nI_inj' {a b : Nat} (h : nI a = nI b) (ha : a < 2 ^ 31) (hb : b < 2 ^ 31) : a = b := by
  have := congrArg Int32.toNatClampNeg h
  rwa [nI_clamp ha, nI_clamp hb] at this
theorem fav_iff {M : MM} {n s t : Nat} (hF : Fav M n) (hn : n ≤ 140) (hs : s < 564) (ht : t < n) : favN M s = some t ↔ M 22 s = nI t := by
  have h := hF s hs
  constructor
  · intro e; rw [h.1, e]; rfl
  · intro e
    have h2 := h.2
    rw [h.1] at e
    cases e3 : favN M s with
    | none => rw [e3] at e; exact absurd e (fun q => absurd (show nI t < 0 by rw [← q]; decide) (nI_pos (by omega)))
    | some u =>
      rw [e3] at e
      have hu := h2 u e3
      rw [nI_inj' (show nI u = nI t from e) (by omega) (by omega)]
theorem lat_iff {M : MM} {n s t : Nat} (hF : Lat M n) (hn : n ≤ 140) (hs : s < 564) (ht : t < n) : latN M s = some t ↔ M 23 s = nI t := by
  have h := hF s hs
  constructor
  · intro e; rw [h.1, e]; rfl
  · intro e
    have h2 := h.2
    rw [h.1] at e
    cases e3 : latN M s with
    | none => rw [e3] at e; exact absurd e (fun q => absurd (show nI t < 0 by rw [← q]; decide) (nI_pos (by omega)))
    | some u =>
      rw [e3] at e
      have hu := h2 u e3
      rw [nI_inj' (show nI u = nI t from e) (by omega) (by omega)]
theorem map_T {T : Nat → Nat} {n t : Nat} {o : Option Nat} (hT : ∀ u v, u < n → v < n → T u = T v → u = v) (ho : ∀ u, o = some u → u < n) (ht : t < n) : o.map T = some (T t) ↔ o = some t := by
  cases o with
  | none => simp
  | some u => simp only [Option.map_some, Option.some.injEq]; exact ⟨fun e => hT u t (ho u rfl) ht e, fun e => by rw [e]⟩
theorem allU_no {f : Nat → Bool} {i n : Nat} (h : f i = false) (hi : i < n) : allU f n = false := by
  cases e : allU f n with
  | false => rfl
  | true => rw [allU_iff.mp e i hi] at h; cases h
theorem anyU_no {f : Nat → Bool} {n : Nat} : anyU f n = false ↔ ∀ i, i < n → f i = false := by
  constructor
  · intro h i hi
    cases e : f i with
    | false => rfl
    | true => rw [anyU_t hi e] at h; cases h
  · intro h
    cases e : anyU f n with
    | false => rfl
    | true => obtain ⟨i, h1, h2⟩ := anyU_iff.mp e; rw [h i h1] at h2; cases h2
theorem allU_s {f : Nat → Bool} {i : Nat} (h : allU f i = true) (h2 : f i = true) : allU f (i + 1) = true := by simp only [allU, h, h2, Bool.and_true]
theorem anyU_s {f : Nat → Bool} {i : Nat} (h : anyU f i = false) (h2 : f i = false) : anyU f (i + 1) = false := by simp only [anyU, h, h2, Bool.or_false]
section ReadT
variable {l : Launch} {g : GG} {S : hS} {po go n h t : Nat} {T O : Nat → Nat} {M : MM} {st cf ch pd rn : Nat → Int32} {fv lt ac : Nat → Option Nat}
theorem GS.r6 (hG : GS S po go T O M n) (ht : t < n) : AR S 906 (T t) 103 (nP (M 11) t) := (hG.t ht).2.2.2.2.2.2.1
theorem GS.r7 (hG : GS S po go T O M n) (ht : t < n) : AR S 907 (T t) 102 (nX (M 11) t) := (hG.t ht).2.2.2.2.2.2.2.1
theorem GS.r8 (hG : GS S po go T O M n) (ht : t < n) : AR S 908 (T t) 80 3 := (hG.t ht).2.2.2.2.2.2.2.2
theorem GS.r5 (hG : GS S po go T O M n) (ht : t < n) : AR S 905 (T t) 101 (nO (M 11) t) := (hG.t ht).2.2.2.2.2.1.1
theorem HN.neg (hH : HN S T M n h) (hh : h ≤ 140) (ht : t < n) : sI S 909 (T t) < 0 ↔ hdB M h t = false := by
  cases e : hdB M h t with
  | false => rw [hH.2 t ht e]; decide
  | true =>
    obtain ⟨k, hk, rfl⟩ := hdB_iff.mp e
    rw [hH.1 k hk]
    exact ⟨fun q => absurd q (nI_pos (by omega)), fun q => (by cases q)⟩
theorem cg_isHeld (hG : GS S po go T O M n) (hH : HN S T M n h) (hh : h ≤ 140) (ht : t < n) : Sp l g mX8_isHeld 0 0 [vr (some (T t))] S (fun r S' => r = some (vi (bi (hdB M h t))) ∧ S' = S) := by
  have hb := hH.neg hh ht
  refine Sp.start (own := RX8) [(0, vr (some (T t)))] (by decide +kernel) rfl rfl (Nat.le_of_ble_eq_true rfl) ?_
  intro J C
  refine r_aload_n (pc := 0) C dX8_isHeld_0 rfl ?_
  refine r_getI (pc := 1) C dX8_isHeld_1 fx_RX8_48 (hG.tk ht) ?_
  refine r_if_lt (pc := 4) (tgt := 11) C dX8_isHeld_4 (by decide) (fun c4 => ?_) (fun c4 => ?_)
  · refine r_iconst (pc := 11) C (nI 0) dX8_isHeld_11 rfl ?_
    refine r_zret (pc := 12) C dX8_isHeld_12 rfl (by first | exact Or.inl rfl | exact Or.inr rfl | assumption) (by omega) (by omega) ?_
    first
      | exact ⟨by rw [hb.mp c4]; rfl, rfl⟩
      | exact ⟨by rw [ts_nf (fun q => c4 (hb.mpr q))]; rfl, rfl⟩
  · refine r_iconst (pc := 7) C (nI 1) dX8_isHeld_7 rfl ?_
    refine r_goto (pc := 8) (tgt := 12) C dX8_isHeld_8 (by decide) ?_
    refine r_zret (pc := 12) C dX8_isHeld_12 rfl (by first | exact Or.inl rfl | exact Or.inr rfl | assumption) (by omega) (by omega) ?_
    first
      | exact ⟨by rw [hb.mp c4]; rfl, rfl⟩
      | exact ⟨by rw [ts_nf (fun q => c4 (hb.mpr q))]; rfl, rfl⟩
theorem cg_isOpen (hG : GS S po go T O M n) (hT : TD S T n st cf ch pd) (ht : t < n) : Sp l g mX8_isOpen 0 0 [vr (some (T t))] S (fun r S' => r = some (vi (bi (decide (st t = nI 2)))) ∧ S' = S) := by
  have e := (hT t ht).1
  refine Sp.start (own := RX8) [(0, vr (some (T t)))] (by decide +kernel) rfl rfl (Nat.le_of_ble_eq_true rfl) ?_
  intro J C
  refine r_aload_n (pc := 0) C dX8_isOpen_0 rfl ?_
  refine r_getI (pc := 1) C dX8_isOpen_1 fx_RX8_51 (hG.tk ht) ?_
  rw [e]
  refine r_iconst (pc := 4) C (nI 2) dX8_isOpen_4 rfl ?_
  refine r_icmp_ne (pc := 5) (tgt := 12) C dX8_isOpen_5 (by decide) (fun c5 => ?_) (fun c5 => ?_)
  · refine r_iconst (pc := 12) C (nI 0) dX8_isOpen_12 rfl ?_
    refine r_zret (pc := 13) C dX8_isOpen_13 rfl (by first | exact Or.inl rfl | exact Or.inr rfl | assumption) (by omega) (by omega) ?_
    first
      | exact ⟨by rw [decide_eq_false c5]; rfl, rfl⟩
      | exact ⟨by rw [decide_eq_true c5]; rfl, rfl⟩
  · refine r_iconst (pc := 8) C (nI 1) dX8_isOpen_8 rfl ?_
    refine r_goto (pc := 9) (tgt := 13) C dX8_isOpen_9 (by decide) ?_
    refine r_zret (pc := 13) C dX8_isOpen_13 rfl (by first | exact Or.inl rfl | exact Or.inr rfl | assumption) (by omega) (by omega) ?_
    first
      | exact ⟨by rw [decide_eq_false c5]; rfl, rfl⟩
      | exact ⟨by rw [decide_eq_true c5]; rfl, rfl⟩
theorem cg_hasAnc {u : Nat} {an : Nat → Bool} (hG : GS S po go T O M n) (hH : HN S T M n h) (hh : h ≤ 140) (ht : t < n) (hu : u < n) (hA : ∀ j, j < h → abt (aJ S 80 (rA S 908 (T t))) j = an (hdN M j)) : Sp l g mX8_hasAncestor 0 0 [vr (some (T t)), vr (some (T u))] S (fun r S' => r = some (vi (bi (hdB M h u && an u))) ∧ S' = S) := by
  have h8 := hG.r8 ht
  refine Sp.start (own := RX8) [(0, vr (some (T t))), (1, vr (some (T u)))] (by decide +kernel) rfl rfl (Nat.le_of_ble_eq_true rfl) ?_
  intro J C
  cases e : hdB M h u with
  | false =>
    have e2 := hH.2 u hu e
    refine r_aload_n (pc := 0) C dX8_hasAncestor_0 rfl ?_
    refine r_getI (pc := 1) C dX8_hasAncestor_1 fx_RX8_48 (hG.tk hu) ?_
    rw [e2]
    refine r_istore_n (pc := 4) C dX8_hasAncestor_4 (by decide) rfl ?_
    refine r_iload_n (pc := 5) C dX8_hasAncestor_5 rfl ?_
    refine r_if_lt (pc := 6) (tgt := 34) C dX8_hasAncestor_6 (by decide) (fun c6 => ?_) (fun c6 => ?_)
    · refine r_iconst (pc := 34) C (nI 0) dX8_hasAncestor_34 rfl ?_
      refine r_zret (pc := 35) C dX8_hasAncestor_35 rfl (by first | exact Or.inl rfl | exact Or.inr rfl | assumption) (by omega) (by omega) ?_
      exact ⟨by rw [e]; rfl, rfl⟩
    · exact absurd (by decide) c6
  | true =>
    obtain ⟨k, hk, rfl⟩ := hdB_iff.mp e
    have e2 := hH.1 k hk
    have e3 := hA k hk
    refine r_aload_n (pc := 0) C dX8_hasAncestor_0 rfl ?_
    refine r_getI (pc := 1) C dX8_hasAncestor_1 fx_RX8_48 (hG.tk hu) ?_
    rw [e2]
    refine r_istore_n (pc := 4) C dX8_hasAncestor_4 (by decide) rfl ?_
    refine r_iload_n (pc := 5) C dX8_hasAncestor_5 rfl ?_
    refine r_if_lt (pc := 6) (tgt := 34) C dX8_hasAncestor_6 (by decide) (fun c6 => ?_) (fun c6 => ?_)
    · exact absurd c6 (nI_pos (by omega))
    · refine r_aload_n (pc := 9) C dX8_hasAncestor_9 rfl ?_
      refine r_getR (pc := 10) C dX8_hasAncestor_10 fx_RX8_44 (hG.tk ht) h8.1 ?_
      refine r_iload_n (pc := 13) C dX8_hasAncestor_13 rfl ?_
      refine r_bipush (pc := 14) C (nI 6) dX8_hasAncestor_14 rfl ?_
      refine r_ishr (pc := 16) C dX8_hasAncestor_16 ?_
      rw [pk_shrN (show k < 2 ^ 31 by omega) _ 6 (by decide), show k / 2 ^ 6 = k / 64 from rfl]
      refine r_lald (pc := 17) C dX8_hasAncestor_17 h8.2.1 (by decide) h8.2.2 (by first | assumption | exact vp_in_nI (by omega) (by omega)) (by first | exact nI_clamp (by omega) | rfl) ?_
      refine r_iload_n (pc := 18) C dX8_hasAncestor_18 rfl ?_
      refine r_bipush (pc := 19) C (nI 63) dX8_hasAncestor_19 rfl ?_
      refine r_iand (pc := 21) C dX8_hasAncestor_21 ?_
      rw [pk_andN (show k < 2 ^ 32 by omega) 6 (by decide), show k % 2 ^ 6 = k % 64 from rfl]
      refine r_lushr (pc := 22) C dX8_hasAncestor_22 ?_
      refine r_lconst (pc := 23) C (lN 1) dX8_hasAncestor_23 rfl ?_
      refine r_land (pc := 24) C dX8_hasAncestor_24 ?_
      refine r_lconst (pc := 25) C (lN 0) dX8_hasAncestor_25 rfl ?_
      refine r_lcmp (pc := 26) C dX8_hasAncestor_26 ?_
      refine r_if_eq (pc := 27) (tgt := 34) C dX8_hasAncestor_27 (by decide) (fun c27 => ?_) (fun c27 => ?_)
      · rw [bt_test (by omega)] at c27
        refine r_iconst (pc := 34) C (nI 0) dX8_hasAncestor_34 rfl ?_
        refine r_zret (pc := 35) C dX8_hasAncestor_35 rfl (by first | exact Or.inl rfl | exact Or.inr rfl | assumption) (by omega) (by omega) ?_
        first
          | exact ⟨by rw [e, ← e3, show abt (aJ S 80 (rA S 908 (T t))) k = false from c27]; rfl, rfl⟩
          | exact ⟨by rw [e, ← e3, show abt (aJ S 80 (rA S 908 (T t))) k = true from ts_nf c27]; rfl, rfl⟩
      · rw [bt_test (by omega)] at c27
        refine r_iconst (pc := 30) C (nI 1) dX8_hasAncestor_30 rfl ?_
        refine r_goto (pc := 31) (tgt := 35) C dX8_hasAncestor_31 (by decide) ?_
        refine r_zret (pc := 35) C dX8_hasAncestor_35 rfl (by first | exact Or.inl rfl | exact Or.inr rfl | assumption) (by omega) (by omega) ?_
        first
          | exact ⟨by rw [e, ← e3, show abt (aJ S 80 (rA S 908 (T t))) k = false from c27]; rfl, rfl⟩
          | exact ⟨by rw [e, ← e3, show abt (aJ S 80 (rA S 908 (T t))) k = true from ts_nf c27]; rfl, rfl⟩
theorem cg_accPar (hG : GS S po go T O M n) (hR : Rk (M 11) t) (hT : TD S T n st cf ch pd) (ht : t < n) (hP : PT S T M n t) : Sp l g mX8_hasAcceptedParents 0 0 [vr (some (T t))] S (fun r S' => r = some (vi (bi (allU (fun i => decide (st (par M n t i) = nI 3)) (nP (M 11) t)))) ∧ S' = S) := by
  have h6 := hG.r6 ht
  have h4 := hR.2.1
  refine Sp.start (own := RX8) [(0, vr (some (T t)))] (by decide +kernel) rfl rfl (Nat.le_of_ble_eq_true rfl) ?_
  intro J C
  have L : ∀ i (u : Unit), i ≤ nP (M 11) t → allU (fun i => decide (st (par M n t i) = nI 3)) i = true → J 2 [(0, vr (some (T t))), (1, vi (nI i))] [] S 0 0 := by
    refine up_loop _ _ _ ?_ ?_
    · intro u hu
      refine r_iload_n (pc := 2) C dX8_hasAcceptedParents_2 rfl ?_
      refine r_aload_n (pc := 3) C dX8_hasAcceptedParents_3 rfl ?_
      refine r_getR (pc := 4) C dX8_hasAcceptedParents_4 fx_RX8_35 (hG.tk ht) h6.1 ?_
      refine r_alen (pc := 7) C dX8_hasAcceptedParents_7 h6.2.1 (by first | decide | omega) ?_
      rw [h6.2.2]
      refine r_icmp_ge (pc := 8) (tgt := 32) C dX8_hasAcceptedParents_8 (by decide) (fun c8 => ?_) (fun c8 => ?_)
      · refine r_iconst (pc := 32) C (nI 1) dX8_hasAcceptedParents_32 rfl ?_
        refine r_zret (pc := 33) C dX8_hasAcceptedParents_33 rfl (by first | exact Or.inl rfl | exact Or.inr rfl | assumption) (by omega) (by omega) ?_
        exact ⟨by rw [hu]; rfl, rfl⟩
      · exact absurd (Int32.le_refl _) c8
    · intro i u hi hu ih
      refine r_iload_n (pc := 2) C dX8_hasAcceptedParents_2 rfl ?_
      refine r_aload_n (pc := 3) C dX8_hasAcceptedParents_3 rfl ?_
      refine r_getR (pc := 4) C dX8_hasAcceptedParents_4 fx_RX8_35 (hG.tk ht) h6.1 ?_
      refine r_alen (pc := 7) C dX8_hasAcceptedParents_7 h6.2.1 (by first | decide | omega) ?_
      rw [h6.2.2]
      refine r_icmp_ge (pc := 8) (tgt := 32) C dX8_hasAcceptedParents_8 (by decide) (fun c8 => ?_) (fun c8 => ?_)
      · exact absurd c8 (nI_ge hi (by omega))
      · refine r_aload_n (pc := 11) C dX8_hasAcceptedParents_11 rfl ?_
        refine r_getR (pc := 12) C dX8_hasAcceptedParents_12 fx_RX8_35 (hG.tk ht) h6.1 ?_
        refine r_iload_n (pc := 15) C dX8_hasAcceptedParents_15 rfl ?_
        refine r_aald (pc := 16) C dX8_hasAcceptedParents_16 h6.2.1 (by decide) h6.2.2 (by first | assumption | exact vp_in_nI (by omega) (by omega)) (by first | exact nI_clamp (by omega) | rfl) ?_
        rw [(hP i hi).1]
        refine r_getI (pc := 17) C dX8_hasAcceptedParents_17 fx_RX8_51 (hG.tk (hP i hi).2) ?_
        rw [(hT _ (hP i hi).2).1]
        refine r_iconst (pc := 20) C (nI 3) dX8_hasAcceptedParents_20 rfl ?_
        refine r_icmp_eq (pc := 21) (tgt := 26) C dX8_hasAcceptedParents_21 (by decide) (fun c21 => ?_) (fun c21 => ?_)
        · refine r_iinc (pc := 26) C _ dX8_hasAcceptedParents_26 rfl (nI_1 _) (by decide) rfl ?_
          refine r_goto (pc := 29) (tgt := 2) C dX8_hasAcceptedParents_29 (by decide) ?_
          exact r_lv C [(0, vr (some (T t))), (1, vi (nI (i + 1)))] rfl (ih u (allU_s hu (decide_eq_true c21)))
        · refine r_iconst (pc := 24) C (nI 0) dX8_hasAcceptedParents_24 rfl ?_
          refine r_zret (pc := 25) C dX8_hasAcceptedParents_25 rfl (by first | exact Or.inl rfl | exact Or.inr rfl | assumption) (by omega) (by omega) ?_
          exact ⟨by rw [allU_no (f := fun i => decide (st (par M n t i) = nI 3)) (decide_eq_false c21) hi]; rfl, rfl⟩
  refine r_iconst (pc := 0) C (nI 0) dX8_hasAcceptedParents_0 rfl ?_
  refine r_istore_n (pc := 1) C dX8_hasAcceptedParents_1 (by decide) rfl ?_
  exact r_lv C [(0, vr (some (T t))), (1, vi (nI 0))] rfl (L 0 () (by omega) rfl)
theorem cg_rejPar (hG : GS S po go T O M n) (hR : Rk (M 11) t) (hT : TD S T n st cf ch pd) (ht : t < n) (hP : PT S T M n t) : Sp l g mX8_hasRejectedParent 0 0 [vr (some (T t))] S (fun r S' => r = some (vi (bi (anyU (fun i => decide (st (par M n t i) = nI 4)) (nP (M 11) t)))) ∧ S' = S) := by
  have h6 := hG.r6 ht
  have h4 := hR.2.1
  refine Sp.start (own := RX8) [(0, vr (some (T t)))] (by decide +kernel) rfl rfl (Nat.le_of_ble_eq_true rfl) ?_
  intro J C
  have L : ∀ i (u : Unit), i ≤ nP (M 11) t → anyU (fun i => decide (st (par M n t i) = nI 4)) i = false → J 2 [(0, vr (some (T t))), (1, vi (nI i))] [] S 0 0 := by
    refine up_loop _ _ _ ?_ ?_
    · intro u hu
      refine r_iload_n (pc := 2) C dX8_hasRejectedParent_2 rfl ?_
      refine r_aload_n (pc := 3) C dX8_hasRejectedParent_3 rfl ?_
      refine r_getR (pc := 4) C dX8_hasRejectedParent_4 fx_RX8_35 (hG.tk ht) h6.1 ?_
      refine r_alen (pc := 7) C dX8_hasRejectedParent_7 h6.2.1 (by first | decide | omega) ?_
      rw [h6.2.2]
      refine r_icmp_ge (pc := 8) (tgt := 32) C dX8_hasRejectedParent_8 (by decide) (fun c8 => ?_) (fun c8 => ?_)
      · refine r_iconst (pc := 32) C (nI 0) dX8_hasRejectedParent_32 rfl ?_
        refine r_zret (pc := 33) C dX8_hasRejectedParent_33 rfl (by first | exact Or.inl rfl | exact Or.inr rfl | assumption) (by omega) (by omega) ?_
        exact ⟨by rw [hu]; rfl, rfl⟩
      · exact absurd (Int32.le_refl _) c8
    · intro i u hi hu ih
      refine r_iload_n (pc := 2) C dX8_hasRejectedParent_2 rfl ?_
      refine r_aload_n (pc := 3) C dX8_hasRejectedParent_3 rfl ?_
      refine r_getR (pc := 4) C dX8_hasRejectedParent_4 fx_RX8_35 (hG.tk ht) h6.1 ?_
      refine r_alen (pc := 7) C dX8_hasRejectedParent_7 h6.2.1 (by first | decide | omega) ?_
      rw [h6.2.2]
      refine r_icmp_ge (pc := 8) (tgt := 32) C dX8_hasRejectedParent_8 (by decide) (fun c8 => ?_) (fun c8 => ?_)
      · exact absurd c8 (nI_ge hi (by omega))
      · refine r_aload_n (pc := 11) C dX8_hasRejectedParent_11 rfl ?_
        refine r_getR (pc := 12) C dX8_hasRejectedParent_12 fx_RX8_35 (hG.tk ht) h6.1 ?_
        refine r_iload_n (pc := 15) C dX8_hasRejectedParent_15 rfl ?_
        refine r_aald (pc := 16) C dX8_hasRejectedParent_16 h6.2.1 (by decide) h6.2.2 (by first | assumption | exact vp_in_nI (by omega) (by omega)) (by first | exact nI_clamp (by omega) | rfl) ?_
        rw [(hP i hi).1]
        refine r_getI (pc := 17) C dX8_hasRejectedParent_17 fx_RX8_51 (hG.tk (hP i hi).2) ?_
        rw [(hT _ (hP i hi).2).1]
        refine r_iconst (pc := 20) C (nI 4) dX8_hasRejectedParent_20 rfl ?_
        refine r_icmp_ne (pc := 21) (tgt := 26) C dX8_hasRejectedParent_21 (by decide) (fun c21 => ?_) (fun c21 => ?_)
        · refine r_iinc (pc := 26) C _ dX8_hasRejectedParent_26 rfl (nI_1 _) (by decide) rfl ?_
          refine r_goto (pc := 29) (tgt := 2) C dX8_hasRejectedParent_29 (by decide) ?_
          exact r_lv C [(0, vr (some (T t))), (1, vi (nI (i + 1)))] rfl (ih u (anyU_s hu (decide_eq_false c21)))
        · refine r_iconst (pc := 24) C (nI 1) dX8_hasRejectedParent_24 rfl ?_
          refine r_zret (pc := 25) C dX8_hasRejectedParent_25 rfl (by first | exact Or.inl rfl | exact Or.inr rfl | assumption) (by omega) (by omega) ?_
          exact ⟨by rw [anyU_t (f := fun i => decide (st (par M n t i) = nI 4)) hi (decide_eq_true c21)]; rfl, rfl⟩
  refine r_iconst (pc := 0) C (nI 0) dX8_hasRejectedParent_0 rfl ?_
  refine r_istore_n (pc := 1) C dX8_hasRejectedParent_1 (by decide) rfl ?_
  exact r_lv C [(0, vr (some (T t))), (1, vi (nI 0))] rfl (L 0 () (by omega) rfl)
theorem cg_strPar {sg : Nat → Bool} (hG : GS S po go T O M n) (hR : Rk (M 11) t) (ht : t < n) (hP : PT S T M n t) (hs : ∀ i, i < nP (M 11) t → sI S 914 (T (par M n t i)) = bi (sg (par M n t i))) : Sp l g mX8_hasStrongParents 0 0 [vr (some (T t))] S (fun r S' => r = some (vi (bi (allU (fun i => sg (par M n t i)) (nP (M 11) t)))) ∧ S' = S) := by
  have h6 := hG.r6 ht
  have h4 := hR.2.1
  refine Sp.start (own := RX8) [(0, vr (some (T t)))] (by decide +kernel) rfl rfl (Nat.le_of_ble_eq_true rfl) ?_
  intro J C
  have L : ∀ i (u : Unit), i ≤ nP (M 11) t → allU (fun i => sg (par M n t i)) i = true → J 2 [(0, vr (some (T t))), (1, vi (nI i))] [] S 0 0 := by
    refine up_loop _ _ _ ?_ ?_
    · intro u hu
      refine r_iload_n (pc := 2) C dX8_hasStrongParents_2 rfl ?_
      refine r_aload_n (pc := 3) C dX8_hasStrongParents_3 rfl ?_
      refine r_getR (pc := 4) C dX8_hasStrongParents_4 fx_RX8_35 (hG.tk ht) h6.1 ?_
      refine r_alen (pc := 7) C dX8_hasStrongParents_7 h6.2.1 (by first | decide | omega) ?_
      rw [h6.2.2]
      refine r_icmp_ge (pc := 8) (tgt := 31) C dX8_hasStrongParents_8 (by decide) (fun c8 => ?_) (fun c8 => ?_)
      · refine r_iconst (pc := 31) C (nI 1) dX8_hasStrongParents_31 rfl ?_
        refine r_zret (pc := 32) C dX8_hasStrongParents_32 rfl (by first | exact Or.inl rfl | exact Or.inr rfl | assumption) (by omega) (by omega) ?_
        exact ⟨by rw [hu]; rfl, rfl⟩
      · exact absurd (Int32.le_refl _) c8
    · intro i u hi hu ih
      refine r_iload_n (pc := 2) C dX8_hasStrongParents_2 rfl ?_
      refine r_aload_n (pc := 3) C dX8_hasStrongParents_3 rfl ?_
      refine r_getR (pc := 4) C dX8_hasStrongParents_4 fx_RX8_35 (hG.tk ht) h6.1 ?_
      refine r_alen (pc := 7) C dX8_hasStrongParents_7 h6.2.1 (by first | decide | omega) ?_
      rw [h6.2.2]
      refine r_icmp_ge (pc := 8) (tgt := 31) C dX8_hasStrongParents_8 (by decide) (fun c8 => ?_) (fun c8 => ?_)
      · exact absurd c8 (nI_ge hi (by omega))
      · refine r_aload_n (pc := 11) C dX8_hasStrongParents_11 rfl ?_
        refine r_getR (pc := 12) C dX8_hasStrongParents_12 fx_RX8_35 (hG.tk ht) h6.1 ?_
        refine r_iload_n (pc := 15) C dX8_hasStrongParents_15 rfl ?_
        refine r_aald (pc := 16) C dX8_hasStrongParents_16 h6.2.1 (by decide) h6.2.2 (by first | assumption | exact vp_in_nI (by omega) (by omega)) (by first | exact nI_clamp (by omega) | rfl) ?_
        rw [(hP i hi).1]
        refine r_getI (pc := 17) C dX8_hasStrongParents_17 fx_RX8_64 (hG.tk (hP i hi).2) ?_
        rw [hs i hi]
        refine r_if_ne (pc := 20) (tgt := 25) C dX8_hasStrongParents_20 (by decide) (fun c20 => ?_) (fun c20 => ?_)
        · rw [bi_0] at c20
          refine r_iinc (pc := 25) C _ dX8_hasStrongParents_25 rfl (nI_1 _) (by decide) rfl ?_
          refine r_goto (pc := 28) (tgt := 2) C dX8_hasStrongParents_28 (by decide) ?_
          exact r_lv C [(0, vr (some (T t))), (1, vi (nI (i + 1)))] rfl (ih u (allU_s hu (ts_nf c20)))
        · rw [bi_0] at c20
          refine r_iconst (pc := 23) C (nI 0) dX8_hasStrongParents_23 rfl ?_
          refine r_zret (pc := 24) C dX8_hasStrongParents_24 rfl (by first | exact Or.inl rfl | exact Or.inr rfl | assumption) (by omega) (by omega) ?_
          exact ⟨by rw [allU_no (f := fun i => sg (par M n t i)) c20 hi]; rfl, rfl⟩
  refine r_iconst (pc := 0) C (nI 0) dX8_hasStrongParents_0 rfl ?_
  refine r_istore_n (pc := 1) C dX8_hasStrongParents_1 (by decide) rfl ?_
  exact r_lv C [(0, vr (some (T t))), (1, vi (nI 0))] rfl (L 0 () (by omega) rfl)
theorem cg_accRiv (hG : GS S po go T O M n) (hR : Rk (M 11) t) (hO : OD S T O M n fv lt ac rn) (ht : t < n) (hP : ST S T O M n t) : Sp l g mX8_hasAcceptedRival 0 0 [vr (some (T t))] S (fun r S' => r = some (vi (bi (anyU (fun i => (ac (out M n t i)).isSome) (nX (M 11) t)))) ∧ S' = S) := by
  have h6 := hG.r7 ht
  have h4 := hR.2.2.1
  refine Sp.start (own := RX8) [(0, vr (some (T t)))] (by decide +kernel) rfl rfl (Nat.le_of_ble_eq_true rfl) ?_
  intro J C
  have L : ∀ i (u : Unit), i ≤ nX (M 11) t → anyU (fun i => (ac (out M n t i)).isSome) i = false → J 2 [(0, vr (some (T t))), (1, vi (nI i))] [] S 0 0 := by
    refine up_loop _ _ _ ?_ ?_
    · intro u hu
      refine r_iload_n (pc := 2) C dX8_hasAcceptedRival_2 rfl ?_
      refine r_aload_n (pc := 3) C dX8_hasAcceptedRival_3 rfl ?_
      refine r_getR (pc := 4) C dX8_hasAcceptedRival_4 fx_RX8_41 (hG.tk ht) h6.1 ?_
      refine r_alen (pc := 7) C dX8_hasAcceptedRival_7 h6.2.1 (by first | decide | omega) ?_
      rw [h6.2.2]
      refine r_icmp_ge (pc := 8) (tgt := 31) C dX8_hasAcceptedRival_8 (by decide) (fun c8 => ?_) (fun c8 => ?_)
      · refine r_iconst (pc := 31) C (nI 0) dX8_hasAcceptedRival_31 rfl ?_
        refine r_zret (pc := 32) C dX8_hasAcceptedRival_32 rfl (by first | exact Or.inl rfl | exact Or.inr rfl | assumption) (by omega) (by omega) ?_
        exact ⟨by rw [hu]; rfl, rfl⟩
      · exact absurd (Int32.le_refl _) c8
    · intro i u hi hu ih
      refine r_iload_n (pc := 2) C dX8_hasAcceptedRival_2 rfl ?_
      refine r_aload_n (pc := 3) C dX8_hasAcceptedRival_3 rfl ?_
      refine r_getR (pc := 4) C dX8_hasAcceptedRival_4 fx_RX8_41 (hG.tk ht) h6.1 ?_
      refine r_alen (pc := 7) C dX8_hasAcceptedRival_7 h6.2.1 (by first | decide | omega) ?_
      rw [h6.2.2]
      refine r_icmp_ge (pc := 8) (tgt := 31) C dX8_hasAcceptedRival_8 (by decide) (fun c8 => ?_) (fun c8 => ?_)
      · exact absurd c8 (nI_ge hi (by omega))
      · refine r_aload_n (pc := 11) C dX8_hasAcceptedRival_11 rfl ?_
        refine r_getR (pc := 12) C dX8_hasAcceptedRival_12 fx_RX8_41 (hG.tk ht) h6.1 ?_
        refine r_iload_n (pc := 15) C dX8_hasAcceptedRival_15 rfl ?_
        refine r_aald (pc := 16) C dX8_hasAcceptedRival_16 h6.2.1 (by decide) h6.2.2 (by first | assumption | exact vp_in_nI (by omega) (by omega)) (by first | exact nI_clamp (by omega) | rfl) ?_
        rw [(hP i hi).1]
        refine r_getR (pc := 17) C dX8_hasAcceptedRival_17 fx_RX8_83 (hG.o (hP i hi).2).1 (hO _ (hP i hi).2).2.2.1 ?_
        refine r_ifnull (pc := 20) (tgt := 25) C dX8_hasAcceptedRival_20 (by decide) (fun c20 => ?_) (fun a20 c20 => ?_)
        · have c20n : (ac (out M n t i)).isSome = false := by cases e : ac (out M n t i) with | none => rfl | some v => rw [e] at c20; cases c20
          refine r_iinc (pc := 25) C _ dX8_hasAcceptedRival_25 rfl (nI_1 _) (by decide) rfl ?_
          refine r_goto (pc := 28) (tgt := 2) C dX8_hasAcceptedRival_28 (by decide) ?_
          exact r_lv C [(0, vr (some (T t))), (1, vi (nI (i + 1)))] rfl (ih u (anyU_s hu c20n))
        · have c20n : (ac (out M n t i)).isSome = true := by cases e : ac (out M n t i) with | none => rw [e] at c20; cases c20 | some v => rfl
          refine r_iconst (pc := 23) C (nI 1) dX8_hasAcceptedRival_23 rfl ?_
          refine r_zret (pc := 24) C dX8_hasAcceptedRival_24 rfl (by first | exact Or.inl rfl | exact Or.inr rfl | assumption) (by omega) (by omega) ?_
          exact ⟨by rw [anyU_t (f := fun i => (ac (out M n t i)).isSome) hi c20n]; rfl, rfl⟩
  refine r_iconst (pc := 0) C (nI 0) dX8_hasAcceptedRival_0 rfl ?_
  refine r_istore_n (pc := 1) C dX8_hasAcceptedRival_1 (by decide) rfl ?_
  exact r_lv C [(0, vr (some (T t))), (1, vi (nI 0))] rfl (L 0 () (by omega) rfl)
theorem cg_isLiked (hG : GS S po go T O M n) (hGV : GV M n h) (hF : Fav M n) (hO : OD S T O M n (favN M) lt ac rn) (hH : HN S T M n h) (ht : t < n) (hP : hdB M h t = true → ST S T O M n t) : Sp l g mX8_isLiked 0 0 [vr (some (T t))] S (fun r S' => r = some (vi (bi (hdB M h t && liked M n t))) ∧ S' = S) := by
  have h6 := hG.r7 ht
  have h4 := (hGV.2.2.1 t ht).2.2.1
  have hn := hGV.1
  have hh := hGV.2.1
  refine Sp.start (own := RX8) [(0, vr (some (T t)))] (by decide +kernel) rfl rfl (Nat.le_of_ble_eq_true rfl) ?_
  intro J C
  cases e : hdB M h t with
  | false =>
    refine r_aload_n (pc := 0) C dX8_isLiked_0 rfl ?_
    refine r_callV (pc := 1) C (cg_isHeld hG hH (by omega) ht) iX8_isHeld ml_RX8_70 dX8_isLiked_1 (ci := 9) rfl rfl (hG.tk ht) rfl (by decide) rfl (by simp [cv, Value.category, va_rf]) (by omega) (by omega) (fun r1 S1 h1 => ?_)
    obtain ⟨rfl, e1⟩ := h1
    subst S1
    dsimp only [Option.toList, List.cons_append, List.nil_append]
    rw [e]
    refine r_if_ne (pc := 4) (tgt := 9) C dX8_isLiked_4 (by decide) (fun c4 => ?_) (fun c4 => ?_)
    · exact absurd rfl c4
    · refine r_iconst (pc := 7) C (nI 0) dX8_isLiked_7 rfl ?_
      refine r_zret (pc := 8) C dX8_isLiked_8 rfl (by first | exact Or.inl rfl | exact Or.inr rfl | assumption) (by omega) (by omega) ?_
      exact ⟨by rw [e]; rfl, rfl⟩
  | true =>
    have hP := hP e
    have fi : ∀ i, i < nX (M 11) t → ((favN M (out M n t i)).map T = some (T t) ↔ M 22 (out M n t i) = nI t) := fun i hi => (map_T (fun u v hu hv q => hG.tinj hu hv q) (fun u hu => (hF _ ((hP i hi).2.lt hGV)).2 u hu) ht).trans (fav_iff hF hn ((hP i hi).2.lt hGV) ht)
    have L : ∀ i (u : Unit), i ≤ nX (M 11) t → allU (fun i => decide (M 22 (out M n t i) = nI t)) i = true → J 11 [(0, vr (some (T t))), (1, vi (nI i))] [] S 0 0 := by
      refine up_loop _ _ _ ?_ ?_
      · intro u hu
        refine r_iload_n (pc := 11) C dX8_isLiked_11 rfl ?_
        refine r_aload_n (pc := 12) C dX8_isLiked_12 rfl ?_
        refine r_getR (pc := 13) C dX8_isLiked_13 fx_RX8_41 (hG.tk ht) h6.1 ?_
        refine r_alen (pc := 16) C dX8_isLiked_16 h6.2.1 (by first | decide | omega) ?_
        rw [h6.2.2]
        refine r_icmp_ge (pc := 17) (tgt := 41) C dX8_isLiked_17 (by decide) (fun c17 => ?_) (fun c17 => ?_)
        · refine r_iconst (pc := 41) C (nI 1) dX8_isLiked_41 rfl ?_
          refine r_zret (pc := 42) C dX8_isLiked_42 rfl (by first | exact Or.inl rfl | exact Or.inr rfl | assumption) (by omega) (by omega) ?_
          exact ⟨by rw [e, show liked M n t = true from hu]; rfl, rfl⟩
        · exact absurd (Int32.le_refl _) c17
      · intro i u hi hu ih
        refine r_iload_n (pc := 11) C dX8_isLiked_11 rfl ?_
        refine r_aload_n (pc := 12) C dX8_isLiked_12 rfl ?_
        refine r_getR (pc := 13) C dX8_isLiked_13 fx_RX8_41 (hG.tk ht) h6.1 ?_
        refine r_alen (pc := 16) C dX8_isLiked_16 h6.2.1 (by first | decide | omega) ?_
        rw [h6.2.2]
        refine r_icmp_ge (pc := 17) (tgt := 41) C dX8_isLiked_17 (by decide) (fun c17 => ?_) (fun c17 => ?_)
        · exact absurd c17 (nI_ge hi (by omega))
        · refine r_aload_n (pc := 20) C dX8_isLiked_20 rfl ?_
          refine r_getR (pc := 21) C dX8_isLiked_21 fx_RX8_41 (hG.tk ht) h6.1 ?_
          refine r_iload_n (pc := 24) C dX8_isLiked_24 rfl ?_
          refine r_aald (pc := 25) C dX8_isLiked_25 h6.2.1 (by decide) h6.2.2 (by first | assumption | exact vp_in_nI (by omega) (by omega)) (by first | exact nI_clamp (by omega) | rfl) ?_
          rw [(hP i hi).1]
          refine r_getR (pc := 26) C dX8_isLiked_26 fx_RX8_87 (hG.o (hP i hi).2).1 (hO _ (hP i hi).2).1 ?_
          refine r_aload_n (pc := 29) C dX8_isLiked_29 rfl ?_
          refine r_acmp_eq (pc := 30) (tgt := 35) C dX8_isLiked_30 (by decide) (fun c30 => ?_) (fun c30 => ?_)
          · refine r_iinc (pc := 35) C _ dX8_isLiked_35 rfl (nI_1 _) (by decide) rfl ?_
            refine r_goto (pc := 38) (tgt := 11) C dX8_isLiked_38 (by decide) ?_
            exact r_lv C [(0, vr (some (T t))), (1, vi (nI (i + 1)))] rfl (ih u (allU_s hu (decide_eq_true ((fi i hi).mp c30))))
          · refine r_iconst (pc := 33) C (nI 0) dX8_isLiked_33 rfl ?_
            refine r_zret (pc := 34) C dX8_isLiked_34 rfl (by first | exact Or.inl rfl | exact Or.inr rfl | assumption) (by omega) (by omega) ?_
            exact ⟨by rw [e, show liked M n t = false from allU_no (f := fun i => decide (M 22 (out M n t i) = nI t)) (decide_eq_false (fun q => c30 ((fi i hi).mpr q))) hi]; rfl, rfl⟩
    refine r_aload_n (pc := 0) C dX8_isLiked_0 rfl ?_
    refine r_callV (pc := 1) C (cg_isHeld hG hH (by omega) ht) iX8_isHeld ml_RX8_70 dX8_isLiked_1 (ci := 9) rfl rfl (hG.tk ht) rfl (by decide) rfl (by simp [cv, Value.category, va_rf]) (by omega) (by omega) (fun r1 S1 h1 => ?_)
    obtain ⟨rfl, e1⟩ := h1
    subst S1
    dsimp only [Option.toList, List.cons_append, List.nil_append]
    rw [e]
    refine r_if_ne (pc := 4) (tgt := 9) C dX8_isLiked_4 (by decide) (fun c4 => ?_) (fun c4 => ?_)
    · refine r_iconst (pc := 9) C (nI 0) dX8_isLiked_9 rfl ?_
      refine r_istore_n (pc := 10) C dX8_isLiked_10 (by decide) rfl ?_
      exact r_lv C [(0, vr (some (T t))), (1, vi (nI 0))] rfl (L 0 () (by omega) rfl)
    · exact absurd c4 (by decide)
theorem cg_shares {u : Nat} (hG : GS S po go T O M n) (hR : Rk (M 11) t) (hRu : Rk (M 11) u) (ht : t < n) (hu : u < n) (hP : ST S T O M n t) (hQ : ST S T O M n u) : Sp l g mX8_sharesSetWith 0 0 [vr (some (T t)), vr (some (T u))] S (fun r S' => r = some (vi (bi (anyU (fun i => anyU (fun j => decide (out M n t i = out M n u j)) (nX (M 11) u)) (nX (M 11) t)))) ∧ S' = S) := by
  have h6 := hG.r7 ht
  have h7 := hG.r7 hu
  have h4 := hR.2.2.1
  have h5 := hRu.2.2.1
  have oi : ∀ i j, i < nX (M 11) t → j < nX (M 11) u → (some (O (out M n t i)) = some (O (out M n u j)) ↔ out M n t i = out M n u j) := fun i j hi hj => ⟨fun q => hG.oinj (hP i hi).2 (hQ j hj).2 (Option.some.inj q), fun q => by rw [q]⟩
  refine Sp.start (own := RX8) [(0, vr (some (T t))), (1, vr (some (T u)))] (by decide +kernel) rfl rfl (Nat.le_of_ble_eq_true rfl) ?_
  intro J C
  have L : ∀ i (z : Unit), i ≤ nX (M 11) t → anyU (fun i => anyU (fun j => decide (out M n t i = out M n u j)) (nX (M 11) u)) i = false → J 2 [(0, vr (some (T t))), (1, vr (some (T u))), (2, vi (nI i))] [] S 0 0 := by
    refine up_loop _ _ _ ?_ ?_
    · intro z hz
      refine r_iload_n (pc := 2) C dX8_sharesSetWith_2 rfl ?_
      refine r_aload_n (pc := 3) C dX8_sharesSetWith_3 rfl ?_
      refine r_getR (pc := 4) C dX8_sharesSetWith_4 fx_RX8_41 (hG.tk ht) h6.1 ?_
      refine r_alen (pc := 7) C dX8_sharesSetWith_7 h6.2.1 (by first | decide | omega) ?_
      rw [h6.2.2]
      refine r_icmp_ge (pc := 8) (tgt := 51) C dX8_sharesSetWith_8 (by decide) (fun c8 => ?_) (fun c8 => ?_)
      · refine r_iconst (pc := 51) C (nI 0) dX8_sharesSetWith_51 rfl ?_
        refine r_zret (pc := 52) C dX8_sharesSetWith_52 rfl (by first | exact Or.inl rfl | exact Or.inr rfl | assumption) (by omega) (by omega) ?_
        exact ⟨by rw [hz]; rfl, rfl⟩
      · exact absurd (Int32.le_refl _) c8
    · intro i z hi hz ih
      have L2 : ∀ j (z : Unit), j ≤ nX (M 11) u → anyU (fun j => decide (out M n t i = out M n u j)) j = false → J 13 [(0, vr (some (T t))), (1, vr (some (T u))), (2, vi (nI i)), (3, vi (nI j))] [] S 0 0 := by
        refine up_loop _ _ _ ?_ ?_
        · intro z2 hz2
          refine r_iload_n (pc := 13) C dX8_sharesSetWith_13 rfl ?_
          refine r_aload_n (pc := 14) C dX8_sharesSetWith_14 rfl ?_
          refine r_getR (pc := 15) C dX8_sharesSetWith_15 fx_RX8_41 (hG.tk hu) h7.1 ?_
          refine r_alen (pc := 18) C dX8_sharesSetWith_18 h7.2.1 (by first | decide | omega) ?_
          rw [h7.2.2]
          refine r_icmp_ge (pc := 19) (tgt := 45) C dX8_sharesSetWith_19 (by decide) (fun c19 => ?_) (fun c19 => ?_)
          · refine r_iinc (pc := 45) C _ dX8_sharesSetWith_45 rfl (nI_1 _) (by decide) rfl ?_
            refine r_goto (pc := 48) (tgt := 2) C dX8_sharesSetWith_48 (by decide) ?_
            exact r_lv C [(0, vr (some (T t))), (1, vr (some (T u))), (2, vi (nI (i + 1)))] rfl (ih z (anyU_s hz hz2))
          · exact absurd (Int32.le_refl _) c19
        · intro j z2 hj hz2 ih2
          refine r_iload_n (pc := 13) C dX8_sharesSetWith_13 rfl ?_
          refine r_aload_n (pc := 14) C dX8_sharesSetWith_14 rfl ?_
          refine r_getR (pc := 15) C dX8_sharesSetWith_15 fx_RX8_41 (hG.tk hu) h7.1 ?_
          refine r_alen (pc := 18) C dX8_sharesSetWith_18 h7.2.1 (by first | decide | omega) ?_
          rw [h7.2.2]
          refine r_icmp_ge (pc := 19) (tgt := 45) C dX8_sharesSetWith_19 (by decide) (fun c19 => ?_) (fun c19 => ?_)
          · exact absurd c19 (nI_ge hj (by omega))
          · refine r_aload_n (pc := 22) C dX8_sharesSetWith_22 rfl ?_
            refine r_getR (pc := 23) C dX8_sharesSetWith_23 fx_RX8_41 (hG.tk ht) h6.1 ?_
            refine r_iload_n (pc := 26) C dX8_sharesSetWith_26 rfl ?_
            refine r_aald (pc := 27) C dX8_sharesSetWith_27 h6.2.1 (by decide) h6.2.2 (by first | assumption | exact vp_in_nI (by omega) (by omega)) (by first | exact nI_clamp (by omega) | rfl) ?_
            rw [(hP i hi).1]
            refine r_aload_n (pc := 28) C dX8_sharesSetWith_28 rfl ?_
            refine r_getR (pc := 29) C dX8_sharesSetWith_29 fx_RX8_41 (hG.tk hu) h7.1 ?_
            refine r_iload_n (pc := 32) C dX8_sharesSetWith_32 rfl ?_
            refine r_aald (pc := 33) C dX8_sharesSetWith_33 h7.2.1 (by decide) h7.2.2 (by first | assumption | exact vp_in_nI (by omega) (by omega)) (by first | exact nI_clamp (by omega) | rfl) ?_
            rw [(hQ j hj).1]
            refine r_acmp_ne (pc := 34) (tgt := 39) C dX8_sharesSetWith_34 (by decide) (fun c34 => ?_) (fun c34 => ?_)
            · refine r_iinc (pc := 39) C _ dX8_sharesSetWith_39 rfl (nI_1 _) (by decide) rfl ?_
              refine r_goto (pc := 42) (tgt := 13) C dX8_sharesSetWith_42 (by decide) ?_
              exact r_lv C [(0, vr (some (T t))), (1, vr (some (T u))), (2, vi (nI i)), (3, vi (nI (j + 1)))] rfl (ih2 z2 (anyU_s hz2 (decide_eq_false (fun q => c34 ((oi i j hi hj).mpr q)))))
            · refine r_iconst (pc := 37) C (nI 1) dX8_sharesSetWith_37 rfl ?_
              refine r_zret (pc := 38) C dX8_sharesSetWith_38 rfl (by first | exact Or.inl rfl | exact Or.inr rfl | assumption) (by omega) (by omega) ?_
              exact ⟨by rw [anyU_t (f := fun i => anyU (fun j => decide (out M n t i = out M n u j)) (nX (M 11) u)) hi (anyU_t (f := fun j => decide (out M n t i = out M n u j)) hj (decide_eq_true ((oi i j hi hj).mp c34)))]; rfl, rfl⟩
      refine r_iload_n (pc := 2) C dX8_sharesSetWith_2 rfl ?_
      refine r_aload_n (pc := 3) C dX8_sharesSetWith_3 rfl ?_
      refine r_getR (pc := 4) C dX8_sharesSetWith_4 fx_RX8_41 (hG.tk ht) h6.1 ?_
      refine r_alen (pc := 7) C dX8_sharesSetWith_7 h6.2.1 (by first | decide | omega) ?_
      rw [h6.2.2]
      refine r_icmp_ge (pc := 8) (tgt := 51) C dX8_sharesSetWith_8 (by decide) (fun c8 => ?_) (fun c8 => ?_)
      · exact absurd c8 (nI_ge hi (by omega))
      · refine r_iconst (pc := 11) C (nI 0) dX8_sharesSetWith_11 rfl ?_
        refine r_istore_n (pc := 12) C dX8_sharesSetWith_12 (by decide) rfl ?_
        exact r_lv C [(0, vr (some (T t))), (1, vr (some (T u))), (2, vi (nI i)), (3, vi (nI 0))] rfl (L2 0 () (by omega) rfl)
  refine r_iconst (pc := 0) C (nI 0) dX8_sharesSetWith_0 rfl ?_
  refine r_istore_n (pc := 1) C dX8_sharesSetWith_1 (by decide) rfl ?_
  exact r_lv C [(0, vr (some (T t))), (1, vr (some (T u))), (2, vi (nI 0))] rfl (L 0 () (by omega) rfl)
theorem cg_outputAt {ix : Int32} (hG : GS S po go T O M n) (hR : Rk (M 11) t) (ht : t < n) : Sp l g mX8_outputAt 0 0 [vr (some (T t)), vi ix] S (fun r S' => r = some (vr ((ixo M t ix).map (fun i => O (onum t i)))) ∧ S' = S) := by
  have h6 := hG.r5 ht
  have h4 := hR.2.2.2.1
  refine Sp.start (own := RX8) [(0, vr (some (T t))), (1, vi ix)] (by decide +kernel) rfl rfl (Nat.le_of_ble_eq_true rfl) ?_
  intro J C
  refine r_iload_n (pc := 0) C dX8_outputAt_0 rfl ?_
  refine r_if_lt (pc := 1) (tgt := 13) C dX8_outputAt_1 (by decide) (fun c1 => ?_) (fun c1 => ?_)
  · have e : ixo M t ix = none := by unfold ixo; rw [if_pos (Or.inl c1)]
    refine r_null (pc := 13) C dX8_outputAt_13 ?_
    refine r_goto (pc := 14) (tgt := 23) C dX8_outputAt_14 (by decide) ?_
    refine r_aret (pc := 23) C dX8_outputAt_23 rfl (Or.inl ⟨_, rfl⟩) (by omega) (by omega) ?_
    exact ⟨by rw [e]; rfl, rfl⟩
  · refine r_iload_n (pc := 4) C dX8_outputAt_4 rfl ?_
    refine r_aload_n (pc := 5) C dX8_outputAt_5 rfl ?_
    refine r_getR (pc := 6) C dX8_outputAt_6 fx_RX8_31 (hG.tk ht) h6.1 ?_
    refine r_alen (pc := 9) C dX8_outputAt_9 h6.2.1 (by first | decide | omega) ?_
    rw [h6.2.2]
    refine r_icmp_lt (pc := 10) (tgt := 17) C dX8_outputAt_10 (by decide) (fun c10 => ?_) (fun c10 => ?_)
    · have e : ixo M t ix = some ix.toNatClampNeg := by unfold ixo; rw [if_neg (fun q => q.elim c1 (fun q => absurd c10 (Int32.not_lt.mpr q)))]
      obtain ⟨e1, e2⟩ := ixo_some e (by omega)
      generalize ix.toNatClampNeg = i at e e1 e2
      subst e1
      refine r_aload_n (pc := 17) C dX8_outputAt_17 rfl ?_
      refine r_getR (pc := 18) C dX8_outputAt_18 fx_RX8_31 (hG.tk ht) h6.1 ?_
      refine r_iload_n (pc := 21) C dX8_outputAt_21 rfl ?_
      refine r_aald (pc := 22) C dX8_outputAt_22 h6.2.1 (by decide) h6.2.2 (by first | assumption | exact vp_in_nI (by omega) (by omega)) (by first | exact nI_clamp (by omega) | rfl) ?_
      rw [(hG.t ht).2.2.2.2.2.1.2 i e2]
      refine r_aret (pc := 23) C dX8_outputAt_23 rfl (Or.inl ⟨_, rfl⟩) (by omega) (by omega) ?_
      exact ⟨by rw [e]; rfl, rfl⟩
    · have e : ixo M t ix = none := by unfold ixo; rw [if_pos (Or.inr (Int32.not_lt.mp c10))]
      refine r_null (pc := 13) C dX8_outputAt_13 ?_
      refine r_goto (pc := 14) (tgt := 23) C dX8_outputAt_14 (by decide) ?_
      refine r_aret (pc := 23) C dX8_outputAt_23 rfl (Or.inl ⟨_, rfl⟩) (by omega) (by omega) ?_
      exact ⟨by rw [e]; rfl, rfl⟩
theorem cg_unspAt {ix : Int32} (hG : GS S po go T O M n) (hR : Rk (M 11) t) (hT : TD S T n st cf ch pd) (hO : OD S T O M n fv lt ac rn) (ht : t < n) : Sp l g mX8_unspentAt 0 0 [vr (some (T t)), vi ix] S (fun r S' => r = some (vi (match ixo M t ix with
    | none => nI 0
    | some i => if st t = nI 3 ∧ ac (onum t i) = none then amt (M 11) t i else nI 0)) ∧ S' = S) := by
  have h4 := hR.2.2.2.1
  refine Sp.start (own := RX8) [(0, vr (some (T t))), (1, vi ix)] (by decide +kernel) rfl rfl (Nat.le_of_ble_eq_true rfl) ?_
  intro J C
  cases e : ixo M t ix with
  | none =>
    refine r_aload_n (pc := 0) C dX8_unspentAt_0 rfl ?_
    refine r_iload_n (pc := 1) C dX8_unspentAt_1 rfl ?_
    refine r_callV (pc := 2) C (cg_outputAt hG hR ht) iX8_outputAt ml_RX8_90 dX8_unspentAt_2 (ci := 9) rfl rfl (hG.tk ht) rfl (by decide) rfl (by simp [cv, Value.category, va_rf]) (by omega) (by omega) (fun r2 S2 h2 => ?_)
    obtain ⟨rfl, e2⟩ := h2
    subst S2
    dsimp only [Option.toList, List.cons_append, List.nil_append]
    rw [e]
    refine r_astore_n (pc := 5) C dX8_unspentAt_5 (by decide) rfl ?_
    refine r_aload_n (pc := 6) C dX8_unspentAt_6 rfl ?_
    refine r_getI (pc := 7) C dX8_unspentAt_7 fx_RX8_51 (hG.tk ht) ?_
    rw [(hT t ht).1]
    refine r_iconst (pc := 10) C (nI 3) dX8_unspentAt_10 rfl ?_
    refine r_icmp_ne (pc := 11) (tgt := 29) C dX8_unspentAt_11 (by decide) (fun c11 => ?_) (fun c11 => ?_)
    · refine r_iconst (pc := 29) C (nI 0) dX8_unspentAt_29 rfl ?_
      refine r_istore_n (pc := 30) C dX8_unspentAt_30 (by decide) rfl ?_
      refine r_iload_n (pc := 31) C dX8_unspentAt_31 rfl ?_
      refine r_if_eq (pc := 32) (tgt := 42) C dX8_unspentAt_32 (by decide) (fun c32 => ?_) (fun c32 => ?_)
      · refine r_iconst (pc := 42) C (nI 0) dX8_unspentAt_42 rfl ?_
        refine r_iret (pc := 43) C dX8_unspentAt_43 rfl (by omega) (by omega) ?_
        exact ⟨by rw [e], rfl⟩
      · exact absurd rfl c32
    · refine r_aload_n (pc := 14) C dX8_unspentAt_14 rfl ?_
      refine r_ifnull (pc := 15) (tgt := 29) C dX8_unspentAt_15 (by decide) (fun c15 => ?_) (fun a15 c15 => ?_)
      · refine r_iconst (pc := 29) C (nI 0) dX8_unspentAt_29 rfl ?_
        refine r_istore_n (pc := 30) C dX8_unspentAt_30 (by decide) rfl ?_
        refine r_iload_n (pc := 31) C dX8_unspentAt_31 rfl ?_
        refine r_if_eq (pc := 32) (tgt := 42) C dX8_unspentAt_32 (by decide) (fun c32 => ?_) (fun c32 => ?_)
        · refine r_iconst (pc := 42) C (nI 0) dX8_unspentAt_42 rfl ?_
          refine r_iret (pc := 43) C dX8_unspentAt_43 rfl (by omega) (by omega) ?_
          exact ⟨by rw [e], rfl⟩
        · exact absurd rfl c32
      · cases c15
  | some i =>
    obtain ⟨e1, e2⟩ := ixo_some e (by omega)
    have ho : oV M n (onum t i) := ⟨t, i, ht, e2, rfl⟩
    have K0 : (if st t = nI 3 ∧ ac (onum t i) = none then amt (M 11) t i else nI 0) = nI 0 → J 30 [(0, vr (some (T t))), (1, vi ix), (2, vr (some (O (onum t i))))] [vi (nI 0)] S 0 0 := by
      intro ev
      refine r_istore_n (pc := 30) C dX8_unspentAt_30 (by decide) rfl ?_
      refine r_iload_n (pc := 31) C dX8_unspentAt_31 rfl ?_
      refine r_if_eq (pc := 32) (tgt := 42) C dX8_unspentAt_32 (by decide) (fun c32 => ?_) (fun c32 => ?_)
      · refine r_iconst (pc := 42) C (nI 0) dX8_unspentAt_42 rfl ?_
        refine r_iret (pc := 43) C dX8_unspentAt_43 rfl (by omega) (by omega) ?_
        exact ⟨by rw [e]; dsimp only; rw [ev], rfl⟩
      · exact absurd rfl c32
    have K1 : (if st t = nI 3 ∧ ac (onum t i) = none then amt (M 11) t i else nI 0) = amt (M 11) t i → J 30 [(0, vr (some (T t))), (1, vi ix), (2, vr (some (O (onum t i))))] [vi (nI 1)] S 0 0 := by
      intro ev
      refine r_istore_n (pc := 30) C dX8_unspentAt_30 (by decide) rfl ?_
      refine r_iload_n (pc := 31) C dX8_unspentAt_31 rfl ?_
      refine r_if_eq (pc := 32) (tgt := 42) C dX8_unspentAt_32 (by decide) (fun c32 => ?_) (fun c32 => ?_)
      · exact absurd c32 (by decide)
      · refine r_aload_n (pc := 35) C dX8_unspentAt_35 rfl ?_
        refine r_getI (pc := 36) C dX8_unspentAt_36 fx_RX8_80 (hG.o ho).1 ?_
        rw [hG.am ht e2]
        refine r_goto (pc := 39) (tgt := 43) C dX8_unspentAt_39 (by decide) ?_
        refine r_iret (pc := 43) C dX8_unspentAt_43 rfl (by omega) (by omega) ?_
        exact ⟨by rw [e]; dsimp only; rw [ev], rfl⟩
    refine r_aload_n (pc := 0) C dX8_unspentAt_0 rfl ?_
    refine r_iload_n (pc := 1) C dX8_unspentAt_1 rfl ?_
    refine r_callV (pc := 2) C (cg_outputAt hG hR ht) iX8_outputAt ml_RX8_90 dX8_unspentAt_2 (ci := 9) rfl rfl (hG.tk ht) rfl (by decide) rfl (by simp [cv, Value.category, va_rf]) (by omega) (by omega) (fun r2 S2 h2 => ?_)
    obtain ⟨rfl, e2⟩ := h2
    subst S2
    dsimp only [Option.toList, List.cons_append, List.nil_append]
    rw [e]
    dsimp only [Option.map_some]
    refine r_astore_n (pc := 5) C dX8_unspentAt_5 (by decide) rfl ?_
    refine r_aload_n (pc := 6) C dX8_unspentAt_6 rfl ?_
    refine r_getI (pc := 7) C dX8_unspentAt_7 fx_RX8_51 (hG.tk ht) ?_
    rw [(hT t ht).1]
    refine r_iconst (pc := 10) C (nI 3) dX8_unspentAt_10 rfl ?_
    refine r_icmp_ne (pc := 11) (tgt := 29) C dX8_unspentAt_11 (by decide) (fun c11 => ?_) (fun c11 => ?_)
    · have ev := K0 (if_neg (fun q => c11 q.1))
      refine r_iconst (pc := 29) C (nI 0) dX8_unspentAt_29 rfl ?_
      exact r_lv C [(0, vr (some (T t))), (1, vi ix), (2, vr (some (O (onum t i))))] rfl ev
    · refine r_aload_n (pc := 14) C dX8_unspentAt_14 rfl ?_
      refine r_ifnull (pc := 15) (tgt := 29) C dX8_unspentAt_15 (by decide) (fun c15 => ?_) (fun a15 c15 => ?_)
      · cases c15
      · refine r_aload_n (pc := 18) C dX8_unspentAt_18 rfl ?_
        refine r_getR (pc := 19) C dX8_unspentAt_19 fx_RX8_83 (hG.o ho).1 (hO _ ho).2.2.1 ?_
        refine r_ifnonnull (pc := 22) (tgt := 29) C dX8_unspentAt_22 (by decide) (fun a22 c22 => ?_) (fun c22 => ?_)
        · have ev := K0 (if_neg (fun q => by rw [q.2] at c22; cases c22))
          refine r_iconst (pc := 29) C (nI 0) dX8_unspentAt_29 rfl ?_
          exact r_lv C [(0, vr (some (T t))), (1, vi ix), (2, vr (some (O (onum t i))))] rfl ev
        · have ev := K1 (if_pos ⟨c11, by cases ea : ac (onum t i) with | none => rfl | some v => rw [ea] at c22; cases c22⟩)
          refine r_iconst (pc := 25) C (nI 1) dX8_unspentAt_25 rfl ?_
          refine r_goto (pc := 26) (tgt := 30) C dX8_unspentAt_26 (by decide) ?_
          exact r_lv C [(0, vr (some (T t))), (1, vi ix), (2, vr (some (O (onum t i))))] rfl ev
end ReadT
