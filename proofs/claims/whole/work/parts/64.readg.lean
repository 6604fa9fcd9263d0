/-! The class: what is read of the graph -/
theorem LA.k {g : GG} {S : hS} {a κ N : Nat} {f : Nat → Nat} (h : LA g S a κ N f) : sK S a = 1 := by
  obtain ⟨h1, e, h2, h3, h4⟩ := h
  exact h2
def Uq (M : MM) (n : Nat) : Prop := ∀ i j, i < n → j < n → M 10 i = M 10 j → i = j
theorem Uq.fd {M : MM} {n i : Nat} (hU : Uq M n) (hi : i < n) : fdo (M 10) (M 10 i) n = some i := by
  cases e : fdo (M 10) (M 10 i) n with
  | none => exact absurd rfl (fdo_none e i hi)
  | some p =>
    obtain ⟨h1, h2⟩ := fdo_some e
    rw [hU p i h1 hi h2]
theorem fdo_no {f : Nat → Int32} {x : Int32} {n : Nat} (h : ∀ i, i < n → f i ≠ x) : fdo f x n = none := by
  cases e : fdo f x n with
  | none => rfl
  | some p => obtain ⟨h1, h2⟩ := fdo_some e; exact absurd h2 (h p h1)
section ReadG
variable {l : Launch} {g : GG} {S : hS} {po go n h a t : Nat} {T O : Nat → Nat} {M : MM} {st cf ch pd rn : Nat → Int32} {fv lt ac : Nat → Option Nat} {mL : Nat → List Nat}
theorem LD.l0 (hL : LD g S po go T O M n h a mL) : LA g S (rA S 302 go) 104 n T := hL.1
theorem LD.l1 (hL : LD g S po go T O M n h a mL) : LA g S (rA S 303 go) 105 h (fun k => T (hdN M k)) := hL.2.1
theorem LD.l2 (hL : LD g S po go T O M n h a mL) : LA g S (rA S 304 go) 106 a (fun i => T (acN M i)) := hL.2.2.1
theorem LD.l4 (hL : LD g S po go T O M n h a mL) {s : Nat} (hs : oV M n s) : LA g S (rA S 401 (O s)) (108 + s) (mL s).length (fun i => T ((mL s).getD i 0)) := by
  have := hL.2.2.2 s hs
  rwa [lad4] at this
theorem cg_find {x : Int32} (hG : GS S po go T O M n) (hL : LA g S (rA S 302 go) 104 n T) (hU : Uq M n) (hn : n ≤ 140) : Sp l g mX2_find 0 0 [vr (some go), vi x] S (fun r S' => r = some (vr ((fdo (M 10) x n).map T)) ∧ S' = S) := by
  refine Sp.start (own := RX2) [(0, vr (some go)), (1, vi x)] (by decide +kernel) rfl rfl (Nat.le_of_ble_eq_true rfl) ?_
  intro J C
  have L : ∀ i (u : Unit), i ≤ n → (∀ j, j < i → M 10 j ≠ x) → J 2 [(0, vr (some go)), (1, vi x), (2, vi (nI i))] [] S 0 0 := by
    refine up_loop _ _ _ ?_ ?_
    · intro u hu
      refine r_iload_n (pc := 2) C dX2_find_2 rfl ?_
      refine r_aload_n (pc := 3) C dX2_find_3 rfl ?_
      refine r_getR (pc := 4) C dX2_find_4 fx_RX2_21 hG.gk hG.1.2.1 ?_
      refine r_callV (pc := 7) C (ct_size hL) iJx4a65c_size_8abf5 ml_RX2_60 dX2_find_7 (ci := 0) rfl rfl hL.k rfl (by decide) rfl (by simp [cv, Value.category, va_rf]) (by omega) (by omega) (fun r7 S7 h7 => ?_)
      obtain ⟨rfl, e7⟩ := h7
      subst S7
      dsimp only [Option.toList, List.cons_append, List.nil_append]
      refine r_icmp_ge (pc := 10) (tgt := 49) C dX2_find_10 (by decide) (fun c10 => ?_) (fun c10 => ?_)
      · refine r_null (pc := 49) C dX2_find_49 ?_
        refine r_aret (pc := 50) C dX2_find_50 rfl (Or.inl ⟨_, rfl⟩) (by omega) (by omega) ?_
        exact ⟨by rw [fdo_no hu]; rfl, rfl⟩
      · exact absurd (Int32.le_refl _) c10
    · intro i u hi hu ih
      refine r_iload_n (pc := 2) C dX2_find_2 rfl ?_
      refine r_aload_n (pc := 3) C dX2_find_3 rfl ?_
      refine r_getR (pc := 4) C dX2_find_4 fx_RX2_21 hG.gk hG.1.2.1 ?_
      refine r_callV (pc := 7) C (ct_size hL) iJx4a65c_size_8abf5 ml_RX2_60 dX2_find_7 (ci := 0) rfl rfl hL.k rfl (by decide) rfl (by simp [cv, Value.category, va_rf]) (by omega) (by omega) (fun r7 S7 h7 => ?_)
      obtain ⟨rfl, e7⟩ := h7
      subst S7
      dsimp only [Option.toList, List.cons_append, List.nil_append]
      refine r_icmp_ge (pc := 10) (tgt := 49) C dX2_find_10 (by decide) (fun c10 => ?_) (fun c10 => ?_)
      · exact absurd c10 (nI_ge hi (by omega))
      · refine r_aload_n (pc := 13) C dX2_find_13 rfl ?_
        refine r_getR (pc := 14) C dX2_find_14 fx_RX2_21 hG.gk hG.1.2.1 ?_
        refine r_iload_n (pc := 17) C dX2_find_17 rfl ?_
        refine r_callV (pc := 18) C (ct_get (by omega) (by omega) hL hi) iJx4a65c_get_915e3 ml_RX2_64 dX2_find_18 (ci := 0) rfl rfl hL.k rfl (by decide) rfl (by simp [cv, Value.category, va_rf]) (by omega) (by omega) (fun r18 S18 h18 => ?_)
        obtain ⟨rfl, e18⟩ := h18
        subst S18
        dsimp only [Option.toList, List.cons_append, List.nil_append]
        refine r_cast (pc := 21) C dX2_find_21 (ci := 9) rfl kl_RX2_49 (hG.tk hi) ?_
        refine r_getI (pc := 24) C dX2_find_24 fx_RX2_68 (hG.tk hi) ?_
        rw [hG.id hi]
        refine r_iload_n (pc := 27) C dX2_find_27 rfl ?_
        refine r_icmp_ne (pc := 28) (tgt := 43) C dX2_find_28 (by decide) (fun c28 => ?_) (fun c28 => ?_)
        · refine r_iinc (pc := 43) C _ dX2_find_43 rfl (nI_1 _) (by decide) rfl ?_
          refine r_goto (pc := 46) (tgt := 2) C dX2_find_46 (by decide) ?_
          refine r_lv C [(0, vr (some go)), (1, vi x), (2, vi (nI (i + 1)))] rfl (ih u ?_)
          intro j hj
          by_cases e : j = i
          · rw [e]; exact c28
          · exact hu j (by omega)
        · refine r_aload_n (pc := 31) C dX2_find_31 rfl ?_
          refine r_getR (pc := 32) C dX2_find_32 fx_RX2_21 hG.gk hG.1.2.1 ?_
          refine r_iload_n (pc := 35) C dX2_find_35 rfl ?_
          refine r_callV (pc := 36) C (ct_get (by omega) (by omega) hL hi) iJx4a65c_get_915e3 ml_RX2_64 dX2_find_36 (ci := 0) rfl rfl hL.k rfl (by decide) rfl (by simp [cv, Value.category, va_rf]) (by omega) (by omega) (fun r36 S36 h36 => ?_)
          obtain ⟨rfl, e36⟩ := h36
          subst S36
          dsimp only [Option.toList, List.cons_append, List.nil_append]
          refine r_cast (pc := 39) C dX2_find_39 (ci := 9) rfl kl_RX2_49 (hG.tk hi) ?_
          refine r_aret (pc := 42) C dX2_find_42 rfl (Or.inl ⟨_, rfl⟩) (by omega) (by omega) ?_
          exact ⟨by rw [← c28, hU.fd hi]; rfl, rfl⟩
  refine r_iconst (pc := 0) C (nI 0) dX2_find_0 rfl ?_
  refine r_istore_n (pc := 1) C dX2_find_1 (by decide) rfl ?_
  exact r_lv C [(0, vr (some go)), (1, vi x), (2, vi (nI 0))] rfl (L 0 () (by omega) (by intro j hj; omega))
theorem cg_isFull (hG : GS S po go T O M n) (hL : LA g S (rA S 302 go) 104 n T) (hn : n ≤ 140) : Sp l g mX2_isFull 0 0 [vr (some go)] S (fun r S' => r = some (vi (bi (decide (n = 140)))) ∧ S' = S) := by
  refine Sp.start (own := RX2) [(0, vr (some go))] (by decide +kernel) rfl rfl (Nat.le_of_ble_eq_true rfl) ?_
  intro J C
  refine r_aload_n (pc := 0) C dX2_isFull_0 rfl ?_
  refine r_getR (pc := 1) C dX2_isFull_1 fx_RX2_21 hG.gk hG.1.2.1 ?_
  refine r_callV (pc := 4) C (ct_size hL) iJx4a65c_size_8abf5 ml_RX2_60 dX2_isFull_4 (ci := 0) rfl rfl hL.k rfl (by decide) rfl (by simp [cv, Value.category, va_rf]) (by omega) (by omega) (fun r4 S4 h4 => ?_)
  obtain ⟨rfl, e4⟩ := h4
  subst S4
  dsimp only [Option.toList, List.cons_append, List.nil_append]
  refine r_sipush (pc := 7) C (nI 140) dX2_isFull_7 rfl ?_
  refine r_icmp_lt (pc := 10) (tgt := 17) C dX2_isFull_10 (by decide) (fun c10 => ?_) (fun c10 => ?_)
  · refine r_iconst (pc := 17) C (nI 0) dX2_isFull_17 rfl ?_
    refine r_zret (pc := 18) C dX2_isFull_18 rfl (by first | exact Or.inl rfl | exact Or.inr rfl | assumption) (by omega) (by omega) ?_
    first
      | exact ⟨by rw [decide_eq_false (show ¬ n = 140 from fun q => by subst q; exact absurd c10 (by decide))]; rfl, rfl⟩
      | exact ⟨by rw [decide_eq_true (show n = 140 from Classical.not_not.mp (fun q => c10 (nI_lt (by omega) (by omega))))]; rfl, rfl⟩
  · refine r_iconst (pc := 13) C (nI 1) dX2_isFull_13 rfl ?_
    refine r_goto (pc := 14) (tgt := 18) C dX2_isFull_14 (by decide) ?_
    refine r_zret (pc := 18) C dX2_isFull_18 rfl (by first | exact Or.inl rfl | exact Or.inr rfl | assumption) (by omega) (by omega) ?_
    first
      | exact ⟨by rw [decide_eq_false (show ¬ n = 140 from fun q => by subst q; exact absurd c10 (by decide))]; rfl, rfl⟩
      | exact ⟨by rw [decide_eq_true (show n = 140 from Classical.not_not.mp (fun q => c10 (nI_lt (by omega) (by omega))))]; rfl, rfl⟩
theorem cg_countStatus {v : Int32} (hG : GS S po go T O M n) (hL : LA g S (rA S 302 go) 104 n T) (hT : TD S T n st cf ch pd) (hn : n ≤ 140) : Sp l g mX2_countStatus 0 0 [vr (some go), vi v] S (fun r S' => r = some (vi (nI (cntU (fun t => decide (st t = v)) n))) ∧ S' = S) := by
  refine Sp.start (own := RX2) [(0, vr (some go)), (1, vi v)] (by decide +kernel) rfl rfl (Nat.le_of_ble_eq_true rfl) ?_
  intro J C
  have L : ∀ i x, i ≤ n → x = nI (cntU (fun t => decide (st t = v)) i) → J 4 [(0, vr (some go)), (1, vi v), (2, vi x), (3, vi (nI i))] [] S 0 0 := by
    refine up_loop _ _ _ ?_ ?_
    · intro x hx
      refine r_iload_n (pc := 4) C dX2_countStatus_4 rfl ?_
      refine r_aload_n (pc := 5) C dX2_countStatus_5 rfl ?_
      refine r_getR (pc := 6) C dX2_countStatus_6 fx_RX2_21 hG.gk hG.1.2.1 ?_
      refine r_callV (pc := 9) C (ct_size hL) iJx4a65c_size_8abf5 ml_RX2_60 dX2_countStatus_9 (ci := 0) rfl rfl hL.k rfl (by decide) rfl (by simp [cv, Value.category, va_rf]) (by omega) (by omega) (fun r9 S9 h9 => ?_)
      obtain ⟨rfl, e9⟩ := h9
      subst S9
      dsimp only [Option.toList, List.cons_append, List.nil_append]
      refine r_icmp_ge (pc := 12) (tgt := 42) C dX2_countStatus_12 (by decide) (fun c12 => ?_) (fun c12 => ?_)
      · refine r_iload_n (pc := 42) C dX2_countStatus_42 rfl ?_
        refine r_iret (pc := 43) C dX2_countStatus_43 rfl (by omega) (by omega) ?_
        exact ⟨by rw [hx], rfl⟩
      · exact absurd (Int32.le_refl _) c12
    · intro i x hi hx ih
      subst hx
      refine r_iload_n (pc := 4) C dX2_countStatus_4 rfl ?_
      refine r_aload_n (pc := 5) C dX2_countStatus_5 rfl ?_
      refine r_getR (pc := 6) C dX2_countStatus_6 fx_RX2_21 hG.gk hG.1.2.1 ?_
      refine r_callV (pc := 9) C (ct_size hL) iJx4a65c_size_8abf5 ml_RX2_60 dX2_countStatus_9 (ci := 0) rfl rfl hL.k rfl (by decide) rfl (by simp [cv, Value.category, va_rf]) (by omega) (by omega) (fun r9 S9 h9 => ?_)
      obtain ⟨rfl, e9⟩ := h9
      subst S9
      dsimp only [Option.toList, List.cons_append, List.nil_append]
      refine r_icmp_ge (pc := 12) (tgt := 42) C dX2_countStatus_12 (by decide) (fun c12 => ?_) (fun c12 => ?_)
      · exact absurd c12 (nI_ge hi (by omega))
      · refine r_aload_n (pc := 15) C dX2_countStatus_15 rfl ?_
        refine r_getR (pc := 16) C dX2_countStatus_16 fx_RX2_21 hG.gk hG.1.2.1 ?_
        refine r_iload_n (pc := 19) C dX2_countStatus_19 rfl ?_
        refine r_callV (pc := 20) C (ct_get (by omega) (by omega) hL hi) iJx4a65c_get_915e3 ml_RX2_64 dX2_countStatus_20 (ci := 0) rfl rfl hL.k rfl (by decide) rfl (by simp [cv, Value.category, va_rf]) (by omega) (by omega) (fun r20 S20 h20 => ?_)
        obtain ⟨rfl, e20⟩ := h20
        subst S20
        dsimp only [Option.toList, List.cons_append, List.nil_append]
        refine r_cast (pc := 23) C dX2_countStatus_23 (ci := 9) rfl kl_RX2_49 (hG.tk hi) ?_
        refine r_getI (pc := 26) C dX2_countStatus_26 fx_RX2_57 (hG.tk hi) ?_
        rw [(hT i hi).1]
        refine r_iload_n (pc := 29) C dX2_countStatus_29 rfl ?_
        refine r_icmp_ne (pc := 30) (tgt := 36) C dX2_countStatus_30 (by decide) (fun c30 => ?_) (fun c30 => ?_)
        · have e2 := cntU_f (f := fun t => decide (st t = v)) (decide_eq_false c30)
          refine r_iinc (pc := 36) C _ dX2_countStatus_36 rfl (nI_1 _) (by decide) rfl ?_
          refine r_goto (pc := 39) (tgt := 4) C dX2_countStatus_39 (by decide) ?_
          exact r_lv C [(0, vr (some go)), (1, vi v), (2, vi _), (3, vi (nI (i + 1)))] rfl (ih _ (by simp only [e2, Nat.add_zero]))
        · have e2 := cntU_t (f := fun t => decide (st t = v)) (decide_eq_true c30)
          refine r_iinc (pc := 33) C _ dX2_countStatus_33 rfl (nI_1 _) (by decide) rfl ?_
          refine r_iinc (pc := 36) C _ dX2_countStatus_36 rfl (nI_1 _) (by decide) rfl ?_
          refine r_goto (pc := 39) (tgt := 4) C dX2_countStatus_39 (by decide) ?_
          exact r_lv C [(0, vr (some go)), (1, vi v), (2, vi _), (3, vi (nI (i + 1)))] rfl (ih _ (by simp only [e2, Nat.add_zero]))
  refine r_iconst (pc := 0) C (nI 0) dX2_countStatus_0 rfl ?_
  refine r_istore_n (pc := 1) C dX2_countStatus_1 (by decide) rfl ?_
  refine r_iconst (pc := 2) C (nI 0) dX2_countStatus_2 rfl ?_
  refine r_istore_n (pc := 3) C dX2_countStatus_3 (by decide) rfl ?_
  exact r_lv C [(0, vr (some go)), (1, vi v), (2, vi _), (3, vi (nI 0))] rfl (L 0 _ (by omega) rfl)
theorem AN.ann (hA : AN S T M n h) (hh : h ≤ 140) {k : Nat} (hk : k < h) : ∀ j, j < h → abt (aJ S 80 (rA S 908 (T (hdN M k)))) j = anc M n h (hdN M k) (hdN M j) := fun j hj => by
  rw [hA.1 k hk j (by omega), decide_eq_true hj, Bool.true_and]
theorem cg_countDes {u : Nat} (hG : GS S po go T O M n) (hL : LA g S (rA S 303 go) 105 h (fun k => T (hdN M k))) (hH : HN S T M n h) (hA : AN S T M n h) (hh : h ≤ 140) (hd : ∀ k, k < h → hdN M k < n) (hu : u < n) : Sp l g mX2_countDescendants 0 0 [vr (some go), vr (some (T u))] S (fun r S' => r = some (vi (nI (cntU (fun k => hdB M h u && anc M n h (hdN M k) u) h))) ∧ S' = S) := by
  refine Sp.start (own := RX2) [(0, vr (some go)), (1, vr (some (T u)))] (by decide +kernel) rfl rfl (Nat.le_of_ble_eq_true rfl) ?_
  intro J C
  have L : ∀ i x, i ≤ h → x = nI (cntU (fun k => hdB M h u && anc M n h (hdN M k) u) i) → J 4 [(0, vr (some go)), (1, vr (some (T u))), (2, vi x), (3, vi (nI i))] [] S 0 0 := by
    refine up_loop _ _ _ ?_ ?_
    · intro x hx
      refine r_iload_n (pc := 4) C dX2_countDescendants_4 rfl ?_
      refine r_aload_n (pc := 5) C dX2_countDescendants_5 rfl ?_
      refine r_getR (pc := 6) C dX2_countDescendants_6 fx_RX2_25 hG.gk hG.1.2.2.1 ?_
      refine r_callV (pc := 9) C (ct_size hL) iJx4a65c_size_8abf5 ml_RX2_60 dX2_countDescendants_9 (ci := 0) rfl rfl hL.k rfl (by decide) rfl (by simp [cv, Value.category, va_rf]) (by omega) (by omega) (fun r9 S9 h9 => ?_)
      obtain ⟨rfl, e9⟩ := h9
      subst S9
      dsimp only [Option.toList, List.cons_append, List.nil_append]
      refine r_icmp_ge (pc := 12) (tgt := 42) C dX2_countDescendants_12 (by decide) (fun c12 => ?_) (fun c12 => ?_)
      · refine r_iload_n (pc := 42) C dX2_countDescendants_42 rfl ?_
        refine r_iret (pc := 43) C dX2_countDescendants_43 rfl (by omega) (by omega) ?_
        exact ⟨by rw [hx], rfl⟩
      · exact absurd (Int32.le_refl _) c12
    · intro i x hi hx ih
      subst hx
      refine r_iload_n (pc := 4) C dX2_countDescendants_4 rfl ?_
      refine r_aload_n (pc := 5) C dX2_countDescendants_5 rfl ?_
      refine r_getR (pc := 6) C dX2_countDescendants_6 fx_RX2_25 hG.gk hG.1.2.2.1 ?_
      refine r_callV (pc := 9) C (ct_size hL) iJx4a65c_size_8abf5 ml_RX2_60 dX2_countDescendants_9 (ci := 0) rfl rfl hL.k rfl (by decide) rfl (by simp [cv, Value.category, va_rf]) (by omega) (by omega) (fun r9 S9 h9 => ?_)
      obtain ⟨rfl, e9⟩ := h9
      subst S9
      dsimp only [Option.toList, List.cons_append, List.nil_append]
      refine r_icmp_ge (pc := 12) (tgt := 42) C dX2_countDescendants_12 (by decide) (fun c12 => ?_) (fun c12 => ?_)
      · exact absurd c12 (nI_ge hi (by omega))
      · refine r_aload_n (pc := 15) C dX2_countDescendants_15 rfl ?_
        refine r_getR (pc := 16) C dX2_countDescendants_16 fx_RX2_25 hG.gk hG.1.2.2.1 ?_
        refine r_iload_n (pc := 19) C dX2_countDescendants_19 rfl ?_
        refine r_callV (pc := 20) C (ct_get (by omega) (by omega) hL hi) iJx4a65c_get_915e3 ml_RX2_64 dX2_countDescendants_20 (ci := 0) rfl rfl hL.k rfl (by decide) rfl (by simp [cv, Value.category, va_rf]) (by omega) (by omega) (fun r20 S20 h20 => ?_)
        obtain ⟨rfl, e20⟩ := h20
        subst S20
        dsimp only [Option.toList, List.cons_append, List.nil_append]
        refine r_cast (pc := 23) C dX2_countDescendants_23 (ci := 9) rfl kl_RX2_49 (hG.tk (hd i hi)) ?_
        refine r_aload_n (pc := 26) C dX2_countDescendants_26 rfl ?_
        refine r_callV (pc := 27) C (cg_hasAnc hG hH hh (hd i hi) hu (hA.ann hh hi)) iX8_hasAncestor ml_RX2_122 dX2_countDescendants_27 (ci := 9) rfl rfl (hG.tk (hd i hi)) rfl (by decide) rfl (by simp [cv, Value.category, va_rf]) (by omega) (by omega) (fun r27 S27 h27 => ?_)
        obtain ⟨rfl, e27⟩ := h27
        subst S27
        dsimp only [Option.toList, List.cons_append, List.nil_append]
        refine r_if_eq (pc := 30) (tgt := 36) C dX2_countDescendants_30 (by decide) (fun c30 => ?_) (fun c30 => ?_)
        · rw [bi_0] at c30
          have e2 := cntU_f (f := fun k => hdB M h u && anc M n h (hdN M k) u) c30
          refine r_iinc (pc := 36) C _ dX2_countDescendants_36 rfl (nI_1 _) (by decide) rfl ?_
          refine r_goto (pc := 39) (tgt := 4) C dX2_countDescendants_39 (by decide) ?_
          exact r_lv C [(0, vr (some go)), (1, vr (some (T u))), (2, vi _), (3, vi (nI (i + 1)))] rfl (ih _ (by simp only [e2, Nat.add_zero]))
        · rw [bi_0] at c30
          have e2 := cntU_t (f := fun k => hdB M h u && anc M n h (hdN M k) u) (ts_nf c30)
          refine r_iinc (pc := 33) C _ dX2_countDescendants_33 rfl (nI_1 _) (by decide) rfl ?_
          refine r_iinc (pc := 36) C _ dX2_countDescendants_36 rfl (nI_1 _) (by decide) rfl ?_
          refine r_goto (pc := 39) (tgt := 4) C dX2_countDescendants_39 (by decide) ?_
          exact r_lv C [(0, vr (some go)), (1, vr (some (T u))), (2, vi _), (3, vi (nI (i + 1)))] rfl (ih _ (by simp only [e2, Nat.add_zero]))
  refine r_iconst (pc := 0) C (nI 0) dX2_countDescendants_0 rfl ?_
  refine r_istore_n (pc := 1) C dX2_countDescendants_1 (by decide) rfl ?_
  refine r_iconst (pc := 2) C (nI 0) dX2_countDescendants_2 rfl ?_
  refine r_istore_n (pc := 3) C dX2_countDescendants_3 (by decide) rfl ?_
  exact r_lv C [(0, vr (some go)), (1, vr (some (T u))), (2, vi _), (3, vi (nI 0))] rfl (L 0 _ (by omega) rfl)
theorem cg_toPoll (hG : GS S po go T O M n) (hL : LA g S (rA S 303 go) 105 h (fun k => T (hdN M k))) (hT : TD S T n (M 13) cf ch (M 15)) (hh : h ≤ 140) (hd : ∀ k, k < h → hdN M k < n) : Sp l g mX2_firstToPoll 0 0 [vr (some go)] S (fun r S' => r = some (vr ((abo M h).map T)) ∧ S' = S) := by
  refine Sp.start (own := RX2) [(0, vr (some go))] (by decide +kernel) rfl rfl (Nat.le_of_ble_eq_true rfl) ?_
  intro J C
  have L : ∀ i (u : Unit), i ≤ h → fstU (pabt M) i = none → J 2 [(0, vr (some go)), (1, vi (nI i))] [] S 0 0 := by
    refine up_loop _ _ _ ?_ ?_
    · intro u hu
      refine r_iload_n (pc := 2) C dX2_firstToPoll_2 rfl ?_
      refine r_aload_n (pc := 3) C dX2_firstToPoll_3 rfl ?_
      refine r_getR (pc := 4) C dX2_firstToPoll_4 fx_RX2_25 hG.gk hG.1.2.2.1 ?_
      refine r_callV (pc := 7) C (ct_size hL) iJx4a65c_size_8abf5 ml_RX2_60 dX2_firstToPoll_7 (ci := 0) rfl rfl hL.k rfl (by decide) rfl (by simp [cv, Value.category, va_rf]) (by omega) (by omega) (fun r7 S7 h7 => ?_)
      obtain ⟨rfl, e7⟩ := h7
      subst S7
      dsimp only [Option.toList, List.cons_append, List.nil_append]
      refine r_icmp_ge (pc := 10) (tgt := 47) C dX2_firstToPoll_10 (by decide) (fun c10 => ?_) (fun c10 => ?_)
      · refine r_null (pc := 47) C dX2_firstToPoll_47 ?_
        refine r_aret (pc := 48) C dX2_firstToPoll_48 rfl (Or.inl ⟨_, rfl⟩) (by omega) (by omega) ?_
        exact ⟨by rw [abo, hu]; rfl, rfl⟩
      · exact absurd (Int32.le_refl _) c10
    · intro i u hi hu ih
      refine r_iload_n (pc := 2) C dX2_firstToPoll_2 rfl ?_
      refine r_aload_n (pc := 3) C dX2_firstToPoll_3 rfl ?_
      refine r_getR (pc := 4) C dX2_firstToPoll_4 fx_RX2_25 hG.gk hG.1.2.2.1 ?_
      refine r_callV (pc := 7) C (ct_size hL) iJx4a65c_size_8abf5 ml_RX2_60 dX2_firstToPoll_7 (ci := 0) rfl rfl hL.k rfl (by decide) rfl (by simp [cv, Value.category, va_rf]) (by omega) (by omega) (fun r7 S7 h7 => ?_)
      obtain ⟨rfl, e7⟩ := h7
      subst S7
      dsimp only [Option.toList, List.cons_append, List.nil_append]
      refine r_icmp_ge (pc := 10) (tgt := 47) C dX2_firstToPoll_10 (by decide) (fun c10 => ?_) (fun c10 => ?_)
      · exact absurd c10 (nI_ge hi (by omega))
      · refine r_aload_n (pc := 13) C dX2_firstToPoll_13 rfl ?_
        refine r_getR (pc := 14) C dX2_firstToPoll_14 fx_RX2_25 hG.gk hG.1.2.2.1 ?_
        refine r_iload_n (pc := 17) C dX2_firstToPoll_17 rfl ?_
        refine r_callV (pc := 18) C (ct_get (by omega) (by omega) hL hi) iJx4a65c_get_915e3 ml_RX2_64 dX2_firstToPoll_18 (ci := 0) rfl rfl hL.k rfl (by decide) rfl (by simp [cv, Value.category, va_rf]) (by omega) (by omega) (fun r18 S18 h18 => ?_)
        obtain ⟨rfl, e18⟩ := h18
        subst S18
        dsimp only [Option.toList, List.cons_append, List.nil_append]
        refine r_cast (pc := 21) C dX2_firstToPoll_21 (ci := 9) rfl kl_RX2_49 (hG.tk (hd i hi)) ?_
        refine r_astore_n (pc := 24) C dX2_firstToPoll_24 (by decide) rfl ?_
        refine r_aload_n (pc := 25) C dX2_firstToPoll_25 rfl ?_
        refine r_callV (pc := 26) C (cg_isOpen hG hT (hd i hi)) iX8_isOpen ml_RX2_172 dX2_firstToPoll_26 (ci := 9) rfl rfl (hG.tk (hd i hi)) rfl (by decide) rfl (by simp [cv, Value.category, va_rf]) (by omega) (by omega) (fun r26 S26 h26 => ?_)
        obtain ⟨rfl, e26⟩ := h26
        subst S26
        dsimp only [Option.toList, List.cons_append, List.nil_append]
        refine r_if_eq (pc := 29) (tgt := 41) C dX2_firstToPoll_29 (by decide) (fun c29 => ?_) (fun c29 => ?_)
        · rw [bi_0] at c29
          have e2 : pabt M i = false := by simp only [pabt, c29, Bool.false_and]
          refine r_iinc (pc := 41) C _ dX2_firstToPoll_41 rfl (nI_1 _) (by decide) rfl ?_
          refine r_goto (pc := 44) (tgt := 2) C dX2_firstToPoll_44 (by decide) ?_
          exact r_lv C [(0, vr (some go)), (1, vi (nI (i + 1)))] rfl (ih u (by rw [fstU_f e2]; exact hu))
        · rw [bi_0] at c29
          refine r_aload_n (pc := 32) C dX2_firstToPoll_32 rfl ?_
          refine r_getI (pc := 33) C dX2_firstToPoll_33 fx_RX2_207 (hG.tk (hd i hi)) ?_
          rw [(hT _ (hd i hi)).2.2.2]
          refine r_if_ne (pc := 36) (tgt := 41) C dX2_firstToPoll_36 (by decide) (fun c36 => ?_) (fun c36 => ?_)
          · have e2 : pabt M i = false := by simp only [pabt, decide_eq_false c36, Bool.and_false]
            refine r_iinc (pc := 41) C _ dX2_firstToPoll_41 rfl (nI_1 _) (by decide) rfl ?_
            refine r_goto (pc := 44) (tgt := 2) C dX2_firstToPoll_44 (by decide) ?_
            exact r_lv C [(0, vr (some go)), (1, vi (nI (i + 1)))] rfl (ih u (by rw [fstU_f e2]; exact hu))
          · have e2 : pabt M i = true := by simp only [pabt, ts_nf c29, decide_eq_true c36, Bool.and_true]
            refine r_aload_n (pc := 39) C dX2_firstToPoll_39 rfl ?_
            refine r_aret (pc := 40) C dX2_firstToPoll_40 rfl (Or.inl ⟨_, rfl⟩) (by omega) (by omega) ?_
            exact ⟨by rw [abo, fstU_le (fstU_t e2 hu) (show i + 1 ≤ h by omega)]; rfl, rfl⟩
  refine r_iconst (pc := 0) C (nI 0) dX2_firstToPoll_0 rfl ?_
  refine r_istore_n (pc := 1) C dX2_firstToPoll_1 (by decide) rfl ?_
  exact r_lv C [(0, vr (some go)), (1, vi (nI 0))] rfl (L 0 () (by omega) rfl)
theorem cg_accAt {x : Int32} (hG : GS S po go T O M n) (hL : LA g S (rA S 304 go) 106 a (fun i => T (acN M i))) (ha : a ≤ 140) (hA : Acc M n a) : Sp l g mX2_acceptedAt 0 0 [vr (some go), vi x] S (fun r S' => r = some (vr (if x < 0 ∨ nI a ≤ x then none else some (T (acN M x.toNatClampNeg)))) ∧ S' = S) := by
  refine Sp.start (own := RX2) [(0, vr (some go)), (1, vi x)] (by decide +kernel) rfl rfl (Nat.le_of_ble_eq_true rfl) ?_
  intro J C
  refine r_iload_n (pc := 0) C dX2_acceptedAt_0 rfl ?_
  refine r_if_lt (pc := 1) (tgt := 15) C dX2_acceptedAt_1 (by decide) (fun c1 => ?_) (fun c1 => ?_)
  · have e : (if x < 0 ∨ nI a ≤ x then none else some (T (acN M x.toNatClampNeg))) = none := if_pos (Or.inl c1)
    refine r_null (pc := 15) C dX2_acceptedAt_15 ?_
    refine r_goto (pc := 16) (tgt := 30) C dX2_acceptedAt_16 (by decide) ?_
    refine r_aret (pc := 30) C dX2_acceptedAt_30 rfl (Or.inl ⟨_, rfl⟩) (by omega) (by omega) ?_
    exact ⟨by rw [e], rfl⟩
  · refine r_iload_n (pc := 4) C dX2_acceptedAt_4 rfl ?_
    refine r_aload_n (pc := 5) C dX2_acceptedAt_5 rfl ?_
    refine r_getR (pc := 6) C dX2_acceptedAt_6 fx_RX2_28 hG.gk hG.1.2.2.2.1 ?_
    refine r_callV (pc := 9) C (ct_size hL) iJx4a65c_size_8abf5 ml_RX2_60 dX2_acceptedAt_9 (ci := 0) rfl rfl hL.k rfl (by decide) rfl (by simp [cv, Value.category, va_rf]) (by omega) (by omega) (fun r9 S9 h9 => ?_)
    obtain ⟨rfl, e9⟩ := h9
    subst S9
    dsimp only [Option.toList, List.cons_append, List.nil_append]
    refine r_icmp_lt (pc := 12) (tgt := 19) C dX2_acceptedAt_12 (by decide) (fun c12 => ?_) (fun c12 => ?_)
    · have e : (if x < 0 ∨ nI a ≤ x then none else some (T (acN M x.toNatClampNeg))) = some (T (acN M x.toNatClampNeg)) := if_neg (fun q => q.elim c1 (fun q => absurd c12 (Int32.not_lt.mpr q)))
      have hi := nI_lt1 c1 c12 (by omega)
      have ex := nI_self c1
      have hx := hA _ hi
      refine r_aload_n (pc := 19) C dX2_acceptedAt_19 rfl ?_
      refine r_getR (pc := 20) C dX2_acceptedAt_20 fx_RX2_28 hG.gk hG.1.2.2.2.1 ?_
      refine r_iload_n (pc := 23) C dX2_acceptedAt_23 rfl ?_
      rw [← ex]
      refine r_callV (pc := 24) C (ct_get (by omega) (by omega) hL hi) iJx4a65c_get_915e3 ml_RX2_64 dX2_acceptedAt_24 (ci := 0) rfl rfl hL.k rfl (by decide) rfl (by simp [cv, Value.category, va_rf]) (by omega) (by omega) (fun r24 S24 h24 => ?_)
      obtain ⟨rfl, e24⟩ := h24
      subst S24
      dsimp only [Option.toList, List.cons_append, List.nil_append]
      refine r_cast (pc := 27) C dX2_acceptedAt_27 (ci := 9) rfl kl_RX2_49 (hG.tk hx.2) ?_
      refine r_aret (pc := 30) C dX2_acceptedAt_30 rfl (Or.inl ⟨_, rfl⟩) (by omega) (by omega) ?_
      exact ⟨by rw [e], rfl⟩
    · have e : (if x < 0 ∨ nI a ≤ x then none else some (T (acN M x.toNatClampNeg))) = none := if_pos (Or.inr (Int32.not_lt.mp c12))
      refine r_null (pc := 15) C dX2_acceptedAt_15 ?_
      refine r_goto (pc := 16) (tgt := 30) C dX2_acceptedAt_16 (by decide) ?_
      refine r_aret (pc := 30) C dX2_acceptedAt_30 rfl (Or.inl ⟨_, rfl⟩) (by omega) (by omega) ?_
      exact ⟨by rw [e], rfl⟩
theorem cg_isReady {b1 b2 : Int32} (hG : GS S po go T O M n) (hGV : GV M n h) (hF : Fav M n) (hLa : Lat M n) (hB : sI S 300 go = b1 ∧ sI S 301 go = b2) (hT : TD S T n (M 13) cf ch pd) (hO : OD S T O M n (favN M) (latN M) ac (M 24)) (hH : HN S T M n h) (hM : ∀ s, oV M n s → LA g S (rA S 401 (O s)) (108 + s) (mL s).length (fun i => T ((mL s).getD i 0))) (hm : ∀ s, oV M n s → (mL s).length = mbs M n h s) (ht : t < n) (hP : PT S T M n t) (hQ : ST S T O M n t) (hd : hdB M h t = true) : Sp l g mX2_isReady 0 0 [vr (some go), vr (some (T t))] S (fun r S' => r = some (vi (bi ((allU (fun i => decide (M 13 (par M n t i) = nI 3)) (nP (M 11) t) && liked M n t) && allU (fun i => decide (M 23 (out M n t i) = nI t) && !dlt (M 24 (out M n t i)) (need M n h b1 b2 (out M n t i))) (nX (M 11) t)))) ∧ S' = S) := by
  have h7 := hG.r7 ht
  have hR := hGV.2.2.1 t ht
  have h4 := hR.2.2.1
  have hn := hGV.1
  have fi : ∀ i, i < nX (M 11) t → ((latN M (out M n t i)).map T = some (T t) ↔ M 23 (out M n t i) = nI t) := fun i hi => (map_T (fun u v hu hv q => hG.tinj hu hv q) (fun u hu => (hLa _ ((hQ i hi).2.lt hGV)).2 u hu) ht).trans (lat_iff hLa hn ((hQ i hi).2.lt hGV) ht)
  refine Sp.start (own := RX2) [(0, vr (some go)), (1, vr (some (T t)))] (by decide +kernel) rfl rfl (Nat.le_of_ble_eq_true rfl) ?_
  intro J C
  have L : (allU (fun i => decide (M 13 (par M n t i) = nI 3)) (nP (M 11) t) && liked M n t) = true → ∀ i (u : Unit), i ≤ nX (M 11) t → allU (fun i => decide (M 23 (out M n t i) = nI t) && !dlt (M 24 (out M n t i)) (need M n h b1 b2 (out M n t i))) i = true → J 18 [(0, vr (some go)), (1, vr (some (T t))), (2, vi (nI i))] [] S 0 0 := by
    intro h0
    refine up_loop _ _ _ ?_ ?_
    · intro u hu
      refine r_iload_n (pc := 18) C dX2_isReady_18 rfl ?_
      refine r_aload_n (pc := 19) C dX2_isReady_19 rfl ?_
      refine r_getR (pc := 20) C dX2_isReady_20 fx_RX2_135 (hG.tk ht) h7.1 ?_
      refine r_alen (pc := 23) C dX2_isReady_23 h7.2.1 (by first | decide | omega) ?_
      rw [h7.2.2]
      refine r_icmp_ge (pc := 24) (tgt := 83) C dX2_isReady_24 (by decide) (fun c24 => ?_) (fun c24 => ?_)
      · refine r_iconst (pc := 83) C (nI 1) dX2_isReady_83 rfl ?_
        refine r_zret (pc := 84) C dX2_isReady_84 rfl (by first | exact Or.inl rfl | exact Or.inr rfl | assumption) (by omega) (by omega) ?_
        exact ⟨by rw [h0, hu]; rfl, rfl⟩
      · exact absurd (Int32.le_refl _) c24
    · intro i u hi hu ih
      have ho := (hQ i hi).2
      have hml := hM _ ho
      have K : ∀ nd, nd = need M n h b1 b2 (out M n t i) → J 56 [(0, vr (some go)), (1, vr (some (T t))), (2, vi (nI i)), (3, vr (some (O (out M n t i))))] [vi nd] S 0 0 := by
        intro nd hnd
        refine r_istore (pc := 56) C dX2_isReady_56 (by decide) rfl ?_
        refine r_aload_n (pc := 58) C dX2_isReady_58 rfl ?_
        refine r_getR (pc := 59) C dX2_isReady_59 fx_RX2_190 (hG.o ho).1 (hO _ ho).2.1 ?_
        refine r_aload_n (pc := 62) C dX2_isReady_62 rfl ?_
        refine r_acmp_ne (pc := 63) (tgt := 75) C dX2_isReady_63 (by decide) (fun c63 => ?_) (fun c63 => ?_)
        · have e2 : (decide (M 23 (out M n t i) = nI t) && !dlt (M 24 (out M n t i)) (need M n h b1 b2 (out M n t i))) = false := by rw [decide_eq_false (fun q => c63 ((fi i hi).mpr q)), Bool.false_and]
          refine r_iconst (pc := 75) C (nI 0) dX2_isReady_75 rfl ?_
          refine r_zret (pc := 76) C dX2_isReady_76 rfl (by first | exact Or.inl rfl | exact Or.inr rfl | assumption) (by omega) (by omega) ?_
          exact ⟨by rw [allU_no (f := fun i => decide (M 23 (out M n t i) = nI t) && !dlt (M 24 (out M n t i)) (need M n h b1 b2 (out M n t i))) e2 hi, Bool.and_false]; rfl, rfl⟩
        · refine r_aload_n (pc := 66) C dX2_isReady_66 rfl ?_
          refine r_getI (pc := 67) C dX2_isReady_67 fx_RX2_169 (hG.o ho).1 ?_
          rw [(hO _ ho).2.2.2]
          refine r_iload (pc := 70) C dX2_isReady_70 rfl ?_
          refine r_icmp_ge (pc := 72) (tgt := 77) C dX2_isReady_72 (by decide) (fun c72 => ?_) (fun c72 => ?_)
          · have e2 : (decide (M 23 (out M n t i) = nI t) && !dlt (M 24 (out M n t i)) (need M n h b1 b2 (out M n t i))) = true := by rw [← hnd, dlt_f c72, decide_eq_true ((fi i hi).mp c63)]; rfl
            refine r_iinc (pc := 77) C _ dX2_isReady_77 rfl (nI_1 _) (by decide) rfl ?_
            refine r_goto (pc := 80) (tgt := 18) C dX2_isReady_80 (by decide) ?_
            exact r_lv C [(0, vr (some go)), (1, vr (some (T t))), (2, vi (nI (i + 1)))] rfl (ih u (allU_s hu e2))
          · have e2 : (decide (M 23 (out M n t i) = nI t) && !dlt (M 24 (out M n t i)) (need M n h b1 b2 (out M n t i))) = false := by rw [← hnd, dlt_t (Int32.not_le.mp c72), Bool.not_true, Bool.and_false]
            refine r_iconst (pc := 75) C (nI 0) dX2_isReady_75 rfl ?_
            refine r_zret (pc := 76) C dX2_isReady_76 rfl (by first | exact Or.inl rfl | exact Or.inr rfl | assumption) (by omega) (by omega) ?_
            exact ⟨by rw [allU_no (f := fun i => decide (M 23 (out M n t i) = nI t) && !dlt (M 24 (out M n t i)) (need M n h b1 b2 (out M n t i))) e2 hi, Bool.and_false]; rfl, rfl⟩
      refine r_iload_n (pc := 18) C dX2_isReady_18 rfl ?_
      refine r_aload_n (pc := 19) C dX2_isReady_19 rfl ?_
      refine r_getR (pc := 20) C dX2_isReady_20 fx_RX2_135 (hG.tk ht) h7.1 ?_
      refine r_alen (pc := 23) C dX2_isReady_23 h7.2.1 (by first | decide | omega) ?_
      rw [h7.2.2]
      refine r_icmp_ge (pc := 24) (tgt := 83) C dX2_isReady_24 (by decide) (fun c24 => ?_) (fun c24 => ?_)
      · exact absurd c24 (nI_ge hi (by omega))
      · refine r_aload_n (pc := 27) C dX2_isReady_27 rfl ?_
        refine r_getR (pc := 28) C dX2_isReady_28 fx_RX2_135 (hG.tk ht) h7.1 ?_
        refine r_iload_n (pc := 31) C dX2_isReady_31 rfl ?_
        refine r_aald (pc := 32) C dX2_isReady_32 h7.2.1 (by decide) h7.2.2 (by first | assumption | exact vp_in_nI (by omega) (by omega)) (by first | exact nI_clamp (by omega) | rfl) ?_
        rw [(hQ i hi).1]
        refine r_astore_n (pc := 33) C dX2_isReady_33 (by decide) rfl ?_
        refine r_aload_n (pc := 34) C dX2_isReady_34 rfl ?_
        refine r_getR (pc := 35) C dX2_isReady_35 fx_RX2_187 (hG.o ho).1 (hG.o ho).2 ?_
        refine r_callV (pc := 38) C (ct_size hml) iJx4a65c_size_8abf5 ml_RX2_60 dX2_isReady_38 (ci := 0) rfl rfl hml.k rfl (by decide) rfl (by simp [cv, Value.category, va_rf]) (by omega) (by omega) (fun r38 S38 h38 => ?_)
        obtain ⟨rfl, e38⟩ := h38
        subst S38
        dsimp only [Option.toList, List.cons_append, List.nil_append]
        rw [hm _ ho]
        refine r_iconst (pc := 41) C (nI 1) dX2_isReady_41 rfl ?_
        refine r_icmp_ne (pc := 42) (tgt := 52) C dX2_isReady_42 (by decide) (fun c42 => ?_) (fun c42 => ?_)
        · have ev := K _ (show b2 = need M n h b1 b2 (out M n t i) by unfold need; rw [if_neg (fun q => c42 (by rw [q]))])
          refine r_aload_n (pc := 52) C dX2_isReady_52 rfl ?_
          refine r_getI (pc := 53) C dX2_isReady_53 fx_RX2_15 hG.gk ?_
          rw [hB.2]
          exact r_lv C [(0, vr (some go)), (1, vr (some (T t))), (2, vi (nI i)), (3, vr (some (O (out M n t i))))] rfl ev
        · have ev := K _ (show b1 = need M n h b1 b2 (out M n t i) by unfold need; rw [if_pos (nI_inj' c42 (by have := @cntU_le (fun k => inS M n (hdN M k) (out M n t i)) h; have := hGV.2.1; unfold mbs; omega) (by omega))])
          refine r_aload_n (pc := 45) C dX2_isReady_45 rfl ?_
          refine r_getI (pc := 46) C dX2_isReady_46 fx_RX2_9 hG.gk ?_
          rw [hB.1]
          refine r_goto (pc := 49) (tgt := 56) C dX2_isReady_49 (by decide) ?_
          exact r_lv C [(0, vr (some go)), (1, vr (some (T t))), (2, vi (nI i)), (3, vr (some (O (out M n t i))))] rfl ev
  refine r_aload_n (pc := 0) C dX2_isReady_0 rfl ?_
  refine r_callV (pc := 1) C (cg_accPar hG hR hT ht hP) iX8_hasAcceptedParents ml_RX2_181 dX2_isReady_1 (ci := 9) rfl rfl (hG.tk ht) rfl (by decide) rfl (by simp [cv, Value.category, va_rf]) (by omega) (by omega) (fun r1 S1 h1 => ?_)
  obtain ⟨rfl, e1⟩ := h1
  subst S1
  dsimp only [Option.toList, List.cons_append, List.nil_append]
  refine r_if_eq (pc := 4) (tgt := 14) C dX2_isReady_4 (by decide) (fun c4 => ?_) (fun c4 => ?_)
  · rw [bi_0] at c4
    refine r_iconst (pc := 14) C (nI 0) dX2_isReady_14 rfl ?_
    refine r_zret (pc := 15) C dX2_isReady_15 rfl (by first | exact Or.inl rfl | exact Or.inr rfl | assumption) (by omega) (by omega) ?_
    first
      | exact ⟨by rw [c4]; rfl, rfl⟩
      | exact ⟨by rw [c11, Bool.and_false]; rfl, rfl⟩
  · rw [bi_0] at c4
    refine r_aload_n (pc := 7) C dX2_isReady_7 rfl ?_
    refine r_callV (pc := 8) C (cg_isLiked hG hGV hF hO hH ht (fun _ => hQ)) iX8_isLiked ml_RX2_184 dX2_isReady_8 (ci := 9) rfl rfl (hG.tk ht) rfl (by decide) rfl (by simp [cv, Value.category, va_rf]) (by omega) (by omega) (fun r8 S8 h8 => ?_)
    obtain ⟨rfl, e8⟩ := h8
    subst S8
    dsimp only [Option.toList, List.cons_append, List.nil_append]
    rw [hd, Bool.true_and]
    refine r_if_ne (pc := 11) (tgt := 16) C dX2_isReady_11 (by decide) (fun c11 => ?_) (fun c11 => ?_)
    · rw [bi_0] at c11
      refine r_iconst (pc := 16) C (nI 0) dX2_isReady_16 rfl ?_
      refine r_istore_n (pc := 17) C dX2_isReady_17 (by decide) rfl ?_
      exact r_lv C [(0, vr (some go)), (1, vr (some (T t))), (2, vi (nI 0))] rfl (L (by rw [ts_nf c4, ts_nf c11]; rfl) 0 () (by omega) rfl)
    · rw [bi_0] at c11
      refine r_iconst (pc := 14) C (nI 0) dX2_isReady_14 rfl ?_
      refine r_zret (pc := 15) C dX2_isReady_15 rfl (by first | exact Or.inl rfl | exact Or.inr rfl | assumption) (by omega) (by omega) ?_
      first
        | exact ⟨by rw [c4]; rfl, rfl⟩
        | exact ⟨by rw [c11, Bool.and_false]; rfl, rfl⟩
theorem cg_unspA (hG : GS S po go T O M n) (hGV : GV M n h) (hT : TD S T n (M 13) cf ch pd) (hO : OD S T O M n fv lt (acO M n h) rn) (hL : LA g S (rA S 304 go) 106 a (fun i => T (acN M i))) (ha : a ≤ 140) (hA : Acc M n a) : Sp l g mX2_allUnspent 0 0 [vr (some go)] S (fun r S' => r = some (vi (alS M n h a)) ∧ S' = S) := by
  refine Sp.start (own := RX2) [(0, vr (some go))] (by decide +kernel) rfl rfl (Nat.le_of_ble_eq_true rfl) ?_
  intro J C
  have L : ∀ i x, i ≤ a → x = alS M n h i → J 4 [(0, vr (some go)), (1, vi x), (2, vi (nI i))] [] S 0 0 := by
    refine up_loop _ _ _ ?_ ?_
    · intro x hx
      refine r_iload_n (pc := 4) C dX2_allUnspent_4 rfl ?_
      refine r_aload_n (pc := 5) C dX2_allUnspent_5 rfl ?_
      refine r_getR (pc := 6) C dX2_allUnspent_6 fx_RX2_28 hG.gk hG.1.2.2.2.1 ?_
      refine r_callV (pc := 9) C (ct_size hL) iJx4a65c_size_8abf5 ml_RX2_60 dX2_allUnspent_9 (ci := 0) rfl rfl hL.k rfl (by decide) rfl (by simp [cv, Value.category, va_rf]) (by omega) (by omega) (fun r9 S9 h9 => ?_)
      obtain ⟨rfl, e9⟩ := h9
      subst S9
      dsimp only [Option.toList, List.cons_append, List.nil_append]
      refine r_icmp_ge (pc := 12) (tgt := 61) C dX2_allUnspent_12 (by decide) (fun c12 => ?_) (fun c12 => ?_)
      · refine r_iload_n (pc := 61) C dX2_allUnspent_61 rfl ?_
        refine r_iret (pc := 62) C dX2_allUnspent_62 rfl (by omega) (by omega) ?_
        exact ⟨by rw [hx], rfl⟩
      · exact absurd (Int32.le_refl _) c12
    · intro i x hi hx ih
      subst hx
      have ht := (hA i hi).2
      have h5 := hG.r5 ht
      have hR := hGV.2.2.1 _ ht
      have h8 := hR.2.2.2.1
      have L2 : ∀ j y, j ≤ nO (M 11) (acN M i) → y = lfS M n h (acN M i) (alS M n h i) j → J 30 [(0, vr (some go)), (1, vi y), (2, vi (nI i)), (3, vr (some (T (acN M i)))), (4, vi (nI j))] [] S 0 0 := by
        refine up_loop _ _ _ ?_ ?_
        · intro y hy
          refine r_iload (pc := 30) C dX2_allUnspent_30 rfl ?_
          refine r_aload_n (pc := 32) C dX2_allUnspent_32 rfl ?_
          refine r_getR (pc := 33) C dX2_allUnspent_33 fx_RX2_221 (hG.tk ht) h5.1 ?_
          refine r_alen (pc := 36) C dX2_allUnspent_36 h5.2.1 (by first | decide | omega) ?_
          rw [h5.2.2]
          refine r_icmp_ge (pc := 37) (tgt := 55) C dX2_allUnspent_37 (by decide) (fun c37 => ?_) (fun c37 => ?_)
          · refine r_iinc (pc := 55) C _ dX2_allUnspent_55 rfl (nI_1 _) (by decide) rfl ?_
            refine r_goto (pc := 58) (tgt := 4) C dX2_allUnspent_58 (by decide) ?_
            exact r_lv C [(0, vr (some go)), (1, vi y), (2, vi (nI (i + 1)))] rfl (ih _ hy)
          · exact absurd (Int32.le_refl _) c37
        · intro j y hj hy ih2
          subst hy
          have e3 : ixo M (acN M i) (nI j) = some j := by
            unfold ixo
            rw [if_neg (fun q => q.elim (nI_pos (by omega)) (nI_ge hj (by omega))), nI_clamp (by omega)]
          refine r_iload (pc := 30) C dX2_allUnspent_30 rfl ?_
          refine r_aload_n (pc := 32) C dX2_allUnspent_32 rfl ?_
          refine r_getR (pc := 33) C dX2_allUnspent_33 fx_RX2_221 (hG.tk ht) h5.1 ?_
          refine r_alen (pc := 36) C dX2_allUnspent_36 h5.2.1 (by first | decide | omega) ?_
          rw [h5.2.2]
          refine r_icmp_ge (pc := 37) (tgt := 55) C dX2_allUnspent_37 (by decide) (fun c37 => ?_) (fun c37 => ?_)
          · exact absurd c37 (nI_ge hj (by omega))
          · refine r_iload_n (pc := 40) C dX2_allUnspent_40 rfl ?_
            refine r_aload_n (pc := 41) C dX2_allUnspent_41 rfl ?_
            refine r_iload (pc := 42) C dX2_allUnspent_42 rfl ?_
            refine r_callV (pc := 44) C (cg_unspAt hG hR hT hO ht) iX8_unspentAt ml_RX2_224 dX2_allUnspent_44 (ci := 9) rfl rfl (hG.tk ht) rfl (by decide) rfl (by simp [cv, Value.category, va_rf]) (by omega) (by omega) (fun r44 S44 h44 => ?_)
            obtain ⟨rfl, e44⟩ := h44
            subst S44
            dsimp only [Option.toList, List.cons_append, List.nil_append]
            rw [e3]
            dsimp only
            refine r_iadd (pc := 47) C dX2_allUnspent_47 ?_
            refine r_istore_n (pc := 48) C dX2_allUnspent_48 (by decide) rfl ?_
            refine r_iinc (pc := 49) C _ dX2_allUnspent_49 rfl (nI_1 _) (by decide) rfl ?_
            refine r_goto (pc := 52) (tgt := 30) C dX2_allUnspent_52 (by decide) ?_
            exact r_lv C [(0, vr (some go)), (1, vi _), (2, vi (nI i)), (3, vr (some (T (acN M i)))), (4, vi (nI (j + 1)))] rfl (ih2 _ rfl)
      refine r_iload_n (pc := 4) C dX2_allUnspent_4 rfl ?_
      refine r_aload_n (pc := 5) C dX2_allUnspent_5 rfl ?_
      refine r_getR (pc := 6) C dX2_allUnspent_6 fx_RX2_28 hG.gk hG.1.2.2.2.1 ?_
      refine r_callV (pc := 9) C (ct_size hL) iJx4a65c_size_8abf5 ml_RX2_60 dX2_allUnspent_9 (ci := 0) rfl rfl hL.k rfl (by decide) rfl (by simp [cv, Value.category, va_rf]) (by omega) (by omega) (fun r9 S9 h9 => ?_)
      obtain ⟨rfl, e9⟩ := h9
      subst S9
      dsimp only [Option.toList, List.cons_append, List.nil_append]
      refine r_icmp_ge (pc := 12) (tgt := 61) C dX2_allUnspent_12 (by decide) (fun c12 => ?_) (fun c12 => ?_)
      · exact absurd c12 (nI_ge hi (by omega))
      · refine r_aload_n (pc := 15) C dX2_allUnspent_15 rfl ?_
        refine r_getR (pc := 16) C dX2_allUnspent_16 fx_RX2_28 hG.gk hG.1.2.2.2.1 ?_
        refine r_iload_n (pc := 19) C dX2_allUnspent_19 rfl ?_
        refine r_callV (pc := 20) C (ct_get (by omega) (by omega) hL hi) iJx4a65c_get_915e3 ml_RX2_64 dX2_allUnspent_20 (ci := 0) rfl rfl hL.k rfl (by decide) rfl (by simp [cv, Value.category, va_rf]) (by omega) (by omega) (fun r20 S20 h20 => ?_)
        obtain ⟨rfl, e20⟩ := h20
        subst S20
        dsimp only [Option.toList, List.cons_append, List.nil_append]
        refine r_cast (pc := 23) C dX2_allUnspent_23 (ci := 9) rfl kl_RX2_49 (hG.tk ht) ?_
        refine r_astore_n (pc := 26) C dX2_allUnspent_26 (by decide) rfl ?_
        refine r_iconst (pc := 27) C (nI 0) dX2_allUnspent_27 rfl ?_
        refine r_istore (pc := 28) C dX2_allUnspent_28 (by decide) rfl ?_
        exact r_lv C [(0, vr (some go)), (1, vi _), (2, vi (nI i)), (3, vr (some (T (acN M i)))), (4, vi (nI 0))] rfl (L2 0 _ (by omega) rfl)
  refine r_iconst (pc := 0) C (nI 0) dX2_allUnspent_0 rfl ?_
  refine r_istore_n (pc := 1) C dX2_allUnspent_1 (by decide) rfl ?_
  refine r_iconst (pc := 2) C (nI 0) dX2_allUnspent_2 rfl ?_
  refine r_istore_n (pc := 3) C dX2_allUnspent_3 (by decide) rfl ?_
  exact r_lv C [(0, vr (some go)), (1, vi _), (2, vi (nI 0))] rfl (L 0 _ (by omega) rfl)
theorem cg_spentBefore {u s : Nat} {an : Nat → Bool} (hG : GS S po go T O M n) (hH : HN S T M n h) (hh : h ≤ 140) (hs : oV M n s) (hu : u < n) (hL : LA g S (rA S 401 (O s)) (108 + s) (mL s).length (fun i => T ((mL s).getD i 0))) (hm : (mL s).length ≤ 140) (hmn : ∀ i, i < (mL s).length → (mL s).getD i 0 < n) (hA : ∀ j, j < h → abt (aJ S 80 (rA S 908 (T u))) j = an (hdN M j)) : Sp l g mX3_isSpentBefore 0 0 [vr (some (O s)), vr (some (T u))] S (fun r S' => r = some (vi (bi (anyU (fun i => hdB M h ((mL s).getD i 0) && an ((mL s).getD i 0)) (mL s).length))) ∧ S' = S) := by
  have ho := hG.o hs
  refine Sp.start (own := RX3) [(0, vr (some (O s))), (1, vr (some (T u)))] (by decide +kernel) rfl rfl (Nat.le_of_ble_eq_true rfl) ?_
  intro J C
  have L : ∀ i (z : Unit), i ≤ (mL s).length → anyU (fun i => hdB M h ((mL s).getD i 0) && an ((mL s).getD i 0)) i = false → J 2 [(0, vr (some (O s))), (1, vr (some (T u))), (2, vi (nI i))] [] S 0 0 := by
    refine up_loop _ _ _ ?_ ?_
    · intro z hz
      refine r_iload_n (pc := 2) C dX3_isSpentBefore_2 rfl ?_
      refine r_aload_n (pc := 3) C dX3_isSpentBefore_3 rfl ?_
      refine r_getR (pc := 4) C dX3_isSpentBefore_4 fx_RX3_18 ho.1 ho.2 ?_
      refine r_callV (pc := 7) C (ct_size hL) iJx4a65c_size_8abf5 ml_RX3_39 dX3_isSpentBefore_7 (ci := 0) rfl rfl hL.k rfl (by decide) rfl (by simp [cv, Value.category, va_rf]) (by omega) (by omega) (fun r7 S7 h7 => ?_)
      obtain ⟨rfl, e7⟩ := h7
      subst S7
      dsimp only [Option.toList, List.cons_append, List.nil_append]
      refine r_icmp_ge (pc := 10) (tgt := 39) C dX3_isSpentBefore_10 (by decide) (fun c10 => ?_) (fun c10 => ?_)
      · refine r_iconst (pc := 39) C (nI 0) dX3_isSpentBefore_39 rfl ?_
        refine r_zret (pc := 40) C dX3_isSpentBefore_40 rfl (by first | exact Or.inl rfl | exact Or.inr rfl | assumption) (by omega) (by omega) ?_
        exact ⟨by rw [hz]; rfl, rfl⟩
      · exact absurd (Int32.le_refl _) c10
    · intro i z hi hz ih
      refine r_iload_n (pc := 2) C dX3_isSpentBefore_2 rfl ?_
      refine r_aload_n (pc := 3) C dX3_isSpentBefore_3 rfl ?_
      refine r_getR (pc := 4) C dX3_isSpentBefore_4 fx_RX3_18 ho.1 ho.2 ?_
      refine r_callV (pc := 7) C (ct_size hL) iJx4a65c_size_8abf5 ml_RX3_39 dX3_isSpentBefore_7 (ci := 0) rfl rfl hL.k rfl (by decide) rfl (by simp [cv, Value.category, va_rf]) (by omega) (by omega) (fun r7 S7 h7 => ?_)
      obtain ⟨rfl, e7⟩ := h7
      subst S7
      dsimp only [Option.toList, List.cons_append, List.nil_append]
      refine r_icmp_ge (pc := 10) (tgt := 39) C dX3_isSpentBefore_10 (by decide) (fun c10 => ?_) (fun c10 => ?_)
      · exact absurd c10 (nI_ge hi (by omega))
      · refine r_aload_n (pc := 13) C dX3_isSpentBefore_13 rfl ?_
        refine r_aload_n (pc := 14) C dX3_isSpentBefore_14 rfl ?_
        refine r_getR (pc := 15) C dX3_isSpentBefore_15 fx_RX3_18 ho.1 ho.2 ?_
        refine r_iload_n (pc := 18) C dX3_isSpentBefore_18 rfl ?_
        refine r_callV (pc := 19) C (ct_get (by omega) (by omega) hL hi) iJx4a65c_get_915e3 ml_RX3_48 dX3_isSpentBefore_19 (ci := 0) rfl rfl hL.k rfl (by decide) rfl (by simp [cv, Value.category, va_rf]) (by omega) (by omega) (fun r19 S19 h19 => ?_)
        obtain ⟨rfl, e19⟩ := h19
        subst S19
        dsimp only [Option.toList, List.cons_append, List.nil_append]
        refine r_cast (pc := 22) C dX3_isSpentBefore_22 (ci := 9) rfl kl_RX3_44 (hG.tk (hmn i hi)) ?_
        refine r_callV (pc := 25) C (cg_hasAnc hG hH hh hu (hmn i hi) hA) iX8_hasAncestor ml_RX3_55 dX3_isSpentBefore_25 (ci := 9) rfl rfl (hG.tk hu) rfl (by decide) rfl (by simp [cv, Value.category, va_rf]) (by omega) (by omega) (fun r25 S25 h25 => ?_)
        obtain ⟨rfl, e25⟩ := h25
        subst S25
        dsimp only [Option.toList, List.cons_append, List.nil_append]
        refine r_if_eq (pc := 28) (tgt := 33) C dX3_isSpentBefore_28 (by decide) (fun c28 => ?_) (fun c28 => ?_)
        · rw [bi_0] at c28
          refine r_iinc (pc := 33) C _ dX3_isSpentBefore_33 rfl (nI_1 _) (by decide) rfl ?_
          refine r_goto (pc := 36) (tgt := 2) C dX3_isSpentBefore_36 (by decide) ?_
          exact r_lv C [(0, vr (some (O s))), (1, vr (some (T u))), (2, vi (nI (i + 1)))] rfl (ih z (anyU_s hz c28))
        · rw [bi_0] at c28
          refine r_iconst (pc := 31) C (nI 1) dX3_isSpentBefore_31 rfl ?_
          refine r_zret (pc := 32) C dX3_isSpentBefore_32 rfl (by first | exact Or.inl rfl | exact Or.inr rfl | assumption) (by omega) (by omega) ?_
          exact ⟨by rw [anyU_t (f := fun i => hdB M h ((mL s).getD i 0) && an ((mL s).getD i 0)) hi (ts_nf c28)]; rfl, rfl⟩
  refine r_iconst (pc := 0) C (nI 0) dX3_isSpentBefore_0 rfl ?_
  refine r_istore_n (pc := 1) C dX3_isSpentBefore_1 (by decide) rfl ?_
  exact r_lv C [(0, vr (some (O s))), (1, vr (some (T u))), (2, vi (nI 0))] rfl (L 0 () (by omega) rfl)
end ReadG
