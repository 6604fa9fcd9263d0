/-! The JDK: fill, copyOf, remove, bitCount -/
def filF (f : Nat → Int32) (v : Int32) (n : Nat) : Nat → Int32 := fun i => if i < n then v else f i
section Jdk2
variable {l : Launch} {g : GG} {S S' S1 S2 : hS} {a κ N : Nat} {f : Nat → Nat}
theorem putI_putI {r b : Nat} {f1 f2 : Nat → Int32} : putI (putI S r b f1) r b f2 = putI S r b f2 := by
  unfold putI
  simp only [Prod.mk.injEq, true_and, and_true]
  funext x y
  simp only [u2r]
  split
  · split <;> rfl
  · rfl
theorem putI_id {r b : Nat} : putI S r b (aI S r b) = S := by
  obtain ⟨s1, s2, s3, s4, s5, s6, s7, s8⟩ := S
  unfold putI
  simp only [Prod.mk.injEq, true_and, and_true]
  funext x y
  simp only [u2r, aI]
  split
  · next h => split
              · next h2 => rw [h, h2]
              · rfl
  · rfl
theorem aI_ps {k b : Nat} {F : Nat → Int32} : aI (putI S k b F) k b = F := by
  show u2r S.2.2.2.2.2.1 k b F k b = F
  unfold u2r
  rw [if_pos rfl, if_pos rfl]
theorem aI_pn {k b r x : Nat} {F : Nat → Int32} (h : r ≠ k ∨ x ≠ b) : aI (putI S k b F) r x = aI S r x := by
  show u2r S.2.2.2.2.2.1 k b F r x = _
  unfold u2r
  by_cases e : r = k
  · rw [if_pos e, if_neg (h.resolve_left (fun q => q e))]
    rfl
  · rw [if_neg e]
    rfl
theorem ct_fill {r n : Nat} {v : Int32} (hk : sK S a = r) (h30 : 30 ≤ r ∧ r < 80) (hn : sN S a = n) (hn2 : n < 2 ^ 31) : Sp l g mJ7_fill_53178 0 0 [vr (some a), vi v] S (fun z S' => z = none ∧ S' = putI S r a (filF (aI S r a) v n)) := by
  refine Sp.start (own := RJ7) [(0, vr (some a)), (1, vi v)] (by decide +kernel) rfl rfl (Nat.le_of_ble_eq_true rfl) ?_
  intro J C
  have L : ∀ i S2, i ≤ n → S2 = putI S r a (filF (aI S r a) v i) → J 5 [(0, vr (some a)), (1, vi v), (2, vi (nI i)), (3, vi (nI n))] [] S2 0 0 := by
    refine up_loop _ _ _ ?_ ?_
    · intro S2 hS
      refine r_iload_n (pc := 5) C dJ7_fill_53178_5 rfl ?_
      refine r_iload_n (pc := 6) C dJ7_fill_53178_6 rfl ?_
      refine r_icmp_ge (pc := 7) (tgt := 20) C dJ7_fill_53178_7 (by decide) (fun c7 => ?_) (fun c7 => ?_)
      · refine r_ret (pc := 20) C dJ7_fill_53178_20 rfl (by omega) (by omega) ?_
        exact ⟨rfl, hS⟩
      · exact absurd (Int32.le_refl _) c7
    · intro i S2 hi hS ih
      subst hS
      refine r_iload_n (pc := 5) C dJ7_fill_53178_5 rfl ?_
      refine r_iload_n (pc := 6) C dJ7_fill_53178_6 rfl ?_
      refine r_icmp_ge (pc := 7) (tgt := 20) C dJ7_fill_53178_7 (by decide) (fun c7 => ?_) (fun c7 => ?_)
      · exact absurd c7 (nI_ge hi (by omega))
      · refine r_aload_n (pc := 10) C dJ7_fill_53178_10 rfl ?_
        refine r_iload_n (pc := 11) C dJ7_fill_53178_11 rfl ?_
        refine r_iload_n (pc := 12) C dJ7_fill_53178_12 rfl ?_
        refine r_iast (pc := 13) C dJ7_fill_53178_13 (show sK (putI S r a (filF (aI S r a) v i)) a = r from hk) h30 (show sN (putI S r a (filF (aI S r a) v i)) a = n from hn) (vp_in_nI hi (by omega)) (nI_clamp (by omega)) ?_
        rw [aI_ps, putI_putI]
        refine r_iinc (pc := 14) C _ dJ7_fill_53178_14 rfl (nI_1 _) (by decide) rfl ?_
        refine r_goto (pc := 17) (tgt := 5) C dJ7_fill_53178_17 (by decide) ?_
        refine r_lv C [(0, vr (some a)), (1, vi v), (2, vi (nI (i + 1))), (3, vi (nI n))] rfl (ih _ ?_)
        congr 1
        funext x
        unfold upd filF
        by_cases e : x = i
        · rw [if_pos e, if_pos (by omega)]
        · rw [if_neg e]
          by_cases q : x < i
          · rw [if_pos q, if_pos (by omega)]
          · rw [if_neg q, if_neg (by omega)]
  refine r_iconst (pc := 0) C (nI 0) dJ7_fill_53178_0 rfl ?_
  refine r_istore_n (pc := 1) C dJ7_fill_53178_1 (by decide) rfl ?_
  refine r_aload_n (pc := 2) C dJ7_fill_53178_2 rfl ?_
  refine r_alen (pc := 3) C dJ7_fill_53178_3 hk (by first | decide | omega) ?_
  rw [hn]
  refine r_istore_n (pc := 4) C dJ7_fill_53178_4 (by decide) rfl ?_
  exact r_lv C [(0, vr (some a)), (1, vi v), (2, vi (nI 0)), (3, vi (nI n))] rfl (L 0 _ (by omega) (by rw [show filF (aI S r a) v 0 = aI S r a from funext (fun i => if_neg (by omega)), putI_id]))
/-- Arrays.copyOf of bytes: not longer -/
theorem ct_copyB {r k n : Nat} (hk : sK S a = r) (h30 : 20 ≤ r ∧ r < 30) (hkk : 20 ≤ k ∧ k < 30) (hn : n ≤ sN S a) (hn2 : sN S a ≤ 128) (hf : ∀ i, i < sN S a → fB (aI S r a i)) : Sp l g mJ7_copyOf_9075b 1 128 [vr (some a), vi (nI n)] S (fun z S' => ∃ q F, sK S q = 0 ∧ z = some (vr (some q)) ∧ S' = putI (newA S q k n) k q F ∧ (∀ i, i < n → F i = aI S r a i)) := by
  refine Sp.start (own := RJ7) [(0, vr (some a)), (1, vi (nI n))] (by decide +kernel) rfl rfl (Nat.le_of_ble_eq_true rfl) ?_
  intro J C
  refine r_iload_n (pc := 0) C dJ7_copyOf_9075b_0 rfl ?_
  refine r_aload_n (pc := 1) C dJ7_copyOf_9075b_1 rfl ?_
  refine r_alen (pc := 2) C dJ7_copyOf_9075b_2 hk (by first | decide | omega) ?_
  refine r_icmp_ne (pc := 3) (tgt := 14) C dJ7_copyOf_9075b_3 (by decide) (fun c3 => ?_) (fun c3 => ?_)
  · refine r_iload_n (pc := 14) C dJ7_copyOf_9075b_14 rfl ?_
    refine r_newa (pc := 15) C k dJ7_copyOf_9075b_15 (tyA_0 hkk.2).symm ⟨hkk.1, by omega⟩ (wd_at 69 (by decide +kernel) rfl) (nI_pos (by omega)) (nI_clamp (by omega)) (by omega) (by omega) (by omega) (fun q15 hq15 => ?_)
    have hne : a ≠ q15 := ne_kq hq15 (by omega)
    refine r_astore_n (pc := 17) C dJ7_copyOf_9075b_17 (by decide) rfl ?_
    refine r_aload_n (pc := 18) C dJ7_copyOf_9075b_18 rfl ?_
    refine r_iconst (pc := 19) C (nI 0) dJ7_copyOf_9075b_19 rfl ?_
    refine r_aload_n (pc := 20) C dJ7_copyOf_9075b_20 rfl ?_
    refine r_iconst (pc := 21) C (nI 0) dJ7_copyOf_9075b_21 rfl ?_
    refine r_aload_n (pc := 22) C dJ7_copyOf_9075b_22 rfl ?_
    refine r_alen (pc := 23) C dJ7_copyOf_9075b_23 (show sK (newA S q15 k n) a = r by rw [sK_na hne]; exact hk) (by first | decide | omega) ?_
    rw [sN_na hne]
    refine r_iload_n (pc := 24) C dJ7_copyOf_9075b_24 rfl ?_
    refine r_mmin (pc := 25) C ml_RJ7_304 dJ7_copyOf_9075b_25 (by omega) (by omega) (by decide) (by simp [cv, Value.category, va_rf]; decide) (by omega) (by omega) ?_
    rw [show min (sN S a) n = n by omega]
    refine r_cpyB (pc := 28) C (a := q15) (b := a) w_ac7 dJ7_copyOf_9075b_28 sK_nas hkk (by rw [sK_na hne]; exact hk) h30 (nI_pos (by omega)) (nI_pos (by omega)) (nI_pos (by omega)) ?_ ?_ ?_ (by decide) (by simp [cv, Value.category, va_rf]; decide) ?_
    · rw [nI_clamp (by omega), nI_clamp (by omega), sN_na hne]; omega
    · rw [nI_clamp (by omega), nI_clamp (by omega), sN_nas]; omega
    · intro i hi
      rw [nI_clamp (by omega)] at hi
      rw [nI_clamp (by omega), Nat.zero_add, aI_na hne]
      exact hf i (by omega)
    refine r_aload_n (pc := 31) C dJ7_copyOf_9075b_31 rfl ?_
    refine r_aret (pc := 32) C dJ7_copyOf_9075b_32 rfl (Or.inr ⟨_, rfl⟩) (by omega) (by omega) ?_
    refine ⟨q15, _, hq15, rfl, rfl, fun i hi => ?_⟩
    rw [nI_clamp (by omega), nI_clamp (by omega), aI_na hne]
    unfold va_cpy
    rw [if_pos (by omega), Nat.sub_zero, Nat.zero_add]
  · have heq : n = sN S a := (nI_eq (by omega) (by omega)).mp c3
    refine r_aload_n (pc := 6) C dJ7_copyOf_9075b_6 rfl ?_
    refine r_cloneB (pc := 7) C k w_cl1 dJ7_copyOf_9075b_7 hk h30 hkk hf (by decide) (by simp [cv, Value.category, va_rf]; decide) (by omega) (by omega) (fun q7 hq7 => ?_)
    refine r_castB (pc := 10) C kl_RJ7_311 dJ7_copyOf_9075b_10 (show sK (putI (newA S q7 k (sN S a)) k q7 (aI S r a)) q7 = k from va_up_self _ _ _) hkk ?_
    refine r_aret (pc := 13) C dJ7_copyOf_9075b_13 rfl (Or.inr ⟨_, rfl⟩) (by omega) (by omega) ?_
    exact ⟨q7, aI S r a, hq7, rfl, by rw [heq], fun i hi => rfl⟩
/-- taken out at i -/
def rmF (f : Nat → Nat) (i : Nat) : Nat → Nat := fun j => if j < i then f j else f (j + 1)
theorem ct_fast {e i : Nat} (hκ : 104 ≤ κ) (hs : sI S 2 a = nI N) (hL : LE g S a κ N e f) (hel : ∀ i, i < N → ∃ ci, (ci = 9 ∨ ci = 6) ∧ sK S (f i) = ci + 1) (hi : i < N) : Sp l g mJx4a65c_fastRemove_b59b0 0 0 [vr (some a), vr (some e), vi (nI i)] S (fun z S' => z = none ∧ LA g S' a κ (N - 1) (rmF f i) ∧ Au S S' a κ) := by
  obtain ⟨hk, h2, h3⟩ := hL
  rcases h3 with ⟨-, h3⟩ | ⟨h4, h5, h6, h7, h8⟩
  · omega
  refine Sp.start (own := RJx4a65c) [(0, vr (some a)), (1, vr (some e)), (2, vi (nI i))] (by decide +kernel) rfl rfl (Nat.le_of_ble_eq_true rfl) ?_
  intro J C
  have P : ∀ S1, Au S S1 a κ → sR S1 1 a = some e → (∀ j, j < N - 1 → aR S1 κ e j = some (rmF f i j)) → J 34 [(0, vr (some a)), (1, vr (some e)), (2, vi (nI i)), (3, vi (nI (N - 1)))] [] S1 0 0 := by
    intro S1 hA b2 b5
    have b1 : sK S1 a = 1 := by rw [hA.1 a (by omega)]; exact hk
    have b3 : sK S1 e = κ := by rw [hA.1 e (by omega)]; exact h4
    have b4 : sN S1 e = sN S e := hA.2.2.2.2.2.1 e (by omega)
    have b6 : 10 ≤ sN S1 e := by omega
    have b7 : sN S1 e ≤ 97 := by omega
    have b8 : N - 1 ≤ sN S1 e := by omega
    refine r_aload_n (pc := 34) C dJx4a65c_fastRemove_b59b0_34 rfl ?_
    refine r_aload_n (pc := 35) C dJx4a65c_fastRemove_b59b0_35 rfl ?_
    refine r_iload_n (pc := 36) C dJx4a65c_fastRemove_b59b0_36 rfl ?_
    refine r_dup_x1 (pc := 37) C dJx4a65c_fastRemove_b59b0_37 rfl rfl ?_
    refine r_putI (pc := 38) C dJx4a65c_fastRemove_b59b0_38 fx_RJx4a65c_48 (fp_0_2 _) b1 ?_
    refine r_null (pc := 41) C dJx4a65c_fastRemove_b59b0_41 ?_
    refine r_aastN (pc := 42) C dJx4a65c_fastRemove_b59b0_42 (show sK (setI S1 2 a (nI (N - 1))) e = κ from b3) (by omega) (show sN (setI S1 2 a (nI (N - 1))) e = sN S e from b4) (vp_in_nI (by omega) (by omega)) (nI_clamp (by omega)) ?_
    refine r_ret (pc := 43) C dJx4a65c_fastRemove_b59b0_43 rfl (by omega) (by omega) ?_
    refine ⟨rfl, ⟨sI_s (S := S1) (k := 2) (b := a) (v := nI (N - 1)), e, b1, b2, Or.inr ⟨b3, b6, b7, b8, fun j hj => ?_⟩⟩, (hA.tr hκ (Au.si (Or.inr rfl))).tr hκ Au.pr⟩
    rw [aR_ps, va_up_ne _ _ (by omega)]
    exact b5 j hj
  refine r_aload_n (pc := 0) C dJx4a65c_fastRemove_b59b0_0 rfl ?_
  refine r_dup (pc := 1) C dJx4a65c_fastRemove_b59b0_1 rfl ?_
  refine r_getI (pc := 2) C dJx4a65c_fastRemove_b59b0_2 fx_RJx4a65c_63 (by assumption) ?_
  refine r_iconst (pc := 5) C (nI 1) dJx4a65c_fastRemove_b59b0_5 rfl ?_
  refine r_iadd (pc := 6) C dJx4a65c_fastRemove_b59b0_6 ?_
  refine r_putI (pc := 7) C dJx4a65c_fastRemove_b59b0_7 fx_RJx4a65c_63 (fp_0_0 _) (by assumption) ?_
  have hA7 : Au S (setI S 0 a (sI S 0 a + nI 1)) a κ := Au.si (Or.inl rfl)
  have hs7 : sI (setI S 0 a (sI S 0 a + nI 1)) 2 a = nI N := by rw [sI_n (Or.inl (by decide))]; exact hs
  have hk7 : sK (setI S 0 a (sI S 0 a + nI 1)) a = 1 := hk
  have h27 : sR (setI S 0 a (sI S 0 a + nI 1)) 1 a = some e := h2
  have h47 : sK (setI S 0 a (sI S 0 a + nI 1)) e = κ := h4
  have hn7 : sN (setI S 0 a (sI S 0 a + nI 1)) e = sN S e := rfl
  have h87 : ∀ i, i < N → aR (setI S 0 a (sI S 0 a + nI 1)) κ e i = some (f i) := h8
  have hel7 : ∀ i, i < N → ∃ ci, (ci = 9 ∨ ci = 6) ∧ sK (setI S 0 a (sI S 0 a + nI 1)) (f i) = ci + 1 := hel
  generalize setI S 0 a (sI S 0 a + nI 1) = S7 at hA7 hs7 hel7 hk7 h27 h47 hn7 h87 ⊢
  refine r_aload_n (pc := 10) C dJx4a65c_fastRemove_b59b0_10 rfl ?_
  refine r_getI (pc := 11) C dJx4a65c_fastRemove_b59b0_11 fx_RJx4a65c_48 (by assumption) ?_
  rw [hs7]
  refine r_iconst (pc := 14) C (nI 1) dJx4a65c_fastRemove_b59b0_14 rfl ?_
  refine r_isub (pc := 15) C dJx4a65c_fastRemove_b59b0_15 ?_
  rw [show nI N - nI 1 = nI (N - 1) from by rw [show nI N = nI (N - 1 + 1) from by rw [show N - 1 + 1 = N by omega]]; exact nI_pred _]
  refine r_dup (pc := 16) C dJx4a65c_fastRemove_b59b0_16 rfl ?_
  refine r_istore_n (pc := 17) C dJx4a65c_fastRemove_b59b0_17 (by decide) rfl ?_
  refine r_iload_n (pc := 18) C dJx4a65c_fastRemove_b59b0_18 rfl ?_
  refine r_icmp_le (pc := 19) (tgt := 34) C dJx4a65c_fastRemove_b59b0_19 (by decide) (fun c19 => ?_) (fun c19 => ?_)
  · exact r_lv C [(0, vr (some a)), (1, vr (some e)), (2, vi (nI i)), (3, vi (nI (N - 1)))] rfl (P _ hA7 h27 (fun j hj => by rw [h87 j (by omega), rmF, if_pos (by rw [nI_leI (by omega) (by omega)] at c19; omega)]))
  · rw [nI_leI (by omega) (by omega)] at c19
    refine r_aload_n (pc := 22) C dJx4a65c_fastRemove_b59b0_22 rfl ?_
    refine r_iload_n (pc := 23) C dJx4a65c_fastRemove_b59b0_23 rfl ?_
    refine r_iconst (pc := 24) C (nI 1) dJx4a65c_fastRemove_b59b0_24 rfl ?_
    refine r_iadd (pc := 25) C dJx4a65c_fastRemove_b59b0_25 ?_
    try simp only [nI_add, pk_mul]
    refine r_aload_n (pc := 26) C dJx4a65c_fastRemove_b59b0_26 rfl ?_
    refine r_iload_n (pc := 27) C dJx4a65c_fastRemove_b59b0_27 rfl ?_
    refine r_iload_n (pc := 28) C dJx4a65c_fastRemove_b59b0_28 rfl ?_
    refine r_iload_n (pc := 29) C dJx4a65c_fastRemove_b59b0_29 rfl ?_
    refine r_isub (pc := 30) C dJx4a65c_fastRemove_b59b0_30 ?_
    rw [show nI (N - 1) - nI i = nI (N - 1 - i) from by rw [show nI (N - 1) = nI (N - 1 - i + i) from by rw [show N - 1 - i + i = N - 1 by omega], ← nI_add, Int32.add_sub_cancel]]
    refine r_cpyR (pc := 31) C (a := e) (b := e) w_acL dJx4a65c_fastRemove_b59b0_31 h47 hκ h47 hκ (nI_pos (by omega)) (nI_pos (by omega)) (nI_pos (by omega)) ?_ ?_ ?_ (by decide) (by simp; decide) ?_
    · rw [nI_clamp (by omega), nI_clamp (by omega), hn7]; omega
    · rw [nI_clamp (by omega), nI_clamp (by omega), hn7]; omega
    · intro j hj y hy
      rw [nI_clamp (by omega)] at hj
      rw [nI_clamp (by omega), h87 _ (by omega)] at hy
      cases hy
      exact hel7 _ (by omega)
    rw [nI_clamp (by omega), nI_clamp (by omega), nI_clamp (by omega)]
    refine r_lv C [(0, vr (some a)), (1, vr (some e)), (2, vi (nI i)), (3, vi (nI (N - 1)))] rfl (P _ (hA7.tr hκ Au.pr) h27 (fun j hj => ?_))
    rw [aR_ps]
    unfold va_cpy rmF
    by_cases q : j < i
    · rw [if_neg (by omega), if_pos q]; exact h87 j (by omega)
    · rw [if_pos (by omega), if_neg q, show i + 1 + (j - i) = j + 1 by omega]; exact h87 _ (by omega)
theorem ct_remove {i : Nat} (hκ : 104 ≤ κ) (hN : N < 2 ^ 31) (hL : LA g S a κ N f) (hel : ∀ i, i < N → ∃ ci, (ci = 9 ∨ ci = 6) ∧ sK S (f i) = ci + 1) (hi : i < N) : Sp l g mJx4a65c_remove_915e3 0 0 [vr (some a), vi (nI i)] S (fun z S' => z = some (vr (some (f i))) ∧ LA g S' a κ (N - 1) (rmF f i) ∧ Au S S' a κ) := by
  obtain ⟨hs, e, hL⟩ := hL
  have hL0 := hL
  obtain ⟨hk, h2, h3⟩ := hL
  rcases h3 with ⟨-, h3⟩ | ⟨h4, h5, h6, h7, h8⟩
  · omega
  refine Sp.start (own := RJx4a65c) [(0, vr (some a)), (1, vi (nI i))] (by decide +kernel) rfl rfl (Nat.le_of_ble_eq_true rfl) ?_
  intro J C
  refine r_iload_n (pc := 0) C dJx4a65c_remove_915e3_0 rfl ?_
  refine r_aload_n (pc := 1) C dJx4a65c_remove_915e3_1 rfl ?_
  refine r_getI (pc := 2) C dJx4a65c_remove_915e3_2 fx_RJx4a65c_48 (by assumption) ?_
  rw [hs]
  refine r_callS (pc := 5) C (ct_chk hi hN) iJ15_checkIndex_7cf53 ml_RJx4a65c_118 dJx4a65c_remove_915e3_5 rfl (by decide) rfl (by simp [cv, Value.category, va_rf]) (by omega) (by omega) (fun r5 S5 h5 => ?_)
  obtain ⟨rfl, e5⟩ := h5
  subst S5
  dsimp only [Option.toList, List.cons_append, List.nil_append]
  refine r_pop (pc := 8) C dJx4a65c_remove_915e3_8 rfl ?_
  refine r_aload_n (pc := 9) C dJx4a65c_remove_915e3_9 rfl ?_
  refine r_getR (pc := 10) C dJx4a65c_remove_915e3_10 fx_RJx4a65c_9 (by assumption) (by first | assumption | rfl) ?_
  refine r_astore_n (pc := 13) C dJx4a65c_remove_915e3_13 (by decide) rfl ?_
  refine r_aload_n (pc := 14) C dJx4a65c_remove_915e3_14 rfl ?_
  refine r_iload_n (pc := 15) C dJx4a65c_remove_915e3_15 rfl ?_
  refine r_aald (pc := 16) C dJx4a65c_remove_915e3_16 h4 (by omega) rfl (vp_in_nI (by omega) (by omega)) (nI_clamp (by omega)) ?_
  rw [h8 i hi]
  refine r_astore_n (pc := 17) C dJx4a65c_remove_915e3_17 (by decide) rfl ?_
  refine r_aload_n (pc := 18) C dJx4a65c_remove_915e3_18 rfl ?_
  refine r_aload_n (pc := 19) C dJx4a65c_remove_915e3_19 rfl ?_
  refine r_iload_n (pc := 20) C dJx4a65c_remove_915e3_20 rfl ?_
  refine r_callV (pc := 21) C (ct_fast hκ hs hL0 hel hi) iJx4a65c_fastRemove_b59b0 ml_RJx4a65c_144 dJx4a65c_remove_915e3_21 (ci := 0) rfl rfl (by assumption) rfl (by decide) rfl (by simp [cv, Value.category, va_rf]) (by omega) (by omega) (fun r21 S21 h21 => ?_)
  obtain ⟨rfl, h21, hA21⟩ := h21
  dsimp only [Option.toList, List.cons_append, List.nil_append]
  refine r_aload_n (pc := 24) C dJx4a65c_remove_915e3_24 rfl ?_
  refine r_aret (pc := 25) C dJx4a65c_remove_915e3_25 rfl (Or.inl ⟨_, rfl⟩) (by omega) (by omega) ?_
  exact ⟨rfl, h21, hA21⟩
theorem ct_alinit (hk : sK S a = 1) : Sp l g mJx4a65c_init_da8c8 0 0 [vr (some a)] S (fun z S' => z = none ∧ S' = setR (setI S 0 a (nI 0)) 1 a (some (gT g 0))) := by
  have c0 : ∀ S, Sp l g mJxa1e45_init_da8c8 0 0 [vr (some a)] S (fun z S' => z = none ∧ S' = S) := by
    intro S
    refine Sp.start (own := RJxa1e45) [(0, vr (some a))] (by decide +kernel) rfl rfl (Nat.le_of_ble_eq_true rfl) ?_
    intro J C
    refine r_aload_n (pc := 0) C dJxa1e45_init_da8c8_0 rfl ?_
    refine r_oinit (pc := 1) C dJxa1e45_init_da8c8_1 ml_RJxa1e45_1 (by decide) (by decide) ?_
    refine r_ret (pc := 4) C dJxa1e45_init_da8c8_4 rfl (by omega) (by omega) ?_
    exact ⟨rfl, rfl⟩
  have c1 : ∀ S, sK S a = 1 → Sp l g mJxc12de_init_da8c8 0 0 [vr (some a)] S (fun z S' => z = none ∧ S' = setI S 0 a (nI 0)) := by
    intro S hk
    refine Sp.start (own := RJxc12de) [(0, vr (some a))] (by decide +kernel) rfl rfl (Nat.le_of_ble_eq_true rfl) ?_
    intro J C
    refine r_aload_n (pc := 0) C dJxc12de_init_da8c8_0 rfl ?_
    refine r_callI (pc := 1) C (c0 S) iJxa1e45_init_da8c8 ml_RJxc12de_1 dJxc12de_init_da8c8_1 rfl (by decide) rfl (by simp [cv, Value.category, va_rf]) (by omega) (by omega) (fun r1 S1 h1 => ?_)
    obtain ⟨rfl, e1⟩ := h1
    subst S1
    dsimp only [Option.toList, List.cons_append, List.nil_append]
    refine r_aload_n (pc := 4) C dJxc12de_init_da8c8_4 rfl ?_
    refine r_iconst (pc := 5) C (nI 0) dJxc12de_init_da8c8_5 rfl ?_
    refine r_putI (pc := 6) C dJxc12de_init_da8c8_6 fx_RJxc12de_7 (fp_0_0 _) (by assumption) ?_
    refine r_ret (pc := 9) C dJxc12de_init_da8c8_9 rfl (by omega) (by omega) ?_
    exact ⟨rfl, rfl⟩
  refine Sp.start (own := RJx4a65c) [(0, vr (some a))] (by decide +kernel) rfl rfl (Nat.le_of_ble_eq_true rfl) ?_
  intro J C
  refine r_aload_n (pc := 0) C dJx4a65c_init_da8c8_0 rfl ?_
  refine r_callI (pc := 1) C (c1 S hk) iJxc12de_init_da8c8 ml_RJx4a65c_1 dJx4a65c_init_da8c8_1 rfl (by decide) rfl (by simp [cv, Value.category, va_rf]) (by omega) (by omega) (fun r1 S1 h1 => ?_)
  obtain ⟨rfl, e1⟩ := h1
  subst S1
  dsimp only [Option.toList, List.cons_append, List.nil_append]
  refine r_aload_n (pc := 4) C dJx4a65c_init_da8c8_4 rfl ?_
  refine r_gets (pc := 5) C 0 (by omega) w_fl0 dJx4a65c_init_da8c8_5 ?_
  refine r_putR (pc := 8) C dJx4a65c_init_da8c8_8 fx_RJx4a65c_9 (fp_0_1 _) hk ?_
  refine r_ret (pc := 11) C dJx4a65c_init_da8c8_11 rfl (by omega) (by omega) ?_
  exact ⟨rfl, rfl⟩
end Jdk2
