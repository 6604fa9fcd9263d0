/-! The class: a waiting transaction is looked at: its parents, its ancestors, its twins, its sums -/
/-- what t alone may have changed while it waits -/
def oW (S : hS) (T : Nat → Nat) (t r x : Nat) : Prop := ¬ (r = 80 ∧ x = rA S 908 (T t)) ∧ ¬ (r = 102 ∧ x = rA S 907 (T t)) ∧ ¬ (r = 103 ∧ x = rA S 906 (T t))
abbrev OwF (T : Nat → Nat) (t : Nat) (S S1 : hS) : Prop := Ag (fun _ _ => True) (fun _ _ => True) (oW S T t) S S1
section Own
variable {g : GG} {S S1 S2 : hS} {po go n h a t : Nat} {T O : Nat → Nat} {M : MM} {cf : Nat → Int32} {ao : Nat → Option Nat} {mL : Nat → List Nat}
theorem OwF.rA (hT : sK S (T t) ≠ 0) (hg : OwF T t S S1) {f : Nat} : rA S1 f (T t) = rA S f (T t) := rA_eq (hg.r hT trivial)
theorem OwF.tr2 (hT : sK S (T t) ≠ 0) (h1 : OwF T t S S1) (h2 : OwF T t S1 S2) : OwF T t S S2 := by
  refine Ag.tr h1 (h2.mo (fun _ _ q => q) (fun _ _ q => q) (fun r x q => ?_))
  unfold oW at q ⊢
  rw [h1.rA hT, h1.rA hT, h1.rA hT]
  exact q
theorem OwF.gr (hg : OwF T t S S1) : GrF po S S1 := hg.mo (fun _ _ _ => trivial) (fun _ _ _ => trivial) (fun r x q => by unfold oA at q; unfold oW; omega)
theorem CR.own (hC : CR g S po go T O M n h a cf ao mL) (hG : GV M n h) (ht : t < n) (hnd : hdB M h t = false) (hg : OwF T t S S1) (hw : M 13 t = nI 1 → ∀ i, i < 3 → aJ S1 80 (rA S 908 (T t)) i = 0) : CR g S1 po go T O M n h a cf ao mL := by
  obtain ⟨c1, c2, c3, c4, c5, c6, c7⟩ := hC
  have hx : ∀ u, u < n → sK S (T u) ≠ 0 := fun u hu => by rw [c1.tk hu]; omega
  have ne : ∀ k, k < h → hdN M k ≠ t := fun k hk q => by rw [hdB_iff.mpr ⟨k, hk, q⟩] at hnd; cases hnd
  have tr2 : ∀ f x, (fun (_ _ : Nat) => True) f x := fun _ _ => trivial
  refine ⟨c1.ag hg (fun x => ⟨trivial, trivial⟩) (fun f x q => trivial) (fun x => by unfold oW; omega), c2.ag c1 hg (fun _ _ _ _ => trivial), c3.ag c1 hG.hn hg (fun _ => trivial), c4.ag c1 hg (fun _ => trivial) (fun _ => ⟨trivial, trivial, trivial⟩), c5.ag c1 hg (fun _ _ _ => trivial) (fun _ _ => ⟨trivial, trivial⟩) (fun r x q1 q2 => by unfold oW; omega), fun k hk => ?_, fun k hk j hj => ?_, fun u hu q i hi => ?_⟩
  · have hk' := hG.hn k hk
    have e6 := c1.r6 hk'
    have e7 := c1.r7 hk'
    rw [rA_eq (hg.r (hx _ hk') trivial), rA_eq (hg.r (hx _ hk') trivial)]
    rw [hg.ar (r := 103) (by rw [e6.2.1]; omega) ⟨by omega, by omega, fun q => ne k hk (c1.inj6 hk' ht q.2)⟩, hg.ar (r := 102) (by rw [e7.2.1]; omega) ⟨by omega, fun q => ne k hk (c1.inj7 hk' ht q.2), by omega⟩]
    exact c6 k hk
  · have hk' := hG.hn k hk
    have e8 := c1.r8 hk'
    rw [rA_eq (hg.r (hx _ hk') trivial), hg.aj (r := 80) (by rw [e8.2.1]; omega) ⟨fun q => ne k hk (c1.inj8 hk' ht q.2), by omega, by omega⟩]
    exact c7.1 k hk j hj
  · have e8 := c1.r8 hu
    rw [rA_eq (hg.r (hx _ hu) trivial)]
    by_cases e : u = t
    · subst e; exact hw q i hi
    · rw [hg.aj (r := 80) (by rw [e8.2.1]; omega) ⟨fun q => e (c1.inj8 hu ht q.2), by omega, by omega⟩]
      exact c7.2 u hu q i hi
theorem OwF.si {f : Nat} {v : Int32} (hg : OwF T t S S1) : OwF T t (setI S f (T t) v) (setI S1 f (T t) v) := fun x hx => by
  refine ⟨hg.k hx, hg.n hx, fun k _ => ⟨?_, hg.j hx (f := k) trivial⟩, fun k _ => hg.r hx (f := k) trivial, fun r q => ⟨hg.ai hx q, hg.aj hx q, hg.ar hx q⟩⟩
  by_cases e : k = f ∧ x = T t
  · obtain ⟨rfl, rfl⟩ := e
    rw [sI_s, sI_s]
  · rw [sI_n (Classical.not_and_iff_not_or_not.mp e), sI_n (Classical.not_and_iff_not_or_not.mp e)]
    exact hg.i hx trivial
end Own
theorem abt_or {a b w : Nat → Int64} (hw : ∀ y, y < 3 → w y = a y ||| b y) {j : Nat} (hj : j < 192) : abt w j = (abt a j || abt b j) := by
  unfold abt
  rw [hw _ (by omega), bt_or]
theorem abt_set {w : Nat → Int64} {k j : Nat} (hj : j < 192) : abt (vp_updL w (k / 64) (w (k / 64) ||| (lN 1 <<< ((nI (k % 64)).toInt64 &&& 63)))) j = (abt w j || decide (j = k)) := by
  unfold abt
  by_cases e : j / 64 = k / 64
  · rw [show vp_updL w (k / 64) (w (k / 64) ||| (lN 1 <<< ((nI (k % 64)).toInt64 &&& 63))) (j / 64) = w (k / 64) ||| (lN 1 <<< ((nI (k % 64)).toInt64 &&& 63)) by rw [e]; simp [vp_updL], bt_or, bt_sh (by omega) (by omega), e]
    congr 1
    by_cases e2 : j = k
    · rw [decide_eq_true e2, decide_eq_true (by rw [e2])]
    · rw [decide_eq_false e2, decide_eq_false (by omega)]
  · rw [show vp_updL w (k / 64) (w (k / 64) ||| (lN 1 <<< ((nI (k % 64)).toInt64 &&& 63))) (j / 64) = w (j / 64) by simp [vp_updL, e], decide_eq_false (fun q => e (by rw [q])), Bool.or_false]
theorem putJ_putJ {S : hS} {r b : Nat} {f1 f2 : Nat → Int64} : putJ (putJ S r b f1) r b f2 = putJ S r b f2 := by
  have e : u2r (u2r S.2.2.2.2.2.2.1 r b f1) r b f2 = u2r S.2.2.2.2.2.2.1 r b f2 := by
    funext j x
    simp only [u2r]
    split
    · split <;> rfl
    · rfl
  show (S.1, S.2.1, S.2.2.1, S.2.2.2.1, S.2.2.2.2.1, S.2.2.2.2.2.1, u2r (u2r S.2.2.2.2.2.2.1 r b f1) r b f2, S.2.2.2.2.2.2.2) = _
  rw [e]
  rfl
theorem putJ_id {S : hS} {r b : Nat} : putJ S r b (aJ S r b) = S := by
  have : u2r S.2.2.2.2.2.2.1 r b (aJ S r b) = S.2.2.2.2.2.2.1 := by
    funext j x
    simp only [u2r]
    split
    · next e1 => split
                 · next e2 => subst e1; subst e2; rfl
                 · rfl
    · rfl
  unfold putJ
  rw [this]
section Gather
variable {l : Launch} {g : GG} {S : hS} {po go n h a t : Nat} {T O : Nat → Nat} {M : MM} {cf : Nat → Int32} {ao : Nat → Option Nat} {mL : Nat → List Nat}
theorem ownJ {w : Nat → Int64} : OwF T t S (putJ S 80 (rA S 908 (T t)) w) := Ag.pj (fun q => q.1 ⟨rfl, rfl⟩)
theorem cg_gather (hG : GS S po go T O M n) (hH : HN S T M n h) (hGV : GV M n h) (hO : ODR M n h) (hA : ∀ k, k < h → ∀ j, j < 192 → abt (aJ S 80 (rA S 908 (T (hdN M k)))) j = (decide (j < h) && anc M n h (hdN M k) (hdN M j))) (ht : t < n) (hnd : hdB M h t = false) (hP : PT S T M n t) (hp : PHd M n t h) (hz : ∀ i, i < 3 → aJ S 80 (rA S 908 (T t)) i = 0) : Sp l g mX8_gatherAncestors 0 0 [vr (some (T t))] S (fun r S' => r = none ∧ ∃ w, S' = putJ S 80 (rA S 908 (T t)) w ∧ ∀ j, j < 192 → abt w j = (decide (j < h) && anc M n h t (hdN M j))) := by
  have h6 := hG.r6 ht
  have h8 := hG.r8 ht
  have h4 := (hGV.2.2.1 t ht).2.1
  have hn := hGV.1
  have hh := hGV.2.1
  refine Sp.start (own := RX8) [(0, vr (some (T t)))] (by decide +kernel) rfl rfl (Nat.le_of_ble_eq_true rfl) ?_
  intro J C
  have L : ∀ i (w : Nat → Int64), i ≤ nP (M 11) t → (∀ j, j < 192 → abt w j = (decide (j < h) && anyU (fun x => decide (par M n t x = hdN M j) || anc M n h (par M n t x) (hdN M j)) i)) → J 2 [(0, vr (some (T t))), (1, vi (nI i))] [] (putJ S 80 (rA S 908 (T t)) w) 0 0 := by
    refine up_loop _ _ _ ?_ ?_
    · intro w hw
      refine r_iload_n (pc := 2) C dX8_gatherAncestors_2 rfl ?_
      refine r_aload_n (pc := 3) C dX8_gatherAncestors_3 rfl ?_
      refine r_getR (pc := 4) C dX8_gatherAncestors_4 fx_RX8_35 (show sK (putJ S 80 (rA S 908 (T t)) w) (T t) = 9 + 1 from hG.tk ht) h6.1 ?_
      refine r_alen (pc := 7) C dX8_gatherAncestors_7 h6.2.1 (by first | decide | omega) ?_
      rw [show sN (putJ S 80 (rA S 908 (T t)) w) (rA S 906 (T t)) = nP (M 11) t from h6.2.2]
      refine r_icmp_ge (pc := 8) (tgt := 76) C dX8_gatherAncestors_8 (by decide) (fun c8 => ?_) (fun c8 => ?_)
      · refine r_ret (pc := 76) C dX8_gatherAncestors_76 rfl (by omega) (by omega) ?_
        exact ⟨rfl, w, rfl, fun j hj => by rw [hw j hj, anc_rec hO (Nat.le_refl _) hp]⟩
      · exact absurd (Int32.le_refl _) c8
    · intro i w hi hw ih
      obtain ⟨k, hk, ek⟩ := hp i hi
      have hPi := hP i hi
      have hk' := hGV.hn k hk
      have hpk : sK S (T (par M n t i)) = 10 := hG.tk hPi.2
      have h8p := hG.r8 hPi.2
      have nepk : rA S 908 (T (par M n t i)) ≠ rA S 908 (T t) := fun q => by
        have := hG.inj8 hPi.2 ht q
        rw [← this, ek, hdB_iff.mpr ⟨k, hk, rfl⟩] at hnd
        cases hnd
      have hnum : sI S 909 (T (par M n t i)) = nI k := by rw [ek]; exact hH.1 k hk
      -- the words of the parent are put in, one by one
      have L2 : ∀ y (w2 : Nat → Int64), y ≤ 3 → (∀ z, z < 3 → w2 z = if z < y then w z ||| aJ S 80 (rA S 908 (T (par M n t i))) z else w z) → J 20 [(0, vr (some (T t))), (1, vi (nI i)), (2, vr (some (T (par M n t i)))), (3, vi (nI y))] [] (putJ S 80 (rA S 908 (T t)) w2) 0 0 := by
        refine up_loop _ _ _ ?_ ?_
        · intro w2 hw2
          refine r_iload_n (pc := 20) C dX8_gatherAncestors_20 rfl ?_
          refine r_iconst (pc := 21) C (nI 3) dX8_gatherAncestors_21 rfl ?_
          refine r_icmp_ge (pc := 22) (tgt := 46) C dX8_gatherAncestors_22 (by decide) (fun c22 => ?_) (fun c22 => ?_)
          · refine r_aload_n (pc := 46) C dX8_gatherAncestors_46 rfl ?_
            refine r_getR (pc := 47) C dX8_gatherAncestors_47 fx_RX8_44 (show sK (putJ S 80 (rA S 908 (T t)) w2) (T t) = 9 + 1 from hG.tk ht) h8.1 ?_
            refine r_aload_n (pc := 50) C dX8_gatherAncestors_50 rfl ?_
            refine r_getI (pc := 51) C dX8_gatherAncestors_51 fx_RX8_48 (show sK (putJ S 80 (rA S 908 (T t)) w2) (T (par M n t i)) = 9 + 1 from hpk) ?_
            rw [show sI (putJ S 80 (rA S 908 (T t)) w2) 909 (T (par M n t i)) = nI k from hnum]
            refine r_bipush (pc := 54) C (nI 6) dX8_gatherAncestors_54 rfl ?_
            refine r_ishr (pc := 56) C dX8_gatherAncestors_56 ?_
            rw [pk_shrN (show k < 2 ^ 31 by omega) _ 6 (by decide), show k / 2 ^ 6 = k / 64 from rfl]
            refine r_dup2 (pc := 57) C dX8_gatherAncestors_57 rfl rfl ?_
            refine r_lald (pc := 58) C dX8_gatherAncestors_58 h8.2.1 (by decide) h8.2.2 (vp_in_nI (by omega) (by omega)) (nI_clamp (by omega)) ?_
            rw [aJ_ps]
            refine r_lconst (pc := 59) C (lN 1) dX8_gatherAncestors_59 rfl ?_
            refine r_aload_n (pc := 60) C dX8_gatherAncestors_60 rfl ?_
            refine r_getI (pc := 61) C dX8_gatherAncestors_61 fx_RX8_48 (show sK (putJ S 80 (rA S 908 (T t)) w2) (T (par M n t i)) = 9 + 1 from hpk) ?_
            rw [show sI (putJ S 80 (rA S 908 (T t)) w2) 909 (T (par M n t i)) = nI k from hnum]
            refine r_bipush (pc := 64) C (nI 63) dX8_gatherAncestors_64 rfl ?_
            refine r_iand (pc := 66) C dX8_gatherAncestors_66 ?_
            rw [pk_andN (show k < 2 ^ 32 by omega) 6 (by decide), show k % 2 ^ 6 = k % 64 from rfl]
            refine r_lshl (pc := 67) C dX8_gatherAncestors_67 ?_
            refine r_lor (pc := 68) C dX8_gatherAncestors_68 ?_
            refine r_last (pc := 69) C dX8_gatherAncestors_69 h8.2.1 (by decide) h8.2.2 (vp_in_nI (by omega) (by omega)) (nI_clamp (by omega)) ?_
            rw [aJ_ps, putJ_putJ]
            refine r_iinc (pc := 70) C _ dX8_gatherAncestors_70 rfl (nI_1 _) (by decide) rfl ?_
            refine r_goto (pc := 73) (tgt := 2) C dX8_gatherAncestors_73 (by decide) ?_
            refine r_lv C [(0, vr (some (T t))), (1, vi (nI (i + 1)))] rfl (ih _ (fun j hj => ?_))
            rw [abt_set hj, abt_or (a := w) (b := aJ S 80 (rA S 908 (T (par M n t i)))) (fun z hz => by rw [hw2 z hz, if_pos hz]) hj, hw j hj, ek, hA k hk j hj]
            simp only [anyU]
            rw [ek]
            by_cases e9 : j < h
            · rw [decide_eq_true e9, Bool.true_and, Bool.true_and, Bool.true_and]
              by_cases e10 : j = k
              · subst e10; rw [decide_eq_true rfl, decide_eq_true rfl, Bool.or_true, Bool.true_or, Bool.or_true]
              · rw [decide_eq_false e10, decide_eq_false (show ¬ hdN M k = hdN M j from fun q => e10 (hO.1 j k e9 hk q.symm)), Bool.or_false, Bool.false_or]
            · rw [decide_eq_false e9, decide_eq_false (show ¬ j = k by omega)]; rfl
          · exact absurd (Int32.le_refl _) c22
        · intro y w2 hy hw2 ih2
          refine r_iload_n (pc := 20) C dX8_gatherAncestors_20 rfl ?_
          refine r_iconst (pc := 21) C (nI 3) dX8_gatherAncestors_21 rfl ?_
          refine r_icmp_ge (pc := 22) (tgt := 46) C dX8_gatherAncestors_22 (by decide) (fun c22 => ?_) (fun c22 => ?_)
          · exact absurd c22 (nI_ge hy (by omega))
          · refine r_aload_n (pc := 25) C dX8_gatherAncestors_25 rfl ?_
            refine r_getR (pc := 26) C dX8_gatherAncestors_26 fx_RX8_44 (show sK (putJ S 80 (rA S 908 (T t)) w2) (T t) = 9 + 1 from hG.tk ht) h8.1 ?_
            refine r_iload_n (pc := 29) C dX8_gatherAncestors_29 rfl ?_
            refine r_dup2 (pc := 30) C dX8_gatherAncestors_30 rfl rfl ?_
            refine r_lald (pc := 31) C dX8_gatherAncestors_31 h8.2.1 (by decide) h8.2.2 (by first | assumption | exact vp_in_nI (by omega) (by omega)) (by first | exact nI_clamp (by omega) | rfl) ?_
            rw [aJ_ps]
            refine r_aload_n (pc := 32) C dX8_gatherAncestors_32 rfl ?_
            refine r_getR (pc := 33) C dX8_gatherAncestors_33 fx_RX8_44 (show sK (putJ S 80 (rA S 908 (T t)) w2) (T (par M n t i)) = 9 + 1 from hpk) h8p.1 ?_
            refine r_iload_n (pc := 36) C dX8_gatherAncestors_36 rfl ?_
            refine r_lald (pc := 37) C dX8_gatherAncestors_37 h8p.2.1 (by decide) h8p.2.2 (by first | assumption | exact vp_in_nI (by omega) (by omega)) (by first | exact nI_clamp (by omega) | rfl) ?_
            rw [aJ_pn (Or.inr nepk)]
            refine r_lor (pc := 38) C dX8_gatherAncestors_38 ?_
            refine r_last (pc := 39) C dX8_gatherAncestors_39 h8.2.1 (by decide) h8.2.2 (by first | assumption | exact vp_in_nI (by omega) (by omega)) (by first | exact nI_clamp (by omega) | rfl) ?_
            rw [aJ_ps, putJ_putJ]
            refine r_iinc (pc := 40) C _ dX8_gatherAncestors_40 rfl (nI_1 _) (by decide) rfl ?_
            refine r_goto (pc := 43) (tgt := 20) C dX8_gatherAncestors_43 (by decide) ?_
            refine r_lv C [(0, vr (some (T t))), (1, vi (nI i)), (2, vr (some (T (par M n t i)))), (3, vi (nI (y + 1)))] rfl (ih2 _ (fun z hz => ?_))
            by_cases e9 : z = y
            · subst e9
              rw [if_pos (by omega), show vp_updL w2 z (w2 z ||| aJ S 80 (rA S 908 (T (par M n t i))) z) z = w2 z ||| aJ S 80 (rA S 908 (T (par M n t i))) z by simp [vp_updL], hw2 z hz, if_neg (by omega)]
            · rw [show vp_updL w2 y (w2 y ||| aJ S 80 (rA S 908 (T (par M n t i))) y) z = w2 z by simp [vp_updL, e9], hw2 z hz]
              by_cases e10 : z < y
              · rw [if_pos e10, if_pos (by omega)]
              · rw [if_neg e10, if_neg (by omega)]
      refine r_iload_n (pc := 2) C dX8_gatherAncestors_2 rfl ?_
      refine r_aload_n (pc := 3) C dX8_gatherAncestors_3 rfl ?_
      refine r_getR (pc := 4) C dX8_gatherAncestors_4 fx_RX8_35 (show sK (putJ S 80 (rA S 908 (T t)) w) (T t) = 9 + 1 from hG.tk ht) h6.1 ?_
      refine r_alen (pc := 7) C dX8_gatherAncestors_7 h6.2.1 (by first | decide | omega) ?_
      rw [show sN (putJ S 80 (rA S 908 (T t)) w) (rA S 906 (T t)) = nP (M 11) t from h6.2.2]
      refine r_icmp_ge (pc := 8) (tgt := 76) C dX8_gatherAncestors_8 (by decide) (fun c8 => ?_) (fun c8 => ?_)
      · exact absurd c8 (nI_ge hi (by omega))
      · refine r_aload_n (pc := 11) C dX8_gatherAncestors_11 rfl ?_
        refine r_getR (pc := 12) C dX8_gatherAncestors_12 fx_RX8_35 (show sK (putJ S 80 (rA S 908 (T t)) w) (T t) = 9 + 1 from hG.tk ht) h6.1 ?_
        refine r_iload_n (pc := 15) C dX8_gatherAncestors_15 rfl ?_
        refine r_aald (pc := 16) C dX8_gatherAncestors_16 h6.2.1 (by decide) h6.2.2 (by first | assumption | exact vp_in_nI (by omega) (by omega)) (by first | exact nI_clamp (by omega) | rfl) ?_
        rw [show aR (putJ S 80 (rA S 908 (T t)) w) 103 (rA S 906 (T t)) i = some (T (par M n t i)) from hPi.1]
        refine r_astore_n (pc := 17) C dX8_gatherAncestors_17 (by decide) rfl ?_
        refine r_iconst (pc := 18) C (nI 0) dX8_gatherAncestors_18 rfl ?_
        refine r_istore_n (pc := 19) C dX8_gatherAncestors_19 (by decide) rfl ?_
        exact r_lv C [(0, vr (some (T t))), (1, vi (nI i)), (2, vr (some (T (par M n t i)))), (3, vi (nI 0))] rfl (L2 0 w (by omega) (fun z hz => by rw [if_neg (by omega)]))
  refine r_iconst (pc := 0) C (nI 0) dX8_gatherAncestors_0 rfl ?_
  refine r_istore_n (pc := 1) C dX8_gatherAncestors_1 (by decide) rfl ?_
  have q := L 0 (aJ S 80 (rA S 908 (T t))) (by omega) (fun j hj => by unfold abt; rw [hz _ (by omega), bt_zero]; simp [anyU])
  rw [putJ_id] at q
  exact r_lv C [(0, vr (some (T t))), (1, vi (nI 0))] rfl q
theorem cg_twins (hG : GS S po go T O M n) (hGV : GV M n h) (ht : t < n) : Sp l g mX8_hasTwins 0 0 [vr (some (T t))] S (fun r S' => r = some (vi (bi (twP M t (nP (M 11) t) || anyU (fun i => twX M t i i) (nX (M 11) t)))) ∧ S' = S) := by
  have hR := hGV.2.2.1 t ht
  have h2 := (hG.t ht).2.2.1
  have h3 := (hG.t ht).2.2.2.1
  have h5 := (hG.t ht).2.2.2.2.1
  have p4 := hR.2.1
  have x4 := hR.2.2.1
  have k2 := h2.2.1
  have k3 := h3.2.1
  refine Sp.start (own := RX8) [(0, vr (some (T t)))] (by decide +kernel) rfl rfl (Nat.le_of_ble_eq_true rfl) ?_
  intro J C
  have LX : twP M t (nP (M 11) t) = false → ∀ i (u : Unit), i ≤ nX (M 11) t → anyU (fun i => twX M t i i) i = false → J 49 [(0, vr (some (T t))), (1, vi (nI i))] [] S 0 0 := by
    intro hp0
    refine up_loop _ _ _ ?_ ?_
    · intro u hu
      refine r_iload_n (pc := 49) C dX8_hasTwins_49 rfl ?_
      refine r_aload_n (pc := 50) C dX8_hasTwins_50 rfl ?_
      refine r_getR (pc := 51) C dX8_hasTwins_51 fx_RX8_25 (hG.tk ht) h3.1 ?_
      refine r_alen (pc := 54) C dX8_hasTwins_54 (rfl : sK S (rA S 903 (T t)) = sK S (rA S 903 (T t))) (by first | decide | omega) ?_
      rw [h3.2.2.1]
      refine r_icmp_ge (pc := 55) (tgt := 109) C dX8_hasTwins_55 (by decide) (fun c55 => ?_) (fun c55 => ?_)
      · refine r_iconst (pc := 109) C (nI 0) dX8_hasTwins_109 rfl ?_
        refine r_zret (pc := 110) C dX8_hasTwins_110 rfl (by first | exact Or.inl rfl | exact Or.inr rfl | assumption) (by omega) (by omega) ?_
        exact ⟨by rw [hp0, hu]; rfl, rfl⟩
      · exact absurd (Int32.le_refl _) c55
    · intro i u hi hu ih
      have L2 : ∀ j (u : Unit), j ≤ i → twX M t i j = false → J 60 [(0, vr (some (T t))), (1, vi (nI i)), (2, vi (nI j))] [] S 0 0 := by
        refine up_loop _ _ _ ?_ ?_
        · intro u2 hu2
          refine r_iload_n (pc := 60) C dX8_hasTwins_60 rfl ?_
          refine r_iload_n (pc := 61) C dX8_hasTwins_61 rfl ?_
          refine r_icmp_ge (pc := 62) (tgt := 103) C dX8_hasTwins_62 (by decide) (fun c62 => ?_) (fun c62 => ?_)
          · refine r_iinc (pc := 103) C _ dX8_hasTwins_103 rfl (nI_1 _) (by decide) rfl ?_
            refine r_goto (pc := 106) (tgt := 49) C dX8_hasTwins_106 (by decide) ?_
            exact r_lv C [(0, vr (some (T t))), (1, vi (nI (i + 1)))] rfl (ih u (anyU_s hu hu2))
          · exact absurd (Int32.le_refl _) c62
        · intro j u2 hj hu2 ih2
          have hjx : j < nX (M 11) t := by omega
          have nx : (decide (xid (M 11) t j = xid (M 11) t i) && decide (xix (M 11) t j = xix (M 11) t i)) = false → J 60 [(0, vr (some (T t))), (1, vi (nI i)), (2, vi (nI (j + 1)))] [] S 0 0 := fun q => ih2 u2 (anyU_s hu2 q)
          refine r_iload_n (pc := 60) C dX8_hasTwins_60 rfl ?_
          refine r_iload_n (pc := 61) C dX8_hasTwins_61 rfl ?_
          refine r_icmp_ge (pc := 62) (tgt := 103) C dX8_hasTwins_62 (by decide) (fun c62 => ?_) (fun c62 => ?_)
          · exact absurd c62 (nI_ge hj (by omega))
          · refine r_aload_n (pc := 65) C dX8_hasTwins_65 rfl ?_
            refine r_getR (pc := 66) C dX8_hasTwins_66 fx_RX8_25 (hG.tk ht) h3.1 ?_
            refine r_iload_n (pc := 69) C dX8_hasTwins_69 rfl ?_
            refine r_iald (pc := 70) C dX8_hasTwins_70 (h3.2.2.2 i hi).1 (by decide) h3.2.2.1 (by first | assumption | exact vp_in_nI (by omega) (by omega)) (by first | exact nI_clamp (by omega) | rfl) ?_
            rw [(h3.2.2.2 i hi).2]
            refine r_aload_n (pc := 71) C dX8_hasTwins_71 rfl ?_
            refine r_getR (pc := 72) C dX8_hasTwins_72 fx_RX8_25 (hG.tk ht) h3.1 ?_
            refine r_iload_n (pc := 75) C dX8_hasTwins_75 rfl ?_
            refine r_iald (pc := 76) C dX8_hasTwins_76 (h3.2.2.2 j hjx).1 (by decide) h3.2.2.1 (by first | assumption | exact vp_in_nI (by omega) (by omega)) (by first | exact nI_clamp (by omega) | rfl) ?_
            rw [(h3.2.2.2 j hjx).2]
            refine r_icmp_ne (pc := 77) (tgt := 97) C dX8_hasTwins_77 (by decide) (fun c77 => ?_) (fun c77 => ?_)
            · have ev := nx (by rw [decide_eq_false (fun q => c77 q.symm), Bool.false_and])
              refine r_iinc (pc := 97) C _ dX8_hasTwins_97 rfl (nI_1 _) (by decide) rfl ?_
              refine r_goto (pc := 100) (tgt := 60) C dX8_hasTwins_100 (by decide) ?_
              exact r_lv C [(0, vr (some (T t))), (1, vi (nI i)), (2, vi (nI (j + 1)))] rfl ev
            · refine r_aload_n (pc := 80) C dX8_hasTwins_80 rfl ?_
              refine r_getR (pc := 81) C dX8_hasTwins_81 fx_RX8_28 (hG.tk ht) h5.1 ?_
              refine r_iload_n (pc := 84) C dX8_hasTwins_84 rfl ?_
              refine r_iald (pc := 85) C dX8_hasTwins_85 (h5.2.2.2 i hi).1 (by decide) h5.2.2.1 (by first | assumption | exact vp_in_nI (by omega) (by omega)) (by first | exact nI_clamp (by omega) | rfl) ?_
              rw [(h5.2.2.2 i hi).2]
              refine r_aload_n (pc := 86) C dX8_hasTwins_86 rfl ?_
              refine r_getR (pc := 87) C dX8_hasTwins_87 fx_RX8_28 (hG.tk ht) h5.1 ?_
              refine r_iload_n (pc := 90) C dX8_hasTwins_90 rfl ?_
              refine r_iald (pc := 91) C dX8_hasTwins_91 (h5.2.2.2 j hjx).1 (by decide) h5.2.2.1 (by first | assumption | exact vp_in_nI (by omega) (by omega)) (by first | exact nI_clamp (by omega) | rfl) ?_
              rw [(h5.2.2.2 j hjx).2]
              refine r_icmp_ne (pc := 92) (tgt := 97) C dX8_hasTwins_92 (by decide) (fun c92 => ?_) (fun c92 => ?_)
              · dsimp only at c92
                have ev := nx (by rw [decide_eq_false (show ¬ xix (M 11) t j = xix (M 11) t i from fun q => c92 (by rw [q])), Bool.and_false])
                refine r_iinc (pc := 97) C _ dX8_hasTwins_97 rfl (nI_1 _) (by decide) rfl ?_
                refine r_goto (pc := 100) (tgt := 60) C dX8_hasTwins_100 (by decide) ?_
                exact r_lv C [(0, vr (some (T t))), (1, vi (nI i)), (2, vi (nI (j + 1)))] rfl ev
              · dsimp only at c92
                have c9 : (decide (xid (M 11) t j = xid (M 11) t i) && decide (xix (M 11) t j = xix (M 11) t i)) = true := by rw [decide_eq_true c77.symm, decide_eq_true (nI_inj' c92.symm (by have := rN_lt (M 11) t (fI (M 11) t + 5 + 5 * j); unfold xix; omega) (by have := rN_lt (M 11) t (fI (M 11) t + 5 + 5 * i); unfold xix; omega))]; rfl
                refine r_iconst (pc := 95) C (nI 1) dX8_hasTwins_95 rfl ?_
                refine r_zret (pc := 96) C dX8_hasTwins_96 rfl (by first | exact Or.inl rfl | exact Or.inr rfl | assumption) (by omega) (by omega) ?_
                exact ⟨by rw [anyU_t (f := fun i => twX M t i i) hi (anyU_t (f := fun j => decide (xid (M 11) t j = xid (M 11) t i) && decide (xix (M 11) t j = xix (M 11) t i)) hj c9), Bool.or_true]; rfl, rfl⟩
      refine r_iload_n (pc := 49) C dX8_hasTwins_49 rfl ?_
      refine r_aload_n (pc := 50) C dX8_hasTwins_50 rfl ?_
      refine r_getR (pc := 51) C dX8_hasTwins_51 fx_RX8_25 (hG.tk ht) h3.1 ?_
      refine r_alen (pc := 54) C dX8_hasTwins_54 (rfl : sK S (rA S 903 (T t)) = sK S (rA S 903 (T t))) (by first | decide | omega) ?_
      rw [h3.2.2.1]
      refine r_icmp_ge (pc := 55) (tgt := 109) C dX8_hasTwins_55 (by decide) (fun c55 => ?_) (fun c55 => ?_)
      · exact absurd c55 (nI_ge hi (by omega))
      · refine r_iconst (pc := 58) C (nI 0) dX8_hasTwins_58 rfl ?_
        refine r_istore_n (pc := 59) C dX8_hasTwins_59 (by decide) rfl ?_
        exact r_lv C [(0, vr (some (T t))), (1, vi (nI i)), (2, vi (nI 0))] rfl (L2 0 () (by omega) rfl)
  have LP : ∀ i (u : Unit), i ≤ nP (M 11) t → twP M t i = false → J 2 [(0, vr (some (T t))), (1, vi (nI i))] [] S 0 0 := by
    refine up_loop _ _ _ ?_ ?_
    · intro u hu
      refine r_iload_n (pc := 2) C dX8_hasTwins_2 rfl ?_
      refine r_aload_n (pc := 3) C dX8_hasTwins_3 rfl ?_
      refine r_getR (pc := 4) C dX8_hasTwins_4 fx_RX8_21 (hG.tk ht) h2.1 ?_
      refine r_alen (pc := 7) C dX8_hasTwins_7 (rfl : sK S (rA S 902 (T t)) = sK S (rA S 902 (T t))) (by first | decide | omega) ?_
      rw [h2.2.2.1]
      refine r_icmp_ge (pc := 8) (tgt := 47) C dX8_hasTwins_8 (by decide) (fun c8 => ?_) (fun c8 => ?_)
      · refine r_iconst (pc := 47) C (nI 0) dX8_hasTwins_47 rfl ?_
        refine r_istore_n (pc := 48) C dX8_hasTwins_48 (by decide) rfl ?_
        exact r_lv C [(0, vr (some (T t))), (1, vi (nI 0))] rfl (LX hu 0 () (by omega) rfl)
      · exact absurd (Int32.le_refl _) c8
    · intro i u hi hu ih
      have L2 : ∀ j (u : Unit), j ≤ i → anyU (fun j => decide (pid (M 11) t i = pid (M 11) t j)) j = false → J 13 [(0, vr (some (T t))), (1, vi (nI i)), (2, vi (nI j))] [] S 0 0 := by
        refine up_loop _ _ _ ?_ ?_
        · intro u2 hu2
          refine r_iload_n (pc := 13) C dX8_hasTwins_13 rfl ?_
          refine r_iload_n (pc := 14) C dX8_hasTwins_14 rfl ?_
          refine r_icmp_ge (pc := 15) (tgt := 41) C dX8_hasTwins_15 (by decide) (fun c15 => ?_) (fun c15 => ?_)
          · refine r_iinc (pc := 41) C _ dX8_hasTwins_41 rfl (nI_1 _) (by decide) rfl ?_
            refine r_goto (pc := 44) (tgt := 2) C dX8_hasTwins_44 (by decide) ?_
            exact r_lv C [(0, vr (some (T t))), (1, vi (nI (i + 1)))] rfl (ih u (anyU_s hu hu2))
          · exact absurd (Int32.le_refl _) c15
        · intro j u2 hj hu2 ih2
          have hjx : j < nP (M 11) t := by omega
          refine r_iload_n (pc := 13) C dX8_hasTwins_13 rfl ?_
          refine r_iload_n (pc := 14) C dX8_hasTwins_14 rfl ?_
          refine r_icmp_ge (pc := 15) (tgt := 41) C dX8_hasTwins_15 (by decide) (fun c15 => ?_) (fun c15 => ?_)
          · exact absurd c15 (nI_ge hj (by omega))
          · refine r_aload_n (pc := 18) C dX8_hasTwins_18 rfl ?_
            refine r_getR (pc := 19) C dX8_hasTwins_19 fx_RX8_21 (hG.tk ht) h2.1 ?_
            refine r_iload_n (pc := 22) C dX8_hasTwins_22 rfl ?_
            refine r_iald (pc := 23) C dX8_hasTwins_23 (h2.2.2.2 i hi).1 (by decide) h2.2.2.1 (by first | assumption | exact vp_in_nI (by omega) (by omega)) (by first | exact nI_clamp (by omega) | rfl) ?_
            rw [(h2.2.2.2 i hi).2]
            refine r_aload_n (pc := 24) C dX8_hasTwins_24 rfl ?_
            refine r_getR (pc := 25) C dX8_hasTwins_25 fx_RX8_21 (hG.tk ht) h2.1 ?_
            refine r_iload_n (pc := 28) C dX8_hasTwins_28 rfl ?_
            refine r_iald (pc := 29) C dX8_hasTwins_29 (h2.2.2.2 j hjx).1 (by decide) h2.2.2.1 (by first | assumption | exact vp_in_nI (by omega) (by omega)) (by first | exact nI_clamp (by omega) | rfl) ?_
            rw [(h2.2.2.2 j hjx).2]
            refine r_icmp_ne (pc := 30) (tgt := 35) C dX8_hasTwins_30 (by decide) (fun c30 => ?_) (fun c30 => ?_)
            · refine r_iinc (pc := 35) C _ dX8_hasTwins_35 rfl (nI_1 _) (by decide) rfl ?_
              refine r_goto (pc := 38) (tgt := 13) C dX8_hasTwins_38 (by decide) ?_
              exact r_lv C [(0, vr (some (T t))), (1, vi (nI i)), (2, vi (nI (j + 1)))] rfl (ih2 u2 (anyU_s hu2 (decide_eq_false c30)))
            · refine r_iconst (pc := 33) C (nI 1) dX8_hasTwins_33 rfl ?_
              refine r_zret (pc := 34) C dX8_hasTwins_34 rfl (by first | exact Or.inl rfl | exact Or.inr rfl | assumption) (by omega) (by omega) ?_
              refine ⟨?_, rfl⟩
              have q : twP M t (nP (M 11) t) = true := anyU_t (i := i) hi (anyU_t (i := j) hj (decide_eq_true c30))
              rw [q]; rfl
      refine r_iload_n (pc := 2) C dX8_hasTwins_2 rfl ?_
      refine r_aload_n (pc := 3) C dX8_hasTwins_3 rfl ?_
      refine r_getR (pc := 4) C dX8_hasTwins_4 fx_RX8_21 (hG.tk ht) h2.1 ?_
      refine r_alen (pc := 7) C dX8_hasTwins_7 (rfl : sK S (rA S 902 (T t)) = sK S (rA S 902 (T t))) (by first | decide | omega) ?_
      rw [h2.2.2.1]
      refine r_icmp_ge (pc := 8) (tgt := 47) C dX8_hasTwins_8 (by decide) (fun c8 => ?_) (fun c8 => ?_)
      · exact absurd c8 (nI_ge hi (by omega))
      · refine r_iconst (pc := 11) C (nI 0) dX8_hasTwins_11 rfl ?_
        refine r_istore_n (pc := 12) C dX8_hasTwins_12 (by decide) rfl ?_
        exact r_lv C [(0, vr (some (T t))), (1, vi (nI i)), (2, vi (nI 0))] rfl (L2 0 () (by omega) rfl)
  refine r_iconst (pc := 0) C (nI 0) dX8_hasTwins_0 rfl ?_
  refine r_istore_n (pc := 1) C dX8_hasTwins_1 (by decide) rfl ?_
  exact r_lv C [(0, vr (some (T t))), (1, vi (nI 0))] rfl (LP 0 () (by omega) rfl)
def sumI (M : MM) (n t : Nat) : Nat → Int64
  | 0 => lN 0
  | i + 1 => sumI M n t i + (amt (M 11) (src M n t i) (xix (M 11) t i)).toInt64
theorem cg_balanced (hG : GS S po go T O M n) (hGV : GV M n h) (ht : t < n) (hQ : ST S T O M n t) (hH : Ht M n t) : Sp l g mX8_isBalanced 0 0 [vr (some (T t))] S (fun r S' => r = some (vi (bi (decide (sumO M t (sumI M n t (nX (M 11) t)) (nO (M 11) t) = lN 0)))) ∧ S' = S) := by
  have hR := hGV.2.2.1 t ht
  have h7 := hG.r7 ht
  have h5 := hG.r5 ht
  have o4 := hR.2.2.2.1
  have x4 := hR.2.2.1
  refine Sp.start (own := RX8) [(0, vr (some (T t)))] (by decide +kernel) rfl rfl (Nat.le_of_ble_eq_true rfl) ?_
  intro J C
  have LO : ∀ i s, i ≤ nO (M 11) t → s = sumO M t (sumI M n t (nX (M 11) t)) i → J 34 [(0, vr (some (T t))), (1, vl s), (3, vi (nI i))] [] S 0 0 := by
    refine up_loop _ _ _ ?_ ?_
    · intro s hs
      subst hs
      refine r_iload_n (pc := 34) C dX8_isBalanced_34 rfl ?_
      refine r_aload_n (pc := 35) C dX8_isBalanced_35 rfl ?_
      refine r_getR (pc := 36) C dX8_isBalanced_36 fx_RX8_31 (hG.tk ht) h5.1 ?_
      refine r_alen (pc := 39) C dX8_isBalanced_39 h5.2.1 (by first | decide | omega) ?_
      rw [h5.2.2]
      refine r_icmp_ge (pc := 40) (tgt := 62) C dX8_isBalanced_40 (by decide) (fun c40 => ?_) (fun c40 => ?_)
      · refine r_lload_n (pc := 62) C dX8_isBalanced_62 rfl ?_
        refine r_lconst (pc := 63) C (lN 0) dX8_isBalanced_63 rfl ?_
        refine r_lcmp (pc := 64) C dX8_isBalanced_64 ?_
        refine r_if_ne (pc := 65) (tgt := 72) C dX8_isBalanced_65 (by decide) (fun c65 => ?_) (fun c65 => ?_)
        · rw [lg_cmp0] at c65
          refine r_iconst (pc := 72) C (nI 0) dX8_isBalanced_72 rfl ?_
          refine r_zret (pc := 73) C dX8_isBalanced_73 rfl (by first | exact Or.inl rfl | exact Or.inr rfl | assumption) (by omega) (by omega) ?_
          first
            | exact ⟨by rw [decide_eq_false c65]; rfl, rfl⟩
            | exact ⟨by rw [decide_eq_true c65]; rfl, rfl⟩
        · rw [lg_cmp0] at c65
          refine r_iconst (pc := 68) C (nI 1) dX8_isBalanced_68 rfl ?_
          refine r_goto (pc := 69) (tgt := 73) C dX8_isBalanced_69 (by decide) ?_
          refine r_zret (pc := 73) C dX8_isBalanced_73 rfl (by first | exact Or.inl rfl | exact Or.inr rfl | assumption) (by omega) (by omega) ?_
          first
            | exact ⟨by rw [decide_eq_false c65]; rfl, rfl⟩
            | exact ⟨by rw [decide_eq_true c65]; rfl, rfl⟩
      · exact absurd (Int32.le_refl _) c40
    · intro i s hi hs ih
      subst hs
      have ho : oV M n (onum t i) := ⟨t, i, ht, hi, rfl⟩
      refine r_iload_n (pc := 34) C dX8_isBalanced_34 rfl ?_
      refine r_aload_n (pc := 35) C dX8_isBalanced_35 rfl ?_
      refine r_getR (pc := 36) C dX8_isBalanced_36 fx_RX8_31 (hG.tk ht) h5.1 ?_
      refine r_alen (pc := 39) C dX8_isBalanced_39 h5.2.1 (by first | decide | omega) ?_
      rw [h5.2.2]
      refine r_icmp_ge (pc := 40) (tgt := 62) C dX8_isBalanced_40 (by decide) (fun c40 => ?_) (fun c40 => ?_)
      · exact absurd c40 (nI_ge hi (by omega))
      · refine r_lload_n (pc := 43) C dX8_isBalanced_43 rfl ?_
        refine r_aload_n (pc := 44) C dX8_isBalanced_44 rfl ?_
        refine r_getR (pc := 45) C dX8_isBalanced_45 fx_RX8_31 (hG.tk ht) h5.1 ?_
        refine r_iload_n (pc := 48) C dX8_isBalanced_48 rfl ?_
        refine r_aald (pc := 49) C dX8_isBalanced_49 h5.2.1 (by decide) h5.2.2 (by first | assumption | exact vp_in_nI (by omega) (by omega)) (by first | exact nI_clamp (by omega) | rfl) ?_
        rw [(hG.t ht).2.2.2.2.2.1.2 i hi]
        refine r_getI (pc := 50) C dX8_isBalanced_50 fx_RX8_80 (hG.o ho).1 ?_
        rw [hG.am ht hi]
        refine r_i2l (pc := 53) C dX8_isBalanced_53 ?_
        refine r_lsub (pc := 54) C dX8_isBalanced_54 ?_
        refine r_lstore_n (pc := 55) C dX8_isBalanced_55 (by decide) rfl ?_
        refine r_iinc (pc := 56) C _ dX8_isBalanced_56 rfl (nI_1 _) (by decide) rfl ?_
        refine r_goto (pc := 59) (tgt := 34) C dX8_isBalanced_59 (by decide) ?_
        exact r_lv C [(0, vr (some (T t))), (1, vl _), (3, vi (nI (i + 1)))] rfl (ih _ rfl)
  have LI : ∀ i s, i ≤ nX (M 11) t → s = sumI M n t i → J 4 [(0, vr (some (T t))), (1, vl s), (3, vi (nI i))] [] S 0 0 := by
    refine up_loop _ _ _ ?_ ?_
    · intro s hs
      subst hs
      refine r_iload_n (pc := 4) C dX8_isBalanced_4 rfl ?_
      refine r_aload_n (pc := 5) C dX8_isBalanced_5 rfl ?_
      refine r_getR (pc := 6) C dX8_isBalanced_6 fx_RX8_41 (hG.tk ht) h7.1 ?_
      refine r_alen (pc := 9) C dX8_isBalanced_9 h7.2.1 (by first | decide | omega) ?_
      rw [h7.2.2]
      refine r_icmp_ge (pc := 10) (tgt := 32) C dX8_isBalanced_10 (by decide) (fun c10 => ?_) (fun c10 => ?_)
      · refine r_iconst (pc := 32) C (nI 0) dX8_isBalanced_32 rfl ?_
        refine r_istore_n (pc := 33) C dX8_isBalanced_33 (by decide) rfl ?_
        exact r_lv C [(0, vr (some (T t))), (1, vl _), (3, vi (nI 0))] rfl (LO 0 _ (by omega) rfl)
      · exact absurd (Int32.le_refl _) c10
    · intro i s hi hs ih
      subst hs
      refine r_iload_n (pc := 4) C dX8_isBalanced_4 rfl ?_
      refine r_aload_n (pc := 5) C dX8_isBalanced_5 rfl ?_
      refine r_getR (pc := 6) C dX8_isBalanced_6 fx_RX8_41 (hG.tk ht) h7.1 ?_
      refine r_alen (pc := 9) C dX8_isBalanced_9 h7.2.1 (by first | decide | omega) ?_
      rw [h7.2.2]
      refine r_icmp_ge (pc := 10) (tgt := 32) C dX8_isBalanced_10 (by decide) (fun c10 => ?_) (fun c10 => ?_)
      · exact absurd c10 (nI_ge hi (by omega))
      · refine r_lload_n (pc := 13) C dX8_isBalanced_13 rfl ?_
        refine r_aload_n (pc := 14) C dX8_isBalanced_14 rfl ?_
        refine r_getR (pc := 15) C dX8_isBalanced_15 fx_RX8_41 (hG.tk ht) h7.1 ?_
        refine r_iload_n (pc := 18) C dX8_isBalanced_18 rfl ?_
        refine r_aald (pc := 19) C dX8_isBalanced_19 h7.2.1 (by decide) h7.2.2 (by first | assumption | exact vp_in_nI (by omega) (by omega)) (by first | exact nI_clamp (by omega) | rfl) ?_
        rw [(hQ i hi).1]
        refine r_getI (pc := 20) C dX8_isBalanced_20 fx_RX8_80 (hG.o (hQ i hi).2).1 ?_
        rw [show sI S 400 (O (out M n t i)) = amt (M 11) (src M n t i) (xix (M 11) t i) from hG.am (hH.src_lt hi) (hH.2.2 i hi).2]
        refine r_i2l (pc := 23) C dX8_isBalanced_23 ?_
        refine r_ladd (pc := 24) C dX8_isBalanced_24 ?_
        refine r_lstore_n (pc := 25) C dX8_isBalanced_25 (by decide) rfl ?_
        refine r_iinc (pc := 26) C _ dX8_isBalanced_26 rfl (nI_1 _) (by decide) rfl ?_
        refine r_goto (pc := 29) (tgt := 4) C dX8_isBalanced_29 (by decide) ?_
        exact r_lv C [(0, vr (some (T t))), (1, vl _), (3, vi (nI (i + 1)))] rfl (ih _ rfl)
  refine r_lconst (pc := 0) C (lN 0) dX8_isBalanced_0 rfl ?_
  refine r_lstore_n (pc := 1) C dX8_isBalanced_1 (by decide) rfl ?_
  refine r_iconst (pc := 2) C (nI 0) dX8_isBalanced_2 rfl ?_
  refine r_istore_n (pc := 3) C dX8_isBalanced_3 (by decide) rfl ?_
  exact r_lv C [(0, vr (some (T t))), (1, vl _), (3, vi (nI 0))] rfl (LI 0 _ (by omega) rfl)
end Gather
