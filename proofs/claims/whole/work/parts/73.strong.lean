/-! The class: strong preference, counting ancestors and descendants -/
section CntP
variable {M : MM} {n h : Nat}
theorem cnt_z {f : Nat → Bool} (hf : ∀ i, f i = false) : ∀ n, cntU f n = 0
  | 0 => rfl
  | n + 1 => by simp only [cntU, hf n, cnt_z hf n]; rfl
theorem cnt_hd (hO : ODR M n h) (hn : ∀ k, k < h → hdN M k < n) {f : Nat → Bool} : ∀ k, k ≤ h → cntU (fun a => hdB M k a && f a) n = cntU (fun j => f (hdN M j)) k
  | 0, _ => by
    rw [cntU_congr (h := fun _ => false) (fun i _ => by rw [show hdB M 0 i = false from rfl, Bool.false_and])]
    exact cnt_z (fun _ => rfl) n
  | k + 1, hk => by
    have ih := cnt_hd hO hn (f := f) k (by omega)
    have hkn := hn k (by omega)
    have hni : hdB M k (hdN M k) = false := by
      cases e5 : hdB M k (hdN M k) with
      | false => rfl
      | true => obtain ⟨j, hj, e6⟩ := hdB_iff.mp e5
                have := hO.1 j k (by omega) (by omega) e6
                omega
    have q := cntU_upd (f := fun a => hdB M k a && f a) (f' := fun a => hdB M (k + 1) a && f a) (t := hdN M k) (fun i hi => by
      rw [hdB_s, decide_eq_false (show ¬ hdN M k = i from fun q => hi q.symm), Bool.or_false]) n hkn
    rw [hni, show hdB M (k + 1) (hdN M k) = true from hdB_iff.mpr ⟨k, by omega, rfl⟩, Bool.false_and, Bool.true_and] at q
    simp only [cntU]
    rw [← ih]
    simpa using q
theorem cnt_tr {f : Nat → Bool} {N : Nat} (hN : h ≤ N) : cntU (fun j => decide (j < h) && f j) N = cntU f h := by
  obtain ⟨d, rfl⟩ : ∃ d, N = h + d := ⟨N - h, by omega⟩
  have e1 : cntU (fun j => decide (j < h) && f j) h = cntU f h := cntU_congr (fun i hi => by rw [decide_eq_true hi, Bool.true_and])
  have e2 : cntU (fun i => decide (h + i < h) && f (h + i)) d = 0 := cnt_z (fun i => by rw [decide_eq_false (by omega), Bool.false_and]) d
  rw [cntU_add d, e1, e2]
  rfl
theorem cnt_anc (hO : ODR M n h) (hn : ∀ k, k < h → hdN M k < n) {k : Nat} (hk : k < h) : cntU (fun j => anc M n h (hdN M k) (hdN M j)) h = cntU (anc M n h (hdN M k)) n := by
  rw [← cnt_hd hO hn (f := anc M n h (hdN M k)) h (Nat.le_refl _)]
  refine cntU_congr (fun a _ => ?_)
  cases e : anc M n h (hdN M k) a with
  | false => rw [Bool.and_false]
  | true => obtain ⟨j, hj, rfl⟩ := anc_lt hO k hk a e
            rw [show hdB M h (hdN M j) = true from hdB_iff.mpr ⟨j, by omega, rfl⟩]; rfl
theorem cnt_des (hO : ODR M n h) (hn : ∀ k, k < h → hdN M k < n) {k : Nat} (hk : k < h) : cntU (desL M n (hdN M k) h) n = cntU (fun j => anc M n h (hdN M j) (hdN M k)) h + 1 := by
  rw [← cnt_hd hO hn (f := fun d => anc M n h d (hdN M k)) h (Nat.le_refl _)]
  have q := cntU_upd (f := fun d => hdB M h d && anc M n h d (hdN M k)) (f' := desL M n (hdN M k) h) (t := hdN M k) (fun i hi => by
    rw [desL_eq hO, decide_eq_false hi, Bool.false_or]) n (hn k hk)
  rw [desL_eq hO, decide_eq_true rfl, Bool.true_or, anc_self hO hk, Bool.and_false] at q
  simpa using q
theorem abt_cnt {w : Nat → Int64} : cntU (abt w) 192 = cntU (bt (w 0)) 64 + cntU (bt (w 1)) 64 + cntU (bt (w 2)) 64 := by
  rw [show 192 = 64 + 64 + 64 from rfl, cntU_add 64, cntU_add 64]
  have a1 : cntU (abt w) 64 = cntU (bt (w 0)) 64 := cntU_congr (fun i hi => by unfold abt; rw [show i / 64 = 0 by omega, show i % 64 = i by omega])
  have a2 : cntU (fun i => abt w (64 + i)) 64 = cntU (bt (w 1)) 64 := cntU_congr (fun i hi => by unfold abt; rw [show (64 + i) / 64 = 1 by omega, show (64 + i) % 64 = i by omega])
  have a3 : cntU (fun i => abt w (64 + 64 + i)) 64 = cntU (bt (w 2)) 64 := cntU_congr (fun i hi => by unfold abt; rw [show (64 + 64 + i) / 64 = 2 by omega, show (64 + 64 + i) % 64 = i by omega])
  rw [a1, a2, a3]
end CntP
section Strong
variable {l : Launch} {g : GG} {S : hS} {po go n h a t : Nat} {T O : Nat → Nat} {M : MM} {cf : Nat → Int32} {ao : Nat → Option Nat} {mL : Nat → List Nat}
theorem cg_cntAnc (hC : CR g S po go T O M n h a cf ao mL) (hO : ODR M n h) (hG : GV M n h) (ht : t < n) : Sp l g mX8_countAncestors 0 0 [vr (some (T t))] S (fun r S' => r = some (vi (if hdB M h t then nI (cntU (anc M n h t) n) else nI 0)) ∧ S' = S) := by
  have h8 := hC.pG.r8 ht
  have hn := hG.1
  have hh := hG.2.1
  refine Sp.start (own := RX8) [(0, vr (some (T t)))] (by decide +kernel) rfl rfl (Nat.le_of_ble_eq_true rfl) ?_
  intro J C
  cases e : hdB M h t with
  | false =>
    refine r_iconst (pc := 0) C (nI 0) dX8_countAncestors_0 rfl ?_
    refine r_istore_n (pc := 1) C dX8_countAncestors_1 (by decide) rfl ?_
    refine r_aload_n (pc := 2) C dX8_countAncestors_2 rfl ?_
    refine r_callV (pc := 3) C (cg_isHeld hC.pG hC.pH (by omega) ht) iX8_isHeld ml_RX8_70 dX8_countAncestors_3 (ci := 9) rfl rfl (hC.pG.tk ht) rfl (by decide) rfl (by simp [cv, Value.category, va_rf]) (by omega) (by omega) (fun r3 S3 h3 => ?_)
    obtain ⟨rfl, e3⟩ := h3
    subst S3
    dsimp only [Option.toList, List.cons_append, List.nil_append]
    rw [e]
    refine r_if_eq (pc := 6) (tgt := 34) C dX8_countAncestors_6 (by decide) (fun c6 => ?_) (fun c6 => ?_)
    · refine r_iload_n (pc := 34) C dX8_countAncestors_34 rfl ?_
      refine r_iret (pc := 35) C dX8_countAncestors_35 rfl (by omega) (by omega) ?_
      exact ⟨by rw [e]; rfl, rfl⟩
    · exact absurd rfl c6
  | true =>
    obtain ⟨k, hk, rfl⟩ := hdB_iff.mp e
    have ew : cntU (abt (aJ S 80 (rA S 908 (T (hdN M k))))) 192 = cntU (anc M n h (hdN M k)) n := by
      rw [← cnt_anc hO hG.hn hk, ← cnt_tr (N := 192) (f := fun j => anc M n h (hdN M k) (hdN M j)) (by omega)]
      exact cntU_congr (fun j hj => hC.pA.1 k hk j hj)
    rw [abt_cnt] at ew
    have L : ∀ i x, i ≤ 3 → x = nI (cntU (abt (aJ S 80 (rA S 908 (T (hdN M k))))) (64 * i)) → J 11 [(0, vr (some (T (hdN M k)))), (1, vi x), (2, vi (nI i))] [] S 0 0 := by
      refine up_loop _ _ _ ?_ ?_
      · intro x hx
        refine r_iload_n (pc := 11) C dX8_countAncestors_11 rfl ?_
        refine r_iconst (pc := 12) C (nI 3) dX8_countAncestors_12 rfl ?_
        refine r_icmp_ge (pc := 13) (tgt := 34) C dX8_countAncestors_13 (by decide) (fun c13 => ?_) (fun c13 => ?_)
        · refine r_iload_n (pc := 34) C dX8_countAncestors_34 rfl ?_
          refine r_iret (pc := 35) C dX8_countAncestors_35 rfl (by omega) (by omega) ?_
          exact ⟨by rw [hx, e, if_pos rfl, ← ew, ← abt_cnt], rfl⟩
        · exact absurd (Int32.le_refl _) c13
      · intro i x hi hx ih
        subst hx
        refine r_iload_n (pc := 11) C dX8_countAncestors_11 rfl ?_
        refine r_iconst (pc := 12) C (nI 3) dX8_countAncestors_12 rfl ?_
        refine r_icmp_ge (pc := 13) (tgt := 34) C dX8_countAncestors_13 (by decide) (fun c13 => ?_) (fun c13 => ?_)
        · exact absurd c13 (nI_ge hi (by omega))
        · refine r_iload_n (pc := 16) C dX8_countAncestors_16 rfl ?_
          refine r_aload_n (pc := 17) C dX8_countAncestors_17 rfl ?_
          refine r_getR (pc := 18) C dX8_countAncestors_18 fx_RX8_44 (hC.pG.tk ht) h8.1 ?_
          refine r_iload_n (pc := 21) C dX8_countAncestors_21 rfl ?_
          refine r_lald (pc := 22) C dX8_countAncestors_22 h8.2.1 (by decide) h8.2.2 (by first | assumption | exact vp_in_nI (by omega) (by omega)) (by first | exact nI_clamp (by omega) | rfl) ?_
          refine r_callS (pc := 23) C (ct_bitCount) iJ13_bitCount_95d88 ml_RX8_74 dX8_countAncestors_23 rfl (by decide) rfl (by simp [cv, Value.category, va_rf]) (by omega) (by omega) (fun r23 S23 h23 => ?_)
          obtain ⟨rfl, e23⟩ := h23
          subst S23
          dsimp only [Option.toList, List.cons_append, List.nil_append]
          refine r_iadd (pc := 26) C dX8_countAncestors_26 ?_
          refine r_istore_n (pc := 27) C dX8_countAncestors_27 (by decide) rfl ?_
          refine r_iinc (pc := 28) C _ dX8_countAncestors_28 rfl (nI_1 _) (by decide) rfl ?_
          refine r_goto (pc := 31) (tgt := 11) C dX8_countAncestors_31 (by decide) ?_
          refine r_lv C [(0, vr (some (T (hdN M k)))), (1, vi _), (2, vi (nI (i + 1)))] rfl (ih _ ?_)
          have a3 : cntU (fun j => abt (aJ S 80 (rA S 908 (T (hdN M k)))) (64 * i + j)) 64 = cntU (bt (aJ S 80 (rA S 908 (T (hdN M k))) i)) 64 := cntU_congr (fun j hj => by unfold abt; rw [show (64 * i + j) / 64 = i by omega, show (64 * i + j) % 64 = j by omega])
          rw [nI_add, show 64 * (i + 1) = 64 * i + 64 by omega, cntU_add (m := 64 * i) 64, a3]
    refine r_iconst (pc := 0) C (nI 0) dX8_countAncestors_0 rfl ?_
    refine r_istore_n (pc := 1) C dX8_countAncestors_1 (by decide) rfl ?_
    refine r_aload_n (pc := 2) C dX8_countAncestors_2 rfl ?_
    refine r_callV (pc := 3) C (cg_isHeld hC.pG hC.pH (by omega) ht) iX8_isHeld ml_RX8_70 dX8_countAncestors_3 (ci := 9) rfl rfl (hC.pG.tk ht) rfl (by decide) rfl (by simp [cv, Value.category, va_rf]) (by omega) (by omega) (fun r3 S3 h3 => ?_)
    obtain ⟨rfl, e3⟩ := h3
    subst S3
    dsimp only [Option.toList, List.cons_append, List.nil_append]
    rw [e]
    refine r_if_eq (pc := 6) (tgt := 34) C dX8_countAncestors_6 (by decide) (fun c6 => ?_) (fun c6 => ?_)
    · exact absurd c6 (by decide)
    · refine r_iconst (pc := 9) C (nI 0) dX8_countAncestors_9 rfl ?_
      refine r_istore_n (pc := 10) C dX8_countAncestors_10 (by decide) rfl ?_
      exact r_lv C [(0, vr (some (T (hdN M k)))), (1, vi _), (2, vi (nI 0))] rfl (L 0 _ (by omega) rfl)
/-- what is marked: strong preference, and that a strong child stands on it -/
def mks2 (S : hS) (T : Nat → Nat) (M : MM) (n h i : Nat) : Prop := (∀ j, j < i → sI S 914 (T (hdN M j)) = bi (stg M n h (hdN M j))) ∧ (∀ j, j < i → sI S 915 (T (hdN M j)) = bi (anyU (fun k => pset M n (hdN M k) (hdN M j) && stg M n h (hdN M k)) i))
theorem iP9 {f x : Nat} (hf : f = 914 ∨ f = 915) : ¬ iP po f x := fun q => by unfold iP at q; omega
theorem CR.mk9 (hC : CR g S po go T O M n h a cf ao mL) (hG : GV M n h) {f x : Nat} {v : Int32} (hf : f = 914 ∨ f = 915) : CR g (setI S f x v) po go T O M n h a cf ao mL := hC.keep hG.hn (Ag.si (iP9 hf))
theorem cg_markStrong (hC : CR g S po go T O M n h a cf ao mL) (hO : ODR M n h) (hG : GV M n h) (hF : Fav M n) : Sp l g mX2_markStrong 0 0 [vr (some go)] S (fun r S' => r = none ∧ CR g S' po go T O M n h a cf ao mL ∧ GrF po S S' ∧ mks2 S' T M n h h) := by
  have hn := hG.1
  have hh := hG.2.1
  have ti : ∀ {j k}, j < h → k < h → T (hdN M j) = T (hdN M k) → j = k := fun hj hk q => hO.1 _ _ hj hk (hC.pG.tinj (hG.hn _ hj) (hG.hn _ hk) q)
  refine Sp.start (own := RX2) [(0, vr (some go))] (by decide +kernel) rfl rfl (Nat.le_of_ble_eq_true rfl) ?_
  intro J C
  have L : ∀ i S1, i ≤ h → (CR g S1 po go T O M n h a cf ao mL ∧ GrF po S S1 ∧ mks2 S1 T M n h i) → J 2 [(0, vr (some go)), (1, vi (nI i))] [] S1 0 0 := by
    refine up_loop _ _ _ ?_ ?_
    · intro S1 ⟨hC1, hg1, hm1⟩
      have hL1 := hC1.pL.l1
      refine r_iload_n (pc := 2) C dX2_markStrong_2 rfl ?_
      refine r_aload_n (pc := 3) C dX2_markStrong_3 rfl ?_
      refine r_getR (pc := 4) C dX2_markStrong_4 fx_RX2_25 hC1.pG.gk hC1.pG.1.2.2.1 ?_
      refine r_callV (pc := 7) C (ct_size hL1) iJx4a65c_size_8abf5 ml_RX2_60 dX2_markStrong_7 (ci := 0) rfl rfl hL1.k rfl (by decide) rfl (by simp [cv, Value.category, va_rf]) (by omega) (by omega) (fun r7 S7 h7 => ?_)
      obtain ⟨rfl, e7⟩ := h7
      subst S7
      dsimp only [Option.toList, List.cons_append, List.nil_append]
      refine r_icmp_ge (pc := 10) (tgt := 93) C dX2_markStrong_10 (by decide) (fun c10 => ?_) (fun c10 => ?_)
      · refine r_ret (pc := 93) C dX2_markStrong_93 rfl (by omega) (by omega) ?_
        exact ⟨rfl, hC1, hg1, hm1⟩
      · exact absurd (Int32.le_refl _) c10
    · intro i S1 hi ⟨hC1, hg1, hm1⟩ ih
      have hL1 := hC1.pL.l1
      have ht := hG.hn i hi
      have hbi : hdB M h (hdN M i) = true := hdB_iff.mpr ⟨i, hi, rfl⟩
      have h6 := hC1.pG.r6 ht
      have h4 := (hG.2.2.1 _ ht).2.1
      have hPP := hC1.pst hG hbi
      have sr := stg_rec hO hi hG.hn
      have ipos : ∀ x, x < nP (M 11) (hdN M i) → ∃ p, p < i ∧ par M n (hdN M i) x = hdN M p := fun x hx => hO.2 i hi x hx
      -- behind the mark of i
      have K53 : ∀ S2, CR g S2 po go T O M n h a cf ao mL → GrF po S S2 → (∀ j, j < i + 1 → sI S2 914 (T (hdN M j)) = bi (stg M n h (hdN M j))) → (∀ j, j < i → sI S2 915 (T (hdN M j)) = bi (anyU (fun k => pset M n (hdN M k) (hdN M j) && stg M n h (hdN M k)) i)) → sI S2 915 (T (hdN M i)) = nI 0 → J 53 [(0, vr (some go)), (1, vi (nI i)), (2, vr (some (T (hdN M i))))] [] S2 0 0 := by
        intro S2 hC2 hg2 m1 m2 m3
        have LP : ∀ x S3, x ≤ nP (M 11) (hdN M i) → (CR g S3 po go T O M n h a cf ao mL ∧ GrF po S S3 ∧ (∀ j, j < i + 1 → sI S3 914 (T (hdN M j)) = bi (stg M n h (hdN M j))) ∧ (∀ j, j < i + 1 → sI S3 915 (T (hdN M j)) = bi (anyU (fun k => pset M n (hdN M k) (hdN M j) && stg M n h (hdN M k)) i || (stg M n h (hdN M i) && anyU (fun y => decide (par M n (hdN M i) y = hdN M j)) x)))) → J 55 [(0, vr (some go)), (1, vi (nI i)), (2, vr (some (T (hdN M i)))), (3, vi (nI x))] [] S3 0 0 := by
          have fin : ∀ S3, (CR g S3 po go T O M n h a cf ao mL ∧ GrF po S S3 ∧ (∀ j, j < i + 1 → sI S3 914 (T (hdN M j)) = bi (stg M n h (hdN M j))) ∧ (∀ j, j < i + 1 → sI S3 915 (T (hdN M j)) = bi (anyU (fun k => pset M n (hdN M k) (hdN M j) && stg M n h (hdN M k)) i || (stg M n h (hdN M i) && anyU (fun y => decide (par M n (hdN M i) y = hdN M j)) (nP (M 11) (hdN M i)))))) → J 2 [(0, vr (some go)), (1, vi (nI (i + 1)))] [] S3 0 0 := by
            intro S3 ⟨q1, q2, q3, q4⟩
            refine ih S3 ⟨q1, q2, q3, fun j hj => ?_⟩
            rw [q4 j hj]
            simp only [anyU]
            rw [Bool.and_comm (stg M n h (hdN M i))]
            rfl
          refine up_loop _ _ _ ?_ ?_
          · intro S3 q
            have h6 := q.1.pG.r6 ht
            refine r_iload_n (pc := 55) C dX2_markStrong_55 rfl ?_
            refine r_aload_n (pc := 56) C dX2_markStrong_56 rfl ?_
            refine r_getR (pc := 57) C dX2_markStrong_57 fx_RX2_115 (q.1.pG.tk ht) h6.1 ?_
            refine r_alen (pc := 60) C dX2_markStrong_60 h6.2.1 (by first | decide | omega) ?_
            rw [h6.2.2]
            refine r_icmp_ge (pc := 61) (tgt := 87) C dX2_markStrong_61 (by decide) (fun c61 => ?_) (fun c61 => ?_)
            · refine r_iinc (pc := 87) C _ dX2_markStrong_87 rfl (nI_1 _) (by decide) rfl ?_
              refine r_goto (pc := 90) (tgt := 2) C dX2_markStrong_90 (by decide) ?_
              exact r_lv C [(0, vr (some go)), (1, vi (nI (i + 1)))] rfl (fin S3 q)
            · exact absurd (Int32.le_refl _) c61
          · intro x S3 hx q ih3
            have h6 := q.1.pG.r6 ht
            have hP3 := (q.1.pst hG hbi).1 x hx
            obtain ⟨p, hp, ep⟩ := ipos x hx
            refine r_iload_n (pc := 55) C dX2_markStrong_55 rfl ?_
            refine r_aload_n (pc := 56) C dX2_markStrong_56 rfl ?_
            refine r_getR (pc := 57) C dX2_markStrong_57 fx_RX2_115 (q.1.pG.tk ht) h6.1 ?_
            refine r_alen (pc := 60) C dX2_markStrong_60 h6.2.1 (by first | decide | omega) ?_
            rw [h6.2.2]
            refine r_icmp_ge (pc := 61) (tgt := 87) C dX2_markStrong_61 (by decide) (fun c61 => ?_) (fun c61 => ?_)
            · exact absurd c61 (nI_ge hx (by omega))
            · refine r_aload_n (pc := 64) C dX2_markStrong_64 rfl ?_
              refine r_getI (pc := 65) C dX2_markStrong_65 fx_RX2_204 (q.1.pG.tk ht) ?_
              rw [q.2.2.1 i (by omega)]
              refine r_if_eq (pc := 68) (tgt := 87) C dX2_markStrong_68 (by decide) (fun c68 => ?_) (fun c68 => ?_)
              · rw [bi_0] at c68
                have ev := fin S3 ⟨q.1, q.2.1, q.2.2.1, fun j hj => by rw [q.2.2.2 j hj, c68, Bool.false_and, Bool.false_and]⟩
                refine r_iinc (pc := 87) C _ dX2_markStrong_87 rfl (nI_1 _) (by decide) rfl ?_
                refine r_goto (pc := 90) (tgt := 2) C dX2_markStrong_90 (by decide) ?_
                exact r_lv C [(0, vr (some go)), (1, vi (nI (i + 1)))] rfl ev
              · rw [bi_0] at c68
                have c68t := ts_nf c68
                refine r_aload_n (pc := 71) C dX2_markStrong_71 rfl ?_
                refine r_getR (pc := 72) C dX2_markStrong_72 fx_RX2_115 (q.1.pG.tk ht) h6.1 ?_
                refine r_iload_n (pc := 75) C dX2_markStrong_75 rfl ?_
                refine r_aald (pc := 76) C dX2_markStrong_76 h6.2.1 (by decide) h6.2.2 (by first | assumption | exact vp_in_nI (by omega) (by omega)) (by first | exact nI_clamp (by omega) | rfl) ?_
                rw [hP3.1]
                refine r_iconst (pc := 77) C (nI 1) dX2_markStrong_77 rfl ?_
                refine r_putI (pc := 78) C dX2_markStrong_78 fx_RX2_198 (fp_9_15 _ (Or.inr rfl)) (q.1.pG.tk hP3.2) ?_
                refine r_iinc (pc := 81) C _ dX2_markStrong_81 rfl (nI_1 _) (by decide) rfl ?_
                refine r_goto (pc := 84) (tgt := 55) C dX2_markStrong_84 (by decide) ?_
                refine r_lv C [(0, vr (some go)), (1, vi (nI i)), (2, vr (some (T (hdN M i)))), (3, vi (nI (x + 1)))] rfl (ih3 _ ⟨q.1.mk9 hG (Or.inr rfl), q.2.1.tr (GrF.w4 (by omega)), fun j hj => ?_, fun j hj => ?_⟩)
                · rw [sI_n (Or.inl (by decide))]; exact q.2.2.1 j hj
                · simp only [anyU]
                  rw [ep]
                  by_cases e9 : j = p
                  · subst e9
                    rw [sI_s, c68t, decide_eq_true rfl, Bool.or_true, Bool.and_true, Bool.or_true]; rfl
                  · rw [sI_n (Or.inr (fun e => e9 (ti (by omega) (by omega) e))), q.2.2.2 j hj, decide_eq_false (show ¬ hdN M p = hdN M j from fun e => e9 (hO.1 j p (by omega) (by omega) e.symm)), Bool.or_false]
        refine r_iconst (pc := 53) C (nI 0) dX2_markStrong_53 rfl ?_
        refine r_istore_n (pc := 54) C dX2_markStrong_54 (by decide) rfl ?_
        refine r_lv C [(0, vr (some go)), (1, vi (nI i)), (2, vr (some (T (hdN M i)))), (3, vi (nI 0))] rfl (LP 0 S2 (by omega) ⟨hC2, hg2, m1, fun j hj => ?_⟩)
        rw [show anyU (fun y => decide (par M n (hdN M i) y = hdN M j)) 0 = false from rfl, Bool.and_false, Bool.or_false]
        by_cases e9 : j = i
        · subst e9
          rw [m3, anyU_no.mpr (fun k hk => by rw [pset_far hO (by omega) (by omega) hi, Bool.false_and])]; rfl
        · exact m2 j (by omega)
      have K50 : ∀ b : Bool, b = stg M n h (hdN M i) → J 50 [(0, vr (some go)), (1, vi (nI i)), (2, vr (some (T (hdN M i))))] [vi (bi b), vr (some (T (hdN M i)))] (setI S1 915 (T (hdN M i)) (nI 0)) 0 0 := by
        intro b hb
        have hC2 := hC1.mk9 (x := T (hdN M i)) (v := nI 0) hG (Or.inr rfl)
        refine r_putI (pc := 50) C dX2_markStrong_50 fx_RX2_204 (fp_9_14 _ (bi_01 b)) (hC2.pG.tk ht) ?_
        refine r_lv C [(0, vr (some go)), (1, vi (nI i)), (2, vr (some (T (hdN M i))))] rfl (K53 _ (hC2.mk9 hG (Or.inl rfl)) ((hg1.tr (GrF.w4 (by omega))).tr (GrF.w4 (by omega))) (fun j hj => ?_) (fun j hj => ?_) ?_)
        · by_cases e9 : j = i
          · subst e9; rw [sI_s, hb]
          · rw [sI_n (Or.inr (fun e => e9 (ti (by omega) hi e))), sI_n (Or.inl (by decide))]; exact hm1.1 j (by omega)
        · rw [sI_n (Or.inl (by decide)), sI_n (Or.inr (fun e => by have := ti (by omega) hi e; omega))]; exact hm1.2 j hj
        · rw [sI_n (Or.inl (by decide)), sI_s]
      refine r_iload_n (pc := 2) C dX2_markStrong_2 rfl ?_
      refine r_aload_n (pc := 3) C dX2_markStrong_3 rfl ?_
      refine r_getR (pc := 4) C dX2_markStrong_4 fx_RX2_25 hC1.pG.gk hC1.pG.1.2.2.1 ?_
      refine r_callV (pc := 7) C (ct_size hL1) iJx4a65c_size_8abf5 ml_RX2_60 dX2_markStrong_7 (ci := 0) rfl rfl hL1.k rfl (by decide) rfl (by simp [cv, Value.category, va_rf]) (by omega) (by omega) (fun r7 S7 h7 => ?_)
      obtain ⟨rfl, e7⟩ := h7
      subst S7
      dsimp only [Option.toList, List.cons_append, List.nil_append]
      refine r_icmp_ge (pc := 10) (tgt := 93) C dX2_markStrong_10 (by decide) (fun c10 => ?_) (fun c10 => ?_)
      · exact absurd c10 (nI_ge hi (by omega))
      · refine r_aload_n (pc := 13) C dX2_markStrong_13 rfl ?_
        refine r_getR (pc := 14) C dX2_markStrong_14 fx_RX2_25 hC1.pG.gk hC1.pG.1.2.2.1 ?_
        refine r_iload_n (pc := 17) C dX2_markStrong_17 rfl ?_
        refine r_callV (pc := 18) C (ct_get (by omega) (by omega) hL1 hi) iJx4a65c_get_915e3 ml_RX2_64 dX2_markStrong_18 (ci := 0) rfl rfl hL1.k rfl (by decide) rfl (by simp [cv, Value.category, va_rf]) (by omega) (by omega) (fun r18 S18 h18 => ?_)
        obtain ⟨rfl, e18⟩ := h18
        subst S18
        dsimp only [Option.toList, List.cons_append, List.nil_append]
        refine r_cast (pc := 21) C dX2_markStrong_21 (ci := 9) rfl kl_RX2_49 (hC1.pG.tk ht) ?_
        refine r_astore_n (pc := 24) C dX2_markStrong_24 (by decide) rfl ?_
        refine r_aload_n (pc := 25) C dX2_markStrong_25 rfl ?_
        refine r_iconst (pc := 26) C (nI 0) dX2_markStrong_26 rfl ?_
        refine r_putI (pc := 27) C dX2_markStrong_27 fx_RX2_198 (fp_9_15 _ (Or.inl rfl)) (hC1.pG.tk ht) ?_
        have hC2 := hC1.mk9 (x := T (hdN M i)) (v := nI 0) hG (Or.inr rfl)
        refine r_aload_n (pc := 30) C dX2_markStrong_30 rfl ?_
        refine r_aload_n (pc := 31) C dX2_markStrong_31 rfl ?_
        refine r_callV (pc := 32) C (cg_isLiked hC2.pG hG hF hC2.pO hC2.pH ht (fun _ => (hC2.pst hG hbi).2)) iX8_isLiked ml_RX2_184 dX2_markStrong_32 (ci := 9) rfl rfl (hC2.pG.tk ht) rfl (by decide) rfl (by simp [cv, Value.category, va_rf]) (by omega) (by omega) (fun r32 S32 h32 => ?_)
        obtain ⟨rfl, e32⟩ := h32
        subst S32
        dsimp only [Option.toList, List.cons_append, List.nil_append]
        rw [hbi, Bool.true_and]
        refine r_if_eq (pc := 35) (tgt := 49) C dX2_markStrong_35 (by decide) (fun c35 => ?_) (fun c35 => ?_)
        · rw [bi_0] at c35
          have ev := K50 false (by rw [sr, c35, Bool.false_and])
          refine r_iconst (pc := 49) C (nI 0) dX2_markStrong_49 rfl ?_
          exact r_lv C [(0, vr (some go)), (1, vi (nI i)), (2, vr (some (T (hdN M i))))] rfl ev
        · rw [bi_0] at c35
          refine r_aload_n (pc := 38) C dX2_markStrong_38 rfl ?_
          refine r_callV (pc := 39) C (cg_strPar (sg := stg M n h) hC2.pG (hG.2.2.1 _ ht) ht (hC2.pst hG hbi).1 (fun x hx => by obtain ⟨p, hp, ep⟩ := ipos x hx; rw [ep, sI_n (Or.inl (by decide))]; exact hm1.1 p hp)) iX8_hasStrongParents ml_RX2_201 dX2_markStrong_39 (ci := 9) rfl rfl (hC2.pG.tk ht) rfl (by decide) rfl (by simp [cv, Value.category, va_rf]) (by omega) (by omega) (fun r39 S39 h39 => ?_)
          obtain ⟨rfl, e39⟩ := h39
          subst S39
          dsimp only [Option.toList, List.cons_append, List.nil_append]
          refine r_if_eq (pc := 42) (tgt := 49) C dX2_markStrong_42 (by decide) (fun c42 => ?_) (fun c42 => ?_)
          · rw [bi_0] at c42
            have ev := K50 false (by rw [sr, c42, Bool.and_false])
            refine r_iconst (pc := 49) C (nI 0) dX2_markStrong_49 rfl ?_
            exact r_lv C [(0, vr (some go)), (1, vi (nI i)), (2, vr (some (T (hdN M i))))] rfl ev
          · rw [bi_0] at c42
            have ev := K50 true (by rw [sr, ts_nf c42, ts_nf c35]; rfl)
            refine r_iconst (pc := 45) C (nI 1) dX2_markStrong_45 rfl ?_
            refine r_goto (pc := 46) (tgt := 50) C dX2_markStrong_46 (by decide) ?_
            exact r_lv C [(0, vr (some go)), (1, vi (nI i)), (2, vr (some (T (hdN M i))))] rfl ev
  refine r_iconst (pc := 0) C (nI 0) dX2_markStrong_0 rfl ?_
  refine r_istore_n (pc := 1) C dX2_markStrong_1 (by decide) rfl ?_
  exact r_lv C [(0, vr (some go)), (1, vi (nI 0))] rfl (L 0 S (by omega) ⟨hC, Ag.rf, fun j hj => by omega, fun j hj => by omega⟩)
theorem tip_m (hi : mks2 S T M n h h) {k : Nat} (hk : k < h) : sI S 914 (T (hdN M k)) = bi (stg M n h (hdN M k)) ∧ ∃ b, sI S 915 (T (hdN M k)) = bi b ∧ tipB M n h (hdN M k) = (stg M n h (hdN M k) && !b) := by
  refine ⟨hi.1 k hk, _, hi.2 k hk, ?_⟩
  unfold tipB
  congr 1
  cases e : anyU (fun j => pset M n (hdN M j) (hdN M k) && stg M n h (hdN M j)) h with
  | false => exact allU_iff.mpr (fun j hj => by have := anyU_no.mp e j hj; rw [this]; rfl)
  | true =>
    obtain ⟨j, hj, q⟩ := anyU_iff.mp e
    exact allU_no (i := j) (by rw [q]; rfl) hj
theorem cg_newParent {x : Int32} (hC : CR g S po go T O M n h a cf ao mL) (hO : ODR M n h) (hG : GV M n h) (hF : Fav M n) : Sp l g mX2_newParent 0 0 [vr (some go), vi x] S (fun r S' => r = some (vr (if x < 0 ∨ nI 4 ≤ x then none else (tpS (fun k => tipB M n h (hdN M k)) h x.toNatClampNeg).map (fun k => T (hdN M k)))) ∧ CR g S' po go T O M n h a cf ao mL ∧ GrF po S S') := by
  have hn := hG.1
  have hh := hG.2.1
  generalize hv : (if x < 0 ∨ nI 4 ≤ x then none else (tpS (fun k => tipB M n h (hdN M k)) h x.toNatClampNeg).map (fun k => T (hdN M k))) = v
  refine Sp.start (own := RX2) [(0, vr (some go)), (1, vi x)] (by decide +kernel) rfl rfl (Nat.le_of_ble_eq_true rfl) ?_
  intro J C
  have L : ∀ S1, CR g S1 po go T O M n h a cf ao mL → GrF po S S1 → mks2 S1 T M n h h → ∀ k (b : Nat), (k ≤ h ∧ b < 4 ∧ v = (tpS (fun k => tipB M n h (hdN M k)) k b).map (fun k => T (hdN M k))) → J 27 [(0, vr (some go)), (1, vi x), (2, vi (nI b)), (3, vi (nI k - 1))] [] S1 0 0 := by
    intro S1 hC1 hg1 hm1
    have hL1 := hC1.pL.l1
    refine dn_loop _ _ ?_ ?_
    · rintro b ⟨-, hb, he⟩
      refine r_iload_n (pc := 27) C dX2_newParent_27 rfl ?_
      refine r_if_lt (pc := 28) (tgt := 76) C dX2_newParent_28 (by decide) (fun c28 => ?_) (fun c28 => ?_)
      · refine r_null (pc := 76) C dX2_newParent_76 ?_
        refine r_aret (pc := 77) C dX2_newParent_77 rfl (Or.inl ⟨_, rfl⟩) (by omega) (by omega) ?_
        exact ⟨by rw [he]; rfl, hC1, hg1⟩
      · exact absurd (by decide) c28
    · rintro k b ⟨hk, hb, he⟩ ih
      have ht := hG.hn k hk
      obtain ⟨t1, b2, t2, t3⟩ := tip_m hm1 hk
      rw [nI_pred]
      refine r_iload_n (pc := 27) C dX2_newParent_27 rfl ?_
      refine r_if_lt (pc := 28) (tgt := 76) C dX2_newParent_28 (by decide) (fun c28 => ?_) (fun c28 => ?_)
      · exact absurd c28 (nI_pos (by omega))
      · refine r_aload_n (pc := 31) C dX2_newParent_31 rfl ?_
        refine r_getR (pc := 32) C dX2_newParent_32 fx_RX2_25 hC1.pG.gk hC1.pG.1.2.2.1 ?_
        refine r_iload_n (pc := 35) C dX2_newParent_35 rfl ?_
        refine r_callV (pc := 36) C (ct_get (by omega) (by omega) hL1 hk) iJx4a65c_get_915e3 ml_RX2_64 dX2_newParent_36 (ci := 0) rfl rfl hL1.k rfl (by decide) rfl (by simp [cv, Value.category, va_rf]) (by omega) (by omega) (fun r36 S36 h36 => ?_)
        obtain ⟨rfl, e36⟩ := h36
        subst S36
        dsimp only [Option.toList, List.cons_append, List.nil_append]
        refine r_cast (pc := 39) C dX2_newParent_39 (ci := 9) rfl kl_RX2_49 (hC1.pG.tk ht) ?_
        refine r_astore (pc := 42) C dX2_newParent_42 (by decide) rfl ?_
        refine r_aload (pc := 44) C dX2_newParent_44 rfl ?_
        refine r_getI (pc := 46) C dX2_newParent_46 fx_RX2_204 (hC1.pG.tk ht) ?_
        rw [t1]
        refine r_if_eq (pc := 49) (tgt := 70) C dX2_newParent_49 (by decide) (fun c49 => ?_) (fun c49 => ?_)
        · rw [bi_0] at c49
          have ev := ih b ⟨by omega, hb, by rw [he]; simp only [tpS, t3, c49, Bool.false_and, Bool.false_eq_true, if_false]⟩
          refine r_iinc (pc := 70) C (nI k - 1) dX2_newParent_70 rfl (dec1 _) (by decide) rfl ?_
          refine r_goto (pc := 73) (tgt := 27) C dX2_newParent_73 (by decide) ?_
          exact r_lv C [(0, vr (some go)), (1, vi x), (2, vi (nI _)), (3, vi (nI k - 1))] rfl ev
        · rw [bi_0] at c49
          refine r_aload (pc := 52) C dX2_newParent_52 rfl ?_
          refine r_getI (pc := 54) C dX2_newParent_54 fx_RX2_198 (hC1.pG.tk ht) ?_
          rw [t2]
          refine r_if_ne (pc := 57) (tgt := 70) C dX2_newParent_57 (by decide) (fun c57 => ?_) (fun c57 => ?_)
          · rw [bi_0] at c57
            have ev := ih b ⟨by omega, hb, by rw [he]; simp only [tpS, t3, ts_nf c57, Bool.not_true, Bool.and_false, Bool.false_eq_true, if_false]⟩
            refine r_iinc (pc := 70) C (nI k - 1) dX2_newParent_70 rfl (dec1 _) (by decide) rfl ?_
            refine r_goto (pc := 73) (tgt := 27) C dX2_newParent_73 (by decide) ?_
            exact r_lv C [(0, vr (some go)), (1, vi x), (2, vi (nI _)), (3, vi (nI k - 1))] rfl ev
          · rw [bi_0] at c57
            have c6 : tipB M n h (hdN M k) = true := by rw [t3, c57, ts_nf c49]; rfl
            refine r_iload_n (pc := 60) C dX2_newParent_60 rfl ?_
            refine r_if_ne (pc := 61) (tgt := 67) C dX2_newParent_61 (by decide) (fun c61 => ?_) (fun c61 => ?_)
            · have b0 : b ≠ 0 := fun q => c61 (by rw [q]; rfl)
              have ev := ih (b - 1) ⟨by omega, by omega, by rw [he]; simp only [tpS, c6, if_true]; rw [if_neg b0]⟩
              refine r_iinc (pc := 67) C (nI (b - 1)) dX2_newParent_67 rfl (by rw [dec1, show nI b = nI (b - 1 + 1) by rw [Nat.sub_add_cancel (by omega)], nI_pred]) (by decide) rfl ?_
              refine r_iinc (pc := 70) C (nI k - 1) dX2_newParent_70 rfl (dec1 _) (by decide) rfl ?_
              refine r_goto (pc := 73) (tgt := 27) C dX2_newParent_73 (by decide) ?_
              exact r_lv C [(0, vr (some go)), (1, vi x), (2, vi (nI _)), (3, vi (nI k - 1))] rfl ev
            · have b0 : b = 0 := nI_inj' (show nI b = nI 0 from c61) (by omega) (by omega)
              refine r_aload (pc := 64) C dX2_newParent_64 rfl ?_
              refine r_aret (pc := 66) C dX2_newParent_66 rfl (Or.inl ⟨_, rfl⟩) (by omega) (by omega) ?_
              refine ⟨?_, hC1, hg1⟩
              rw [he]
              simp only [tpS, c6, if_true]
              rw [if_pos b0]
              rfl
  refine r_iload_n (pc := 0) C dX2_newParent_0 rfl ?_
  refine r_if_lt (pc := 1) (tgt := 9) C dX2_newParent_1 (by decide) (fun c1 => ?_) (fun c1 => ?_)
  · have ev : v = none := by rw [← hv, if_pos (Or.inl c1)]
    refine r_null (pc := 9) C dX2_newParent_9 ?_
    refine r_aret (pc := 10) C dX2_newParent_10 rfl (Or.inl ⟨_, rfl⟩) (by omega) (by omega) ?_
    exact ⟨by rw [ev], hC, Ag.rf⟩
  · refine r_iload_n (pc := 4) C dX2_newParent_4 rfl ?_
    refine r_iconst (pc := 5) C (nI 4) dX2_newParent_5 rfl ?_
    refine r_icmp_lt (pc := 6) (tgt := 11) C dX2_newParent_6 (by decide) (fun c6 => ?_) (fun c6 => ?_)
    · refine r_aload_n (pc := 11) C dX2_newParent_11 rfl ?_
      refine r_callV (pc := 12) C (cg_markStrong hC hO hG hF) iX2_markStrong ml_RX2_210 dX2_newParent_12 (ci := 3) rfl rfl hC.pG.gk rfl (by decide) rfl (by simp [cv, Value.category, va_rf]) (by omega) (by omega) (fun r12 S12 h12 => ?_)
      obtain ⟨rfl, hC1, hg1, hm1⟩ := h12
      dsimp only [Option.toList, List.cons_append, List.nil_append]
      refine r_iload_n (pc := 15) C dX2_newParent_15 rfl ?_
      refine r_istore_n (pc := 16) C dX2_newParent_16 (by decide) rfl ?_
      refine r_aload_n (pc := 17) C dX2_newParent_17 rfl ?_
      refine r_getR (pc := 18) C dX2_newParent_18 fx_RX2_25 hC1.pG.gk hC1.pG.1.2.2.1 ?_
      refine r_callV (pc := 21) C (ct_size hC1.pL.l1) iJx4a65c_size_8abf5 ml_RX2_60 dX2_newParent_21 (ci := 0) rfl rfl hC1.pL.l1.k rfl (by decide) rfl (by simp [cv, Value.category, va_rf]) (by omega) (by omega) (fun r21 S21 h21 => ?_)
      obtain ⟨rfl, e21⟩ := h21
      subst S21
      dsimp only [Option.toList, List.cons_append, List.nil_append]
      refine r_iconst (pc := 24) C (nI 1) dX2_newParent_24 rfl ?_
      refine r_isub (pc := 25) C dX2_newParent_25 ?_
      refine r_istore_n (pc := 26) C dX2_newParent_26 (by decide) rfl ?_
      have hx := nI_self c1
      have hx2 := nI_lt1 c1 c6 (by omega)
      have q := L _ hC1 hg1 hm1 h x.toNatClampNeg ⟨by omega, hx2, by rw [← hv, if_neg (fun q => q.elim c1 (fun q => absurd c6 (Int32.not_lt.mpr q)))]⟩
      rw [hx] at q
      exact r_lv C [(0, vr (some go)), (1, vi x), (2, vi x), (3, vi (nI h - 1))] rfl q
    · have ev : v = none := by rw [← hv, if_pos (Or.inr (Int32.not_lt.mp c6))]
      refine r_null (pc := 9) C dX2_newParent_9 ?_
      refine r_aret (pc := 10) C dX2_newParent_10 rfl (Or.inl ⟨_, rfl⟩) (by omega) (by omega) ?_
      exact ⟨by rw [ev], hC, Ag.rf⟩
end Strong
