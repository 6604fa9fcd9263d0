/-! One call of the law that may throw: class and reference side by side -/
section StepsH
variable {l : Launch} {g : GG} {S S1 S2 S' : hS} {x mo ou c mi : Nat} {p0 p1 p2 : Int32}
theorem cf_out {po : Nat} {f : Nat → Int64} : Cf po [4] S (putJ S 81 ou f) := Ag.pj (fun z => z (by decide))
theorem ou_out {f : Nat → Int64} (h : OU S ou) : OU (putJ S 81 ou f) ou := h
theorem CPe.cg {pe : Nat} {F R : MM} {X : Int64} (e : R 6 = F 6) (h : CPe S pe F X) : CPe S pe R X := by unfold CPe; rw [e]; exact h
theorem CTp.cg {tp : Nat} {F R : MM} {G : Nat → Int32} (e : R 7 = F 7) (h : CTp S tp F G) : CTp S tp R G := by unfold CTp; rw [e]; exact h
theorem CPl.cg {po k : Nat} {T Pp : Nat → Nat} {F R : MM} {Ls : List Nat} (e25 : R 25 = F 25) (e26 : R 26 = F 26) (e27 : R 27 = F 27) (e28 : R 28 = F 28) (h : CPl g S po T F k Ls Pp) : CPl g S po T R k Ls Pp := by
  unfold CPl PL
  rw [e25, e26, e27, e28]
  exact h
theorem st_sampled (hl : l.stackTraces = false) (hI : INV g S x mo ou c) (hc : c < 64) : ∃ mc ms, mc ≤ 727 ∧ ms ≤ 70828 ∧ SpH l g mL_sampled hhL_sampled mc ms [vr (some x), vi p0, vi p1, vr (some ou)] S (HS l g mX10_sampled [vr (some mo), vi p0, vi p1] mo ou (fun _ => True) (fun S3 => INV g S3 x mo ou (c + 1))) := by
  obtain ⟨pe, tp, dg, go, po, ch, T, O, M, F, G, X, n, h, a, k, al, tn, Ls, Pp, hB, hX, hO, hV⟩ := hI
  obtain ⟨hN, hE, hT, hD, hC, hL, hH⟩ := id hB
  obtain ⟨⟨hP, hFr, hn, -⟩, ⟨hA, hCp⟩, ⟨hNu, hNX, hDs, hYS⟩, ⟨hCH, hVI⟩, ⟨hPt, hPw⟩, ⟨g2, k10, g3, hk2, hal, g8, htn, g19, np, g29, hnp⟩, e41, e42⟩ := id hV
  have hG := hP.1.1
  have hAb : ∀ p, p < 6 → ¬ F 25 p < 0 → ∃ t, t < n ∧ F 26 p = nI t := fun p hp ho => by
    obtain ⟨t, a1, a2, -⟩ := hA.1 p hp ho
    exact ⟨t, a1, a2⟩
  cases hp : plc (F 25) p0 with
  | none =>
    have e : sdR M F k p0 p1 = (1, nI 0) := by unfold sdR; rw [hp]
    have e1 : (sdR M F k p0 p1).1 = 1 := by rw [e]
    refine ⟨1, 6, by omega, by omega, (hL_sampled_i (ou := ou) hN.1.1 (cx_sampledT1 hl hN hL hNu hp)).mono (hs_throw (kk := 1) (v := (sdR M F k p0 p1).2) trivial (by omega) (by omega) (fun S1 hP1 => ?_))⟩
    subst hP1
    refine ⟨hX.km, (cm_sampled hX g2 k10 hAb).mono ?_⟩
    rintro r S2 ⟨rfl, hX2, hR⟩
    exact ⟨rfl, M, F, _, X, n, h, hX2, by rw [pk_us, e1], INV.same (S1 := S1) hB hO hX2 hR hV hc⟩
  | some p =>
    obtain ⟨p6, e25, hv0⟩ := plc_lt hp
    have hop : ¬ F 25 p < 0 := by rw [e25]; exact hv0
    by_cases hj : p1 = -1 ∨ ¬ (p1 < 0 ∨ nI k ≤ p1)
    · have e1 : (sdR M F k p0 p1).1 = 0 := by
        unfold sdR
        rw [hp]
        dsimp only
        rcases hj with hj | hj
        · rw [if_pos hj]
        · split
          · rfl
          · first | rfl | (rw [if_neg hj])
      have hb : ∀ t, t < 140 → F 26 p = nI t → t < n := fun t ht e => by
        obtain ⟨t', a1, a2⟩ := hAb p p6 hop
        rw [a2] at e
        have := nI_inj' e (by omega) (by omega)
        omega
      refine ⟨0, 0, by omega, by omega, (hL_sampled (ou := ou) hN.1.1 (cx_sampled hN hC hL hNu k10 hp hb (by omega) hj) (fun S1 hP1 => by subst hP1; exact hO)).mono (hs_ret trivial rfl (fun S1 hP1 => by subst hP1; exact hO) (fun S1 hP1 => ?_))⟩
      subst hP1
      have hX1 := fun f => hX.kp (cf_out (po := po) (ou := ou) (f := f)) (by decide)
      refine ⟨(hX1 _).km, (cm_sampled (hX1 _) g2 k10 hAb).mono ?_⟩
      rintro r S2 ⟨rfl, hX2, hR⟩
      exact ⟨rfl, hR, M, F, _, X, n, h, hX2, by rw [pk_us, e1], INV.same (hB.out hG) (ou_out hO) hX2 hR hV hc⟩
    · rw [not_or, Classical.not_not] at hj
      have e1 : (sdR M F k p0 p1).1 = 1 := by
        unfold sdR
        rw [hp]
        dsimp only
        rw [if_neg hj.1, if_pos hj.2]
      refine ⟨1, 6, by omega, by omega, (hL_sampled_i (ou := ou) hN.1.1 (cx_sampledT2 hl hN hL hNu k10 hp hj.1 hj.2)).mono (hs_throw (kk := 1) (v := (sdR M F k p0 p1).2) trivial (by omega) (by omega) (fun S1 hP1 => ?_))⟩
      subst hP1
      refine ⟨hX.km, (cm_sampled hX g2 k10 hAb).mono ?_⟩
      rintro r S2 ⟨rfl, hX2, hR⟩
      exact ⟨rfl, M, F, _, X, n, h, hX2, by rw [pk_us, e1], INV.same (S1 := S1) hB hO hX2 hR hV hc⟩
theorem st_look (hl : l.stackTraces = false) (hI : INV g S x mo ou c) (hc : c < 64) : ∃ mc ms, mc ≤ 727 ∧ ms ≤ 70828 ∧ SpH l g mL_look hhL_look mc ms [vr (some x), vi p0, vi p1, vr (some ou)] S (HS l g mX10_look [vr (some mo), vi p0, vi p1] mo ou (fun _ => True) (fun S3 => INV g S3 x mo ou (c + 1))) := by
  obtain ⟨pe, tp, dg, go, po, ch, T, O, M, F, G, X, n, h, a, k, al, tn, Ls, Pp, hB, hX, hO, hV⟩ := hI
  obtain ⟨hN, hE, hT, hD, hC, hL, hH⟩ := id hB
  obtain ⟨⟨hP, hFr, hn, -⟩, ⟨hA, hCp⟩, ⟨hNu, hNX, hDs, hYS⟩, ⟨hCH, hVI⟩, ⟨hPt, hPw⟩, ⟨g2, k10, g3, hk2, hal, g8, htn, g19, np, g29, hnp⟩, e41, e42⟩ := id hV
  have hG := hP.1.1
  by_cases hw : p1 < 0 ∨ nI 10 ≤ p1
  · have e1 : (lkR M n h p0 p1).1 = 1 := by unfold lkR; rw [if_pos hw]
    refine ⟨1, 6, by omega, by omega, (hL_look_i (ou := ou) hN.1.1 (cx_lookT hl hN hw)).mono (hs_throw (kk := 1) (v := (lkR M n h p0 p1).2) trivial (by omega) (by omega) (fun S1 hP1 => ?_))⟩
    subst hP1
    refine ⟨hX.km, (cm_look hX hP.hq).mono ?_⟩
    rintro r S2 ⟨rfl, hX2, hR⟩
    exact ⟨rfl, M, F, _, X, n, h, hX2, by rw [pk_us, e1], INV.same (S1 := S1) hB hO hX2 hR hV hc⟩
  · have e1 : (lkR M n h p0 p1).1 = 0 := by unfold lkR; rw [if_neg hw]; split <;> rfl
    refine ⟨0, 0, by omega, by omega, (hL_look (ou := ou) hN.1.1 (cx_look hN hC hP hw) (fun S1 hP1 => by subst hP1; exact hO)).mono (hs_ret trivial rfl (fun S1 hP1 => by subst hP1; exact hO) (fun S1 hP1 => ?_))⟩
    subst hP1
    have hX1 := fun f => hX.kp (cf_out (po := po) (ou := ou) (f := f)) (by decide)
    refine ⟨(hX1 _).km, (cm_look (hX1 _) hP.hq).mono ?_⟩
    rintro r S2 ⟨rfl, hX2, hR⟩
    exact ⟨rfl, hR, M, F, _, X, n, h, hX2, by rw [pk_us, e1], INV.same (hB.out hG) (ou_out hO) hX2 hR hV hc⟩
theorem st_set (hl : l.stackTraces = false) (hI : INV g S x mo ou c) (hc : c < 64) : ∃ mc ms, mc ≤ 727 ∧ ms ≤ 70828 ∧ SpH l g mL_set hhL_set mc ms [vr (some x), vi p0, vi p1, vi p2, vr (some ou)] S (HS l g mX10_set [vr (some mo), vi p0, vi p1, vi p2] mo ou (fun _ => True) (fun S3 => INV g S3 x mo ou (c + 1))) := by
  obtain ⟨pe, tp, dg, go, po, ch, T, O, M, F, G, X, n, h, a, k, al, tn, Ls, Pp, hB, hX, hO, hV⟩ := hI
  obtain ⟨hN, hE, hT, hD, hC, hL, hH⟩ := id hB
  obtain ⟨⟨hP, hFr, hn, -⟩, ⟨hA, hCp⟩, ⟨hNu, hNX, hDs, hYS⟩, ⟨hCH, hVI⟩, ⟨hPt, hPw⟩, ⟨g2, k10, g3, hk2, hal, g8, htn, g19, np, g29, hnp⟩, e41, e42⟩ := id hV
  have hG := hP.1.1
  cases e : fdo (M 10) p0 n with
  | none =>
    have e1 : (stR M n h p0 p1 p2).1 = 1 := by unfold stR; rw [e]
    refine ⟨1, 6, by omega, by omega, (hL_set_i (ou := ou) hN.1.1 (cx_setT1 hl hN hC hP (Or.inl e))).mono (hs_throw (kk := 1) (v := (stR M n h p0 p1 p2).2) trivial (by omega) (by omega) (fun S1 hP1 => ?_))⟩
    subst hP1
    refine ⟨hX.km, (cm_set hX hP.1.2.2.2.1 hP.1.2.2.2.2.1).mono ?_⟩
    rintro r S2 ⟨rfl, hX2, hR⟩
    exact ⟨rfl, M, F, _, X, n, h, hX2, by rw [pk_us, e1], INV.same (S1 := S1) hB hO hX2 hR hV hc⟩
  | some t =>
    have ht := (fdo_some e).1
    have hvb := hP.hv ht
    cases hb : hdB M h t with
    | false =>
      have e1 : (stR M n h p0 p1 p2).1 = 1 := by unfold stR; rw [e]; dsimp only; rw [hvb, hb, if_neg (by decide)]
      refine ⟨1, 6, by omega, by omega, (hL_set_i (ou := ou) hN.1.1 (cx_setT1 hl hN hC hP (Or.inr ⟨t, e, hb⟩))).mono (hs_throw (kk := 1) (v := (stR M n h p0 p1 p2).2) trivial (by omega) (by omega) (fun S1 hP1 => ?_))⟩
      subst hP1
      refine ⟨hX.km, (cm_set hX hP.1.2.2.2.1 hP.1.2.2.2.2.1).mono ?_⟩
      rintro r S2 ⟨rfl, hX2, hR⟩
      exact ⟨rfl, M, F, _, X, n, h, hX2, by rw [pk_us, e1], INV.same (S1 := S1) hB hO hX2 hR hV hc⟩
    | true =>
      cases hi : ixo M t p1 with
      | none =>
        have e1 : (stR M n h p0 p1 p2).1 = 1 := by unfold stR; rw [e]; dsimp only; rw [hvb, hb, if_pos rfl, hi]
        refine ⟨1, 6, by omega, by omega, (hL_set_i (ou := ou) hN.1.1 (cx_setT2 hl hN hC hP e hb hi)).mono (hs_throw (kk := 1) (v := (stR M n h p0 p1 p2).2) trivial (by omega) (by omega) (fun S1 hP1 => ?_))⟩
        subst hP1
        refine ⟨hX.km, (cm_set hX hP.1.2.2.2.1 hP.1.2.2.2.2.1).mono ?_⟩
        rintro r S2 ⟨rfl, hX2, hR⟩
        exact ⟨rfl, M, F, _, X, n, h, hX2, by rw [pk_us, e1], INV.same (S1 := S1) hB hO hX2 hR hV hc⟩
      | some i =>
        by_cases hw : p2 < 0 ∨ nI 5 ≤ p2
        · have e1 : (stR M n h p0 p1 p2).1 = 1 := by unfold stR; rw [e]; dsimp only; rw [hvb, hb, if_pos rfl, hi]; dsimp only; rw [if_pos hw]
          refine ⟨1, 6, by omega, by omega, (hL_set_i (ou := ou) hN.1.1 (cx_setT3 hl hN hC hP e hb hi hw)).mono (hs_throw (kk := 1) (v := (stR M n h p0 p1 p2).2) trivial (by omega) (by omega) (fun S1 hP1 => ?_))⟩
          subst hP1
          refine ⟨hX.km, (cm_set hX hP.1.2.2.2.1 hP.1.2.2.2.2.1).mono ?_⟩
          rintro r S2 ⟨rfl, hX2, hR⟩
          exact ⟨rfl, M, F, _, X, n, h, hX2, by rw [pk_us, e1], INV.same (S1 := S1) hB hO hX2 hR hV hc⟩
        · have e2 : stR M n h p0 p1 p2 = (0, stV M n h (onum t i) p2.toNatClampNeg) := by unfold stR; rw [e]; dsimp only; rw [hvb, hb, if_pos rfl, hi]; dsimp only; rw [if_neg hw]
          have e1 : (stR M n h p0 p1 p2).1 = 0 := by rw [e2]
          have e3 : stV M n h (onum t i) p2.toNatClampNeg = (stR M n h p0 p1 p2).2 := by rw [e2]
          refine ⟨0, 0, by omega, by omega, (hL_set (ou := ou) hN.1.1 (by have q := cx_set (l := l) (g := g) hN hC hP e hb hi hw; rw [e3] at q; exact q) (fun S1 hP1 => by subst hP1; exact hO)).mono (hs_ret trivial rfl (fun S1 hP1 => by subst hP1; exact hO) (fun S1 hP1 => ?_))⟩
          subst hP1
          have hX1 := fun f => hX.kp (cf_out (po := po) (ou := ou) (f := f)) (by decide)
          refine ⟨(hX1 _).km, (cm_set (hX1 _) hP.1.2.2.2.1 hP.1.2.2.2.2.1).mono ?_⟩
          rintro r S2 ⟨rfl, hX2, hR⟩
          exact ⟨rfl, hR, M, F, _, X, n, h, hX2, by rw [pk_us, e1], INV.same (hB.out hG) (ou_out hO) hX2 hR hV hc⟩
theorem st_meet (hl : l.stackTraces = false) (hI : INV g S x mo ou c) (hc : c < 64) : ∃ mc ms, mc ≤ 727 ∧ ms ≤ 70828 ∧ SpH l g mL_meet hhL_meet mc ms [vr (some x), vi p0, vi p1, vr (some ou)] S (HS l g mX10_meet [vr (some mo), vi p0, vi p1] mo ou (fun _ => True) (fun S3 => INV g S3 x mo ou (c + 1))) := by
  obtain ⟨pe, tp, dg, go, po, ch, T, O, M, F, G, X, n, h, a, k, al, tn, Ls, Pp, hB, hX, hO, hV⟩ := hI
  obtain ⟨hN, hE, hT, hD, hC, hL, hH⟩ := id hB
  obtain ⟨⟨hP, hFr, hn, -⟩, ⟨hA, hCp⟩, ⟨hNu, hNX, hDs, hYS⟩, ⟨hCH, hVI⟩, ⟨hPt, hPw⟩, ⟨g2, k10, g3, hk2, hal, g8, htn, g19, np, g29, hnp⟩, e41, e42⟩ := id hV
  have hG := hP.1.1
  cases hco : coL F p0 p1 with
  | none =>
    refine ⟨1, 6, by omega, by omega, (hL_meet_a (ou := ou) hN.1.1 (cx_meetT hl hN hH hCH hco)).mono (hs_throw (kk := 1) (v := nI 0) trivial (by omega) (by omega) (fun S1 hP1 => ?_))⟩
    subst hP1
    refine ⟨hX.km, (cm_meetN hX hCH hco).mono ?_⟩
    rintro r S2 ⟨rfl, hX2, hR⟩
    exact ⟨rfl, M, F, _, X, n, h, hX2, pk_us, INV.same (S1 := S1) hB hO hX2 hR hV hc⟩
  | some jk =>
    obtain ⟨j, k'⟩ := jk
    obtain ⟨-, hj8, -, -, hk'⟩ := coL_some hco hCH
    have hk8 : k' < 8 := by have := (hCH j hj8).1.2; omega
    refine ⟨0, 0, by omega, by omega, (hL_meet (ou := ou) hN.1.1 (cx_meet hN hH hCH hco) (fun S1 hP1 => hO.kp hP1.2)).mono (hs_ret trivial rfl (fun S1 hP1 => hO.kp hP1.2) (fun S1 hP1 => ?_))⟩
    obtain ⟨hH1, hcf⟩ := hP1
    have hX1 := fun f => (hX.kp hcf (by decide)).kp (cf_out (po := po) (ou := ou) (f := f)) (by decide)
    refine ⟨(hX1 _).km, (cm_meet (hX1 _) hCH hco).mono ?_⟩
    rintro r S2 ⟨rfl, hX2, hR⟩
    have hB1 : CB g S1 x pe tp dg go po ch T O M (um F 34 j (if F 34 j < 0 then nI k' else F 34 j)) (upd G 0 (nI 0)) X n h a k Ls Pp := ⟨hN.kp hcf (by decide), hE.kp hcf (by decide), hT.kp hcf (by decide), hD.kp hcf (by decide), hC.kp hG hcf (by decide), hL.kp hcf (by decide), hH1⟩
    exact ⟨rfl, hR, M, _, _, X, n, h, hX2, pk_us, INV.mk' (al := al) (tn := tn) (hB1.out hG) (ou_out (hO.kp hcf)) hX2 hR ⟨⟨hP, hFr, by omega, by omega⟩, ⟨hA, hCp⟩, ⟨hNu, hNX, hDs, hYS⟩, ⟨hCH.meet hj8 hk8, hVI⟩, ⟨hPt, hPw⟩, ⟨g2, k10, g3, hk2, hal, g8, htn, g19, np, g29, by omega⟩, e41, e42⟩⟩
theorem st_round (hl : l.stackTraces = false) (hI : INV g S x mo ou c) (hc : c < 64) : ∃ mc ms, mc ≤ 727 ∧ ms ≤ 70828 ∧ SpH l g mL_round hhL_round mc ms [vr (some x), vi p0, vr (some ou)] S (HS l g mX10_round [vr (some mo), vi p0] mo ou (fun b => b = 0 ∨ b = 1) (fun S3 => INV g S3 x mo ou (c + 1))) := by
  obtain ⟨pe, tp, dg, go, po, ch, T, O, M, F, G, X, n, h, a, k, al, tn, Ls, Pp, hB, hX, hO, hV⟩ := hI
  obtain ⟨hN, hE, hT, hD, hC, hL, hH⟩ := id hB
  obtain ⟨⟨hP, hFr, hn, -⟩, ⟨hA, hCp⟩, ⟨hNu, hNX, hDs, hYS⟩, ⟨hCH, hVI⟩, ⟨hPt, hPw⟩, ⟨g2, k10, g3, hk2, hal, g8, htn, g19, np, g29, hnp⟩, e41, e42⟩ := id hV
  have hG := hP.1.1
  by_cases hno : chN F p0 = none ∨ ∃ j, chN F p0 = some j ∧ F 36 j ≠ 0
  · refine ⟨1, 6, by omega, by omega, (hL_round_a (ou := ou) hN.1.1 (cx_roundT hl hN hH hno)).mono (hs_throw (kk := 1) (v := bi false) (bi_01 _) (by omega) (by omega) (fun S1 hP1 => ?_))⟩
    subst hP1
    refine ⟨hX.km, (cm_roundN hX hno).mono ?_⟩
    rintro r S2 ⟨rfl, hX2, hR⟩
    exact ⟨rfl, M, F, _, X, n, h, hX2, pk_us, INV.same (S1 := S1) hB hO hX2 hR hV hc⟩
  · obtain ⟨j, hch⟩ : ∃ j, chN F p0 = some j := by
      cases e : chN F p0 with
      | none => exact absurd (Or.inl e) hno
      | some j => exact ⟨j, rfl⟩
    have hd : F 36 j = 0 := Classical.not_not.mp (fun q => hno (Or.inr ⟨j, hch, q⟩))
    obtain ⟨-, hj8, -⟩ := chN_some hch
    have hw8 : ∀ u, winW (F 38) j (G 3) 8 = some u → u < 8 := fun u hu => (lastU_lt hu).1
    obtain ⟨r1, r2, r3⟩ := rnd_ok (b1 := G 4) (b2 := G 5) hCH hVI hj8 hw8
    refine ⟨0, 0, by omega, by omega, (hL_round (ou := ou) hN.1.1 (cx_round hN hH hCH hVI k10 g3 hk2 hal hch hd) (fun S1 hP1 => hO.kp hP1.2)).mono (hs_ret (v := bi (winW (F 38) j (G 3) 8).isSome) (bi_01 _) (by cases (winW (F 38) j (G 3) 8).isSome <;> decide) (fun S1 hP1 => hO.kp hP1.2) (fun S1 hP1 => ?_))⟩
    obtain ⟨hH1, hcf⟩ := hP1
    have hX1 := fun f => (hX.kp hcf (by decide)).kp (cf_out (po := po) (ou := ou) (f := f)) (by decide)
    refine ⟨(hX1 _).km, (cm_round (hX1 _) hCH hch hd).mono ?_⟩
    rintro r S2 ⟨rfl, hX2, hR⟩
    generalize rnF F j (winW (F 38) j (G 3) 8) (G 4) (G 5) = R at r1 r2 r3 hX2 hH1
    have e6 := r3 6 (by omega)
    have e7 := r3 7 (by omega)
    have e25 := r3 25 (by omega)
    have e26 := r3 26 (by omega)
    have e27 := r3 27 (by omega)
    have e28 := r3 28 (by omega)
    have hB1 : CB g S1 x pe tp dg go po ch T O M R (upd G 0 (nI 0)) X n h a k Ls Pp := ⟨hN.kp hcf (by decide), CPe.cg e6 (hE.kp hcf (by decide)), CTp.cg e7 (hT.kp hcf (by decide)), hD.kp hcf (by decide), hC.kp hG hcf (by decide), CPl.cg e25 e26 e27 e28 (hL.kp hcf (by decide)), hH1⟩
    exact ⟨rfl, hR, M, _, _, X, n, h, hX2, pk_us, INV.mk' (al := al) (tn := tn) (hB1.out hG) (ou_out (hO.kp hcf)) hX2 hR ⟨⟨hP, hFr, by omega, by omega⟩, ⟨by unfold AB; rw [e25, e26]; exact hA, hCp⟩, ⟨by unfold Nu; rw [e25]; exact hNu, by unfold NX; rw [e25]; exact hNX, by unfold Ds; rw [e25, e27]; exact hDs, by unfold YS; rw [e25, e28]; exact hYS⟩, ⟨r1, r2⟩, ⟨by unfold PVt; rw [e7]; exact hPt, by unfold PVw; rw [e6]; exact hPw⟩, ⟨g2, k10, g3, hk2, hal, g8, htn, g19, np, g29, by omega⟩, (r3 41 (by omega)).trans e41, (r3 42 (by omega)).trans e42⟩⟩
theorem st_votes (hl : l.stackTraces = false) (hI : INV g S x mo ou c) (hc : c < 64) : ∃ mc ms, mc ≤ 727 ∧ ms ≤ 70828 ∧ SpH l g mL_votes hhL_votes mc ms [vr (some x), vi p0, vi p1, vi p2] S (fun r S1 => ∃ kk : Nat, kk < 3 ∧ r = some (vi (nI kk)) ∧ sK S1 mo = 12 ∧ Sp l g mX10_votes 0 0 [vr (some mo), vi p0, vi p1, vi p2] S1 (fun r2 S2 => r2 = none ∧ sK S2 mo = 12 ∧ Sp l g mX10_thrown 0 0 [vr (some mo)] S2 (fun r3 S3 => r3 = some (vi (nI kk)) ∧ INV g S3 x mo ou (c + 1)))) := by
  obtain ⟨pe, tp, dg, go, po, ch, T, O, M, F, G, X, n, h, a, k, al, tn, Ls, Pp, hB, hX, hO, hV⟩ := hI
  obtain ⟨hN, hE, hT, hD, hC, hL, hH⟩ := id hB
  obtain ⟨⟨hP, hFr, hn, -⟩, ⟨hA, hCp⟩, ⟨hNu, hNX, hDs, hYS⟩, ⟨hCH, hVI⟩, ⟨hPt, hPw⟩, ⟨g2, k10, g3, hk2, hal, g8, htn, g19, np, g29, hnp⟩, e41, e42⟩ := id hV
  have hG := hP.1.1
  have fin : ∀ (kk : Nat) (S1 S2 : hS) (G' : Nat → Int32) (F' : MM), MX S2 mo M F' G' X n h → G' 0 = nI kk → INV g S2 x mo ou (c + 1) → Sp l g mX10_thrown 0 0 [vr (some mo)] S2 (fun r3 S3 => r3 = some (vi (nI kk)) ∧ INV g S3 x mo ou (c + 1)) := by
    intro kk S1 S2 G' F' hX2 h0 hI2
    refine (cm_thrown hX2).mono ?_
    rintro r3 S3 ⟨rfl, rfl⟩
    exact ⟨by rw [h0], hI2⟩
  by_cases hno : coL F p0 p1 = none ∨ ∃ j k, coL F p0 p1 = some (j, k) ∧ (F 36 j ≠ 0 ∨ p2 < nI 1)
  · refine ⟨1, 6, by omega, by omega, (hL_votes_a hN.1.1 (cx_votesT1 hl hN hH hCH hno)).mono ?_⟩
    rintro r S1 ⟨rfl, rfl⟩
    refine ⟨1, by omega, rfl, hX.km, (cm_votes1 hX hCH hno).mono ?_⟩
    rintro r2 S2 ⟨rfl, hX2, hR⟩
    exact ⟨rfl, hX2.km, fin 1 S1 S2 _ _ hX2 pk_us (INV.same (S1 := S1) hB hO hX2 hR hV hc)⟩
  · obtain ⟨j, k', hco⟩ : ∃ j k', coL F p0 p1 = some (j, k') := by
      cases e : coL F p0 p1 with
      | none => exact absurd (Or.inl e) hno
      | some jk => exact ⟨jk.1, jk.2, rfl⟩
    have hd : F 36 j = 0 := Classical.not_not.mp (fun q => hno (Or.inr ⟨j, k', hco, Or.inl q⟩))
    have hy : ¬ p2 < nI 1 := fun q => hno (Or.inr ⟨j, k', hco, Or.inr q⟩)
    by_cases hm : G 2 - vts (F 38) j 8 < p2
    · refine ⟨1, 6, by omega, by omega, (hL_votes_s hN.1.1 (cx_votesT2 hl hN hH hCH hco hd hy hm)).mono ?_⟩
      rintro r S1 ⟨rfl, rfl⟩
      refine ⟨2, by omega, rfl, hX.km, (cm_votes2 hX hCH hco hd hy hm).mono ?_⟩
      rintro r2 S2 ⟨rfl, hX2, hR⟩
      exact ⟨rfl, hX2.km, fin 2 S1 S2 _ _ hX2 pk_us (INV.same (S1 := S1) hB hO hX2 hR hV hc)⟩
    · obtain ⟨-, hj8, -, -, hk'⟩ := coL_some hco hCH
      refine ⟨0, 0, by omega, by omega, (hL_votes hN.1.1 (cx_votes hN hH hCH hco hd hy hm)).mono ?_⟩
      rintro r S1 ⟨rfl, hH1, hcf⟩
      refine ⟨0, by omega, rfl, (hX.kp hcf (by decide)).km, (cm_votes (hX.kp hcf (by decide)) hCH hco hd hy hm).mono ?_⟩
      rintro r2 S2 ⟨rfl, hX2, hR⟩
      exact ⟨rfl, hX2.km, fin 0 S1 S2 _ _ hX2 pk_us (INV.mk' (S1 := S1) (F := um F 38 (8 * j + k') (F 38 (8 * j + k') + p2)) (G := upd G 0 (nI 0)) (al := al) (tn := tn) ⟨hN.kp hcf (by decide), hE.kp hcf (by decide), hT.kp hcf (by decide), hD.kp hcf (by decide), hC.kp hG hcf (by decide), hL.kp hcf (by decide), hH1⟩ (hO.kp hcf) hX2 hR ⟨⟨hP, hFr, by omega, by omega⟩, ⟨hA, hCp⟩, ⟨hNu, hNX, hDs, hYS⟩, ⟨hCH, hVI.votes hCH k10 hj8 hk' g2 hy hm⟩, ⟨hPt, hPw⟩, ⟨g2, k10, g3, hk2, hal, g8, htn, g19, np, g29, by omega⟩, e41, e42⟩)⟩
end StepsH
