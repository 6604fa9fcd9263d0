/-! One call of the law: class and reference side by side -/
section Steps
variable {l : Launch} {g : GG} {S S1 S2 S' : hS} {x mo ou c mi : Nat} {p0 p1 p2 : Int32}
/-- all parts kept but those of L -/
theorem CB.mv {pe tp dg go po ch n h a k : Nat} {T O Pp : Nat → Nat} {M F : MM} {G : Nat → Int32} {X : Int64} {Ls L : List Nat} (hB : CB g S x pe tp dg go po ch T O M F G X n h a k Ls Pp) (hG : GV M n h) (hc : Cf po L S S1) (hL : ∀ i, i < 7 → i ∉ L) : CB g S1 x pe tp dg go po ch T O M F G X n h a k Ls Pp := by
  obtain ⟨hN, hE, hT, hD, hC, hL', hH⟩ := hB
  exact ⟨hN.kp hc (hL 0 (by omega)), hE.kp hc (hL 1 (by omega)), hT.kp hc (hL 2 (by omega)), hD.kp hc (hL 3 (by omega)), hC.kp hG hc (hL 4 (by omega)), hL'.kp hc (hL 5 (by omega)), hH.kp hc (hL 6 (by omega))⟩
theorem fd_at2 {f : Nat → Int32} {tp y : Nat} {b : Int32} : ∀ m, fd f tp b m y = if tp ≤ y ∧ y < tp + m then nI (by4 b (y - tp)) else f y
  | 0 => by rw [if_neg (by omega)]; rfl
  | m + 1 => by
    show upd (fd f tp b m) (tp + m) (nI (by4 b m)) y = _
    by_cases e : y = tp + m
    · subst e; rw [pk_us, if_pos (by omega), show tp + m - tp = m by omega]
    · rw [pk_un e, fd_at2 m]
      by_cases e2 : tp ≤ y ∧ y < tp + m
      · rw [if_pos e2, if_pos (by omega)]
      · rw [if_neg e2, if_neg (by omega)]
theorem isT_55 {tb : Nat → Nat} {m : Nat} (hT : isT tb m = true) : m ≤ 55 := by
  obtain ⟨h1, h2, h3, h4, h5, h6, h7⟩ := isT_len hT
  unfold tQ at h1
  unfold tQ at h6 h7
  unfold tP at h1 h4 h5 h6 h7
  omega
theorem st_weigh (hI : INV g S x mo ou c) (hc : c < 64) : Two l g mo mX9_weigh mX10_weigh 0 0 [vr (some x), vi p0, vi p1] [vr (some mo), vi p0, vi p1] S (fun S' => INV g S' x mo ou (c + 1)) := by
  obtain ⟨pe, tp, dg, go, po, ch, T, O, M, F, G, X, n, h, a, k, al, tn, Ls, Pp, hB, hX, hO, hV⟩ := hI
  obtain ⟨hN, hE, hT, hD, hC, hL, hH⟩ := id hB
  obtain ⟨⟨hP, hFr, hn, -⟩, ⟨hA, hCp⟩, ⟨hNu, hNX, hDs, hYS⟩, ⟨hCH, hVI⟩, ⟨hPt, hPw⟩, ⟨g2, k10, g3, hk2, hal, g8, htn, g19, np, g29, hnp⟩, e41, e42⟩ := id hV
  have hG := hP.1.1
  refine (cx_weigh hN hE).mono ?_
  rintro r S1 ⟨q, hq, rfl, hE1, hcf⟩
  refine ⟨bi q, rfl, (hX.kp hcf (by decide)).km, (cm_weigh (hX.kp hcf (by decide))).mono ?_⟩
  rintro r2 S2 ⟨q2, hq2, rfl, hX2, hR⟩
  have eq : q2 = q := by
    cases q <;> cases q2 <;> first
      | rfl
      | exact absurd (hq.mpr (hq2.mp rfl)) (by decide)
      | exact absurd (hq2.mpr (hq.mp rfl)) (by decide)
  subst eq
  refine ⟨rfl, ?_⟩
  cases q2 with
  | false => exact INV.same (S1 := S1) ⟨hN.kp hcf (by decide), hE1, hT.kp hcf (by decide), hD.kp hcf (by decide), hC.kp hG hcf (by decide), hL.kp hcf (by decide), hH.kp hcf (by decide)⟩ (hO.kp hcf) hX2 hR hV hc
  | true =>
    have hq' := hq.mp rfl
    refine INV.mk' (S1 := S1) (F := um F 6 p0.toNatClampNeg p1) (G := upd G 0 (nI 0)) (al := al) (tn := tn) ⟨hN.kp hcf (by decide), hE1, hT.kp hcf (by decide), hD.kp hcf (by decide), hC.kp hG hcf (by decide), hL.kp hcf (by decide), hH.kp hcf (by decide)⟩ (hO.kp hcf) hX2 hR ⟨⟨hP, hFr, by omega, by omega⟩, ⟨hA, hCp⟩, ⟨hNu, hNX, hDs, hYS⟩, ⟨hCH, hVI⟩, ⟨hPt, ?_⟩, ⟨g2, k10, g3, hk2, hal, g8, htn, g19, np, g29, by omega⟩, e41, e42⟩
    obtain ⟨wt, hw, hw2⟩ := hPw
    obtain ⟨j, hj, rfl⟩ := nI_of hq'.2.1
    have hj2 : j ≤ 1000 := (nI_leI hj (by omega)).mp (Int32.not_lt.mp hq'.2.2)
    refine ⟨fun y => if y = p0.toNatClampNeg then j else wt y, fun y hy => ?_, fun y => ?_⟩
    · show um F 6 p0.toNatClampNeg (nI j) 6 y = nI (if y = p0.toNatClampNeg then j else wt y)
      by_cases e : y = p0.toNatClampNeg
      · rw [if_pos e, e, um_s]
      · rw [if_neg e, um_sn e]; exact hw y hy
    · by_cases e : y = p0.toNatClampNeg
      · show (if y = p0.toNatClampNeg then j else wt y) ≤ 1000
        rw [if_pos e]; exact hj2
      · show (if y = p0.toNatClampNeg then j else wt y) ≤ 1000
        rw [if_neg e]; exact hw2 y
theorem st_feed (hI : INV g S x mo ou c) (hc : c < 64) : Two l g mo mX9_feed mX10_feed 0 0 [vr (some x), vi p0] [vr (some mo), vi p0] S (fun S' => INV g S' x mo ou (c + 1)) := by
  obtain ⟨pe, tp, dg, go, po, ch, T, O, M, F, G, X, n, h, a, k, al, tn, Ls, Pp, hB, hX, hO, hV⟩ := hI
  obtain ⟨hN, hE, hT, hD, hC, hL, hH⟩ := id hB
  obtain ⟨⟨hP, hFr, hn, -⟩, ⟨hA, hCp⟩, ⟨hNu, hNX, hDs, hYS⟩, ⟨hCH, hVI⟩, ⟨hPt, hPw⟩, ⟨g2, k10, g3, hk2, hal, g8, htn, g19, np, g29, hnp⟩, e41, e42⟩ := id hV
  have hG := hP.1.1
  by_cases h4 : tn ≤ 124
  · refine (cx_feed hN hT g8 h4).mono ?_
    rintro r S1 ⟨rfl, hT1, hcf⟩
    refine ⟨_, rfl, (hX.kp hcf (by decide)).km, (cm_feed (hX.kp hcf (by decide)) g8 h4).mono ?_⟩
    rintro r2 S2 ⟨rfl, hX2, hR⟩
    refine ⟨rfl, INV.mk' (S1 := S1) (F := uk F 7 (fd (F 7) tn p0 4)) (G := upd (upd G 0 (nI 0)) 8 (nI (tn + 4))) (al := al) (tn := tn + 4) ⟨hN.kp hcf (by decide), hE.kp hcf (by decide), hT1, hD.kp hcf (by decide), hC.kp hG hcf (by decide), hL.kp hcf (by decide), hH.kp hcf (by decide)⟩ (hO.kp hcf) hX2 hR ⟨⟨hP, hFr, by omega, by omega⟩, ⟨hA, hCp⟩, ⟨hNu, hNX, hDs, hYS⟩, ⟨hCH, hVI⟩, ⟨?_, hPw⟩, ⟨g2, k10, g3, hk2, hal, pk_us, by omega, g19, np, g29, by omega⟩, e41, e42⟩⟩
    obtain ⟨tb, hb, hF7⟩ := hPt
    refine ⟨fun i => if tn ≤ i ∧ i < tn + 4 then by4 p0 (i - tn) else tb i, fun i => ?_, fun i hi => ?_⟩
    · show (if tn ≤ i ∧ i < tn + 4 then by4 p0 (i - tn) else tb i) < 256
      split
      · exact Nat.mod_lt _ (by omega)
      · exact hb i
    · show uk F 7 (fd (F 7) tn p0 4) 7 i = nI (if tn ≤ i ∧ i < tn + 4 then by4 p0 (i - tn) else tb i)
      rw [uk_s, fd_at2]
      by_cases e : tn ≤ i ∧ i < tn + 4
      · rw [if_pos e, if_pos e]
      · rw [if_neg e, if_neg e]; exact hF7 i hi
  · refine (cx_feedN hN hT g8 (by omega) htn).mono ?_
    rintro r S1 ⟨rfl, rfl⟩
    refine ⟨_, rfl, hX.km, (cm_feedN hX g8 (by omega) htn).mono ?_⟩
    rintro r2 S2 ⟨rfl, hX2, hR⟩
    exact ⟨rfl, INV.same (S1 := S1) hB hO hX2 hR hV hc⟩
theorem st_query (hI : INV g S x mo ou c) (hc : c < 64) : Two l g mo mX9_query mX10_query 0 0 [vr (some x), vi p0] [vr (some mo), vi p0] S (fun S' => INV g S' x mo ou (c + 1)) := by
  obtain ⟨pe, tp, dg, go, po, ch, T, O, M, F, G, X, n, h, a, k, al, tn, Ls, Pp, hB, hX, hO, hV⟩ := hI
  obtain ⟨hN, hE, hT, hD, hC, hL, hH⟩ := id hB
  obtain ⟨⟨hP, hFr, hn, -⟩, ⟨hA, hCp⟩, ⟨hNu, hNX, hDs, hYS⟩, ⟨hCH, hVI⟩, ⟨hPt, hPw⟩, ⟨g2, k10, g3, hk2, hal, g8, htn, g19, np, g29, hnp⟩, e41, e42⟩ := id hV
  have hG := hP.1.1
  refine (cx_query hN hC hP).mono ?_
  rintro r S1 ⟨rfl, hC1, hcf⟩
  have hX1 := hX.kp hcf (by decide)
  refine ⟨_, rfl, hX1.km, (cm_query hX1.V hP.hq).mono ?_⟩
  rintro r2 S2 ⟨rfl, hGc, hMV⟩
  rw [hX1.gg] at hGc
  obtain ⟨hX2, hR⟩ := hX1.fin0 hGc hMV
  exact ⟨rfl, INV.same (S1 := S1) ⟨hN.kp hcf (by decide), hE.kp hcf (by decide), hT.kp hcf (by decide), hD.kp hcf (by decide), hC1, hL.kp hcf (by decide), hH.kp hcf (by decide)⟩ (hO.kp hcf) hX2 hR hV hc⟩

theorem st_byteOf (hI : INV g S x mo ou c) (hc : c < 64) : Two l g mo mX9_byteOf mX10_byteOf 0 0 [vr (some x), vi p0, vi p1] [vr (some mo), vi p0, vi p1] S (fun S' => INV g S' x mo ou (c + 1)) := by
  obtain ⟨pe, tp, dg, go, po, ch, T, O, M, F, G, X, n, h, a, k, al, tn, Ls, Pp, hB, hX, hO, hV⟩ := hI
  obtain ⟨hN, hE, hT, hD, hC, hL, hH⟩ := id hB
  obtain ⟨⟨hP, hFr, hn, -⟩, ⟨hA, hCp⟩, ⟨hNu, hNX, hDs, hYS⟩, ⟨hCH, hVI⟩, ⟨hPt, hPw⟩, ⟨g2, k10, g3, hk2, hal, g8, htn, g19, np, g29, hnp⟩, e41, e42⟩ := id hV
  have hG := hP.1.1
  refine (cx_byteOf hN hC hP).mono ?_
  rintro r S1 ⟨rfl, rfl⟩
  refine ⟨_, rfl, hX.km, (cm_byteOf hX hP.2.2.1).mono ?_⟩
  rintro r2 S2 ⟨rfl, hX2, hR⟩
  exact ⟨rfl, INV.same (S1 := S1) hB hO hX2 hR hV hc⟩
theorem st_unspent (hI : INV g S x mo ou c) (hc : c < 64) : Two l g mo mX9_unspent mX10_unspent 0 0 [vr (some x), vi p0, vi p1] [vr (some mo), vi p0, vi p1] S (fun S' => INV g S' x mo ou (c + 1)) := by
  obtain ⟨pe, tp, dg, go, po, ch, T, O, M, F, G, X, n, h, a, k, al, tn, Ls, Pp, hB, hX, hO, hV⟩ := hI
  obtain ⟨hN, hE, hT, hD, hC, hL, hH⟩ := id hB
  obtain ⟨⟨hP, hFr, hn, -⟩, ⟨hA, hCp⟩, ⟨hNu, hNX, hDs, hYS⟩, ⟨hCH, hVI⟩, ⟨hPt, hPw⟩, ⟨g2, k10, g3, hk2, hal, g8, htn, g19, np, g29, hnp⟩, e41, e42⟩ := id hV
  have hG := hP.1.1
  refine (cx_unspent hN hC hP).mono ?_
  rintro r S1 ⟨rfl, rfl⟩
  refine ⟨_, rfl, hX.km, (cm_unspent hX).mono ?_⟩
  rintro r2 S2 ⟨rfl, hX2, hR⟩
  exact ⟨rfl, INV.same (S1 := S1) hB hO hX2 hR hV hc⟩
theorem st_state (hI : INV g S x mo ou c) (hc : c < 64) : Two l g mo mX9_state mX10_state 0 0 [vr (some x), vi p0, vi p1] [vr (some mo), vi p0, vi p1] S (fun S' => INV g S' x mo ou (c + 1)) := by
  obtain ⟨pe, tp, dg, go, po, ch, T, O, M, F, G, X, n, h, a, k, al, tn, Ls, Pp, hB, hX, hO, hV⟩ := hI
  obtain ⟨hN, hE, hT, hD, hC, hL, hH⟩ := id hB
  obtain ⟨⟨hP, hFr, hn, -⟩, ⟨hA, hCp⟩, ⟨hNu, hNX, hDs, hYS⟩, ⟨hCH, hVI⟩, ⟨hPt, hPw⟩, ⟨g2, k10, g3, hk2, hal, g8, htn, g19, np, g29, hnp⟩, e41, e42⟩ := id hV
  have hG := hP.1.1
  refine (cx_state hN hH hCH).mono ?_
  rintro r S1 ⟨rfl, rfl⟩
  refine ⟨_, rfl, hX.km, (cm_state hX hCH).mono ?_⟩
  rintro r2 S2 ⟨rfl, hX2, hR⟩
  exact ⟨rfl, INV.same (S1 := S1) hB hO hX2 hR hV hc⟩
theorem st_count (hI : INV g S x mo ou c) (hc : c < 64) : Two l g mo mX9_count mX10_count 0 0 [vr (some x), vi p0] [vr (some mo), vi p0] S (fun S' => INV g S' x mo ou (c + 1)) := by
  obtain ⟨pe, tp, dg, go, po, ch, T, O, M, F, G, X, n, h, a, k, al, tn, Ls, Pp, hB, hX, hO, hV⟩ := hI
  obtain ⟨hN, hE, hT, hD, hC, hL, hH⟩ := id hB
  obtain ⟨⟨hP, hFr, hn, -⟩, ⟨hA, hCp⟩, ⟨hNu, hNX, hDs, hYS⟩, ⟨hCH, hVI⟩, ⟨hPt, hPw⟩, ⟨g2, k10, g3, hk2, hal, g8, htn, g19, np, g29, hnp⟩, e41, e42⟩ := id hV
  have hG := hP.1.1
  refine (cx_count hN hT hC hL hP (by have := hP.a65 (by omega); omega)).mono ?_
  rintro r S1 ⟨rfl, rfl⟩
  refine ⟨_, rfl, hX.km, (cm_count hX g19 (by have := hP.a65 (by omega); omega) hP.1.2.2.2.2.2.1).mono ?_⟩
  rintro r2 S2 ⟨rfl, hX2, hR⟩
  exact ⟨rfl, INV.same (S1 := S1) hB hO hX2 hR hV hc⟩
theorem st_listed (hI : INV g S x mo ou c) (hc : c < 64) : Two l g mo mX9_listed mX10_listed 0 0 [vr (some x), vi p0, vi p1] [vr (some mo), vi p0, vi p1] S (fun S' => INV g S' x mo ou (c + 1)) := by
  obtain ⟨pe, tp, dg, go, po, ch, T, O, M, F, G, X, n, h, a, k, al, tn, Ls, Pp, hB, hX, hO, hV⟩ := hI
  obtain ⟨hN, hE, hT, hD, hC, hL, hH⟩ := id hB
  obtain ⟨⟨hP, hFr, hn, -⟩, ⟨hA, hCp⟩, ⟨hNu, hNX, hDs, hYS⟩, ⟨hCH, hVI⟩, ⟨hPt, hPw⟩, ⟨g2, k10, g3, hk2, hal, g8, htn, g19, np, g29, hnp⟩, e41, e42⟩ := id hV
  have hG := hP.1.1
  have ha := hP.a65 (by omega)
  refine (cx_listed hN hC hP (by omega) (by omega)).mono ?_
  rintro r S1 ⟨rfl, hC1, hcf⟩
  have hX1 := hX.kp hcf (by decide)
  refine ⟨_, rfl, hX1.km, (cm_listed hX1 hP.hq (fun j hj => by rw [hP.hv (hG.hn j hj)]; exact hdB_iff.mpr ⟨j, hj, rfl⟩) (by have := hP.2.2.2.2; have := hG.2.1; omega) g19 (by omega) hP.1.2.2.2.2.2.1).mono ?_⟩
  rintro r2 S2 ⟨rfl, hX2, hR⟩
  exact ⟨rfl, INV.same (S1 := S1) ⟨hN.kp hcf (by decide), hE.kp hcf (by decide), hT.kp hcf (by decide), hD.kp hcf (by decide), hC1, hL.kp hcf (by decide), hH.kp hcf (by decide)⟩ (hO.kp hcf) hX2 hR hV hc⟩
theorem st_begin (hI : INV g S x mo ou c) (hc : c < 64) : ∃ mc ms, mc ≤ 727 ∧ ms ≤ 70828 ∧ Two l g mo mX9_begin mX10_begin mc ms [vr (some x), vi p0, vi p1, vi p2] [vr (some mo), vi p0, vi p1, vi p2] S (fun S' => INV g S' x mo ou (c + 1)) := by
  obtain ⟨pe, tp, dg, go, po, ch, T, O, M, F, G, X, n, h, a, k, al, tn, Ls, Pp, hB, hX, hO, hV⟩ := hI
  obtain ⟨hN, hE, hT, hD, hC, hL, hH⟩ := id hB
  obtain ⟨⟨hP, hFr, hn, -⟩, ⟨hA, hCp⟩, ⟨hNu, hNX, hDs, hYS⟩, ⟨hCH, hVI⟩, ⟨hPt, hPw⟩, ⟨g2, k10, g3, hk2, hal, g8, htn, g19, np, g29, hnp⟩, e41, e42⟩ := id hV
  have hG := hP.1.1
  cases hb : begB p0 p1 p2 with
  | false =>
    refine ⟨0, 0, by omega, by omega, (cx_beginN hb).mono ?_⟩
    rintro r S1 ⟨rfl, rfl⟩
    refine ⟨_, rfl, hX.km, (cm_beginN hX hb).mono ?_⟩
    rintro r2 S2 ⟨rfl, hX2, hR⟩
    exact ⟨rfl, INV.same (S1 := S1) hB hO hX2 hR hV hc⟩
  | true =>
    obtain ⟨j, r', k', rfl, hj, rfl, hr, rfl, hk3, hk8⟩ := begB_t hb
    refine ⟨3, 40, by omega, by omega, (cx_begin hN hH hj hr hk3 hk8).mono ?_⟩
    rintro r S1 ⟨rfl, hH1, hcf⟩
    refine ⟨_, rfl, (hX.kp hcf (by decide)).km, (cm_begin (hX.kp hcf (by decide)) hj hr hk3 hk8).mono ?_⟩
    rintro r2 S2 ⟨rfl, hX2, hR⟩
    exact ⟨rfl, INV.mk' (S1 := S1) (F := begF F j (nI r') (nI k')) (G := upd G 0 (nI 0)) (al := al) (tn := tn) ⟨hN.kp hcf (by decide), hE.kp hcf (by decide), hT.kp hcf (by decide), hD.kp hcf (by decide), hC.kp hG hcf (by decide), hL.kp hcf (by decide), hH1⟩ (hO.kp hcf) hX2 hR ⟨⟨hP, hFr, by omega, by omega⟩, ⟨hA, hCp⟩, ⟨hNu, hNX, hDs, hYS⟩, ⟨hCH.beg hk8, hVI.beg⟩, ⟨hPt, hPw⟩, ⟨g2, k10, g3, hk2, hal, g8, htn, g19, np, g29, by omega⟩, e41, e42⟩⟩
theorem st_expire (hM : MIR g mi) (hI : INV g S x mo ou c) (hc : c < 64) : ∃ mc ms, mc ≤ 727 ∧ ms ≤ 70828 ∧ Two l g mo mX9_expire mX10_expire mc ms [vr (some x), vi p0] [vr (some mo), vi p0] S (fun S' => INV g S' x mo ou (c + 1)) := by
  obtain ⟨pe, tp, dg, go, po, ch, T, O, M, F, G, X, n, h, a, k, al, tn, Ls, Pp, hB, hX, hO, hV⟩ := hI
  obtain ⟨hN, hE, hT, hD, hC, hL, hH⟩ := id hB
  obtain ⟨⟨hP, hFr, hn, -⟩, ⟨hA, hCp⟩, ⟨hNu, hNX, hDs, hYS⟩, ⟨hCH, hVI⟩, ⟨hPt, hPw⟩, ⟨g2, k10, g3, hk2, hal, g8, htn, g19, np, g29, hnp⟩, e41, e42⟩ := id hV
  have hG := hP.1.1
  cases hp : plc (F 25) p0 with
  | none =>
    refine ⟨0, 0, by omega, by omega, (cx_expireN hN hL hNu hp).mono ?_⟩
    rintro r S1 ⟨rfl, rfl⟩
    refine ⟨_, rfl, hX.km, (cm_expireN hX hp).mono ?_⟩
    rintro r2 S2 ⟨rfl, hX2, hR⟩
    exact ⟨rfl, INV.same (S1 := S1) hB hO hX2 hR hV hc⟩
  | some p =>
    obtain ⟨p6, e25, hv0⟩ := plc_lt hp
    have hop : ¬ F 25 p < 0 := by rw [e25]; exact hv0
    obtain ⟨t, ht, h26, hd, hch, h15⟩ := hA.1 p p6 hop
    have ha := hP.a65 (by omega)
    refine ⟨65, 6500, by omega, by omega, (cx_expire hM hN hC hL hNu hP.1 (by omega) hp h26 hd hch).mono ?_⟩
    rintro r S1 ⟨rfl, ⟨Ls', hL1⟩, hC1, hcf⟩
    obtain ⟨kt, hkt, hkt2⟩ := hdB_iff.mp hd
    refine ⟨_, rfl, (hX.kp hcf (by decide)).km, (cm_expireC (a := a) (hX.kp hcf (by decide)) hp hP.2.2.2.2 g19 (by have := hG.2.1; omega) h26 (by rw [← hkt2]; exact (hG.2.2.2 kt hkt).2) hP.1.2.2.2.1).mono ?_⟩
    rintro r2 S2 ⟨rfl, hX2, hR⟩
    have e30 : G 30 + bi false = G 30 := Int32.add_zero _
    rw [e30] at hX2
    have clz : Clz F (um F 25 p (-1)) p := clz_ex
    have hN1 := hN.kp hcf (by decide)
    refine ⟨rfl, INV.mk' (S1 := S1) (M := (clo M n h t false (G 4) (G 5) a).1) (F := um F 25 p (-1)) (G := upd (upd (upd G 0 (nI 0)) 30 (G 30)) 19 (nI (clo M n h t false (G 4) (G 5) a).2)) (a := (clo M n h t false (G 4) (G 5) a).2) (al := al) (tn := tn) ⟨hN1, hE.kp hcf (by decide), hT.kp hcf (by decide), hD.kp hcf (by decide), hC1, hL1, hH.kp hcf (by decide)⟩ (hO.kp hcf) hX2 hR ⟨⟨hP.clo hd, hFr.clo hG ht, by omega, by omega⟩, ⟨hA.clo (by omega) p6 hop h26 ht (fun q _ => clz.1 q) clz.2.1 clz.2.2.1, hCp.clo h15⟩, ⟨hNu.clz clz, hNX.clz clz, hDs.clz clz, hYS.clz k10 clz⟩, ⟨hCH, hVI⟩, ⟨hPt, hPw⟩, ⟨g2, k10, g3, hk2, hal, g8, htn, pk_us, np, g29, by omega⟩, e41, e42⟩⟩
end Steps
