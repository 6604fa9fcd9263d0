/-! One call of the law: poll, answer, take -/
section StepsP
variable {l : Launch} {g : GG} {S S1 S2 S' : hS} {x mo ou c mi : Nat} {p0 p1 p2 : Int32}
theorem st_poll (hM : MIR g mi) (hl : l.stackTraces = false) (hI : INV g S x mo ou c) (hc : c < 64) : ∃ mc ms, mc ≤ 727 ∧ ms ≤ 70828 ∧ SpH l g mL_poll hhL_poll mc ms [vr (some x), vr (some ou)] S (HS l g mX10_poll [vr (some mo)] mo ou (fun _ => True) (fun S3 => INV g S3 x mo ou (c + 1))) := by
  obtain ⟨pe, tp, dg, go, po, ch, T, O, M, F, G, X, n, h, a, k, al, tn, Ls, Pp, hB, hX, hO, hV⟩ := hI
  obtain ⟨hN, hE, hT, hD, hC, hL, hH⟩ := id hB
  obtain ⟨⟨hP, hFr, hn, -⟩, ⟨hA, hCp⟩, ⟨hNu, hNX, hDs, hYS⟩, ⟨hCH, hVI⟩, ⟨hPt, hPw⟩, ⟨g2, k10, g3, hk2, hal, g8, htn, g19, np, g29, hnp⟩, e41, e42⟩ := id hV
  have hG := hP.1.1
  obtain ⟨wt, hw, hw2⟩ := id hPw
  cases hab : abo M h with
  | none =>
    refine ⟨1, 6, by omega, by omega, (hL_poll_n (ou := ou) hN.1.1 (cx_pollT1 hl hN hC hP.1 hab)).mono (hs_throw (kk := 1) (v := nI 0) trivial (by omega) (by omega) (fun S1 hP1 => ?_))⟩
    subst hP1
    refine ⟨hX.km, (cm_pollN hX hab).mono ?_⟩
    rintro r S2 ⟨rfl, hX2, hR⟩
    exact ⟨rfl, M, F, _, X, n, h, hX2, pk_us, INV.same (S1 := S1) hB hO hX2 hR hV hc⟩
  | some t =>
    by_cases h6 : opn (F 25) = 6
    · refine ⟨1, 6, by omega, by omega, (hL_poll_s (ou := ou) hN.1.1 (cx_pollT2 hl hN hC hL hP.1 hab h6)).mono (hs_throw (kk := 2) (v := nI 0) trivial (by omega) (by omega) (fun S1 hP1 => ?_))⟩
      subst hP1
      refine ⟨hX.km, (cm_pollF hX hab g2 k10 (Or.inl h6)).mono ?_⟩
      rintro r S2 ⟨rfl, hX2, hR⟩
      exact ⟨rfl, M, F, _, X, n, h, hX2, pk_us, INV.same (S1 := S1) hB hO hX2 hR hV hc⟩
    · by_cases hv : hvy (F 6) < k
      · refine ⟨1, 6, by omega, by omega, (hL_poll_s (ou := ou) hN.1.1 (cx_pollT3 hl hN hE hC hL hP.1 g2 k10 hab h6 hv)).mono (hs_throw (kk := 2) (v := nI 0) trivial (by omega) (by omega) (fun S1 hP1 => ?_))⟩
        subst hP1
        refine ⟨hX.km, (cm_pollF hX hab g2 k10 (Or.inr hv)).mono ?_⟩
        rintro r S2 ⟨rfl, hX2, hR⟩
        exact ⟨rfl, M, F, _, X, n, h, hX2, pk_us, INV.same (S1 := S1) hB hO hX2 hR hV hc⟩
      · have h29 : ¬ G 29 < 0 := by rw [g29]; exact nI_pos (by omega)
        have hvk : k ≤ hvy (F 6) := by omega
        have hcnt : k ≤ cntU (fun p => decide (0 < wt p)) 20 := by rw [← hvw hw hw2]; exact hvk
        obtain ⟨ht, -⟩ := abo_lt hG hab
        have hlt : G 29 < G 29 + nI 1 := by rw [g29, nI_add]; exact nI_lt (by omega) (by omega)
        refine ⟨4, 126, by omega, by omega, (hL_poll (ou := ou) hN.1.1 (cx_poll hM hN hE hC hL hP.1 g2 k10 hab h6 hvk hw hw2 h29) (fun S1 hP1 => hO.kp hP1.2.2.2.2)).mono (hs_ret trivial rfl (fun S1 hP1 => hO.kp hP1.2.2.2.2) (fun S1 hP1 => ?_))⟩
        obtain ⟨hN1, hE1, hC1, ⟨Ls', Pp', hL1⟩, hcf⟩ := hP1
        have hX1 := fun f => (hX.kp hcf (by decide)).kp (cf_out (po := po) (ou := ou) (f := f)) (by decide)
        refine ⟨(hX1 _).km, (cm_poll (hX1 _) hab g2 k10 h6 hvk hw hw2).mono ?_⟩
        rintro r S2 ⟨rfl, hX2, hR⟩
        have hB1 : CB g S1 x pe tp dg go po ch T O (um M 15 t (nI 1)) (polF F wt X (G 29) t k) (upd (upd G 0 (nI 0)) 29 (G 29 + nI 1)) (dX X k) n h a k Ls' Pp' := ⟨hN1, hE1, hT.kp hcf (by decide), hD.kp hcf (by decide), hC1, hL1, hH.kp hcf (by decide)⟩
        have hP' : PI (um M 15 t (nI 1)) n h a := hP.pol
        exact ⟨rfl, hR, _, _, _, _, n, h, hX2, rfl, INV.mk' (al := al) (tn := tn) (hB1.out hP'.1.1) (ou_out (hO.kp hcf)) hX2 hR ⟨⟨hP', hFr.pol ht, by omega, by omega⟩, ⟨hA.pol hCp hG hab h6, hCp.pol⟩, ⟨hNu.pol hNX h6, (by rw [pk_us]; exact hNX.pol hlt), hDs.pol k10 hcnt, hYS.pol k10 (by omega)⟩, ⟨hCH, hVI⟩, ⟨hPt, hPw⟩, ⟨g2, k10, g3, hk2, hal, g8, htn, g19, np + 1, by rw [pk_us, g29, nI_add], by omega⟩, e41, e42⟩⟩
theorem st_answer (hM : MIR g mi) (hl : l.stackTraces = false) {b : Bool} (hI : INV g S x mo ou c) (hc : c < 64) : ∃ mc ms, mc ≤ 727 ∧ ms ≤ 70828 ∧ SpH l g mL_answer hhL_answer mc ms [vr (some x), vi p0, vi p1, vi (bi b), vr (some ou)] S (HS l g mX10_answer [vr (some mo), vi p0, vi p1, vi (bi b)] mo ou (fun _ => True) (fun S3 => INV g S3 x mo ou (c + 1))) := by
  obtain ⟨pe, tp, dg, go, po, ch, T, O, M, F, G, X, n, h, a, k, al, tn, Ls, Pp, hB, hX, hO, hV⟩ := hI
  obtain ⟨hN, hE, hT, hD, hC, hL, hH⟩ := id hB
  obtain ⟨⟨hP, hFr, hn, -⟩, ⟨hA, hCp⟩, ⟨hNu, hNX, hDs, hYS⟩, ⟨hCH, hVI⟩, ⟨hPt, hPw⟩, ⟨g2, k10, g3, hk2, hal, g8, htn, g19, np, g29, hnp⟩, e41, e42⟩ := id hV
  have hG := hP.1.1
  cases hj0 : anJ F k (plc (F 25) p0) p1 with
  | none =>
    refine ⟨1, 6, by omega, by omega, (hL_answer_a (ou := ou) hN.1.1 (cx_answerT1 hl hN hL hNu hDs k10 hj0)).mono (hs_throw (kk := 1) (v := nI 0) trivial (by omega) (by omega) (fun S1 hP1 => ?_))⟩
    subst hP1
    refine ⟨hX.km, (cm_answer1 hX g2 k10 hj0).mono ?_⟩
    rintro r S2 ⟨rfl, hX2, hR⟩
    exact ⟨rfl, M, F, _, X, n, h, hX2, pk_us, INV.same (S1 := S1) hB hO hX2 hR hV hc⟩
  | some j =>
    obtain ⟨p, hp⟩ : ∃ p, plc (F 25) p0 = some p := by
      cases e : plc (F 25) p0 with
      | none => rw [e] at hj0; cases hj0
      | some p => exact ⟨p, rfl⟩
    have hj : anJ F k (some p) p1 = some j := by rw [← hp]; exact hj0
    by_cases hsd : F 28 (10 * p + j) = 0
    · obtain ⟨p6, e25, hv0⟩ := plc_lt hp
      have hop : ¬ F 25 p < 0 := by rw [e25]; exact hv0
      have hjk := anJ_lt hj
      have hY := hYS p p6 hop
      cases hEn : anE F p j b k al with
      | false =>
        refine ⟨0, 0, by omega, by omega, (hL_answer (ou := ou) hN.1.1 (cx_answer0 hN hL hNu hDs k10 g2 g3 hal hp hj hsd hY hEn) (fun S1 hP1 => hO.kp hP1.2)).mono (hs_ret trivial rfl (fun S1 hP1 => hO.kp hP1.2) (fun S1 hP1 => ?_))⟩
        obtain ⟨hL1, hcf⟩ := hP1
        have hX1 := fun f => (hX.kp hcf (by decide)).kp (cf_out (po := po) (ou := ou) (f := f)) (by decide)
        refine ⟨(hX1 _).km, (cm_answer0 (hX1 _) g2 k10 g3 hal hp hj hsd hEn).mono ?_⟩
        rintro r S2 ⟨rfl, hX2, hR⟩
        have hB1 : CB g S1 x pe tp dg go po ch T O M (anF F p j b) (upd G 0 (nI 0)) X n h a k Ls Pp := ⟨hN.kp hcf (by decide), hE.kp hcf (by decide), hT.kp hcf (by decide), hD.kp hcf (by decide), hC.kp hG hcf (by decide), hL1, hH.kp hcf (by decide)⟩
        exact ⟨rfl, hR, _, _, _, _, n, h, hX2, rfl, INV.mk' (al := al) (tn := tn) (hB1.out hG) (ou_out (hO.kp hcf)) hX2 hR ⟨⟨hP, hFr, by omega, by omega⟩, ⟨hA, hCp⟩, ⟨hNu, hNX, hDs, hYS.an k10 hjk p6 hop hsd hEn⟩, ⟨hCH, hVI⟩, ⟨hPt, hPw⟩, ⟨g2, k10, g3, hk2, hal, g8, htn, g19, np, g29, by omega⟩, e41, e42⟩⟩
      | true =>
        obtain ⟨t, ht, h26, hd, hch, h15⟩ := hA.1 p p6 hop
        have ha := hP.a65 (by omega)
        obtain ⟨kt, hkt, hkt2⟩ := hdB_iff.mp hd
        have hHt : Ht M n t := by rw [← hkt2]; exact (hG.2.2.2 kt hkt).2
        have clz : Clz F (um (anF F p j b) 25 p (-1)) p := clz_an (by omega)
        cases hW : anW F p j b k al with
        | false =>
          refine ⟨65, 6500, by omega, by omega, (hL_answer (ou := ou) hN.1.1 (cx_answerL hM hN hC hP.1 (by omega) hL hNu hDs k10 g2 g3 hal hp hj hsd hY hEn hW h26 hd hch) (fun S1 hP1 => hO.kp hP1.2.2)).mono (hs_ret trivial rfl (fun S1 hP1 => hO.kp hP1.2.2) (fun S1 hP1 => ?_))⟩
          obtain ⟨⟨Ls', hL1⟩, hC1, hcf⟩ := hP1
          have hX1 := fun f => (hX.kp hcf (by decide)).kp (cf_out (po := po) (ou := ou) (f := f)) (by decide)
          refine ⟨(hX1 _).km, (cm_answerC (hX1 _) g2 k10 g3 hal hp hj hsd hEn hP.2.2.2.2 g19 (by have := hG.2.1; omega) h26 hHt hP.1.2.2.2.1 hW).mono ?_⟩
          rintro r S2 ⟨rfl, hX2, hR⟩
          have e30 : G 30 + bi false = G 30 := Int32.add_zero _
          rw [e30] at hX2
          have hB1 : CB g S1 x pe tp dg go po ch T O (clo M n h t false (G 4) (G 5) a).1 (um (anF F p j b) 25 p (-1)) (upd (upd (upd G 0 (nI 0)) 30 (G 30)) 19 (nI (clo M n h t false (G 4) (G 5) a).2)) X n h (clo M n h t false (G 4) (G 5) a).2 k Ls' Pp := ⟨hN.kp hcf (by decide), hE.kp hcf (by decide), hT.kp hcf (by decide), hD.kp hcf (by decide), hC1, hL1, hH.kp hcf (by decide)⟩
          have hP' := hP.clo (w := false) (b1 := G 4) (b2 := G 5) hd
          exact ⟨rfl, hR, _, _, _, _, n, h, hX2, rfl, INV.mk' (al := al) (tn := tn) (hB1.out hP'.1.1) (ou_out (hO.kp hcf)) hX2 hR ⟨⟨hP', hFr.clo hG ht, by omega, by omega⟩, ⟨hA.clo (by omega) p6 hop h26 ht (fun q _ => clz.1 q) clz.2.1 clz.2.2.1, hCp.clo h15⟩, ⟨hNu.clz clz, hNX.clz clz, hDs.clz clz, hYS.clz k10 clz⟩, ⟨hCH, hVI⟩, ⟨hPt, hPw⟩, ⟨g2, k10, g3, hk2, hal, g8, htn, pk_us, np, g29, by omega⟩, e41, e42⟩⟩
        | true =>
          refine ⟨65, 6500, by omega, by omega, (hL_answer (ou := ou) hN.1.1 (cx_answerW hM hN hC hP.1 (by omega) hL hNu hDs k10 g3 hal hp hj hsd hW h26 hd hch) (fun S1 hP1 => hO.kp hP1.2.2.2)).mono (hs_ret trivial rfl (fun S1 hP1 => hO.kp hP1.2.2.2) (fun S1 hP1 => ?_))⟩
          obtain ⟨hN1, ⟨Ls', hL1⟩, hC1, hcf⟩ := hP1
          have hX1 := fun f => (hX.kp hcf (by decide)).kp (cf_out (po := po) (ou := ou) (f := f)) (by decide)
          refine ⟨(hX1 _).km, (cm_answerC (hX1 _) g2 k10 g3 hal hp hj hsd hEn hP.2.2.2.2 g19 (by have := hG.2.1; omega) h26 hHt hP.1.2.2.2.1 hW).mono ?_⟩
          rintro r S2 ⟨rfl, hX2, hR⟩
          have hB1 : CB g S1 x pe tp dg go po ch T O (clo M n h t true (G 4) (G 5) a).1 (um (anF F p j b) 25 p (-1)) (upd (upd (upd G 0 (nI 0)) 30 (G 30 + bi true)) 19 (nI (clo M n h t true (G 4) (G 5) a).2)) X n h (clo M n h t true (G 4) (G 5) a).2 k Ls' Pp := ⟨hN1, hE.kp hcf (by decide), hT.kp hcf (by decide), hD.kp hcf (by decide), hC1, hL1, hH.kp hcf (by decide)⟩
          have hP' := hP.clo (w := true) (b1 := G 4) (b2 := G 5) hd
          exact ⟨rfl, hR, _, _, _, _, n, h, hX2, rfl, INV.mk' (al := al) (tn := tn) (hB1.out hP'.1.1) (ou_out (hO.kp hcf)) hX2 hR ⟨⟨hP', hFr.clo hG ht, by omega, by omega⟩, ⟨hA.clo (by omega) p6 hop h26 ht (fun q _ => clz.1 q) clz.2.1 clz.2.2.1, hCp.clo h15⟩, ⟨hNu.clz clz, hNX.clz clz, hDs.clz clz, hYS.clz k10 clz⟩, ⟨hCH, hVI⟩, ⟨hPt, hPw⟩, ⟨g2, k10, g3, hk2, hal, g8, htn, pk_us, np, g29, by omega⟩, e41, e42⟩⟩
    · refine ⟨1, 6, by omega, by omega, (hL_answer_s (ou := ou) hN.1.1 (cx_answerT2 hl hN hL hNu hDs k10 hp hj hsd)).mono (hs_throw (kk := 2) (v := nI 0) trivial (by omega) (by omega) (fun S1 hP1 => ?_))⟩
      subst hP1
      refine ⟨hX.km, (cm_answer2 hX g2 k10 hp hj hsd).mono ?_⟩
      rintro r S2 ⟨rfl, hX2, hR⟩
      exact ⟨rfl, M, F, _, X, n, h, hX2, pk_us, INV.same (S1 := S1) hB hO hX2 hR hV hc⟩
theorem st_take (hM : MIR g mi) (hl : l.stackTraces = false) (hI : INV g S x mo ou c) (hc : c < 64) : ∃ mc ms, mc ≤ 727 ∧ ms ≤ 70828 ∧ SpH l g mL_take hhL_take mc ms [vr (some x), vi p0, vr (some ou)] S (HS l g mX10_take [vr (some mo), vi p0] mo ou (fun _ => True) (fun S3 => INV g S3 x mo ou (c + 1))) := by
  obtain ⟨pe, tp, dg, go, po, ch, T, O, M, F, G, X, n, h, a, k, al, tn, Ls, Pp, hB, hX, hO, hV⟩ := hI
  obtain ⟨hN, hE, hT, hD, hC, hL, hH⟩ := id hB
  obtain ⟨⟨hP, hFr, hn, -⟩, ⟨hA, hCp⟩, ⟨hNu, hNX, hDs, hYS⟩, ⟨hCH, hVI⟩, ⟨hPt, hPw⟩, ⟨g2, k10, g3, hk2, hal, g8, htn, g19, np, g29, hnp⟩, e41, e42⟩ := id hV
  have hG := hP.1.1
  obtain ⟨tb, hb, hF7⟩ := id hPt
  have fin : ∀ (kk : Nat) (S1 S2 : hS), Cf po [2, 3] S S1 → CTp S1 tp F (upd G 8 (nI 0)) → CDg S1 dg → MX S2 mo M F (upd (upd G 8 (nI 0)) 0 (nI kk)) X n h → Rf S1 S2 mo → INV g S2 x mo ou (c + 1) := fun kk S1 S2 hcf hT1 hD1 hX2 hR => INV.mk' (S1 := S1) (G := upd (upd G 8 (nI 0)) 0 (nI kk)) (al := al) (tn := 0) ⟨hN.kp hcf (by decide), hE.kp hcf (by decide), hT1, hD1, hC.kp hG hcf (by decide), hL.kp hcf (by decide), hH.kp hcf (by decide)⟩ (hO.kp hcf) hX2 hR ⟨⟨hP, hFr, by omega, by omega⟩, ⟨hA, hCp⟩, ⟨hNu, hNX, hDs, hYS⟩, ⟨hCH, hVI⟩, ⟨hPt, hPw⟩, ⟨g2, k10, g3, hk2, hal, rfl, by omega, g19, np, g29, by omega⟩, e41, e42⟩
  have no : ∀ S1, Cf po [2, 3] S S1 → CTp S1 tp F (upd G 8 (nI 0)) → CDg S1 dg → tkB tb tn p0 = false → Sp l g mX10_take 0 0 [vr (some mo), vi p0] S1 (fun r S2 => r = some (vi (nI 0)) ∧ ∃ M F G X n h, MX S2 mo M F G X n h ∧ G 0 = nI 1 ∧ INV g S2 x mo ou (c + 1)) := by
    intro S1 hcf hT1 hD1 hk
    have hX1 := hX.kp hcf (by decide)
    refine (cm_takeN (tb := tb) (tp := tn) hX1.V (fun i hi => by rw [hX1.f (by decide)]; exact hF7 i hi) hb (by rw [hX1.gg]; exact g8) htn hk).mono ?_
    rintro r S2 ⟨rfl, hGc, hMV⟩
    rw [hX1.gg] at hGc
    obtain ⟨hX2, hR⟩ := hX1.fin0 hGc hMV
    exact ⟨rfl, M, F, _, X, n, h, hX2, pk_us, fin 1 S1 S2 hcf hT1 hD1 hX2 hR⟩
  by_cases hv : p0 < nI 1 ∨ nI tn < p0
  · refine ⟨1, 6, by omega, by omega, (hL_take_a (ou := ou) hN.1.1 (cx_takeT1 hl hN hT g8 htn hv)).mono (hs_throw (kk := 1) (v := nI 0) trivial (by omega) (by omega) (fun S1 hP1 => ?_))⟩
    obtain ⟨hT1, hcf⟩ := hP1
    exact ⟨(hX.kp hcf (by decide)).km, no S1 (hcf.up (by decide)) hT1 (hD.kp hcf (by decide)) (by unfold tkB; rw [if_pos (hv.elim Or.inl (fun q => Or.inr (Or.inl q)))])⟩
  · obtain ⟨m, hm0, rfl⟩ := nI_of (x := p0) (fun q => hv (Or.inl (Int32.lt_trans q (by decide))))
    have h1 : 1 ≤ m := by
      have := mt Or.inl hv
      rw [nI_ltI hm0 (by omega)] at this
      omega
    have h2 : m ≤ tn := by
      have := mt Or.inr hv
      rw [nI_ltI (by omega) hm0] at this
      omega
    cases hT0 : isT tb m with
    | false =>
      refine ⟨22, 234, by omega, by omega, (hL_take_a (ou := ou) hN.1.1 (cx_takeT2 hl hN hT hD g8 htn h1 h2 hF7 hb hT0)).mono (hs_throw (kk := 1) (v := nI 0) trivial (by omega) (by omega) (fun S1 hP1 => ?_))⟩
      obtain ⟨hT1, hD1, hcf⟩ := hP1
      exact ⟨(hX.kp hcf (by decide)).km, no S1 hcf hT1 hD1 (by unfold tkB; split; rfl; rw [nI_clamp hm0]; exact hT0)⟩
    | true =>
      have h55 := isT_55 hT0
      have htk : tkB tb tn (nI m) = true := by
        unfold tkB
        rw [if_neg (fun q => q.elim (fun z => hv (Or.inl z)) (fun q => q.elim (fun z => hv (Or.inr z)) (fun z => by rw [nI_ltI (by omega) hm0] at z; omega))), nI_clamp hm0]
        exact hT0
      by_cases hdup : fdo (M 10) (idv tb stT rdT m) n = none
      · have hAd : Adm M n h a (idv tb stT rdT m) m tb := ⟨hP, hFr, hdup, by omega, hb, h55, hT0⟩
        obtain ⟨hP2, hF2, hKp⟩ := tak_ok hAd
        refine ⟨727, 70828, by omega, by omega, (hL_take (ou := ou) hN.1.1 (cx_take hM hN hT hD hC hL.2.1.k hAd (by omega) g8 htn h1 h2 hF7) (fun S1 hP1 => hO.kp hP1.2.2.2)).mono (hs_ret trivial rfl (fun S1 hP1 => hO.kp hP1.2.2.2) (fun S1 hP1 => ?_))⟩
        obtain ⟨hT1, hD1, ⟨T', O', hC1, hTT⟩, hcf⟩ := hP1
        have hX1 := (hX.kp hcf (by decide)).kp (cf_out (po := po) (ou := ou) (f := vp_updL (aJ S1 81 ou) 0 (idv tb stT rdT m).toInt64)) (by decide)
        refine ⟨hX1.km, (cm_take (tb := tb) (tp := tn) (id := idv tb stT rdT m) hX1.V (fun i hi => by rw [hX1.f (by decide)]; exact hF7 i hi) hb (by rw [hX1.gg]; exact g8) htn htk hT0 h55 (by rw [hX1.f (by decide), hX1.f (by decide), e41, e42]) hdup (by omega) (by have := hP.2.2.2.2; have := hG.2.1; omega) hP.cH hP.1.2.2.1.2.2.2.2.2).mono ?_⟩
        rintro r S2 ⟨rfl, hGc, hMV⟩
        rw [hX1.gg] at hGc
        obtain ⟨hX2, hR⟩ := hX1.fin0 hGc hMV
        have hL1 : CPl g S1 po T' F k Ls Pp := (hL.kp hcf (by decide)).sub (fun p hp t ht e => by
          have p6 := hL.1.2.2 p hp
          obtain ⟨t', a1, a2, -⟩ := hA.1 p p6 ((hL.1.1 p p6).mp hp)
          rw [a2] at e
          have := nI_inj' e (by omega) (by omega)
          omega) hTT
        have hB1 : CB g S1 x pe tp dg go po ch T' O' (tak M n h (idv tb stT rdT m) m tb).1 F (upd (upd (upd (upd G 8 (nI 0)) 0 (nI 0)) 9 (nI (n + 1))) 17 (nI (tak M n h (idv tb stT rdT m) m tb).2)) X (n + 1) (tak M n h (idv tb stT rdT m) m tb).2 a k Ls Pp := ⟨hN.kp hcf (by decide), hE.kp hcf (by decide), hT1, hD1, hC1, hL1, hH.kp hcf (by decide)⟩
        have hCp2 : CPd (tak M n h (idv tb stT rdT m) m tb).1 (n + 1) := fun t ht q => by
          rw [hKp.2.1] at q
          unfold chitB
          rw [hKp.1]
          by_cases e : t < n
          · exact hCp t e q
          · rw [(hFr.1 t (by omega)).1]; rfl
        exact ⟨rfl, hR, _, _, _, _, _, _, hX2, rfl, INV.mk' (al := al) (tn := 0) (hB1.out hP2.1.1) (ou_out (hO.kp hcf)) hX2 hR ⟨⟨hP2, hF2, by omega, by omega⟩, ⟨hA.kp (by omega) hKp, hCp2⟩, ⟨hNu, hNX, hDs, hYS⟩, ⟨hCH, hVI⟩, ⟨hPt, hPw⟩, ⟨g2, k10, g3, hk2, hal, rfl, by omega, g19, np, g29, by omega⟩, e41, e42⟩⟩
      · refine ⟨22, 234, by omega, by omega, (hL_take_s (ou := ou) hN.1.1 (cx_takeT3 hl hN hT hD hC hP g8 htn h1 h2 hF7 hb hT0 hdup)).mono (hs_throw (kk := 2) (v := nI 0) trivial (by omega) (by omega) (fun S1 hP1 => ?_))⟩
        obtain ⟨hT1, hD1, hcf⟩ := hP1
        have hX1 := hX.kp hcf (by decide)
        refine ⟨hX1.km, (cm_takeD (tb := tb) (tp := tn) hX1.V (fun i hi => by rw [hX1.f (by decide)]; exact hF7 i hi) hb (by rw [hX1.gg]; exact g8) htn htk h55 (Or.inl (by rw [hX1.f (by decide), hX1.f (by decide), e41, e42]; exact hdup))).mono ?_⟩
        rintro r S2 ⟨rfl, hGc, hMV⟩
        rw [hX1.gg] at hGc
        obtain ⟨hX2, hR⟩ := hX1.fin0 hGc hMV
        exact ⟨rfl, M, F, _, X, n, h, hX2, pk_us, fin 2 S1 S2 hcf hT1 hD1 hX2 hR⟩
end StepsP
