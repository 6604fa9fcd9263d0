/-! The class: a poll is dropped; expire -/
section DropC
variable {l : Launch} {g : GG} {S S1 S' : hS} {po x pe tp dg go ch n h a k p pp : Nat} {T O Pp : Nat → Nat} {M F : MM} {G : Nat → Int32} {X : Int64} {L Ls : List Nat} {P R A : Nat → Nat → Prop}
theorem PL.ag (hP : PL S T F k pp p) (hc : Ag P R A S S1) (hf : ∀ f, 600 ≤ f → f < 700 → ∀ y, P f y ∧ R f y) (ha : ∀ y, A 39 y ∧ A 91 y) : PL S1 T F k pp p ∧ rA S1 603 pp = rA S 603 pp := by
  obtain ⟨⟨a0, a1, a2, ⟨a3, a4⟩, a5, a6⟩, b1, ⟨t, b0, b2, b3⟩, b4, b5, b6, b7⟩ := hP
  have hx : sK S pp ≠ 0 := by rw [a0]; decide
  have hw : sK S (rA S 602 pp) ≠ 0 := by rw [a3]; decide
  have hd : sK S (rA S 603 pp) ≠ 0 := by rw [a5]; decide
  have hr : ∀ f, 600 ≤ f → f < 700 → sR S1 f pp = sR S f pp := fun f f1 f2 => hc.r hx (hf f f1 f2 pp).2
  have hi : ∀ f, 600 ≤ f → f < 700 → sI S1 f pp = sI S f pp := fun f f1 f2 => hc.i hx (hf f f1 f2 pp).1
  have e2 := rA_eq (S := S) (S1 := S1) (hr 602 (by omega) (by omega))
  have e3 := rA_eq (S := S) (S1 := S1) (hr 603 (by omega) (by omega))
  refine ⟨⟨⟨by rw [hc.k hx]; exact a0, by rw [hr 602 (by omega) (by omega), e2]; exact a1, by rw [hr 603 (by omega) (by omega), e3]; exact a2, ⟨by rw [e2, hc.k hw]; exact a3, by rw [e2, hc.n hw]; exact a4⟩, by rw [e3, hc.k hd]; exact a5, by rw [e3, hc.n hd]; exact a6⟩, by rw [hi 600 (by omega) (by omega)]; exact b1, ⟨t, b0, by rw [hr 601 (by omega) (by omega)]; exact b2, b3⟩, fun j hj => ?_, fun j hj => ?_, by rw [hi 604 (by omega) (by omega)]; exact b6, by rw [hi 605 (by omega) (by omega)]; exact b7⟩, e3⟩
  · rw [e2, hc.ai hw (ha _).1]; exact b4 j hj
  · rw [e3, hc.ai hd (ha _).2]; exact b5 j hj
theorem PL.um25 {p' : Nat} {v : Int32} (hP : PL S T F k pp p) (hne : p ≠ p') : PL S T (um F 25 p' v) k pp p := by
  obtain ⟨c1, c2, c3, c4, c5, c6, c7⟩ := hP
  have e6 : um F 25 p' v 26 = F 26 := um_n (by decide)
  have e7 : um F 25 p' v 27 = F 27 := um_n (by decide)
  have e8 : um F 25 p' v 28 = F 28 := um_n (by decide)
  refine ⟨c1, ?_, by rw [e6]; exact c3, by rw [e7]; exact c4, by rw [e8]; exact c5, by rw [e8]; exact c6, by rw [e8]; exact c7⟩
  rw [c2]
  simp only [um, uk_s, upd]
  rw [if_neg hne]
theorem Au.cf (h : Au S S1 po 107) : Cf po [5] S S1 := by
  have kp : ∀ f, f < 3 → kf po f po = 5 := fun f hf => by unfold kf; rw [if_pos hf, if_pos rfl]
  refine Au.ag h ⟨fun z => z ?_, fun z => z ?_⟩ (fun z => z ?_) (fun y z => z ?_)
  · rw [kp 0 (by omega)]; decide
  · rw [kp 2 (by omega)]; decide
  · rw [kp 1 (by omega)]; decide
  · decide
theorem nd_at (hd : Ls.Nodup) {i j : Nat} (hi : i < Ls.length) (hj : j < Ls.length) (e : Ls.getD i 0 = Ls.getD j 0) : i = j := by
  rw [List.getD_eq_getElem?_getD, List.getD_eq_getElem?_getD, List.getElem?_eq_getElem hi, List.getElem?_eq_getElem hj] at e
  have e' : Ls[i] = Ls[j] := e
  have hp := List.pairwise_iff_getElem.mp hd
  rcases Nat.lt_trichotomy i j with q | q | q
  · exact absurd e' (hp i j hi hj q)
  · exact q
  · exact absurd e'.symm (hp j i hj hi q)
theorem gd_ix (hp : p ∈ Ls) : ∃ i, i < Ls.length ∧ Ls.getD i 0 = p := by
  obtain ⟨i, hi, e⟩ := List.getElem_of_mem hp
  exact ⟨i, hi, by rw [List.getD_eq_getElem?_getD, List.getElem?_eq_getElem hi]; exact e⟩
theorem er_at {i j : Nat} (hj : j < (Ls.eraseIdx i).length) : (Ls.eraseIdx i).getD j 0 = if j < i then Ls.getD j 0 else Ls.getD (j + 1) 0 := by
  rw [List.getD_eq_getElem?_getD, List.getElem?_eraseIdx, List.getD_eq_getElem?_getD, List.getD_eq_getElem?_getD]
  split <;> rfl
theorem er_mem (hd : Ls.Nodup) {i q : Nat} (hi : i < Ls.length) : q ∈ Ls.eraseIdx i ↔ q ∈ Ls ∧ q ≠ Ls.getD i 0 := by
  rw [List.mem_eraseIdx_iff_getElem]
  constructor
  · rintro ⟨j, hj, hne, rfl⟩
    refine ⟨List.getElem_mem hj, fun e => hne ?_⟩
    refine nd_at hd hj hi ?_
    rw [← e, List.getD_eq_getElem?_getD, List.getElem?_eq_getElem hj]
    rfl
  · rintro ⟨h1, h2⟩
    obtain ⟨j, hj, e⟩ := List.getElem_of_mem h1
    refine ⟨j, hj, fun q2 => h2 ?_, e⟩
    subst q2
    rw [List.getD_eq_getElem?_getD, List.getElem?_eq_getElem hj]
    exact e.symm
/-- the poll of the place p is taken out -/
theorem CPl.drop {i : Nat} (hP : CPl g S po T F k Ls Pp) (hi : i < Ls.length) (hA : Au S S1 po 107) (hL : LA g S1 po 107 (Ls.length - 1) (rmF (fun i => Pp (Ls.getD i 0)) i)) : CPl g S1 po T (um F 25 (Ls.getD i 0) (-1)) k (Ls.eraseIdx i) Pp := by
  obtain ⟨⟨h1, h2, h3⟩, h4, h5, h6⟩ := hP
  have hlen : (Ls.eraseIdx i).length = Ls.length - 1 := List.length_eraseIdx_of_lt hi
  have hAg : Ag (fun f _ => 3 ≤ f) (fun f _ => 3 ≤ f) (fun r _ => r ≠ 107) S S1 := Au.ag hA ⟨by decide, by decide⟩ (by decide) (fun y z => z rfl)
  have hk : ∀ q ∈ Ls, PL S1 T F k (Pp q) q ∧ rA S1 603 (Pp q) = rA S 603 (Pp q) := fun q hq => (h5 q hq).ag hAg (fun f f1 f2 y => ⟨by show 3 ≤ f; omega, by show 3 ≤ f; omega⟩) (fun y => ⟨by decide, by decide⟩)
  refine ⟨⟨fun q hq => ?_, h2.sublist (List.eraseIdx_sublist _ _), fun q hq => h3 q ((er_mem h2 hi).mp hq).1⟩, ?_, fun q hq => ?_, fun q hq q' hq' e => ?_⟩
  · rw [er_mem h2 hi, h1 q hq]
    simp only [um, uk_s, upd]
    by_cases c : q = Ls.getD i 0
    · rw [if_pos c]
      exact ⟨fun z => absurd c z.2, fun z => absurd (by decide) z⟩
    · rw [if_neg c]
      exact ⟨fun z => z.1, fun z => ⟨z, c⟩⟩
  · rw [hlen]
    refine hL.cg (fun j hj => ?_)
    show Pp ((Ls.eraseIdx i).getD j 0) = rmF _ i j
    rw [er_at (Ls := Ls) (i := i) (j := j) (by omega)]
    simp only [rmF]
    split <;> rfl
  · obtain ⟨m1, m2⟩ := (er_mem h2 hi).mp hq
    exact (hk q m1).1.um25 m2
  · obtain ⟨m1, m2⟩ := (er_mem h2 hi).mp hq
    obtain ⟨m3, m4⟩ := (er_mem h2 hi).mp hq'
    rw [(hk q m1).2, (hk q' m3).2] at e
    exact h6 q m1 q' m3 e
theorem dc_0 : nI 0 - nI 1 < 0 := by decide
theorem dc_s {c : Nat} : nI (c + 1) - nI 1 = nI c := by rw [← nI_1, show nI 1 = (1 : Int32) from rfl, Int32.add_sub_cancel]
theorem dc_d {c : Nat} : nI c + Int32.ofInt (-1) = nI c - nI 1 := by
  rw [Int32.sub_eq_add_neg]
  rfl
theorem cx_drop {v : Int32} {i0 : Nat} (hN : NB S x pe tp dg go po ch G) (hP : CPl g S po T F k Ls Pp) (hu : Nu F) (hi0 : i0 < Ls.length) (hv : F 25 (Ls.getD i0 0) = v) : Sp l g mX9_dropOpenPoll 0 0 [vr (some x), vi v] S (fun r S' => r = none ∧ CPl g S' po T (um F 25 (Ls.getD i0 0) (-1)) k (Ls.eraseIdx i0) Pp ∧ Au S S' po 107) := by
  have hL := hP.2.1
  have h6 := hP.len
  have hne : ∀ i, i < Ls.length → i ≠ i0 → F 25 (Ls.getD i 0) ≠ v := fun i hi q e => by
    have hm := gd_mem hi
    have h1 := hP.1.2.2 _ hm
    exact q (nd_at hP.1.2.1 hi hi0 (hu _ _ h1 (hP.1.2.2 _ (gd_mem hi0)) ((hP.1.1 _ h1).mp hm) (e.trans hv.symm)))
  have hel : ∀ i, i < Ls.length → ∃ ci, (ci = 9 ∨ ci = 6) ∧ sK S (Pp (Ls.getD i 0)) = ci + 1 := fun i hi => ⟨6, Or.inr rfl, (hP.2.2.1 _ (gd_mem hi)).1.1⟩
  refine Sp.start (own := RX9) [(0, vr (some x)), (1, vi v)] (by decide +kernel) rfl rfl (Nat.le_of_ble_eq_true rfl) ?_
  intro J C
  have L2 : ∀ c S2, c ≤ i0 → LA g S2 po 107 (Ls.length - 1) (rmF (fun i => Pp (Ls.getD i 0)) i0) → Au S S2 po 107 → J 10 [(0, vr (some x)), (1, vi v), (2, vi (nI c - nI 1))] [] S2 0 0 := by
    intro c
    induction c with
    | zero =>
      intro S2 _ hL2 hA
      refine r_iload_n (pc := 10) C dX9_dropOpenPoll_10 rfl ?_
      refine r_if_lt (pc := 11) (tgt := 47) C dX9_dropOpenPoll_11 (by decide) (fun c11 => ?_) (fun c11 => ?_)
      · refine r_ret (pc := 47) C dX9_dropOpenPoll_47 rfl (by omega) (by omega) ?_
        exact ⟨rfl, hP.drop hi0 hA hL2, hA⟩
      · exact absurd dc_0 c11
    | succ c ih =>
      intro S2 hc hL2 hA
      have hN2 := hN.kp hA.cf (by decide)
      have hc2 : c < Ls.length := by omega
      have hAg : Ag (fun f _ => 3 ≤ f) (fun f _ => 3 ≤ f) (fun r _ => r ≠ 107) S S2 := Au.ag hA ⟨by decide, by decide⟩ (by decide) (fun y z => z rfl)
      have hm := ((hP.2.2.1 _ (gd_mem hc2)).ag hAg (fun f f1 f2 y => ⟨by show 3 ≤ f; omega, by show 3 ≤ f; omega⟩) (fun y => ⟨by decide, by decide⟩)).1
      rw [dc_s]
      refine r_iload_n (pc := 10) C dX9_dropOpenPoll_10 rfl ?_
      refine r_if_lt (pc := 11) (tgt := 47) C dX9_dropOpenPoll_11 (by decide) (fun c11 => ?_) (fun c11 => ?_)
      · exact absurd c11 (by rw [nI_neg (by omega)]; omega)
      · refine r_aload_n (pc := 14) C dX9_dropOpenPoll_14 rfl ?_
        refine r_getR (pc := 15) C dX9_dropOpenPoll_15 fx_RX9_57 hN2.1.1 hN2.2.1.2.2.2.2.1 ?_
        refine r_iload_n (pc := 18) C dX9_dropOpenPoll_18 rfl ?_
        refine r_callV (pc := 19) C (ct_get (i := c) (by omega) (by omega) hL2 (by omega)) iJx4a65c_get_915e3 ml_RX9_354 dX9_dropOpenPoll_19 (ci := 0) rfl rfl hL2.k rfl (by decide) rfl (by simp [cv, Value.category, va_rf]) (by omega) (by omega) (fun r19 S19 h19 => ?_)
        obtain ⟨rfl, e19⟩ := h19
        subst S19
        dsimp only [Option.toList, List.cons_append, List.nil_append]
        rw [show rmF (fun i => Pp (Ls.getD i 0)) i0 c = Pp (Ls.getD c 0) by simp only [rmF]; rw [if_pos (by omega)]]
        refine r_cast (pc := 22) C dX9_dropOpenPoll_22 (ci := 6) rfl kl_RX9_166 hm.1.1 ?_
        refine r_getI (pc := 25) C dX9_dropOpenPoll_25 fx_RX9_358 hm.1.1 ?_
        rw [hm.2.1]
        refine r_iload_n (pc := 28) C dX9_dropOpenPoll_28 rfl ?_
        refine r_icmp_ne (pc := 29) (tgt := 41) C dX9_dropOpenPoll_29 (by decide) (fun c29 => ?_) (fun c29 => ?_)
        · refine r_iinc (pc := 41) C (nI c - nI 1) dX9_dropOpenPoll_41 rfl dc_d (by decide) rfl ?_
          refine r_goto (pc := 44) (tgt := 10) C dX9_dropOpenPoll_44 (by decide) ?_
          exact r_lv C [(0, vr (some x)), (1, vi v), (2, vi (nI c - nI 1))] rfl (ih S2 (by omega) hL2 hA)
        · exact absurd c29 (hne c hc2 (by omega))
  have L1 : ∀ c, c ≤ Ls.length → i0 < c → J 10 [(0, vr (some x)), (1, vi v), (2, vi (nI c - nI 1))] [] S 0 0 := by
    intro c
    induction c with
    | zero => intro _ q; omega
    | succ c ih =>
      intro hc hi
      have hc2 : c < Ls.length := by omega
      have hm := hP.2.2.1 _ (gd_mem hc2)
      rw [dc_s]
      refine r_iload_n (pc := 10) C dX9_dropOpenPoll_10 rfl ?_
      refine r_if_lt (pc := 11) (tgt := 47) C dX9_dropOpenPoll_11 (by decide) (fun c11 => ?_) (fun c11 => ?_)
      · exact absurd c11 (by rw [nI_neg (by omega)]; omega)
      · refine r_aload_n (pc := 14) C dX9_dropOpenPoll_14 rfl ?_
        refine r_getR (pc := 15) C dX9_dropOpenPoll_15 fx_RX9_57 hN.1.1 hN.2.1.2.2.2.2.1 ?_
        refine r_iload_n (pc := 18) C dX9_dropOpenPoll_18 rfl ?_
        refine r_callV (pc := 19) C (ct_get (i := c) (by omega) (by omega) hL (by omega)) iJx4a65c_get_915e3 ml_RX9_354 dX9_dropOpenPoll_19 (ci := 0) rfl rfl hL.k rfl (by decide) rfl (by simp [cv, Value.category, va_rf]) (by omega) (by omega) (fun r19 S19 h19 => ?_)
        obtain ⟨rfl, e19⟩ := h19
        subst S19
        dsimp only [Option.toList, List.cons_append, List.nil_append]
        refine r_cast (pc := 22) C dX9_dropOpenPoll_22 (ci := 6) rfl kl_RX9_166 hm.1.1 ?_
        refine r_getI (pc := 25) C dX9_dropOpenPoll_25 fx_RX9_358 hm.1.1 ?_
        rw [hm.2.1]
        refine r_iload_n (pc := 28) C dX9_dropOpenPoll_28 rfl ?_
        refine r_icmp_ne (pc := 29) (tgt := 41) C dX9_dropOpenPoll_29 (by decide) (fun c29 => ?_) (fun c29 => ?_)
        · have ec : c ≠ i0 := fun q => c29 (by rw [q]; exact hv)
          refine r_iinc (pc := 41) C (nI c - nI 1) dX9_dropOpenPoll_41 rfl dc_d (by decide) rfl ?_
          refine r_goto (pc := 44) (tgt := 10) C dX9_dropOpenPoll_44 (by decide) ?_
          first
            | exact r_lv C [(0, vr (some x)), (1, vi v), (2, vi (nI c - nI 1))] rfl (ih (by omega) (by omega))
            | (subst ec; exact r_lv C [(0, vr (some x)), (1, vi v), (2, vi (nI c - nI 1))] rfl (L2 c _ (Nat.le_refl _) hL2 hA))
        · have ec : c = i0 := Classical.byContradiction (fun q => hne c hc2 q c29)
          refine r_aload_n (pc := 32) C dX9_dropOpenPoll_32 rfl ?_
          refine r_getR (pc := 33) C dX9_dropOpenPoll_33 fx_RX9_57 hN.1.1 hN.2.1.2.2.2.2.1 ?_
          refine r_iload_n (pc := 36) C dX9_dropOpenPoll_36 rfl ?_
          refine r_callV (pc := 37) C (ct_remove (i := c) (by omega) (by omega) hL hel hc2) iJx4a65c_remove_915e3 ml_RX9_361 dX9_dropOpenPoll_37 (ci := 0) rfl rfl hL.k rfl (by decide) rfl (by simp [cv, Value.category, va_rf]) (by omega) (by omega) (fun r37 S37 h37 => ?_)
          obtain ⟨rfl, hL2, hA⟩ := h37
          dsimp only [Option.toList, List.cons_append, List.nil_append]
          refine r_pop (pc := 40) C dX9_dropOpenPoll_40 rfl ?_
          refine r_iinc (pc := 41) C (nI c - nI 1) dX9_dropOpenPoll_41 rfl dc_d (by decide) rfl ?_
          refine r_goto (pc := 44) (tgt := 10) C dX9_dropOpenPoll_44 (by decide) ?_
          first
            | exact r_lv C [(0, vr (some x)), (1, vi v), (2, vi (nI c - nI 1))] rfl (ih (by omega) (by omega))
            | (subst ec; exact r_lv C [(0, vr (some x)), (1, vi v), (2, vi (nI c - nI 1))] rfl (L2 c _ (Nat.le_refl _) hL2 hA))
  refine r_aload_n (pc := 0) C dX9_dropOpenPoll_0 rfl ?_
  refine r_getR (pc := 1) C dX9_dropOpenPoll_1 fx_RX9_57 hN.1.1 hN.2.1.2.2.2.2.1 ?_
  refine r_callV (pc := 4) C (ct_size hL) iJx4a65c_size_8abf5 ml_RX9_152 dX9_dropOpenPoll_4 (ci := 0) rfl rfl hL.k rfl (by decide) rfl (by simp [cv, Value.category, va_rf]) (by omega) (by omega) (fun r4 S4 h4 => ?_)
  obtain ⟨rfl, e4⟩ := h4
  subst S4
  dsimp only [Option.toList, List.cons_append, List.nil_append]
  refine r_iconst (pc := 7) C (nI 1) dX9_dropOpenPoll_7 rfl ?_
  refine r_isub (pc := 8) C dX9_dropOpenPoll_8 ?_
  refine r_istore_n (pc := 9) C dX9_dropOpenPoll_9 (by decide) rfl ?_
  exact r_lv C [(0, vr (some x)), (1, vi v), (2, vi (nI Ls.length - nI 1))] rfl (L1 _ (Nat.le_refl _) hi0)
end DropC
