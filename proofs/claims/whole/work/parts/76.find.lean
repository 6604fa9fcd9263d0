/-! The class: the parents, the outputs that are spent -/
def lkC (o : Option Bool) : Int32 := match o with
  | none => nI 5
  | some true => nI 1
  | some false => nI 2
section FindP
variable {l : Launch} {g : GG} {S : hS} {po go n h a t : Nat} {T O : Nat → Nat} {M : MM} {st cf ch pd : Nat → Int32} {ao : Nat → Option Nat} {mL : Nat → List Nat}
theorem ownR {r x : Nat} {F : Nat → Option Nat} (h : (r = 103 ∧ x = rA S 906 (T t)) ∨ (r = 102 ∧ x = rA S 907 (T t))) : OwF T t S (putR S r x F) := Ag.pr (fun q => by
  rcases h with h | h
  · exact q.2.2 h
  · exact q.2.1 h)
theorem cg_findPar (hG : GS S po go T O M n) (hL0 : LA g S (rA S 302 go) 104 n T) (hT : TD S T n (M 13) cf ch pd) (hU : Uq M n) (hn : n ≤ 140) (hR : Rk (M 11) t) (ht : t < n) : Sp l g mX2_findParents 0 0 [vr (some go), vr (some (T t))] S (fun r S' => r = some (vi (lkC (lkP M n t (nP (M 11) t)))) ∧ OwF T t S S' ∧ aJ S' 80 = aJ S 80 ∧ aR S' 102 = aR S 102 ∧ (lkP M n t (nP (M 11) t) = some false → PT S' T M n t)) := by
  have h4 := hR.2.1
  have hx : sK S (T t) ≠ 0 := by rw [hG.tk ht]; omega
  refine Sp.start (own := RX2) [(0, vr (some go)), (1, vr (some (T t)))] (by decide +kernel) rfl rfl (Nat.le_of_ble_eq_true rfl) ?_
  intro J C
  have L : ∀ i (x : hS × Bool), i ≤ nP (M 11) t → (OwF T t S x.1 ∧ aJ x.1 80 = aJ S 80 ∧ aR x.1 102 = aR S 102 ∧ lkP M n t i = some x.2 ∧ ∀ j, j < i → aR x.1 103 (rA S 906 (T t)) j = (fdo (M 10) (pid (M 11) t j) n).map T) → J 4 [(0, vr (some go)), (1, vr (some (T t))), (2, vi (lkC (some x.2))), (3, vi (nI i))] [] x.1 0 0 := by
    refine up_loop _ _ _ ?_ ?_
    · rintro ⟨S1, w⟩ ⟨hg1, j1, j2, hl, he⟩
      dsimp only at hg1 j1 j2 hl he ⊢
      have h2 := (hG.t ht).2.2.1
      have k2 : sK S1 (rA S 902 (T t)) = sK S (rA S 902 (T t)) := hg1.k (by have := h2.2.1; omega)
      have n2 : sN S1 (rA S 902 (T t)) = nP (M 11) t := by rw [hg1.n (by have := h2.2.1; omega)]; exact h2.2.2.1
      have k2b := h2.2.1
      have v2 : sR S1 902 (T t) = some (rA S 902 (T t)) := by rw [hg1.r hx trivial]; exact h2.1
      refine r_iload_n (pc := 4) C dX2_findParents_4 rfl ?_
      refine r_aload_n (pc := 5) C dX2_findParents_5 rfl ?_
      refine r_getR (pc := 6) C dX2_findParents_6 fx_RX2_108 (show sK S1 (T t) = 9 + 1 by rw [hg1.k hx]; exact hG.tk ht) v2 ?_
      refine r_alen (pc := 9) C dX2_findParents_9 k2 (by first | decide | omega) ?_
      rw [n2]
      refine r_icmp_ge (pc := 10) (tgt := 69) C dX2_findParents_10 (by decide) (fun c10 => ?_) (fun c10 => ?_)
      · refine r_iload_n (pc := 69) C dX2_findParents_69 rfl ?_
        refine r_iret (pc := 70) C dX2_findParents_70 rfl (by omega) (by omega) ?_
        refine ⟨by rw [hl], hg1, j1, j2, fun q i hi => ?_⟩
        have fo := lkP_found q i hi
        rw [show rA S1 906 (T t) = rA S 906 (T t) from hg1.rA hx, he i hi, fo]
        exact ⟨rfl, (fdo_some fo).1⟩
      · exact absurd (Int32.le_refl _) c10
    · rintro i ⟨S1, w⟩ hi ⟨hg1, j1, j2, hl, he⟩ ih
      dsimp only at hg1 j1 j2 hl he ⊢
      have h2 := (hG.t ht).2.2.1
      have h6 := hG.r6 ht
      have k2b := h2.2.1
      have k2 : sK S1 (rA S 902 (T t)) = 33 := by rw [hg1.k (by omega)]; exact (h2.2.2.2 i hi).1
      have n2 : sN S1 (rA S 902 (T t)) = nP (M 11) t := by rw [hg1.n (by omega)]; exact h2.2.2.1
      have v2 : sR S1 902 (T t) = some (rA S 902 (T t)) := by rw [hg1.r hx trivial]; exact h2.1
      have p2 : aI S1 33 (rA S 902 (T t)) i = pid (M 11) t i := by rw [hg1.ai (by omega) (by unfold oW; omega)]; exact (h2.2.2.2 i hi).2
      have v6 : sR S1 906 (T t) = some (rA S 906 (T t)) := by rw [hg1.r hx trivial]; exact h6.1
      have k6 : sK S1 (rA S 906 (T t)) = 103 := by rw [hg1.k (by rw [h6.2.1]; omega)]; exact h6.2.1
      have n6 : sN S1 (rA S 906 (T t)) = nP (M 11) t := by rw [hg1.n (by rw [h6.2.1]; omega)]; exact h6.2.2
      have hG1 : GS S1 po go T O M n := hG.ag hg1 (fun x => ⟨trivial, trivial⟩) (fun _ _ _ => trivial) (fun x => by unfold oW; omega)
      have hk0 := hL0.k
      have hLL : LA g S1 (rA S1 302 go) 104 n T := by
        rw [rA_eq (hg1.r (by rw [hG.gk]; omega) trivial)]
        exact hL0.ag (by omega) hg1 trivial trivial (fun x => by unfold oW; omega)
      have hT1 : TD S1 T n (M 13) cf ch pd := hT.ag hG hg1 (fun _ _ _ _ => trivial)
      have ls : lkP M n t (i + 1) = (match fdo (M 10) (pid (M 11) t i) n with | none => some true | some p => if M 13 p = nI 5 then none else some (w || decide (M 13 p = nI 1))) := by
        simp only [lkP, hl]
        cases fdo (M 10) (pid (M 11) t i) n <;> rfl
      -- behind the store of the parent found
      have nx : ∀ o, fdo (M 10) (pid (M 11) t i) n = o → ∀ S2, S2 = putR S1 103 (rA S 906 (T t)) (va_up (aR S1 103 (rA S 906 (T t))) i (o.map T)) → (OwF T t S S2 ∧ aJ S2 80 = aJ S 80 ∧ aR S2 102 = aR S 102 ∧ ∀ j, j < i + 1 → aR S2 103 (rA S 906 (T t)) j = (fdo (M 10) (pid (M 11) t j) n).map T) := by
        intro o ho S2 e
        subst e
        refine ⟨hg1.tr2 hx (ownR (T := T) (t := t) (Or.inl ⟨rfl, (hg1.rA hx).symm⟩)), j1, ?_, fun j hj => ?_⟩
        · rw [← j2]; funext x; exact aR_pn (Or.inl (by decide))
        · rw [aR_ps]
          by_cases e9 : j = i
          · subst e9; rw [va_up_self, ho]
          · rw [va_up_ne _ _ e9]; exact he j (by omega)
      cases ef : fdo (M 10) (pid (M 11) t i) n with
      | none =>
        rw [ef] at ls
        have nx1 := nx none ef _ rfl
        refine r_iload_n (pc := 4) C dX2_findParents_4 rfl ?_
        refine r_aload_n (pc := 5) C dX2_findParents_5 rfl ?_
        refine r_getR (pc := 6) C dX2_findParents_6 fx_RX2_108 (show sK S1 (T t) = 9 + 1 from hG1.tk ht) v2 ?_
        refine r_alen (pc := 9) C dX2_findParents_9 k2 (by first | decide | omega) ?_
        rw [n2]
        refine r_icmp_ge (pc := 10) (tgt := 69) C dX2_findParents_10 (by decide) (fun c10 => ?_) (fun c10 => ?_)
        · exact absurd c10 (nI_ge hi (by omega))
        · refine r_aload_n (pc := 13) C dX2_findParents_13 rfl ?_
          refine r_aload_n (pc := 14) C dX2_findParents_14 rfl ?_
          refine r_getR (pc := 15) C dX2_findParents_15 fx_RX2_108 (show sK S1 (T t) = 9 + 1 from hG1.tk ht) v2 ?_
          refine r_iload_n (pc := 18) C dX2_findParents_18 rfl ?_
          refine r_iald (pc := 19) C dX2_findParents_19 k2 (by decide) n2 (by first | assumption | exact vp_in_nI (by omega) (by omega)) (by first | exact nI_clamp (by omega) | rfl) ?_
          rw [p2]
          refine r_callV (pc := 20) C (cg_find hG1 hLL hU hn) iX2_find ml_RX2_111 dX2_findParents_20 (ci := 3) rfl rfl hG1.gk rfl (by decide) rfl (by simp [cv, Value.category, va_rf]) (by omega) (by omega) (fun r20 S20 h20 => ?_)
          obtain ⟨rfl, e20⟩ := h20
          subst S20
          dsimp only [Option.toList, List.cons_append, List.nil_append]
          rw [ef]
          refine r_astore (pc := 23) C dX2_findParents_23 (by decide) rfl ?_
          refine r_aload_n (pc := 25) C dX2_findParents_25 rfl ?_
          refine r_getR (pc := 26) C dX2_findParents_26 fx_RX2_115 (show sK S1 (T t) = 9 + 1 from hG1.tk ht) v6 ?_
          refine r_iload_n (pc := 29) C dX2_findParents_29 rfl ?_
          refine r_aload (pc := 30) C dX2_findParents_30 rfl ?_
          refine r_aastN (pc := 32) C dX2_findParents_32 k6 (by decide) n6 (vp_in_nI hi (by omega)) (nI_clamp (by omega)) ?_
          refine r_aload (pc := 33) C dX2_findParents_33 rfl ?_
          refine r_ifnull (pc := 35) (tgt := 47) C dX2_findParents_35 (by decide) (fun c35 => ?_) (fun a35 c35 => ?_)
          · refine r_iconst (pc := 47) C (nI 1) dX2_findParents_47 rfl ?_
            refine r_istore_n (pc := 48) C dX2_findParents_48 (by decide) rfl ?_
            refine r_goto (pc := 49) (tgt := 63) C dX2_findParents_49 (by decide) ?_
            refine r_iinc (pc := 63) C _ dX2_findParents_63 rfl (nI_1 _) (by decide) rfl ?_
            refine r_goto (pc := 66) (tgt := 4) C dX2_findParents_66 (by decide) ?_
            exact r_lv C [(0, vr (some go)), (1, vr (some (T t))), (2, vi (nI 1)), (3, vi (nI (i + 1)))] rfl (ih (_, true) ⟨nx1.1, nx1.2.1, nx1.2.2.1, ls, nx1.2.2.2⟩)
          · cases c35
      | some p =>
        rw [ef] at ls
        dsimp only at ls
        have hp := (fdo_some ef).1
        have nx1 := nx (some p) ef _ rfl
        have hT2 : ∀ F, sI (putR S1 103 (rA S 906 (T t)) F) 910 (T p) = M 13 p := fun F => (hT1 p hp).1
        have hk2 : ∀ F, sK (putR S1 103 (rA S 906 (T t)) F) (T p) = 9 + 1 := fun F => hG1.tk hp
        refine r_iload_n (pc := 4) C dX2_findParents_4 rfl ?_
        refine r_aload_n (pc := 5) C dX2_findParents_5 rfl ?_
        refine r_getR (pc := 6) C dX2_findParents_6 fx_RX2_108 (show sK S1 (T t) = 9 + 1 from hG1.tk ht) v2 ?_
        refine r_alen (pc := 9) C dX2_findParents_9 k2 (by first | decide | omega) ?_
        rw [n2]
        refine r_icmp_ge (pc := 10) (tgt := 69) C dX2_findParents_10 (by decide) (fun c10 => ?_) (fun c10 => ?_)
        · exact absurd c10 (nI_ge hi (by omega))
        · refine r_aload_n (pc := 13) C dX2_findParents_13 rfl ?_
          refine r_aload_n (pc := 14) C dX2_findParents_14 rfl ?_
          refine r_getR (pc := 15) C dX2_findParents_15 fx_RX2_108 (show sK S1 (T t) = 9 + 1 from hG1.tk ht) v2 ?_
          refine r_iload_n (pc := 18) C dX2_findParents_18 rfl ?_
          refine r_iald (pc := 19) C dX2_findParents_19 k2 (by decide) n2 (by first | assumption | exact vp_in_nI (by omega) (by omega)) (by first | exact nI_clamp (by omega) | rfl) ?_
          rw [p2]
          refine r_callV (pc := 20) C (cg_find hG1 hLL hU hn) iX2_find ml_RX2_111 dX2_findParents_20 (ci := 3) rfl rfl hG1.gk rfl (by decide) rfl (by simp [cv, Value.category, va_rf]) (by omega) (by omega) (fun r20 S20 h20 => ?_)
          obtain ⟨rfl, e20⟩ := h20
          subst S20
          dsimp only [Option.toList, List.cons_append, List.nil_append]
          rw [ef]
          dsimp only [Option.map_some]
          refine r_astore (pc := 23) C dX2_findParents_23 (by decide) rfl ?_
          refine r_aload_n (pc := 25) C dX2_findParents_25 rfl ?_
          refine r_getR (pc := 26) C dX2_findParents_26 fx_RX2_115 (show sK S1 (T t) = 9 + 1 from hG1.tk ht) v6 ?_
          refine r_iload_n (pc := 29) C dX2_findParents_29 rfl ?_
          refine r_aload (pc := 30) C dX2_findParents_30 rfl ?_
          refine r_aast (pc := 32) C dX2_findParents_32 k6 (by decide) (ci := 9) rfl rfl (hG1.tk hp) n6 (vp_in_nI hi (by omega)) (nI_clamp (by omega)) ?_
          refine r_aload (pc := 33) C dX2_findParents_33 rfl ?_
          refine r_ifnull (pc := 35) (tgt := 47) C dX2_findParents_35 (by decide) (fun c35 => ?_) (fun a35 c35 => ?_)
          · cases c35
          · refine r_aload (pc := 38) C dX2_findParents_38 rfl ?_
            refine r_getI (pc := 40) C dX2_findParents_40 fx_RX2_57 (hk2 _) ?_
            rw [hT2]
            refine r_iconst (pc := 43) C (nI 1) dX2_findParents_43 rfl ?_
            refine r_icmp_ne (pc := 44) (tgt := 52) C dX2_findParents_44 (by decide) (fun c44 => ?_) (fun c44 => ?_)
            · refine r_aload (pc := 52) C dX2_findParents_52 rfl ?_
              refine r_getI (pc := 54) C dX2_findParents_54 fx_RX2_57 (hk2 _) ?_
              rw [hT2]
              refine r_iconst (pc := 57) C (nI 5) dX2_findParents_57 rfl ?_
              refine r_icmp_ne (pc := 58) (tgt := 63) C dX2_findParents_58 (by decide) (fun c58 => ?_) (fun c58 => ?_)
              · have ev := ih (_, w) ⟨nx1.1, nx1.2.1, nx1.2.2.1, by rw [ls, if_neg c58, decide_eq_false c44, Bool.or_false], nx1.2.2.2⟩
                refine r_iinc (pc := 63) C _ dX2_findParents_63 rfl (nI_1 _) (by decide) rfl ?_
                refine r_goto (pc := 66) (tgt := 4) C dX2_findParents_66 (by decide) ?_
                exact r_lv C [(0, vr (some go)), (1, vr (some (T t))), (2, vi _), (3, vi (nI (i + 1)))] rfl ev
              · refine r_iconst (pc := 61) C (nI 5) dX2_findParents_61 rfl ?_
                refine r_iret (pc := 62) C dX2_findParents_62 rfl (by omega) (by omega) ?_
                have en : lkP M n t (nP (M 11) t) = none := lkP_none (i := i + 1) (by rw [ls, if_pos c58]) _ (by omega)
                exact ⟨by rw [en]; rfl, nx1.1, nx1.2.1, nx1.2.2.1, fun q => by rw [en] at q; cases q⟩
            · have ev := ih (_, true) ⟨nx1.1, nx1.2.1, nx1.2.2.1, by rw [ls, if_neg (by rw [c44]; decide), decide_eq_true c44, Bool.or_true], nx1.2.2.2⟩
              refine r_iconst (pc := 47) C (nI 1) dX2_findParents_47 rfl ?_
              refine r_istore_n (pc := 48) C dX2_findParents_48 (by decide) rfl ?_
              refine r_goto (pc := 49) (tgt := 63) C dX2_findParents_49 (by decide) ?_
              refine r_iinc (pc := 63) C _ dX2_findParents_63 rfl (nI_1 _) (by decide) rfl ?_
              refine r_goto (pc := 66) (tgt := 4) C dX2_findParents_66 (by decide) ?_
              exact r_lv C [(0, vr (some go)), (1, vr (some (T t))), (2, vi _), (3, vi (nI (i + 1)))] rfl ev
  refine r_iconst (pc := 0) C (nI 2) dX2_findParents_0 rfl ?_
  refine r_istore_n (pc := 1) C dX2_findParents_1 (by decide) rfl ?_
  refine r_iconst (pc := 2) C (nI 0) dX2_findParents_2 rfl ?_
  refine r_istore_n (pc := 3) C dX2_findParents_3 (by decide) rfl ?_
  exact r_lv C [(0, vr (some go)), (1, vr (some (T t))), (2, vi (lkC (some false))), (3, vi (nI 0))] rfl (L 0 (S, false) (by omega) ⟨Ag.rf, rfl, rfl, rfl, fun j hj => by omega⟩)
end FindP
section SpentP
variable {M : MM} {n h t : Nat}
theorem onum_inj {b : Nat → Int32} {t u i j : Nat} (ht : Rk b t) (hu : Rk b u) (hi : i < nO b t) (hj : j < nO b u) (e : onum t i = onum u j) : t = u ∧ i = j := by
  have t4 := ht.2.2.2
  have u4 := hu.2.2.2
  unfold onum at e
  by_cases t0 : t = 0
  · by_cases u0 : u = 0
    · subst t0; subst u0; simp at e; exact ⟨rfl, e⟩
    · have := t4.1; have := u4.2 u0
      rw [if_pos t0, if_neg u0] at e
      subst t0
      omega
  · have := t4.2 t0
    by_cases u0 : u = 0
    · have := u4.1
      rw [if_neg t0, if_pos u0] at e
      omega
    · have := u4.2 u0
      rw [if_neg t0, if_neg u0] at e
      omega
/-- an output was spent by an ancestor: the members of its set tell it -/
theorem spent_eq (hG : GV M n h) (hO : ODR M n h) (hp : PHd M n t h) {i p : Nat} (ef : fdo (M 10) (xid (M 11) t i) n = some p) (hx : xix (M 11) t i < nO (M 11) p) : anyU (fun y => hdB M h ((mem M n h (onum p (xix (M 11) t i))).getD y 0) && anc M n h t ((mem M n h (onum p (xix (M 11) t i))).getD y 0)) (mem M n h (onum p (xix (M 11) t i))).length = spX M n h t i n := by
  have key : ∀ u, (∃ k, k < h ∧ hdN M k = u) → (inS M n u (onum p (xix (M 11) t i)) = true ↔ spn M u (xid (M 11) t i) (xix (M 11) t i) = true) := by
    rintro u ⟨k, hk, rfl⟩
    have hH := (hG.2.2.2 k hk).2
    obtain ⟨hp1, hp2⟩ := fdo_some ef
    rw [inS_iff]
    unfold spn
    rw [anyU_iff]
    constructor
    · rintro ⟨j, hj, e⟩
      have hs := hH.2.2 j hj
      obtain ⟨q1, q2⟩ := onum_inj (hG.2.2.1 _ (hH.src_lt hj)) (hG.2.2.1 _ hp1) hs.2 hx e
      refine ⟨j, hj, ?_⟩
      have := (fdo_some hs.1).2
      rw [q1, hp2] at this
      rw [decide_eq_true this.symm, decide_eq_true q2]; rfl
    · rintro ⟨j, hj, e⟩
      simp only [Bool.and_eq_true, decide_eq_true_eq] at e
      refine ⟨j, hj, ?_⟩
      have hs := (hH.2.2 j hj).1
      rw [e.1, ef] at hs
      unfold out
      rw [← Option.some.inj hs, e.2]
  cases c : spX M n h t i n with
  | true =>
    unfold spX at c
    obtain ⟨u, hu, c⟩ := anyU_iff.mp c
    rw [Bool.and_eq_true] at c
    obtain ⟨j, hj, rfl⟩ := anc_lt2 hO (Nat.le_refl _) hp c.1
    have hm : hdN M j ∈ mem M n h (onum p (xix (M 11) t i)) := mem_in.mpr ⟨⟨j, hj, rfl⟩, (key _ ⟨j, hj, rfl⟩).mpr c.2⟩
    obtain ⟨y, hy, e⟩ := List.getElem_of_mem hm
    refine anyU_t (i := y) hy ?_
    rw [show (mem M n h (onum p (xix (M 11) t i))).getD y 0 = hdN M j by rw [List.getD_eq_getElem?_getD, List.getElem?_eq_getElem hy]; exact e]
    rw [show hdB M h (hdN M j) = true from hdB_iff.mpr ⟨j, hj, rfl⟩, c.1]; rfl
  | false =>
    refine anyU_no.mpr (fun y hy => ?_)
    have hm := getD_mem hy
    generalize (mem M n h (onum p (xix (M 11) t i))).getD y 0 = u at hm
    obtain ⟨hu, hm2⟩ := mem_in.mp hm
    unfold spX at c
    have hun : u < n := by obtain ⟨k, hk, rfl⟩ := hu; exact hG.hn k hk
    have := anyU_no.mp c u hun
    rw [(key u hu).mp hm2, Bool.and_true] at this
    rw [this, Bool.and_false]
theorem badI_1 : ∀ k, (badI M n h t k).1 = (twP M t (nP (M 11) t) || anyU (fun i => (twX M t i i || noX M n h t i) || spX M n h t i n) k)
  | 0 => by simp [badI, anyU]
  | k + 1 => by
    simp only [badI, bad3, anyU]
    rw [badI_1 k]
    generalize twP M t (nP (M 11) t) = a
    generalize anyU _ k = b
    generalize twX M t k k = c
    generalize noX M n h t k = d
    generalize spX M n h t k n = e
    cases a <;> cases b <;> cases c <;> cases d <;> cases e <;> rfl
theorem badI_2 : ∀ k, (badI M n h t k).1 = false → (badI M n h t k).2 = sumI M n t k
  | 0, _ => rfl
  | k + 1, hk => by
    have hb : bad3 M n h t k (badI M n h t k).1 = false := hk
    have h0 : (badI M n h t k).1 = false := by
      simp only [bad3] at hb
      cases c : (badI M n h t k).1 with
      | false => rfl
      | true => rw [c] at hb; simp at hb
    simp only [badI, sumI]
    rw [hb, badI_2 k h0]
    rfl
/-- the class's four questions together -/
theorem bad_eq : badB M n h t = !(!(twP M t (nP (M 11) t) || anyU (fun i => twX M t i i) (nX (M 11) t)) && (!anyU (fun i => noX M n h t i || spX M n h t i n) (nX (M 11) t) && decide (sumO M t (sumI M n t (nX (M 11) t)) (nO (M 11) t) = lN 0))) := by
  unfold badB
  have e1 : anyU (fun i => (twX M t i i || noX M n h t i) || spX M n h t i n) (nX (M 11) t) = (anyU (fun i => twX M t i i) (nX (M 11) t) || anyU (fun i => noX M n h t i || spX M n h t i n) (nX (M 11) t)) := by
    generalize nX (M 11) t = m
    induction m with
    | zero => rfl
    | succ m ih =>
      simp only [anyU, ih]
      generalize anyU (fun i => twX M t i i) m = a
      generalize anyU (fun i => noX M n h t i || spX M n h t i n) m = b
      generalize twX M t m m = c
      generalize noX M n h t m = d
      generalize spX M n h t m n = e
      cases a <;> cases b <;> cases c <;> cases d <;> cases e <;> rfl
  cases c : (badI M n h t (nX (M 11) t)).1 with
  | true =>
    rw [Bool.true_or]
    rw [badI_1, e1] at c
    generalize twP M t (nP (M 11) t) = a at c ⊢
    generalize anyU (fun i => twX M t i i) (nX (M 11) t) = b at c ⊢
    generalize anyU (fun i => noX M n h t i || spX M n h t i n) (nX (M 11) t) = d at c ⊢
    cases a <;> cases b <;> cases d <;> simp_all
  | false =>
    rw [badI_2 _ c, Bool.false_or]
    rw [badI_1, e1] at c
    generalize twP M t (nP (M 11) t) = a at c ⊢
    generalize anyU (fun i => twX M t i i) (nX (M 11) t) = b at c ⊢
    generalize anyU (fun i => noX M n h t i || spX M n h t i n) (nX (M 11) t) = d at c ⊢
    cases a <;> cases b <;> cases d <;> simp_all
end SpentP
section FindS
variable {l : Launch} {g : GG} {S : hS} {po go n h a t : Nat} {T O : Nat → Nat} {M : MM} {st cf ch pd : Nat → Int32} {ao : Nat → Option Nat} {mL : Nat → List Nat}
theorem cg_findSpent (hG : GS S po go T O M n) (hL : LD g S po go T O M n h a mL) (hml : mL = mem M n h) (hH : HN S T M n h) (hGV : GV M n h) (hO : ODR M n h) (hU : Uq M n) (hp : PHd M n t h) (ht : t < n) (hA : ∀ j, j < h → abt (aJ S 80 (rA S 908 (T t))) j = anc M n h t (hdN M j)) : Sp l g mX2_findSpent 0 0 [vr (some go), vr (some (T t))] S (fun r S' => r = some (vi (bi (!anyU (fun i => noX M n h t i || spX M n h t i n) (nX (M 11) t)))) ∧ OwF T t S S' ∧ aJ S' 80 = aJ S 80 ∧ aR S' 103 = aR S 103 ∧ (anyU (fun i => noX M n h t i || spX M n h t i n) (nX (M 11) t) = false → ST S' T O M n t)) := by
  have hn := hGV.1
  have hh := hGV.2.1
  have hR := hGV.2.2.1 t ht
  have x4 := hR.2.2.1
  have hx : sK S (T t) ≠ 0 := by rw [hG.tk ht]; omega
  refine Sp.start (own := RX2) [(0, vr (some go)), (1, vr (some (T t)))] (by decide +kernel) rfl rfl (Nat.le_of_ble_eq_true rfl) ?_
  intro J C
  have L : ∀ i S1, i ≤ nX (M 11) t → (OwF T t S S1 ∧ aJ S1 80 = aJ S 80 ∧ aR S1 103 = aR S 103 ∧ anyU (fun i => noX M n h t i || spX M n h t i n) i = false ∧ ∀ j, j < i → aR S1 102 (rA S 907 (T t)) j = some (O (out M n t j)) ∧ oV M n (out M n t j)) → J 2 [(0, vr (some go)), (1, vr (some (T t))), (2, vi (nI i))] [] S1 0 0 := by
    refine up_loop _ _ _ ?_ ?_
    · intro S1 ⟨hg1, j1, j2, hl, he⟩
      have h3 := (hG.t ht).2.2.2.1
      have k3b := h3.2.1
      have k3 : sK S1 (rA S 903 (T t)) = sK S (rA S 903 (T t)) := hg1.k (by omega)
      have n3 : sN S1 (rA S 903 (T t)) = nX (M 11) t := by rw [hg1.n (by omega)]; exact h3.2.2.1
      have v3 : sR S1 903 (T t) = some (rA S 903 (T t)) := by rw [hg1.r hx trivial]; exact h3.1
      refine r_iload_n (pc := 2) C dX2_findSpent_2 rfl ?_
      refine r_aload_n (pc := 3) C dX2_findSpent_3 rfl ?_
      refine r_getR (pc := 4) C dX2_findSpent_4 fx_RX2_119 (show sK S1 (T t) = 9 + 1 by rw [hg1.k hx]; exact hG.tk ht) v3 ?_
      refine r_alen (pc := 7) C dX2_findSpent_7 k3 (by first | decide | omega) ?_
      rw [n3]
      refine r_icmp_ge (pc := 8) (tgt := 78) C dX2_findSpent_8 (by decide) (fun c8 => ?_) (fun c8 => ?_)
      · refine r_iconst (pc := 78) C (nI 1) dX2_findSpent_78 rfl ?_
        refine r_zret (pc := 79) C dX2_findSpent_79 rfl (by first | exact Or.inl rfl | exact Or.inr rfl | assumption) (by omega) (by omega) ?_
        refine ⟨by rw [hl]; rfl, hg1, j1, j2, fun _ i hi => ?_⟩
        rw [show rA S1 907 (T t) = rA S 907 (T t) from hg1.rA hx]
        exact he i hi
      · exact absurd (Int32.le_refl _) c8
    · intro i S1 hi ⟨hg1, j1, j2, hl, he⟩ ih
      have h3 := (hG.t ht).2.2.2.1
      have h5 := (hG.t ht).2.2.2.2.1
      have h7 := hG.r7 ht
      have k3b := h3.2.1
      have k5b := h5.2.1
      have k3 : sK S1 (rA S 903 (T t)) = 34 := by rw [hg1.k (by omega)]; exact (h3.2.2.2 i hi).1
      have n3 : sN S1 (rA S 903 (T t)) = nX (M 11) t := by rw [hg1.n (by omega)]; exact h3.2.2.1
      have v3 : sR S1 903 (T t) = some (rA S 903 (T t)) := by rw [hg1.r hx trivial]; exact h3.1
      have p3 : aI S1 34 (rA S 903 (T t)) i = xid (M 11) t i := by rw [hg1.ai (by omega) (by unfold oW; omega)]; exact (h3.2.2.2 i hi).2
      have k5 : sK S1 (rA S 904 (T t)) = 35 := by rw [hg1.k (by omega)]; exact (h5.2.2.2 i hi).1
      have n5 : sN S1 (rA S 904 (T t)) = nX (M 11) t := by rw [hg1.n (by omega)]; exact h5.2.2.1
      have v5 : sR S1 904 (T t) = some (rA S 904 (T t)) := by rw [hg1.r hx trivial]; exact h5.1
      have p5 : aI S1 35 (rA S 904 (T t)) i = nI (xix (M 11) t i) := by rw [hg1.ai (by omega) (by unfold oW; omega)]; exact (h5.2.2.2 i hi).2
      have v7 : sR S1 907 (T t) = some (rA S 907 (T t)) := by rw [hg1.r hx trivial]; exact h7.1
      have k7 : sK S1 (rA S 907 (T t)) = 102 := by rw [hg1.k (by rw [h7.2.1]; omega)]; exact h7.2.1
      have n7 : sN S1 (rA S 907 (T t)) = nX (M 11) t := by rw [hg1.n (by rw [h7.2.1]; omega)]; exact h7.2.2
      have hG1 : GS S1 po go T O M n := hG.ag hg1 (fun x => ⟨trivial, trivial⟩) (fun _ _ _ => trivial) (fun x => by unfold oW; omega)
      have hH1 : HN S1 T M n h := hH.ag hG hGV.hn hg1 (fun _ => trivial)
      have hL1 : LD g S1 po go T O M n h a mL := hL.ag hG hg1 (fun _ _ _ => trivial) (fun _ _ => ⟨trivial, trivial⟩) (fun r x q1 q2 => by unfold oW; omega)
      have hA1 : ∀ j, j < h → abt (aJ S1 80 (rA S1 908 (T t))) j = anc M n h t (hdN M j) := fun j hj => by rw [show rA S1 908 (T t) = rA S 908 (T t) from hg1.rA hx, j1]; exact hA j hj
      have bad : (noX M n h t i || spX M n h t i n) = true → ∀ r S', r = some (vi (nI 0)) → S' = S1 → (r = some (vi (bi (!anyU (fun i => noX M n h t i || spX M n h t i n) (nX (M 11) t)))) ∧ OwF T t S S' ∧ aJ S' 80 = aJ S 80 ∧ aR S' 103 = aR S 103 ∧ (anyU (fun i => noX M n h t i || spX M n h t i n) (nX (M 11) t) = false → ST S' T O M n t)) := by
        intro q r S' e1 e2
        subst e1; subst e2
        have qa : anyU (fun i => noX M n h t i || spX M n h t i n) (nX (M 11) t) = true := anyU_t (i := i) hi q
        exact ⟨by rw [qa]; rfl, hg1, j1, j2, fun q2 => by rw [qa] at q2; cases q2⟩
      cases ef : fdo (M 10) (xid (M 11) t i) n with
      | none =>
        have nx := noX_none (h := h) ef
        refine r_iload_n (pc := 2) C dX2_findSpent_2 rfl ?_
        refine r_aload_n (pc := 3) C dX2_findSpent_3 rfl ?_
        refine r_getR (pc := 4) C dX2_findSpent_4 fx_RX2_119 (hG1.tk ht) v3 ?_
        refine r_alen (pc := 7) C dX2_findSpent_7 k3 (by first | decide | omega) ?_
        rw [n3]
        refine r_icmp_ge (pc := 8) (tgt := 78) C dX2_findSpent_8 (by decide) (fun c8 => ?_) (fun c8 => ?_)
        · exact absurd c8 (nI_ge hi (by omega))
        · refine r_aload_n (pc := 11) C dX2_findSpent_11 rfl ?_
          refine r_aload_n (pc := 12) C dX2_findSpent_12 rfl ?_
          refine r_getR (pc := 13) C dX2_findSpent_13 fx_RX2_119 (hG1.tk ht) v3 ?_
          refine r_iload_n (pc := 16) C dX2_findSpent_16 rfl ?_
          refine r_iald (pc := 17) C dX2_findSpent_17 k3 (by decide) n3 (by first | assumption | exact vp_in_nI (by omega) (by omega)) (by first | exact nI_clamp (by omega) | rfl) ?_
          rw [p3]
          refine r_callV (pc := 18) C (cg_find hG1 hL1.l0 hU hn) iX2_find ml_RX2_111 dX2_findSpent_18 (ci := 3) rfl rfl hG1.gk rfl (by decide) rfl (by simp [cv, Value.category, va_rf]) (by omega) (by omega) (fun r18 S18 h18 => ?_)
          obtain ⟨rfl, e18⟩ := h18
          subst S18
          dsimp only [Option.toList, List.cons_append, List.nil_append]
          rw [ef]
          refine r_astore_n (pc := 21) C dX2_findSpent_21 (by decide) rfl ?_
          refine r_aload_n (pc := 22) C dX2_findSpent_22 rfl ?_
          refine r_ifnull (pc := 23) (tgt := 34) C dX2_findSpent_23 (by decide) (fun c23 => ?_) (fun a23 c23 => ?_)
          · refine r_iconst (pc := 34) C (nI 0) dX2_findSpent_34 rfl ?_
            refine r_zret (pc := 35) C dX2_findSpent_35 rfl (by first | exact Or.inl rfl | exact Or.inr rfl | assumption) (by omega) (by omega) ?_
            exact bad (by rw [nx]; rfl) _ _ rfl rfl
          · cases c23
      | some p =>
        have hpn := (fdo_some ef).1
        have nx := noX_some (h := h) ef
        have hRp := hGV.2.2.1 p hpn
        have esrc : src M n t i = p := by unfold src; rw [ef]; rfl
        have hpb : anc M n h t p = true → hdB M h p = true := fun q => by
          obtain ⟨j, hj, rfl⟩ := anc_lt2 hO (Nat.le_refl _) hp q
          exact hdB_iff.mpr ⟨j, hj, rfl⟩
        have exi : ixo M p (nI (xix (M 11) t i)) = if xix (M 11) t i < nO (M 11) p then some (xix (M 11) t i) else none := by
          have h1 := rN_lt (M 11) t (fI (M 11) t + 5 + 5 * i)
          have h2 := hRp.2.2.2.1
          have h3 : xix (M 11) t i < 256 := h1
          unfold ixo
          by_cases c : xix (M 11) t i < nO (M 11) p
          · rw [if_pos c, if_neg (fun q => q.elim (nI_pos (by omega)) (nI_ge c (by omega))), nI_clamp (by omega)]
          · rw [if_neg c, if_pos (Or.inr (nI_le (by omega) (by omega)))]
        have K48n : ¬ xix (M 11) t i < nO (M 11) p → J 48 [(0, vr (some go)), (1, vr (some (T t))), (2, vi (nI i)), (3, vr (some (T p))), (4, vr none)] [] S1 0 0 := by
          intro cx
          refine r_aload (pc := 48) C dX2_findSpent_48 rfl ?_
          refine r_ifnull (pc := 50) (tgt := 62) C dX2_findSpent_50 (by decide) (fun c50 => ?_) (fun a50 c50 => ?_)
          · refine r_iconst (pc := 62) C (nI 0) dX2_findSpent_62 rfl ?_
            refine r_zret (pc := 63) C dX2_findSpent_63 rfl (by first | exact Or.inl rfl | exact Or.inr rfl | assumption) (by omega) (by omega) ?_
            exact bad (by rw [nx, decide_eq_false cx]; simp) _ _ rfl rfl
          · cases c50
        have K48y : anc M n h t p = true → xix (M 11) t i < nO (M 11) p → J 48 [(0, vr (some go)), (1, vr (some (T t))), (2, vi (nI i)), (3, vr (some (T p))), (4, vr (some (O (onum p (xix (M 11) t i)))))] [] S1 0 0 := by
          intro ca cx
          have ho : oV M n (onum p (xix (M 11) t i)) := ⟨p, _, hpn, cx, rfl⟩
          have ml := hL1.l4 ho
          have hml2 : (mL (onum p (xix (M 11) t i))).length ≤ 140 := by
            rw [hml, mem_len]
            have := @cntU_le (fun k => inS M n (hdN M k) (onum p (xix (M 11) t i))) h
            unfold mbs
            omega
          have hmn : ∀ y, y < (mL (onum p (xix (M 11) t i))).length → (mL (onum p (xix (M 11) t i))).getD y 0 < n := fun y hy => by
            rw [hml] at hy ⊢
            obtain ⟨⟨k, hk, e⟩, -⟩ := mem_in.mp (getD_mem hy)
            rw [← e]; exact hGV.hn k hk
          have eo : out M n t i = onum p (xix (M 11) t i) := by unfold out; rw [esrc]
          have nx0 : noX M n h t i = false := by rw [nx, ca, decide_eq_true cx]; rfl
          refine r_aload (pc := 48) C dX2_findSpent_48 rfl ?_
          refine r_ifnull (pc := 50) (tgt := 62) C dX2_findSpent_50 (by decide) (fun c50 => ?_) (fun a50 c50 => ?_)
          · cases c50
          · refine r_aload (pc := 53) C dX2_findSpent_53 rfl ?_
            refine r_aload_n (pc := 55) C dX2_findSpent_55 rfl ?_
            refine r_callV (pc := 56) C (cg_spentBefore (an := anc M n h t) hG1 hH1 (by omega) ho ht ml hml2 hmn hA1) iX3_isSpentBefore ml_RX2_132 dX2_findSpent_56 (ci := 4) rfl rfl (hG1.o ho).1 rfl (by decide) rfl (by simp [cv, Value.category, va_rf]) (by omega) (by omega) (fun r56 S56 h56 => ?_)
            obtain ⟨rfl, e56⟩ := h56
            subst S56
            dsimp only [Option.toList, List.cons_append, List.nil_append]
            rw [hml, spent_eq hGV hO hp ef cx]
            refine r_if_eq (pc := 59) (tgt := 64) C dX2_findSpent_59 (by decide) (fun c59 => ?_) (fun c59 => ?_)
            · rw [bi_0] at c59
              refine r_aload_n (pc := 64) C dX2_findSpent_64 rfl ?_
              refine r_getR (pc := 65) C dX2_findSpent_65 fx_RX2_135 (hG1.tk ht) v7 ?_
              refine r_iload_n (pc := 68) C dX2_findSpent_68 rfl ?_
              refine r_aload (pc := 69) C dX2_findSpent_69 rfl ?_
              refine r_aast (pc := 71) C dX2_findSpent_71 k7 (by decide) (ci := 4) rfl rfl (hG1.o ho).1 n7 (vp_in_nI hi (by omega)) (nI_clamp (by omega)) ?_
              refine r_iinc (pc := 72) C _ dX2_findSpent_72 rfl (nI_1 _) (by decide) rfl ?_
              refine r_goto (pc := 75) (tgt := 2) C dX2_findSpent_75 (by decide) ?_
              refine r_lv C [(0, vr (some go)), (1, vr (some (T t))), (2, vi (nI (i + 1)))] rfl (ih _ ⟨hg1.tr2 hx (ownR (T := T) (t := t) (Or.inr ⟨rfl, (hg1.rA hx).symm⟩)), j1, ?_, anyU_s hl (by rw [nx0, c59]; rfl), fun j hj => ?_⟩)
              · rw [← j2]; funext x; exact aR_pn (Or.inl (by decide))
              · rw [aR_ps]
                by_cases e9 : j = i
                · subst e9; rw [va_up_self, eo]; exact ⟨rfl, ho⟩
                · rw [va_up_ne _ _ e9]; exact he j (by omega)
            · rw [bi_0] at c59
              refine r_iconst (pc := 62) C (nI 0) dX2_findSpent_62 rfl ?_
              refine r_zret (pc := 63) C dX2_findSpent_63 rfl (by first | exact Or.inl rfl | exact Or.inr rfl | assumption) (by omega) (by omega) ?_
              exact bad (by rw [ts_nf c59, Bool.or_true]) _ _ rfl rfl
        refine r_iload_n (pc := 2) C dX2_findSpent_2 rfl ?_
        refine r_aload_n (pc := 3) C dX2_findSpent_3 rfl ?_
        refine r_getR (pc := 4) C dX2_findSpent_4 fx_RX2_119 (hG1.tk ht) v3 ?_
        refine r_alen (pc := 7) C dX2_findSpent_7 k3 (by first | decide | omega) ?_
        rw [n3]
        refine r_icmp_ge (pc := 8) (tgt := 78) C dX2_findSpent_8 (by decide) (fun c8 => ?_) (fun c8 => ?_)
        · exact absurd c8 (nI_ge hi (by omega))
        · refine r_aload_n (pc := 11) C dX2_findSpent_11 rfl ?_
          refine r_aload_n (pc := 12) C dX2_findSpent_12 rfl ?_
          refine r_getR (pc := 13) C dX2_findSpent_13 fx_RX2_119 (hG1.tk ht) v3 ?_
          refine r_iload_n (pc := 16) C dX2_findSpent_16 rfl ?_
          refine r_iald (pc := 17) C dX2_findSpent_17 k3 (by decide) n3 (by first | assumption | exact vp_in_nI (by omega) (by omega)) (by first | exact nI_clamp (by omega) | rfl) ?_
          rw [p3]
          refine r_callV (pc := 18) C (cg_find hG1 hL1.l0 hU hn) iX2_find ml_RX2_111 dX2_findSpent_18 (ci := 3) rfl rfl hG1.gk rfl (by decide) rfl (by simp [cv, Value.category, va_rf]) (by omega) (by omega) (fun r18 S18 h18 => ?_)
          obtain ⟨rfl, e18⟩ := h18
          subst S18
          dsimp only [Option.toList, List.cons_append, List.nil_append]
          rw [ef]
          dsimp only [Option.map_some]
          refine r_astore_n (pc := 21) C dX2_findSpent_21 (by decide) rfl ?_
          refine r_aload_n (pc := 22) C dX2_findSpent_22 rfl ?_
          refine r_ifnull (pc := 23) (tgt := 34) C dX2_findSpent_23 (by decide) (fun c23 => ?_) (fun a23 c23 => ?_)
          · cases c23
          · refine r_aload_n (pc := 26) C dX2_findSpent_26 rfl ?_
            refine r_aload_n (pc := 27) C dX2_findSpent_27 rfl ?_
            refine r_callV (pc := 28) C (cg_hasAnc (an := anc M n h t) hG1 hH1 (by omega) ht hpn hA1) iX8_hasAncestor ml_RX2_122 dX2_findSpent_28 (ci := 9) rfl rfl (hG1.tk ht) rfl (by decide) rfl (by simp [cv, Value.category, va_rf]) (by omega) (by omega) (fun r28 S28 h28 => ?_)
            obtain ⟨rfl, e28⟩ := h28
            subst S28
            dsimp only [Option.toList, List.cons_append, List.nil_append]
            refine r_if_ne (pc := 31) (tgt := 36) C dX2_findSpent_31 (by decide) (fun c31 => ?_) (fun c31 => ?_)
            · rw [bi_0] at c31
              have ca : anc M n h t p = true := (by have q := ts_nf c31; rw [Bool.and_eq_true] at q; exact q.2)
              refine r_aload_n (pc := 36) C dX2_findSpent_36 rfl ?_
              refine r_aload_n (pc := 37) C dX2_findSpent_37 rfl ?_
              refine r_getR (pc := 38) C dX2_findSpent_38 fx_RX2_125 (hG1.tk ht) v5 ?_
              refine r_iload_n (pc := 41) C dX2_findSpent_41 rfl ?_
              refine r_iald (pc := 42) C dX2_findSpent_42 k5 (by decide) n5 (by first | assumption | exact vp_in_nI (by omega) (by omega)) (by first | exact nI_clamp (by omega) | rfl) ?_
              rw [p5]
              refine r_callV (pc := 43) C (cg_outputAt hG1 hRp hpn) iX8_outputAt ml_RX2_128 dX2_findSpent_43 (ci := 9) rfl rfl (hG1.tk hpn) rfl (by decide) rfl (by simp [cv, Value.category, va_rf]) (by omega) (by omega) (fun r43 S43 h43 => ?_)
              obtain ⟨rfl, e43⟩ := h43
              subst S43
              dsimp only [Option.toList, List.cons_append, List.nil_append]
              rw [exi]
              refine r_astore (pc := 46) C dX2_findSpent_46 (by decide) rfl ?_
              by_cases cx : xix (M 11) t i < nO (M 11) p
              · rw [if_pos cx]
                exact r_lv C [(0, vr (some go)), (1, vr (some (T t))), (2, vi (nI i)), (3, vr (some (T p))), (4, vr (some (O (onum p (xix (M 11) t i)))))] rfl (K48y ca cx)
              · rw [if_neg cx]
                exact r_lv C [(0, vr (some go)), (1, vr (some (T t))), (2, vi (nI i)), (3, vr (some (T p))), (4, vr none)] rfl (K48n cx)
            · rw [bi_0] at c31
              have hb1 : (noX M n h t i || spX M n h t i n) = true := by
                rw [nx]
                cases ca : anc M n h t p with
                | false => rfl
                | true => rw [hpb ca, ca] at c31; cases c31
              refine r_iconst (pc := 34) C (nI 0) dX2_findSpent_34 rfl ?_
              refine r_zret (pc := 35) C dX2_findSpent_35 rfl (by first | exact Or.inl rfl | exact Or.inr rfl | assumption) (by omega) (by omega) ?_
              exact bad hb1 _ _ rfl rfl
  refine r_iconst (pc := 0) C (nI 0) dX2_findSpent_0 rfl ?_
  refine r_istore_n (pc := 1) C dX2_findSpent_1 (by decide) rfl ?_
  exact r_lv C [(0, vr (some go)), (1, vr (some (T t))), (2, vi (nI 0))] rfl (L 0 S (by omega) ⟨Ag.rf, rfl, rfl, rfl, fun j hj => by omega⟩)
end FindS
