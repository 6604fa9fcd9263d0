/-! The class: open polls -/
def PL (S : hS) (T : Nat → Nat) (F : MM) (k pp p : Nat) : Prop := PO S pp (rA S 602 pp) (rA S 603 pp) k ∧ sI S 600 pp = F 25 p ∧ (∃ t, t < 140 ∧ sR S 601 pp = some (T t) ∧ F 26 p = nI t) ∧ (∀ j, j < k → aI S 39 (rA S 602 pp) j = F 27 (10 * p + j)) ∧ (∀ j, j < k → aI S 91 (rA S 603 pp) j = bi (!decide (F 28 (10 * p + j) = 0))) ∧ sI S 604 pp = nI (sdn (F 28) p k (nI 1)) ∧ sI S 605 pp = nI (sdn (F 28) p k (nI 2))
/-- the open polls: Ls their places in the reference, in the order of the list; Pp where they lie -/
def CPl (g : GG) (S : hS) (po : Nat) (T : Nat → Nat) (F : MM) (k : Nat) (Ls : List Nat) (Pp : Nat → Nat) : Prop :=
  ((∀ p, p < 6 → (p ∈ Ls ↔ ¬ F 25 p < 0)) ∧ Ls.Nodup ∧ ∀ p ∈ Ls, p < 6) ∧ LA g S po 107 Ls.length (fun i => Pp (Ls.getD i 0)) ∧ (∀ p ∈ Ls, PL S T F k (Pp p) p) ∧ ∀ p ∈ Ls, ∀ p' ∈ Ls, Pp p = Pp p' ∨ rA S 603 (Pp p) = rA S 603 (Pp p') → p = p'
/-- numbers of open polls are apart -/
def Nu (F : MM) : Prop := ∀ p p', p < 6 → p' < 6 → ¬ F 25 p < 0 → F 25 p = F 25 p' → p = p'
section Polls
variable {l : Launch} {g : GG} {S S1 S' : hS} {po x pe tp dg go ch n h a k p pp : Nat} {T O Pp : Nat → Nat} {M F : MM} {G : Nat → Int32} {X : Int64} {L Ls : List Nat}
theorem PL.kp (hP : PL S T F k pp p) (hc : Cf po L S S1) (hL : 5 ∉ L) : PL S1 T F k pp p ∧ rA S1 603 pp = rA S 603 pp := by
  obtain ⟨⟨a0, a1, a2, ⟨a3, a4⟩, a5, a6⟩, b1, ⟨t, b0, b2, b3⟩, b4, b5, b6, b7⟩ := hP
  have hx : sK S pp ≠ 0 := by rw [a0]; decide
  have hw : sK S (rA S 602 pp) ≠ 0 := by rw [a3]; decide
  have hd : sK S (rA S 603 pp) ≠ 0 := by rw [a5]; decide
  have hr : ∀ f, 600 ≤ f → f < 700 → sR S1 f pp = sR S f pp := fun f f1 f2 => hc.r hx (by rw [kf_5 f1 f2]; exact hL)
  have hi : ∀ f, 600 ≤ f → f < 700 → sI S1 f pp = sI S f pp := fun f f1 f2 => hc.i hx (by rw [kf_5 f1 f2]; exact hL)
  have e2 := rA_eq (S := S) (S1 := S1) (hr 602 (by omega) (by omega))
  have e3 := rA_eq (S := S) (S1 := S1) (hr 603 (by omega) (by omega))
  refine ⟨⟨⟨by rw [hc.k hx]; exact a0, by rw [hr 602 (by omega) (by omega), e2]; exact a1, by rw [hr 603 (by omega) (by omega), e3]; exact a2, ⟨by rw [e2, hc.k hw]; exact a3, by rw [e2, hc.n hw]; exact a4⟩, by rw [e3, hc.k hd]; exact a5, by rw [e3, hc.n hd]; exact a6⟩, by rw [hi 600 (by omega) (by omega)]; exact b1, ⟨t, b0, by rw [hr 601 (by omega) (by omega)]; exact b2, b3⟩, fun j hj => ?_, fun j hj => ?_, by rw [hi 604 (by omega) (by omega)]; exact b6, by rw [hi 605 (by omega) (by omega)]; exact b7⟩, e3⟩
  · rw [e2, hc.ai hw (show ka 39 ∉ L from hL)]; exact b4 j hj
  · rw [e3, hc.ai hd (show ka 91 ∉ L from hL)]; exact b5 j hj
theorem CPl.kp (hP : CPl g S po T F k Ls Pp) (hc : Cf po L S S1) (hL : 5 ∉ L) : CPl g S1 po T F k Ls Pp := by
  obtain ⟨h1, h2, h3, h4⟩ := hP
  have kp : ∀ f, f < 3 → kf po f po = 5 := fun f hf => by unfold kf; rw [if_pos hf, if_pos rfl]
  refine ⟨h1, h2.ag (by decide) hc (by show kf po 2 po ∉ L; rw [kp 2 (by omega)]; exact hL) (by show kf po 1 po ∉ L; rw [kp 1 (by omega)]; exact hL) (fun _ => hL), fun p hp => ((h3 p hp).kp hc hL).1, fun p hp p' hp' q => ?_⟩
  rw [((h3 p hp).kp hc hL).2, ((h3 p' hp').kp hc hL).2] at q
  exact h4 p hp p' hp' q
theorem CPl.sub {T' : Nat → Nat} (hP : CPl g S po T F k Ls Pp) (hb : ∀ p ∈ Ls, ∀ t, t < 140 → F 26 p = nI t → t < n) (hT : ∀ u, u < n → T' u = T u) : CPl g S po T' F k Ls Pp := by
  obtain ⟨h1, h2, h3, h4⟩ := hP
  refine ⟨h1, h2, fun p hp => ?_, h4⟩
  obtain ⟨c1, c2, ⟨t, c0, c3, c4⟩, c5⟩ := h3 p hp
  exact ⟨c1, c2, ⟨t, c0, by rw [hT t (hb p hp t c0 c4)]; exact c3, c4⟩, c5⟩
theorem gd_mem {i : Nat} (hi : i < Ls.length) : Ls.getD i 0 ∈ Ls := by
  rw [List.getD_eq_getElem?_getD, List.getElem?_eq_getElem hi]
  exact List.getElem_mem hi
theorem fo_some (hP : CPl g S po T F k Ls Pp) (hu : Nu F) {i : Nat} {v : Int32} (hi : i < Ls.length) (e : F 25 (Ls.getD i 0) = v) : plc (F 25) v = some (Ls.getD i 0) := by
  have hm := gd_mem hi
  have h6 := hP.1.2.2 _ hm
  have hn := (hP.1.1 _ h6).mp hm
  unfold plc
  rw [if_neg (by rw [← e]; exact hn)]
  exact lastU_one (by simpa using e) 6 h6 (fun j hj q => (hu _ _ h6 hj hn (by rw [e]; exact (by simpa using q : F 25 j = v).symm)).symm)
theorem fo_none (hP : CPl g S po T F k Ls Pp) {v : Int32} (hn : ∀ i, i < Ls.length → F 25 (Ls.getD i 0) ≠ v) : plc (F 25) v = none := by
  cases e : plc (F 25) v with
  | none => rfl
  | some p =>
    obtain ⟨h1, h2, h3⟩ := plc_lt e
    have hm := (hP.1.1 p h1).mpr (by rw [h2]; exact h3)
    obtain ⟨i, hi, q⟩ := List.getElem_of_mem hm
    refine absurd ?_ (hn i hi)
    rw [List.getD_eq_getElem?_getD, List.getElem?_eq_getElem hi]
    show F 25 (Ls[i]) = v
    rw [q]
    exact h2
theorem cx_findOpen {v : Int32} (hN : NB S x pe tp dg go po ch G) (hP : CPl g S po T F k Ls Pp) (hu : Nu F) (h6 : Ls.length ≤ 6) : Sp l g mX9_findOpenPoll 0 0 [vr (some x), vi v] S (fun r S' => r = some (vr ((plc (F 25) v).map Pp)) ∧ S' = S) := by
  have hL := hP.2.1
  refine Sp.start (own := RX9) [(0, vr (some x)), (1, vi v)] (by decide +kernel) rfl rfl (Nat.le_of_ble_eq_true rfl) ?_
  intro J C
  have L : ∀ i (s : Unit), i ≤ Ls.length → (∀ j, j < i → F 25 (Ls.getD j 0) ≠ v) → J 2 [(0, vr (some x)), (1, vi v), (2, vi (nI i))] [] S 0 0 := by
    refine up_loop _ _ _ ?_ ?_
    · intro _ hno
      refine r_iload_n (pc := 2) C dX9_findOpenPoll_2 rfl ?_
      refine r_aload_n (pc := 3) C dX9_findOpenPoll_3 rfl ?_
      refine r_getR (pc := 4) C dX9_findOpenPoll_4 fx_RX9_57 hN.1.1 hN.2.1.2.2.2.2.1 ?_
      refine r_callV (pc := 7) C (ct_size hL) iJx4a65c_size_8abf5 ml_RX9_152 dX9_findOpenPoll_7 (ci := 0) rfl rfl hL.k rfl (by decide) rfl (by simp [cv, Value.category, va_rf]) (by omega) (by omega) (fun r7 S7 h7 => ?_)
      obtain ⟨rfl, e7⟩ := h7
      subst S7
      dsimp only [Option.toList, List.cons_append, List.nil_append]
      refine r_icmp_ge (pc := 10) (tgt := 49) C dX9_findOpenPoll_10 (by decide) (fun c10 => ?_) (fun c10 => ?_)
      · refine r_null (pc := 49) C dX9_findOpenPoll_49 ?_
        refine r_aret (pc := 50) C dX9_findOpenPoll_50 rfl (Or.inl ⟨_, rfl⟩) (by omega) (by omega) ?_
        exact ⟨by rw [fo_none hP hno, Option.map_none], rfl⟩
      · exact absurd (Int32.le_refl _) c10
    · intro i _ hi hno ih
      have hm := hP.2.2.1 _ (gd_mem hi)
      refine r_iload_n (pc := 2) C dX9_findOpenPoll_2 rfl ?_
      refine r_aload_n (pc := 3) C dX9_findOpenPoll_3 rfl ?_
      refine r_getR (pc := 4) C dX9_findOpenPoll_4 fx_RX9_57 hN.1.1 hN.2.1.2.2.2.2.1 ?_
      refine r_callV (pc := 7) C (ct_size hL) iJx4a65c_size_8abf5 ml_RX9_152 dX9_findOpenPoll_7 (ci := 0) rfl rfl hL.k rfl (by decide) rfl (by simp [cv, Value.category, va_rf]) (by omega) (by omega) (fun r7 S7 h7 => ?_)
      obtain ⟨rfl, e7⟩ := h7
      subst S7
      dsimp only [Option.toList, List.cons_append, List.nil_append]
      refine r_icmp_ge (pc := 10) (tgt := 49) C dX9_findOpenPoll_10 (by decide) (fun c10 => ?_) (fun c10 => ?_)
      · exact absurd c10 (Int32.not_le.mpr (nI_lt hi (by omega)))
      · refine r_aload_n (pc := 13) C dX9_findOpenPoll_13 rfl ?_
        refine r_getR (pc := 14) C dX9_findOpenPoll_14 fx_RX9_57 hN.1.1 hN.2.1.2.2.2.2.1 ?_
        refine r_iload_n (pc := 17) C dX9_findOpenPoll_17 rfl ?_
        refine r_callV (pc := 18) C (ct_get (by omega) (by omega) hL hi) iJx4a65c_get_915e3 ml_RX9_354 dX9_findOpenPoll_18 (ci := 0) rfl rfl hL.k rfl (by decide) rfl (by simp [cv, Value.category, va_rf]) (by omega) (by omega) (fun r18 S18 h18 => ?_)
        obtain ⟨rfl, e18⟩ := h18
        subst S18
        dsimp only [Option.toList, List.cons_append, List.nil_append]
        refine r_cast (pc := 21) C dX9_findOpenPoll_21 (ci := 6) rfl kl_RX9_166 hm.1.1 ?_
        refine r_getI (pc := 24) C dX9_findOpenPoll_24 fx_RX9_358 hm.1.1 ?_
        rw [hm.2.1]
        refine r_iload_n (pc := 27) C dX9_findOpenPoll_27 rfl ?_
        refine r_icmp_ne (pc := 28) (tgt := 43) C dX9_findOpenPoll_28 (by decide) (fun c28 => ?_) (fun c28 => ?_)
        · refine r_iinc (pc := 43) C _ dX9_findOpenPoll_43 rfl (nI_1 _) (by decide) rfl ?_
          refine r_goto (pc := 46) (tgt := 2) C dX9_findOpenPoll_46 (by decide) ?_
          exact r_lv C [(0, vr (some x)), (1, vi v), (2, vi (nI (i + 1)))] rfl (ih () (fun j hj => by
            by_cases e : j = i
            · rw [e]; exact c28
            · exact hno j (by omega)))
        · refine r_aload_n (pc := 31) C dX9_findOpenPoll_31 rfl ?_
          refine r_getR (pc := 32) C dX9_findOpenPoll_32 fx_RX9_57 hN.1.1 hN.2.1.2.2.2.2.1 ?_
          refine r_iload_n (pc := 35) C dX9_findOpenPoll_35 rfl ?_
          refine r_callV (pc := 36) C (ct_get (by omega) (by omega) hL hi) iJx4a65c_get_915e3 ml_RX9_354 dX9_findOpenPoll_36 (ci := 0) rfl rfl hL.k rfl (by decide) rfl (by simp [cv, Value.category, va_rf]) (by omega) (by omega) (fun r36 S36 h36 => ?_)
          obtain ⟨rfl, e36⟩ := h36
          subst S36
          dsimp only [Option.toList, List.cons_append, List.nil_append]
          refine r_cast (pc := 39) C dX9_findOpenPoll_39 (ci := 6) rfl kl_RX9_166 hm.1.1 ?_
          refine r_aret (pc := 42) C dX9_findOpenPoll_42 rfl (Or.inl ⟨_, rfl⟩) (by omega) (by omega) ?_
          exact ⟨by rw [fo_some hP hu hi c28, Option.map_some], rfl⟩
  refine r_iconst (pc := 0) C (nI 0) dX9_findOpenPoll_0 rfl ?_
  refine r_istore_n (pc := 1) C dX9_findOpenPoll_1 (by decide) rfl ?_
  exact r_lv C [(0, vr (some x)), (1, vi v), (2, vi (nI 0))] rfl (L 0 () (by omega) (fun j hj => absurd hj (by omega)))
end Polls
