/-! The class: the missing parents -/
def mlI (M : MM) (n t : Nat) (L : List Int32) : Nat → List Int32
  | 0 => L
  | i + 1 => if misQ M n t i then mlI M n t L i ++ [pid (M 11) t i] else mlI M n t L i
def mlO (M : MM) (n : Nat) : Nat → List Int32
  | 0 => []
  | t + 1 => mlI M n t (mlO M n t) (nP (M 11) t)
section MissP
variable {M : MM} {n : Nat}
theorem mlI_len {t : Nat} {L : List Int32} : ∀ i, (mlI M n t L i).length ≤ L.length + i ∧ L.length ≤ (mlI M n t L i).length
  | 0 => ⟨Nat.le_refl _, Nat.le_refl _⟩
  | i + 1 => by
    have := @mlI_len t L i
    simp only [mlI]
    split
    · simp only [List.length_append, List.length_cons, List.length_nil]; omega
    · omega
theorem mlO_len (hR : ∀ t, t < n → Rk (M 11) t) : ∀ t, t ≤ n → (mlO M n t).length ≤ 4 * t
  | 0, _ => Nat.le_refl _
  | t + 1, ht => by
    have h1 := mlO_len hR t (by omega)
    have h2 := (@mlI_len M n t (mlO M n t) (nP (M 11) t)).1
    have h3 := (hR t (by omega)).2.1
    simp only [mlO]
    omega
theorem mlI_mem {t : Nat} {x : Int32} {L : List Int32} (hx : fdo (M 10) x n = none) (hL : x ∈ L ↔ ∃ w, w < t ∧ M 13 w = nI 1 ∧ ∃ j, j < nP (M 11) w ∧ pid (M 11) w j = x) : ∀ i, i ≤ nP (M 11) t → (x ∈ mlI M n t L i ↔ (x ∈ L ∨ (M 13 t = nI 1 ∧ ∃ j, j < i ∧ pid (M 11) t j = x)))
  | 0, _ => by simp [mlI]
  | i + 1, hi => by
    have ih := mlI_mem hx hL i (by omega)
    have er : pid (M 11) t i = x → M 13 t = nI 1 → (misQ M n t i = true ∨ x ∈ mlI M n t L i) := fun e hw => by
      by_cases c : ear M t i = true
      · right
        rw [ih]
        unfold ear earJ at c
        obtain ⟨w, h1, c⟩ := anyU_iff.mp c
        obtain ⟨j, h2, c⟩ := anyU_iff.mp c
        simp only [Bool.and_eq_true, Bool.or_eq_true, decide_eq_true_eq] at c
        obtain ⟨⟨c1, c2⟩, c3⟩ := c
        by_cases hwt : w < t
        · exact Or.inl (hL.mpr ⟨w, hwt, c1, j, h2, c3.trans e⟩)
        · have : w = t := by omega
          subst this
          exact Or.inr ⟨hw, j, by omega, c3.trans e⟩
      · left
        unfold misQ
        rw [e, hw, decide_eq_true hx, show ear M t i = false by simpa using c]; rfl
    simp only [mlI]
    constructor
    · intro q
      split at q
      · next c =>
        rw [List.mem_append, List.mem_singleton] at q
        rcases q with q | q
        · rcases ih.mp q with q | ⟨q1, j, q2, q3⟩
          · exact Or.inl q
          · exact Or.inr ⟨q1, j, by omega, q3⟩
        · simp only [misQ, Bool.and_eq_true, decide_eq_true_eq] at c
          exact Or.inr ⟨c.1.1, i, by omega, q.symm⟩
      · rcases ih.mp q with q | ⟨q1, j, q2, q3⟩
        · exact Or.inl q
        · exact Or.inr ⟨q1, j, by omega, q3⟩
    · intro q
      have old : x ∈ mlI M n t L i → x ∈ (if misQ M n t i then mlI M n t L i ++ [pid (M 11) t i] else mlI M n t L i) := fun q => by
        split
        · exact List.mem_append_left _ q
        · exact q
      rcases q with q | ⟨q1, j, q2, q3⟩
      · exact old (ih.mpr (Or.inl q))
      · by_cases e : j = i
        · subst e
          rcases er q3 q1 with c | c
          · rw [if_pos c, q3]; simp
          · exact old c
        · exact old (ih.mpr (Or.inr ⟨q1, j, by omega, q3⟩))
theorem mlO_mem {x : Int32} (hx : fdo (M 10) x n = none) : ∀ t, x ∈ mlO M n t ↔ ∃ w, w < t ∧ M 13 w = nI 1 ∧ ∃ j, j < nP (M 11) w ∧ pid (M 11) w j = x
  | 0 => by simp [mlO]
  | t + 1 => by
    have ih := mlO_mem hx t
    simp only [mlO]
    rw [mlI_mem hx ih _ (Nat.le_refl _), ih]
    constructor
    · rintro (⟨w, h1, h2⟩ | ⟨h1, h2⟩)
      · exact ⟨w, by omega, h2⟩
      · exact ⟨t, by omega, h1, h2⟩
    · rintro ⟨w, h1, h2, h3⟩
      by_cases e : w = t
      · subst e; exact Or.inr ⟨h2, h3⟩
      · exact Or.inl ⟨w, by omega, h2, h3⟩
/-- one is new just when it is not listed -/
theorem mis_new {t i : Nat} (hi : i < nP (M 11) t) (hw : M 13 t = nI 1) : misQ M n t i = (decide (fdo (M 10) (pid (M 11) t i) n = none) && !decide (pid (M 11) t i ∈ mlI M n t (mlO M n t) i)) := by
  unfold misQ
  rw [hw, decide_eq_true rfl, Bool.true_and]
  by_cases hx : fdo (M 10) (pid (M 11) t i) n = none
  · rw [decide_eq_true hx, Bool.true_and, Bool.true_and]
    congr 1
    have q := (mlI_mem hx (mlO_mem hx t) i (by omega)).trans (or_congr (mlO_mem hx t) Iff.rfl)
    have e : ear M t i = true ↔ pid (M 11) t i ∈ mlI M n t (mlO M n t) i := by
      rw [q]
      unfold ear earJ
      rw [anyU_iff]
      constructor
      · rintro ⟨w, h1, c⟩
        obtain ⟨j, h2, c⟩ := anyU_iff.mp c
        simp only [Bool.and_eq_true, Bool.or_eq_true, decide_eq_true_eq] at c
        obtain ⟨⟨c1, c2⟩, c3⟩ := c
        by_cases hwt : w < t
        · exact Or.inl ⟨w, hwt, c1, j, h2, c3⟩
        · have : w = t := by omega
          subst this
          exact Or.inr ⟨hw, j, by omega, c3⟩
      · rintro (⟨w, h1, h2, j, h3, h4⟩ | ⟨h1, j, h2, h3⟩)
        · exact ⟨w, by omega, anyU_t (i := j) h3 (by simp only [Bool.and_eq_true, Bool.or_eq_true, decide_eq_true_eq]; exact ⟨⟨h2, Or.inl h1⟩, h4⟩)⟩
        · exact ⟨t, by omega, anyU_t (i := j) (by omega) (by simp only [Bool.and_eq_true, Bool.or_eq_true, decide_eq_true_eq]; exact ⟨⟨h1, Or.inr h2⟩, h3⟩)⟩
    cases c : ear M t i with
    | true => exact (decide_eq_true (e.mp c)).symm
    | false => exact (decide_eq_false (fun q => by rw [e.mpr q] at c; cases c)).symm
  · rw [decide_eq_false hx]; rfl
theorem mis_not {t i : Nat} (hw : M 13 t ≠ nI 1) : misQ M n t i = false := by
  unfold misQ
  rw [decide_eq_false hw]; rfl
theorem mlI_not {t : Nat} {L : List Int32} (hw : M 13 t ≠ nI 1) : ∀ i, mlI M n t L i = L
  | 0 => rfl
  | i + 1 => by simp only [mlI, mis_not hw]; exact mlI_not hw i
/-- the reference counts down over the same list -/
theorem miI_ml {t b : Nat} {L : List Int32} : ∀ i, (match (mlI M n t L i)[b]? with | some v => (Sum.inr v : Nat ⊕ Int32) | none => .inl (b - (mlI M n t L i).length)) = (match (match L[b]? with | some v => (Sum.inr v : Nat ⊕ Int32) | none => .inl (b - L.length)) with | .inr v => .inr v | .inl b' => miI M n t b' i)
  | 0 => by
    simp only [mlI, miI]
    cases L[b]? <;> rfl
  | i + 1 => by
    have ih := @miI_ml t b L i
    simp only [mlI]
    by_cases c : misQ M n t i = true
    · rw [if_pos c]
      by_cases hb : b < (mlI M n t L i).length
      · rw [List.getElem?_append_left hb]
        rw [List.getElem?_eq_getElem hb] at ih ⊢
        dsimp only at ih ⊢
        rw [ih]
        cases e : L[b]? with
        | some v => rfl
        | none =>
          rw [e] at ih
          dsimp only at ih ⊢
          simp only [miI]
          rw [← ih]
      · rw [List.getElem?_append_right (by omega)]
        rw [List.getElem?_eq_none (show (mlI M n t L i).length ≤ b by omega)] at ih
        dsimp only at ih
        cases e : L[b]? with
        | some v => rw [e] at ih; cases ih
        | none =>
          rw [e] at ih
          dsimp only at ih ⊢
          simp only [miI]
          rw [← ih]
          dsimp only
          rw [if_pos c, List.length_append]
          by_cases h0 : b - (mlI M n t L i).length = 0
          · rw [if_pos h0, h0]; rfl
          · rw [if_neg h0, List.getElem?_eq_none (by simp only [List.length_cons, List.length_nil]; omega)]
            simp only [List.length_cons, List.length_nil]
            congr 1
    · rw [if_neg c, ih]
      cases e : L[b]? with
      | some v => rfl
      | none =>
        dsimp only
        simp only [miI]
        cases miI M n t (b - L.length) i with
        | inr v => rfl
        | inl b' => dsimp only; rw [if_neg c]
theorem miO_ml {b : Nat} : ∀ t, miO M n b t = (match (mlO M n t)[b]? with | some v => (Sum.inr v : Nat ⊕ Int32) | none => .inl (b - (mlO M n t).length))
  | 0 => rfl
  | t + 1 => by
    have ih := @miO_ml b t
    simp only [miO, mlO]
    rw [miI_ml, ← ih]
    cases miO M n b t <;> rfl
theorem miV_ml {b : Nat} : miV M n b = ((mlO M n n)[b]?).getD (-1) := by
  unfold miV
  rw [miO_ml]
  cases (mlO M n n)[b]? <;> rfl
end MissP
theorem any_mem {x : Int32} : ∀ {L : List Int32}, anyU (fun y => decide (L.getD y 0 = x)) L.length = decide (x ∈ L) := by
  intro L
  by_cases e : x ∈ L
  · rw [decide_eq_true e]
    obtain ⟨i, hi, q⟩ := List.getElem_of_mem e
    exact anyU_t (i := i) hi (by rw [List.getD_eq_getElem?_getD, List.getElem?_eq_getElem hi]; exact decide_eq_true q)
  · rw [decide_eq_false e]
    refine anyU_no.mpr (fun i hi => decide_eq_false (fun q => e ?_))
    rw [List.getD_eq_getElem?_getD, List.getElem?_eq_getElem hi] at q
    rw [← show L[i] = x from q]
    exact List.getElem_mem hi
/-- what the row of missing ones holds -/
def MLs (S : hS) (go : Nat) (L : List Int32) : Prop := ∀ y, y < L.length → aI S 38 (rA S 305 go) y = L.getD y 0
section Missing
variable {l : Launch} {g : GG} {S : hS} {po go n h a t : Nat} {T O : Nat → Nat} {M : MM} {cf : Nat → Int32} {ao : Nat → Option Nat} {mL : Nat → List Nat}
theorem cg_isListed {x : Int32} {L : List Int32} (hG : GS S po go T O M n) (hm : MLs S go L) (hl : L.length ≤ 560) : Sp l g mX2_isListed 0 0 [vr (some go), vi x, vi (nI L.length)] S (fun r S' => r = some (vi (bi (decide (x ∈ L)))) ∧ S' = S) := by
  have h5 := hG.1.2.2.2.2
  refine Sp.start (own := RX2) [(0, vr (some go)), (1, vi x), (2, vi (nI L.length))] (by decide +kernel) rfl rfl (Nat.le_of_ble_eq_true rfl) ?_
  intro J C
  have LL : ∀ i (u : Unit), i ≤ L.length → anyU (fun y => decide (L.getD y 0 = x)) i = false → J 2 [(0, vr (some go)), (1, vi x), (2, vi (nI L.length)), (3, vi (nI i))] [] S 0 0 := by
    refine up_loop _ _ _ ?_ ?_
    · intro u hu
      refine r_iload_n (pc := 2) C dX2_isListed_2 rfl ?_
      refine r_iload_n (pc := 3) C dX2_isListed_3 rfl ?_
      refine r_icmp_ge (pc := 4) (tgt := 25) C dX2_isListed_4 (by decide) (fun c4 => ?_) (fun c4 => ?_)
      · refine r_iconst (pc := 25) C (nI 0) dX2_isListed_25 rfl ?_
        refine r_zret (pc := 26) C dX2_isListed_26 rfl (by first | exact Or.inl rfl | exact Or.inr rfl | assumption) (by omega) (by omega) ?_
        exact ⟨by rw [← any_mem, hu]; rfl, rfl⟩
      · exact absurd (Int32.le_refl _) c4
    · intro i u hi hu ih
      refine r_iload_n (pc := 2) C dX2_isListed_2 rfl ?_
      refine r_iload_n (pc := 3) C dX2_isListed_3 rfl ?_
      refine r_icmp_ge (pc := 4) (tgt := 25) C dX2_isListed_4 (by decide) (fun c4 => ?_) (fun c4 => ?_)
      · exact absurd c4 (nI_ge hi (by omega))
      · refine r_aload_n (pc := 7) C dX2_isListed_7 rfl ?_
        refine r_getR (pc := 8) C dX2_isListed_8 fx_RX2_31 hG.gk h5.1 ?_
        refine r_iload_n (pc := 11) C dX2_isListed_11 rfl ?_
        refine r_iald (pc := 12) C dX2_isListed_12 h5.2.1 (by decide) h5.2.2 (by first | assumption | exact vp_in_nI (by omega) (by omega)) (by first | exact nI_clamp (by omega) | rfl) ?_
        rw [hm i hi]
        refine r_iload_n (pc := 13) C dX2_isListed_13 rfl ?_
        refine r_icmp_ne (pc := 14) (tgt := 19) C dX2_isListed_14 (by decide) (fun c14 => ?_) (fun c14 => ?_)
        · refine r_iinc (pc := 19) C _ dX2_isListed_19 rfl (nI_1 _) (by decide) rfl ?_
          refine r_goto (pc := 22) (tgt := 2) C dX2_isListed_22 (by decide) ?_
          exact r_lv C [(0, vr (some go)), (1, vi x), (2, vi (nI L.length)), (3, vi (nI (i + 1)))] rfl (ih u (anyU_s hu (decide_eq_false c14)))
        · refine r_iconst (pc := 17) C (nI 1) dX2_isListed_17 rfl ?_
          refine r_zret (pc := 18) C dX2_isListed_18 rfl (by first | exact Or.inl rfl | exact Or.inr rfl | assumption) (by omega) (by omega) ?_
          exact ⟨by rw [← any_mem, anyU_t (f := fun y => decide (L.getD y 0 = x)) hi (decide_eq_true c14)]; rfl, rfl⟩
  refine r_iconst (pc := 0) C (nI 0) dX2_isListed_0 rfl ?_
  refine r_istore_n (pc := 1) C dX2_isListed_1 (by decide) rfl ?_
  exact r_lv C [(0, vr (some go)), (1, vi x), (2, vi (nI L.length)), (3, vi (nI 0))] rfl (LL 0 () (by omega) rfl)
theorem CR.m38 (hC : CR g S po go T O M n h a cf ao mL) (hG : GV M n h) {x : Nat} {F : Nat → Int32} : CR g (putI S 38 x F) po go T O M n h a cf ao mL := hC.keep hG.hn (Ag.pi (fun q => by unfold iA at q; omega))
theorem cg_addMiss (hC : CR g S po go T O M n h a cf ao mL) (hG : GV M n h) (hU : Uq M n) (hn : n ≤ 65) (ht : t < n) (hw : M 13 t = nI 1) (hm : MLs S go (mlO M n t)) : Sp l g mX2_addMissing 0 0 [vr (some go), vr (some (rA S 902 (T t))), vi (nI (mlO M n t).length)] S (fun r S' => r = some (vi (nI (mlO M n (t + 1)).length)) ∧ CR g S' po go T O M n h a cf ao mL ∧ GrF po S S' ∧ MLs S' go (mlO M n (t + 1))) := by
  have hR := hG.2.2.1 t ht
  have h4 := hR.2.1
  have hl := mlO_len hG.2.2.1 t (by omega)
  have hT2 := (hC.pG.t ht).2.2.1
  refine Sp.start (own := RX2) [(0, vr (some go)), (1, vr (some (rA S 902 (T t)))), (2, vi (nI (mlO M n t).length))] (by decide +kernel) rfl rfl (Nat.le_of_ble_eq_true rfl) ?_
  intro J C
  have L : ∀ i S1, i ≤ nP (M 11) t → (CR g S1 po go T O M n h a cf ao mL ∧ GrF po S S1 ∧ MLs S1 go (mlI M n t (mlO M n t) i) ∧ rA S1 902 (T t) = rA S 902 (T t) ∧ rA S1 305 go = rA S 305 go) → J 5 [(0, vr (some go)), (1, vr (some (rA S 902 (T t)))), (2, vi (nI (mlO M n t).length)), (3, vi (nI (mlI M n t (mlO M n t) i).length)), (4, vi (nI i))] [] S1 0 0 := by
    refine up_loop _ _ _ ?_ ?_
    · intro S1 ⟨hC1, hg1, hm1, e2, e3⟩
      have h2 := (hC1.pG.t ht).2.2.1
      unfold IR at h2
      rw [e2] at h2
      refine r_iload (pc := 5) C dX2_addMissing_5 rfl ?_
      refine r_aload_n (pc := 7) C dX2_addMissing_7 rfl ?_
      refine r_alen (pc := 8) C dX2_addMissing_8 (rfl : sK S1 (rA S 902 (T t)) = sK S1 (rA S 902 (T t))) (by first | decide | omega) ?_
      rw [h2.2.2.1]
      refine r_icmp_ge (pc := 9) (tgt := 75) C dX2_addMissing_9 (by decide) (fun c9 => ?_) (fun c9 => ?_)
      · refine r_iload_n (pc := 75) C dX2_addMissing_75 rfl ?_
        refine r_iret (pc := 76) C dX2_addMissing_76 rfl (by omega) (by omega) ?_
        exact ⟨rfl, hC1, hg1, hm1⟩
      · exact absurd (Int32.le_refl _) c9
    · intro i S1 hi ⟨hC1, hg1, hm1, e2, e3⟩ ih
      have h2 := (hC1.pG.t ht).2.2.1
      unfold IR at h2
      rw [e2] at h2
      have hk2 := (h2.2.2.2 i hi).1
      have hv2 := (h2.2.2.2 i hi).2
      have h5 := hC1.pG.1.2.2.2.2
      have hlen := (@mlI_len M n t (mlO M n t) i).1
      have mq := mis_new (n := n) hi hw
      have ev0 : misQ M n t i = false → J 5 [(0, vr (some go)), (1, vr (some (rA S 902 (T t)))), (2, vi (nI (mlO M n t).length)), (3, vi (nI (mlI M n t (mlO M n t) i).length)), (4, vi (nI (i + 1)))] [] S1 0 0 := fun q => by
        have := ih S1 ⟨hC1, hg1, by simp only [mlI, q]; exact hm1, e2, e3⟩
        simp only [mlI, q] at this
        exact this
      have K42 : ∀ b : Bool, b = misQ M n t i → J 40 [(0, vr (some go)), (1, vr (some (rA S 902 (T t)))), (2, vi (nI (mlO M n t).length)), (3, vi (nI (mlI M n t (mlO M n t) i).length)), (4, vi (nI i))] [vi (bi b)] S1 0 0 := by
        intro b hb
        refine r_istore (pc := 40) C dX2_addMissing_40 (by decide) rfl ?_
        refine r_iload (pc := 42) C dX2_addMissing_42 rfl ?_
        refine r_if_eq (pc := 44) (tgt := 69) C dX2_addMissing_44 (by decide) (fun c44 => ?_) (fun c44 => ?_)
        · rw [bi_0] at c44
          have ev := ev0 (by rw [← hb, c44])
          refine r_iinc (pc := 69) C _ dX2_addMissing_69 rfl (nI_1 _) (by decide) rfl ?_
          refine r_goto (pc := 72) (tgt := 5) C dX2_addMissing_72 (by decide) ?_
          exact r_lv C [(0, vr (some go)), (1, vr (some (rA S 902 (T t)))), (2, vi (nI (mlO M n t).length)), (3, vi (nI _)), (4, vi (nI (i + 1)))] rfl ev
        · rw [bi_0] at c44
          have hq : misQ M n t i = true := by rw [← hb]; exact ts_nf c44
          refine r_iload_n (pc := 47) C dX2_addMissing_47 rfl ?_
          refine r_aload_n (pc := 48) C dX2_addMissing_48 rfl ?_
          refine r_getR (pc := 49) C dX2_addMissing_49 fx_RX2_31 hC1.pG.gk h5.1 ?_
          refine r_alen (pc := 52) C dX2_addMissing_52 h5.2.1 (by first | decide | omega) ?_
          rw [h5.2.2]
          refine r_icmp_ge (pc := 53) (tgt := 69) C dX2_addMissing_53 (by decide) (fun c53 => ?_) (fun c53 => ?_)
          · exact absurd c53 (nI_ge (by omega) (by omega))
          · refine r_aload_n (pc := 56) C dX2_addMissing_56 rfl ?_
            refine r_getR (pc := 57) C dX2_addMissing_57 fx_RX2_31 hC1.pG.gk h5.1 ?_
            refine r_iload_n (pc := 60) C dX2_addMissing_60 rfl ?_
            refine r_aload_n (pc := 61) C dX2_addMissing_61 rfl ?_
            refine r_iload (pc := 62) C dX2_addMissing_62 rfl ?_
            refine r_iald (pc := 64) C dX2_addMissing_64 hk2 (by decide) h2.2.2.1 (by first | assumption | exact vp_in_nI (by omega) (by omega)) (by first | exact nI_clamp (by omega) | rfl) ?_
            rw [hv2]
            refine r_iast (pc := 65) C dX2_addMissing_65 h5.2.1 (by decide) h5.2.2 (vp_in_nI (by omega) (by omega)) (nI_clamp (by omega)) ?_
            have ev := ih _ ⟨hC1.m38 hG (x := rA S1 305 go) (F := upd (aI S1 38 (rA S1 305 go)) (mlI M n t (mlO M n t) i).length (pid (M 11) t i)), hg1.tr (Ag.pi (fun q => by unfold oA at q; omega)), by
              intro y hy
              simp only [mlI, hq, if_true, List.length_append, List.length_cons, List.length_nil] at hy ⊢
              show aI (putI S1 38 (rA S1 305 go) _) 38 (rA S1 305 go) y = _
              rw [aI_ps]
              by_cases e9 : y = (mlI M n t (mlO M n t) i).length
              · rw [e9, pk_us]; simp
              · rw [pk_un e9, hm1 y (by omega), List.getD_eq_getElem?_getD, List.getD_eq_getElem?_getD, List.getElem?_append_left (by omega)], e2, e3⟩
            have el : (mlI M n t (mlO M n t) (i + 1)).length = (mlI M n t (mlO M n t) i).length + 1 := by simp only [mlI, hq, if_true, List.length_append, List.length_cons, List.length_nil]
            rw [el] at ev
            refine r_iinc (pc := 66) C _ dX2_addMissing_66 rfl (nI_1 _) (by decide) rfl ?_
            refine r_iinc (pc := 69) C _ dX2_addMissing_69 rfl (nI_1 _) (by decide) rfl ?_
            refine r_goto (pc := 72) (tgt := 5) C dX2_addMissing_72 (by decide) ?_
            exact r_lv C [(0, vr (some go)), (1, vr (some (rA S 902 (T t)))), (2, vi (nI (mlO M n t).length)), (3, vi (nI _)), (4, vi (nI (i + 1)))] rfl ev
      refine r_iload (pc := 5) C dX2_addMissing_5 rfl ?_
      refine r_aload_n (pc := 7) C dX2_addMissing_7 rfl ?_
      refine r_alen (pc := 8) C dX2_addMissing_8 (rfl : sK S1 (rA S 902 (T t)) = sK S1 (rA S 902 (T t))) (by first | decide | omega) ?_
      rw [h2.2.2.1]
      refine r_icmp_ge (pc := 9) (tgt := 75) C dX2_addMissing_9 (by decide) (fun c9 => ?_) (fun c9 => ?_)
      · exact absurd c9 (nI_ge hi (by omega))
      · refine r_aload_n (pc := 12) C dX2_addMissing_12 rfl ?_
        refine r_aload_n (pc := 13) C dX2_addMissing_13 rfl ?_
        refine r_iload (pc := 14) C dX2_addMissing_14 rfl ?_
        refine r_iald (pc := 16) C dX2_addMissing_16 hk2 (by decide) h2.2.2.1 (by first | assumption | exact vp_in_nI (by omega) (by omega)) (by first | exact nI_clamp (by omega) | rfl) ?_
        rw [hv2]
        refine r_callV (pc := 17) C (cg_find hC1.pG hC1.pL.l0 hU (by omega)) iX2_find ml_RX2_111 dX2_addMissing_17 (ci := 3) rfl rfl hC1.pG.gk rfl (by decide) rfl (by simp [cv, Value.category, va_rf]) (by omega) (by omega) (fun r17 S17 h17 => ?_)
        obtain ⟨rfl, e17⟩ := h17
        subst S17
        dsimp only [Option.toList, List.cons_append, List.nil_append]
        refine r_ifnonnull (pc := 20) (tgt := 39) C dX2_addMissing_20 (by decide) (fun a20 c20 => ?_) (fun c20 => ?_)
        · have ev := K42 false (by rw [mq, decide_eq_false (fun q => by rw [q] at c20; cases c20)]; rfl)
          refine r_iconst (pc := 39) C (nI 0) dX2_addMissing_39 rfl ?_
          exact r_lv C [(0, vr (some go)), (1, vr (some (rA S 902 (T t)))), (2, vi (nI (mlO M n t).length)), (3, vi (nI (mlI M n t (mlO M n t) i).length)), (4, vi (nI i))] rfl ev
        · have hx : fdo (M 10) (pid (M 11) t i) n = none := by cases ef : fdo (M 10) (pid (M 11) t i) n with | none => rfl | some v => rw [ef] at c20; cases c20
          refine r_aload_n (pc := 23) C dX2_addMissing_23 rfl ?_
          refine r_aload_n (pc := 24) C dX2_addMissing_24 rfl ?_
          refine r_iload (pc := 25) C dX2_addMissing_25 rfl ?_
          refine r_iald (pc := 27) C dX2_addMissing_27 hk2 (by decide) h2.2.2.1 (by first | assumption | exact vp_in_nI (by omega) (by omega)) (by first | exact nI_clamp (by omega) | rfl) ?_
          rw [hv2]
          refine r_iload_n (pc := 28) C dX2_addMissing_28 rfl ?_
          refine r_callV (pc := 29) C (cg_isListed hC1.pG hm1 (by omega)) iX2_isListed ml_RX2_217 dX2_addMissing_29 (ci := 3) rfl rfl hC1.pG.gk rfl (by decide) rfl (by simp [cv, Value.category, va_rf]) (by omega) (by omega) (fun r29 S29 h29 => ?_)
          obtain ⟨rfl, e29⟩ := h29
          subst S29
          dsimp only [Option.toList, List.cons_append, List.nil_append]
          refine r_if_ne (pc := 32) (tgt := 39) C dX2_addMissing_32 (by decide) (fun c32 => ?_) (fun c32 => ?_)
          · rw [bi_0] at c32
            have ev := K42 false (by rw [mq, ts_nf c32, Bool.not_true, Bool.and_false])
            refine r_iconst (pc := 39) C (nI 0) dX2_addMissing_39 rfl ?_
            exact r_lv C [(0, vr (some go)), (1, vr (some (rA S 902 (T t)))), (2, vi (nI (mlO M n t).length)), (3, vi (nI (mlI M n t (mlO M n t) i).length)), (4, vi (nI i))] rfl ev
          · rw [bi_0] at c32
            have ev := K42 true (by rw [mq, c32, decide_eq_true hx]; rfl)
            refine r_iconst (pc := 35) C (nI 1) dX2_addMissing_35 rfl ?_
            refine r_goto (pc := 36) (tgt := 40) C dX2_addMissing_36 (by decide) ?_
            exact r_lv C [(0, vr (some go)), (1, vr (some (rA S 902 (T t)))), (2, vi (nI (mlO M n t).length)), (3, vi (nI (mlI M n t (mlO M n t) i).length)), (4, vi (nI i))] rfl ev
  refine r_iload_n (pc := 0) C dX2_addMissing_0 rfl ?_
  refine r_istore_n (pc := 1) C dX2_addMissing_1 (by decide) rfl ?_
  refine r_iconst (pc := 2) C (nI 0) dX2_addMissing_2 rfl ?_
  refine r_istore (pc := 3) C dX2_addMissing_3 (by decide) rfl ?_
  exact r_lv C [(0, vr (some go)), (1, vr (some (rA S 902 (T t)))), (2, vi (nI (mlO M n t).length)), (3, vi (nI (mlI M n t (mlO M n t) 0).length)), (4, vi (nI 0))] rfl (L 0 S (by omega) ⟨hC, Ag.rf, hm, rfl, rfl⟩)
theorem cg_missing {x : Int32} (hC : CR g S po go T O M n h a cf ao mL) (hG : GV M n h) (hU : Uq M n) (hn : n ≤ 65) : Sp l g mX2_missingParentId 0 0 [vr (some go), vi x] S (fun r S' => r = some (vi (if x < 0 then -1 else miV M n x.toNatClampNeg)) ∧ CR g S' po go T O M n h a cf ao mL ∧ GrF po S S') := by
  refine Sp.start (own := RX2) [(0, vr (some go)), (1, vi x)] (by decide +kernel) rfl rfl (Nat.le_of_ble_eq_true rfl) ?_
  intro J C
  have L : ∀ t S1, t ≤ n → (CR g S1 po go T O M n h a cf ao mL ∧ GrF po S S1 ∧ MLs S1 go (mlO M n t)) → J 4 [(0, vr (some go)), (1, vi x), (2, vi (nI (mlO M n t).length)), (3, vi (nI t))] [] S1 0 0 := by
    refine up_loop _ _ _ ?_ ?_
    · intro S1 ⟨hC1, hg1, hm1⟩
      have hL1 := hC1.pL.l0
      have h5 := hC1.pG.1.2.2.2.2
      have hl := mlO_len hG.2.2.1 n (Nat.le_refl _)
      refine r_iload_n (pc := 4) C dX2_missingParentId_4 rfl ?_
      refine r_aload_n (pc := 5) C dX2_missingParentId_5 rfl ?_
      refine r_getR (pc := 6) C dX2_missingParentId_6 fx_RX2_21 hC1.pG.gk hC1.pG.1.2.1 ?_
      refine r_callV (pc := 9) C (ct_size hL1) iJx4a65c_size_8abf5 ml_RX2_60 dX2_missingParentId_9 (ci := 0) rfl rfl hL1.k rfl (by decide) rfl (by simp [cv, Value.category, va_rf]) (by omega) (by omega) (fun r9 S9 h9 => ?_)
      obtain ⟨rfl, e9⟩ := h9
      subst S9
      dsimp only [Option.toList, List.cons_append, List.nil_append]
      refine r_icmp_ge (pc := 12) (tgt := 59) C dX2_missingParentId_12 (by decide) (fun c12 => ?_) (fun c12 => ?_)
      · refine r_iload_n (pc := 59) C dX2_missingParentId_59 rfl ?_
        refine r_if_lt (pc := 60) (tgt := 68) C dX2_missingParentId_60 (by decide) (fun c60 => ?_) (fun c60 => ?_)
        · have ev : (if x < 0 then -1 else miV M n x.toNatClampNeg) = -1 := if_pos c60
          refine r_iconst (pc := 68) C (-1) dX2_missingParentId_68 rfl ?_
          refine r_goto (pc := 69) (tgt := 78) C dX2_missingParentId_69 (by decide) ?_
          refine r_iret (pc := 78) C dX2_missingParentId_78 rfl (by omega) (by omega) ?_
          exact ⟨by rw [ev], hC1, hg1⟩
        · refine r_iload_n (pc := 63) C dX2_missingParentId_63 rfl ?_
          refine r_iload_n (pc := 64) C dX2_missingParentId_64 rfl ?_
          refine r_icmp_lt (pc := 65) (tgt := 72) C dX2_missingParentId_65 (by decide) (fun c65 => ?_) (fun c65 => ?_)
          · have hx2 := nI_lt1 c60 c65 (by omega)
            have hx3 := nI_self c60
            have ev : (if x < 0 then -1 else miV M n x.toNatClampNeg) = aI S1 38 (rA S1 305 go) x.toNatClampNeg := by
              rw [if_neg c60, miV_ml, hm1 _ hx2, List.getElem?_eq_getElem hx2, List.getD_eq_getElem?_getD, List.getElem?_eq_getElem hx2]; rfl
            refine r_aload_n (pc := 72) C dX2_missingParentId_72 rfl ?_
            refine r_getR (pc := 73) C dX2_missingParentId_73 fx_RX2_31 hC1.pG.gk h5.1 ?_
            refine r_iload_n (pc := 76) C dX2_missingParentId_76 rfl ?_
            refine r_iald (pc := 77) C dX2_missingParentId_77 h5.2.1 (by decide) h5.2.2 (by rw [← hx3]; exact vp_in_nI (by omega) (by omega)) rfl ?_
            refine r_iret (pc := 78) C dX2_missingParentId_78 rfl (by omega) (by omega) ?_
            exact ⟨by rw [ev], hC1, hg1⟩
          · have ev : (if x < 0 then -1 else miV M n x.toNatClampNeg) = -1 := by
              rw [if_neg c60, miV_ml, List.getElem?_eq_none (Classical.not_not.mp (fun q => c65 (by rw [← nI_self c60]; exact nI_lt (by omega) (by omega))))]; rfl
            refine r_iconst (pc := 68) C (-1) dX2_missingParentId_68 rfl ?_
            refine r_goto (pc := 69) (tgt := 78) C dX2_missingParentId_69 (by decide) ?_
            refine r_iret (pc := 78) C dX2_missingParentId_78 rfl (by omega) (by omega) ?_
            exact ⟨by rw [ev], hC1, hg1⟩
      · exact absurd (Int32.le_refl _) c12
    · intro t S1 ht ⟨hC1, hg1, hm1⟩ ih
      have hL1 := hC1.pL.l0
      have h2 := (hC1.pG.t ht).2.2.1
      refine r_iload_n (pc := 4) C dX2_missingParentId_4 rfl ?_
      refine r_aload_n (pc := 5) C dX2_missingParentId_5 rfl ?_
      refine r_getR (pc := 6) C dX2_missingParentId_6 fx_RX2_21 hC1.pG.gk hC1.pG.1.2.1 ?_
      refine r_callV (pc := 9) C (ct_size hL1) iJx4a65c_size_8abf5 ml_RX2_60 dX2_missingParentId_9 (ci := 0) rfl rfl hL1.k rfl (by decide) rfl (by simp [cv, Value.category, va_rf]) (by omega) (by omega) (fun r9 S9 h9 => ?_)
      obtain ⟨rfl, e9⟩ := h9
      subst S9
      dsimp only [Option.toList, List.cons_append, List.nil_append]
      refine r_icmp_ge (pc := 12) (tgt := 59) C dX2_missingParentId_12 (by decide) (fun c12 => ?_) (fun c12 => ?_)
      · exact absurd c12 (nI_ge ht (by omega))
      · refine r_aload_n (pc := 15) C dX2_missingParentId_15 rfl ?_
        refine r_getR (pc := 16) C dX2_missingParentId_16 fx_RX2_21 hC1.pG.gk hC1.pG.1.2.1 ?_
        refine r_iload_n (pc := 19) C dX2_missingParentId_19 rfl ?_
        refine r_callV (pc := 20) C (ct_get (by omega) (by omega) hL1 ht) iJx4a65c_get_915e3 ml_RX2_64 dX2_missingParentId_20 (ci := 0) rfl rfl hL1.k rfl (by decide) rfl (by simp [cv, Value.category, va_rf]) (by omega) (by omega) (fun r20 S20 h20 => ?_)
        obtain ⟨rfl, e20⟩ := h20
        subst S20
        dsimp only [Option.toList, List.cons_append, List.nil_append]
        refine r_cast (pc := 23) C dX2_missingParentId_23 (ci := 9) rfl kl_RX2_49 (hC1.pG.tk ht) ?_
        refine r_getI (pc := 26) C dX2_missingParentId_26 fx_RX2_57 (hC1.pG.tk ht) ?_
        rw [(hC1.pT t ht).1]
        refine r_iconst (pc := 29) C (nI 1) dX2_missingParentId_29 rfl ?_
        refine r_icmp_ne (pc := 30) (tgt := 53) C dX2_missingParentId_30 (by decide) (fun c30 => ?_) (fun c30 => ?_)
        · have em : mlO M n (t + 1) = mlO M n t := mlI_not c30 _
          have ev := ih S1 ⟨hC1, hg1, by rw [em]; exact hm1⟩
          rw [em] at ev
          refine r_iinc (pc := 53) C _ dX2_missingParentId_53 rfl (nI_1 _) (by decide) rfl ?_
          refine r_goto (pc := 56) (tgt := 4) C dX2_missingParentId_56 (by decide) ?_
          exact r_lv C [(0, vr (some go)), (1, vi x), (2, vi (nI _)), (3, vi (nI (t + 1)))] rfl ev
        · refine r_aload_n (pc := 33) C dX2_missingParentId_33 rfl ?_
          refine r_aload_n (pc := 34) C dX2_missingParentId_34 rfl ?_
          refine r_getR (pc := 35) C dX2_missingParentId_35 fx_RX2_21 hC1.pG.gk hC1.pG.1.2.1 ?_
          refine r_iload_n (pc := 38) C dX2_missingParentId_38 rfl ?_
          refine r_callV (pc := 39) C (ct_get (by omega) (by omega) hL1 ht) iJx4a65c_get_915e3 ml_RX2_64 dX2_missingParentId_39 (ci := 0) rfl rfl hL1.k rfl (by decide) rfl (by simp [cv, Value.category, va_rf]) (by omega) (by omega) (fun r39 S39 h39 => ?_)
          obtain ⟨rfl, e39⟩ := h39
          subst S39
          dsimp only [Option.toList, List.cons_append, List.nil_append]
          refine r_cast (pc := 42) C dX2_missingParentId_42 (ci := 9) rfl kl_RX2_49 (hC1.pG.tk ht) ?_
          refine r_getR (pc := 45) C dX2_missingParentId_45 fx_RX2_108 (hC1.pG.tk ht) h2.1 ?_
          refine r_iload_n (pc := 48) C dX2_missingParentId_48 rfl ?_
          refine r_callV (pc := 49) C (cg_addMiss hC1 hG hU hn ht c30 hm1) iX2_addMissing ml_RX2_213 dX2_missingParentId_49 (ci := 3) rfl rfl hC1.pG.gk rfl (by decide) rfl (by simp [cv, Value.category, va_rf]) (by omega) (by omega) (fun r49 S49 h49 => ?_)
          obtain ⟨rfl, hC2, hg2, hm2⟩ := h49
          dsimp only [Option.toList, List.cons_append, List.nil_append]
          have ev := ih _ ⟨hC2, hg1.tr hg2, hm2⟩
          refine r_istore_n (pc := 52) C dX2_missingParentId_52 (by decide) rfl ?_
          refine r_iinc (pc := 53) C _ dX2_missingParentId_53 rfl (nI_1 _) (by decide) rfl ?_
          refine r_goto (pc := 56) (tgt := 4) C dX2_missingParentId_56 (by decide) ?_
          exact r_lv C [(0, vr (some go)), (1, vi x), (2, vi (nI _)), (3, vi (nI (t + 1)))] rfl ev
  refine r_iconst (pc := 0) C (nI 0) dX2_missingParentId_0 rfl ?_
  refine r_istore_n (pc := 1) C dX2_missingParentId_1 (by decide) rfl ?_
  refine r_iconst (pc := 2) C (nI 0) dX2_missingParentId_2 rfl ?_
  refine r_istore_n (pc := 3) C dX2_missingParentId_3 (by decide) rfl ?_
  exact r_lv C [(0, vr (some go)), (1, vi x), (2, vi (nI (mlO M n 0).length)), (3, vi (nI 0))] rfl (L 0 S (by omega) ⟨hC, Ag.rf, fun y hy => by simp [mlO] at hy⟩)
end Missing
