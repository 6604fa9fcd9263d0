/-! The class: choices -/
def CO (S : hS) (co va wa : Nat) : Prop := sK S co = 2 ∧ sR S 101 co = some va ∧ sR S 102 co = some wa ∧ (sK S va = 41 ∧ sN S va = 8) ∧ sK S wa = 44 ∧ sN S wa = 8
def cput (S : hS) (co va wa : Nat) (G V W : Nat → Int32) : hS := (S.1, (fun f a => if (100 ≤ f ∧ f < 200) ∧ a = co then G (f - 100) else S.2.1 f a), S.2.2.1, S.2.2.2.1, S.2.2.2.2.1, (fun r a => if r = 41 ∧ a = va then V else if r = 44 ∧ a = wa then W else S.2.2.2.2.2.1 r a), S.2.2.2.2.2.2)
section CPut
variable {S : hS} {co va wa : Nat} {G V W G' V' W' : Nat → Int32}
theorem cp_g {k : Nat} (hk : k < 100) : sI (cput S co va wa G V W) (100 + k) co = G k := by
  show (if (100 ≤ 100 + k ∧ 100 + k < 200) ∧ co = co then G (100 + k - 100) else S.2.1 (100 + k) co) = G k
  rw [if_pos ⟨by omega, rfl⟩, Nat.add_sub_cancel_left]
theorem cp_s {k : Nat} {v : Int32} (hk : k < 100) : setI (cput S co va wa G V W) (100 + k) co v = cput S co va wa (upd G k v) V W := by
  unfold setI cput
  simp only [Prod.mk.injEq, true_and, and_true]
  funext f a
  simp only [u2, upd]
  by_cases hf : f = 100 + k
  · subst hf
    by_cases ha : a = co
    · subst ha; simp; omega
    · simp [ha]
  · simp only [if_neg hf]
    by_cases hc : (100 ≤ f ∧ f < 200) ∧ a = co
    · rw [if_pos hc, if_pos hc, if_neg (by omega)]
    · rw [if_neg hc, if_neg hc]
theorem cp_v : aI (cput S co va wa G V W) 41 va = V := if_pos ⟨rfl, rfl⟩
theorem cp_w : aI (cput S co va wa G V W) 44 wa = W := by
  show (if 44 = 41 ∧ wa = va then V else if 44 = 44 ∧ wa = wa then W else S.2.2.2.2.2.1 44 wa) = W
  rw [if_neg (by omega), if_pos ⟨rfl, rfl⟩]
theorem cp_pv : putI (cput S co va wa G V W) 41 va V' = cput S co va wa G V' W := by
  unfold putI cput
  simp only [Prod.mk.injEq, true_and, and_true]
  funext r a
  simp only [u2r]
  by_cases hr : r = 41
  · subst hr
    by_cases ha : a = va
    · simp [ha]
    · simp [ha]
  · simp [hr]
theorem cp_pw : putI (cput S co va wa G V W) 44 wa W' = cput S co va wa G V W' := by
  unfold putI cput
  simp only [Prod.mk.injEq, true_and, and_true]
  funext r a
  simp only [u2r]
  by_cases hr : r = 44
  · subst hr
    by_cases ha : a = wa
    · simp [ha]
    · simp [ha]
  · simp [hr]
theorem cp_id : cput S co va wa (fun k => sI S (100 + k) co) (aI S 41 va) (aI S 44 wa) = S := by
  obtain ⟨s1, s2, s3, s4, s5, s6, s7, s8⟩ := S
  unfold cput
  simp only [Prod.mk.injEq, true_and, and_true]
  refine ⟨?_, ?_⟩
  · funext f a
    split
    · next h =>
      obtain ⟨h1, rfl⟩ := h
      show s2 (100 + (f - 100)) a = s2 f a
      rw [show 100 + (f - 100) = f by omega]
    · rfl
  · funext r a
    split
    · next h => obtain ⟨rfl, rfl⟩ := h; rfl
    · split
      · next h => obtain ⟨rfl, rfl⟩ := h; rfl
      · rfl
theorem cg_0 : sI (cput S co va wa G V W) 100 co = G 0 := cp_g (k := 0) (by omega)
theorem cs_0 {v : Int32} : setI (cput S co va wa G V W) 100 co v = cput S co va wa (upd G 0 v) V W := cp_s (k := 0) (by omega)
theorem cg_1 : sI (cput S co va wa G V W) 101 co = G 1 := cp_g (k := 1) (by omega)
theorem cs_1 {v : Int32} : setI (cput S co va wa G V W) 101 co v = cput S co va wa (upd G 1 v) V W := cp_s (k := 1) (by omega)
theorem cg_2 : sI (cput S co va wa G V W) 102 co = G 2 := cp_g (k := 2) (by omega)
theorem cs_2 {v : Int32} : setI (cput S co va wa G V W) 102 co v = cput S co va wa (upd G 2 v) V W := cp_s (k := 2) (by omega)
theorem cg_3 : sI (cput S co va wa G V W) 103 co = G 3 := cp_g (k := 3) (by omega)
theorem cs_3 {v : Int32} : setI (cput S co va wa G V W) 103 co v = cput S co va wa (upd G 3 v) V W := cp_s (k := 3) (by omega)
theorem cg_4 : sI (cput S co va wa G V W) 104 co = G 4 := cp_g (k := 4) (by omega)
theorem cs_4 {v : Int32} : setI (cput S co va wa G V W) 104 co v = cput S co va wa (upd G 4 v) V W := cp_s (k := 4) (by omega)
theorem cg_5 : sI (cput S co va wa G V W) 105 co = G 5 := cp_g (k := 5) (by omega)
theorem cs_5 {v : Int32} : setI (cput S co va wa G V W) 105 co v = cput S co va wa (upd G 5 v) V W := cp_s (k := 5) (by omega)
theorem cg_6 : sI (cput S co va wa G V W) 106 co = G 6 := cp_g (k := 6) (by omega)
theorem cs_6 {v : Int32} : setI (cput S co va wa G V W) 106 co v = cput S co va wa (upd G 6 v) V W := cp_s (k := 6) (by omega)
theorem cg_7 : sI (cput S co va wa G V W) 107 co = G 7 := cp_g (k := 7) (by omega)
theorem cs_7 {v : Int32} : setI (cput S co va wa G V W) 107 co v = cput S co va wa (upd G 7 v) V W := cp_s (k := 7) (by omega)
theorem cg_8 : sI (cput S co va wa G V W) 108 co = G 8 := cp_g (k := 8) (by omega)
theorem cs_8 {v : Int32} : setI (cput S co va wa G V W) 108 co v = cput S co va wa (upd G 8 v) V W := cp_s (k := 8) (by omega)
theorem cg_9 : sI (cput S co va wa G V W) 109 co = G 9 := cp_g (k := 9) (by omega)
theorem cs_9 {v : Int32} : setI (cput S co va wa G V W) 109 co v = cput S co va wa (upd G 9 v) V W := cp_s (k := 9) (by omega)
theorem cg_10 : sI (cput S co va wa G V W) 110 co = G 10 := cp_g (k := 10) (by omega)
theorem cs_10 {v : Int32} : setI (cput S co va wa G V W) 110 co v = cput S co va wa (upd G 10 v) V W := cp_s (k := 10) (by omega)
end CPut
def hcB (G : Nat → Int32) (c : Int32) : Bool := !dlt c 0 && dlt c (G 4)
def fAny (G : Nat → Int32) (w : Option Nat) : Nat → Int32 := match w with
  | none => G
  | some k => upd (upd G 6 (nI k)) 8 (G 8 + nI 1)
def fRow (G : Nat → Int32) (w : Option Nat) : Nat → Int32 := match w with
  | none => upd G 8 (nI 0)
  | some k => upd (upd G 8 (if nI k = G 6 then G 8 + nI 1 else nI 1)) 6 (nI k)
def fWei (G W : Nat → Int32) (w : Option Nat) : (Nat → Int32) × (Nat → Int32) := match w with
  | none => (upd (upd G 8 (nI 0)) 7 (-1), W)
  | some k => (upd (upd (if G 6 = -1 ∨ upd W k (W k + nI 1) (G 6).toNatClampNeg < upd W k (W k + nI 1) k then upd G 6 (nI k) else G) 8 (if nI k = G 7 then G 8 + nI 1 else nI 1)) 7 (nI k), upd W k (W k + nI 1))
def fMid (G W : Nat → Int32) (w : Option Nat) : (Nat → Int32) × (Nat → Int32) := if G 3 = 0 then (fAny G w, W) else if G 3 = nI 1 then (fRow G w, W) else fWei G W w
def fEnd (G : Nat → Int32) : Nat → Int32 := upd G 10 (bi (!decide (G 6 = -1) && !dlt (G 8) (G 5)))
theorem fstU_le {f : Nat → Bool} {m k : Nat} (h : fstU f m = some k) : ∀ {n}, m ≤ n → fstU f n = some k := by
  intro n
  induction n with
  | zero =>
    intro hn
    have : m = 0 := by omega
    subst this
    exact h
  | succ n ih =>
    intro hn
    by_cases e : m = n + 1
    · subst e; exact h
    · show (match fstU f n with | some k => some k | none => if f n then some n else none) = some k
      rw [ih (by omega)]
section ChoiceC
variable {l : Launch} {g : GG} {S : hS} {co va wa : Nat} {G V W : Nat → Int32}
theorem oI_m1 {w : Option Nat} (hw : ∀ u, w = some u → u < 1000) : oI w = -1 ↔ w = none := by
  cases w with
  | none => exact ⟨fun _ => rfl, fun _ => rfl⟩
  | some u =>
    refine ⟨fun h => ?_, fun h => by cases h⟩
    have h1 : nI u = -1 := h
    have h2 := nI_pos (n := u) (by have := hw u rfl; omega)
    rw [h1] at h2
    exact absurd (by decide) h2
theorem cl_hasCol {c : Int32} (hC : CO S co va wa) : Sp l g mX0_hasColour 0 0 [vr (some co), vi c] (cput S co va wa G V W) (fun r S' => r = some (vi (bi (hcB G c))) ∧ S' = cput S co va wa G V W) := by
  have hk : sK (cput S co va wa G V W) co = 1 + 1 := hC.1
  refine Sp.start (own := RX0) [(0, vr (some co)), (1, vi c)] (by decide +kernel) rfl rfl (Nat.le_of_ble_eq_true rfl) ?_
  intro J C
  refine r_iload_n (pc := 0) C dX0_hasColour_0 rfl ?_
  refine r_if_lt (pc := 1) (tgt := 16) C dX0_hasColour_1 (by decide) (fun c1 => ?_) (fun c1 => ?_)
  · have e : hcB G c = false := by unfold hcB; rw [dlt_t c1]; rfl
    refine r_iconst (pc := 16) C (nI 0) dX0_hasColour_16 rfl ?_
    refine r_zret (pc := 17) C dX0_hasColour_17 rfl (by first | exact Or.inl rfl | exact Or.inr rfl | assumption) (by omega) (by omega) ?_
    exact ⟨by rw [e]; rfl, rfl⟩
  · refine r_iload_n (pc := 4) C dX0_hasColour_4 rfl ?_
    refine r_aload_n (pc := 5) C dX0_hasColour_5 rfl ?_
    refine r_getI (pc := 6) C dX0_hasColour_6 fx_RX0_25 (by assumption) ?_
    rw [cg_4]
    refine r_icmp_ge (pc := 9) (tgt := 16) C dX0_hasColour_9 (by decide) (fun c9 => ?_) (fun c9 => ?_)
    · have e : hcB G c = false := by unfold hcB; rw [dlt_f c9, Bool.and_false]
      refine r_iconst (pc := 16) C (nI 0) dX0_hasColour_16 rfl ?_
      refine r_zret (pc := 17) C dX0_hasColour_17 rfl (by first | exact Or.inl rfl | exact Or.inr rfl | assumption) (by omega) (by omega) ?_
      exact ⟨by rw [e]; rfl, rfl⟩
    · have e : hcB G c = true := by unfold hcB; rw [dlt_f (Int32.not_lt.mp c1), dlt_t (Int32.not_le.mp c9)]; rfl
      refine r_iconst (pc := 12) C (nI 1) dX0_hasColour_12 rfl ?_
      refine r_goto (pc := 13) (tgt := 17) C dX0_hasColour_13 (by decide) ?_
      refine r_zret (pc := 17) C dX0_hasColour_17 rfl (by first | exact Or.inl rfl | exact Or.inr rfl | assumption) (by omega) (by omega) ?_
      exact ⟨by rw [e]; rfl, rfl⟩
theorem cl_weightAt {c : Int32} {cs : Nat} (hC : CO S co va wa) (hcs : G 4 = nI cs) (hcs2 : cs ≤ 8) : Sp l g mX0_weightAt 0 0 [vr (some co), vi c] (cput S co va wa G V W) (fun r S' => r = some (vi (if hcB G c then W c.toNatClampNeg else -1)) ∧ S' = cput S co va wa G V W) := by
  have hk : sK (cput S co va wa G V W) co = 1 + 1 := hC.1
  have hw : sR (cput S co va wa G V W) 102 co = some wa := hC.2.2.1
  have kw : sK (cput S co va wa G V W) wa = 44 := hC.2.2.2.2.1
  have nw : sN (cput S co va wa G V W) wa = 8 := hC.2.2.2.2.2
  refine Sp.start (own := RX0) [(0, vr (some co)), (1, vi c)] (by decide +kernel) rfl rfl (Nat.le_of_ble_eq_true rfl) ?_
  intro J C
  refine r_aload_n (pc := 0) C dX0_weightAt_0 rfl ?_
  refine r_iload_n (pc := 1) C dX0_weightAt_1 rfl ?_
  refine r_callV (pc := 2) C (cl_hasCol hC) iX0_hasColour ml_RX0_53 dX0_weightAt_2 (ci := 1) rfl rfl (by assumption) rfl (by decide) rfl (by simp [cv, Value.category, va_rf]) (by omega) (by omega) (fun r2 S2 h2 => ?_)
  obtain ⟨rfl, e2⟩ := h2
  subst S2
  dsimp only [Option.toList, List.cons_append, List.nil_append]
  refine r_if_eq (pc := 5) (tgt := 17) C dX0_weightAt_5 (by decide) (fun c5 => ?_) (fun c5 => ?_)
  · rw [bi_0] at c5
    refine r_iconst (pc := 17) C (-1) dX0_weightAt_17 rfl ?_
    refine r_iret (pc := 18) C dX0_weightAt_18 rfl (by omega) (by omega) ?_
    first | exact ⟨by rw [c5t, nI_clamp hj]; rfl, rfl⟩ | exact ⟨by rw [c5]; rfl, rfl⟩
  · rw [bi_0] at c5
    have c5t := ts_nf c5
    have hc2 : ¬ c < 0 ∧ c < nI cs := by
      unfold hcB at c5t
      rw [Bool.and_eq_true, Bool.not_eq_true'] at c5t
      refine ⟨fun q => ?_, ?_⟩
      · rw [dlt_t q] at c5t; cases c5t.1
      · rw [← hcs]; exact of_decide_eq_true c5t.2
    obtain ⟨j, hj, rfl⟩ := nI_of hc2.1
    have hj8 : j < 8 := by have := (nI_ltI hj (by omega)).mp hc2.2; omega
    refine r_aload_n (pc := 8) C dX0_weightAt_8 rfl ?_
    refine r_getR (pc := 9) C dX0_weightAt_9 fx_RX0_19 (by assumption) (by first | assumption | rfl) ?_
    refine r_iload_n (pc := 12) C dX0_weightAt_12 rfl ?_
    refine r_iald (pc := 13) C dX0_weightAt_13 (by assumption) (by decide) (by assumption) (by first | assumption | exact vp_in_nI (by omega) (by omega)) (by first | exact nI_clamp (by omega) | rfl) ?_
    rw [cp_w]
    refine r_goto (pc := 14) (tgt := 18) C dX0_weightAt_14 (by decide) ?_
    refine r_iret (pc := 18) C dX0_weightAt_18 rfl (by omega) (by omega) ?_
    first | exact ⟨by rw [c5t, nI_clamp hj]; rfl, rfl⟩ | exact ⟨by rw [c5]; rfl, rfl⟩
theorem cl_addVotes {c : Nat} {n : Int32} (hC : CO S co va wa) (hc : c < 8) : Sp l g mX0_addVotes 0 0 [vr (some co), vi (nI c), vi n] (cput S co va wa G V W) (fun r S' => r = none ∧ S' = cput S co va wa (upd G 9 (G 9 + n)) (upd V c (V c + n)) W) := by
  have hk : ∀ G V, sK (cput S co va wa G V W) co = 1 + 1 := fun _ _ => hC.1
  have hv : sR (cput S co va wa G V W) 101 co = some va := hC.2.1
  have kv : sK (cput S co va wa G V W) va = 41 := hC.2.2.2.1.1
  have nv : sN (cput S co va wa G V W) va = 8 := hC.2.2.2.1.2
  refine Sp.start (own := RX0) [(0, vr (some co)), (1, vi (nI c)), (2, vi n)] (by decide +kernel) rfl rfl (Nat.le_of_ble_eq_true rfl) ?_
  intro J C
  refine r_aload_n (pc := 0) C dX0_addVotes_0 rfl ?_
  refine r_getR (pc := 1) C dX0_addVotes_1 fx_RX0_15 (hk _ _) (by first | assumption | rfl) ?_
  refine r_iload_n (pc := 4) C dX0_addVotes_4 rfl ?_
  refine r_dup2 (pc := 5) C dX0_addVotes_5 rfl rfl ?_
  refine r_iald (pc := 6) C dX0_addVotes_6 (by assumption) (by decide) (by assumption) (by first | assumption | exact vp_in_nI (by omega) (by omega)) (by first | exact nI_clamp (by omega) | rfl) ?_
  rw [cp_v]
  refine r_iload_n (pc := 7) C dX0_addVotes_7 rfl ?_
  refine r_iadd (pc := 8) C dX0_addVotes_8 ?_
  refine r_iast (pc := 9) C dX0_addVotes_9 (by assumption) (by decide) (by assumption) (by first | assumption | exact vp_in_nI (by omega) (by omega)) (by first | exact nI_clamp (by omega) | rfl) ?_
  rw [cp_v, cp_pv]
  refine r_aload_n (pc := 10) C dX0_addVotes_10 rfl ?_
  refine r_dup (pc := 11) C dX0_addVotes_11 rfl ?_
  refine r_getI (pc := 12) C dX0_addVotes_12 fx_RX0_57 (hk _ _) ?_
  rw [cg_9]
  refine r_iload_n (pc := 15) C dX0_addVotes_15 rfl ?_
  refine r_iadd (pc := 16) C dX0_addVotes_16 ?_
  refine r_putI (pc := 17) C dX0_addVotes_17 fx_RX0_57 (fp_1_9 _) (hk _ _) ?_
  rw [cs_9]
  refine r_ret (pc := 20) C dX0_addVotes_20 rfl (by omega) (by omega) ?_
  exact ⟨rfl, rfl⟩
theorem cl_clear (hC : CO S co va wa) : Sp l g mX0_clearVotes 0 0 [vr (some co)] (cput S co va wa G V W) (fun r S' => r = none ∧ S' = cput S co va wa (upd G 9 (nI 0)) (filF V (nI 0) 8) W) := by
  have hk : ∀ G V, sK (cput S co va wa G V W) co = 1 + 1 := fun _ _ => hC.1
  have hv : sR (cput S co va wa G V W) 101 co = some va := hC.2.1
  have kv : sK (cput S co va wa G V W) va = 41 := hC.2.2.2.1.1
  have nv : sN (cput S co va wa G V W) va = 8 := hC.2.2.2.1.2
  refine Sp.start (own := RX0) [(0, vr (some co))] (by decide +kernel) rfl rfl (Nat.le_of_ble_eq_true rfl) ?_
  intro J C
  refine r_aload_n (pc := 0) C dX0_clearVotes_0 rfl ?_
  refine r_getR (pc := 1) C dX0_clearVotes_1 fx_RX0_15 (hk _ _) (by first | assumption | rfl) ?_
  refine r_iconst (pc := 4) C (nI 0) dX0_clearVotes_4 rfl ?_
  refine r_callS (pc := 5) C (ct_fill (r := 41) (n := 8) kv (by decide) nv (by decide)) iJ7_fill_53178 ml_RX0_44 dX0_clearVotes_5 rfl (by decide) rfl (by simp [cv, Value.category, va_rf]) (by omega) (by omega) (fun r5 S5 h5 => ?_)
  obtain ⟨rfl, e5⟩ := h5
  dsimp only [Option.toList, List.cons_append, List.nil_append]
  rw [cp_v, cp_pv] at e5
  subst e5
  refine r_aload_n (pc := 8) C dX0_clearVotes_8 rfl ?_
  refine r_iconst (pc := 9) C (nI 0) dX0_clearVotes_9 rfl ?_
  refine r_putI (pc := 10) C dX0_clearVotes_10 fx_RX0_57 (fp_1_9 _) (hk _ _) ?_
  rw [cs_9]
  refine r_ret (pc := 13) C dX0_clearVotes_13 rfl (by omega) (by omega) ?_
  exact ⟨rfl, rfl⟩
theorem cl_winner {cs : Nat} (hC : CO S co va wa) (hcs : G 4 = nI cs) (hcs2 : cs ≤ 8) : Sp l g mX0_findWinner 0 0 [vr (some co)] (cput S co va wa G V W) (fun r S' => r = some (vi (oI (fstU (fun c => !dlt (V c) (G 0)) cs))) ∧ S' = cput S co va wa G V W) := by
  have hk : sK (cput S co va wa G V W) co = 1 + 1 := hC.1
  have hv : sR (cput S co va wa G V W) 101 co = some va := hC.2.1
  have kv : sK (cput S co va wa G V W) va = 41 := hC.2.2.2.1.1
  have nv : sN (cput S co va wa G V W) va = 8 := hC.2.2.2.1.2
  refine Sp.start (own := RX0) [(0, vr (some co))] (by decide +kernel) rfl rfl (Nat.le_of_ble_eq_true rfl) ?_
  intro J C
  have L : ∀ i (u : Unit), i ≤ cs → fstU (fun c => !dlt (V c) (G 0)) i = none → J 2 [(0, vr (some co)), (1, vi (nI i))] [] (cput S co va wa G V W) 0 0 := by
    refine up_loop _ _ _ ?_ ?_
    · intro u hu
      refine r_iload_n (pc := 2) C dX0_findWinner_2 rfl ?_
      refine r_aload_n (pc := 3) C dX0_findWinner_3 rfl ?_
      refine r_getI (pc := 4) C dX0_findWinner_4 fx_RX0_25 (by assumption) ?_
      rw [cg_4, hcs]
      refine r_icmp_ge (pc := 7) (tgt := 31) C dX0_findWinner_7 (by decide) (fun c7 => ?_) (fun c7 => ?_)
      · refine r_iconst (pc := 31) C (-1) dX0_findWinner_31 rfl ?_
        refine r_iret (pc := 32) C dX0_findWinner_32 rfl (by omega) (by omega) ?_
        exact ⟨by rw [hu]; rfl, rfl⟩
      · exact absurd (Int32.le_refl _) c7
    · intro i u hi hu ih
      refine r_iload_n (pc := 2) C dX0_findWinner_2 rfl ?_
      refine r_aload_n (pc := 3) C dX0_findWinner_3 rfl ?_
      refine r_getI (pc := 4) C dX0_findWinner_4 fx_RX0_25 (by assumption) ?_
      rw [cg_4, hcs]
      refine r_icmp_ge (pc := 7) (tgt := 31) C dX0_findWinner_7 (by decide) (fun c7 => ?_) (fun c7 => ?_)
      · exact absurd c7 (nI_ge hi (by omega))
      · refine r_aload_n (pc := 10) C dX0_findWinner_10 rfl ?_
        refine r_getR (pc := 11) C dX0_findWinner_11 fx_RX0_15 (by assumption) (by first | assumption | rfl) ?_
        refine r_iload_n (pc := 14) C dX0_findWinner_14 rfl ?_
        refine r_iald (pc := 15) C dX0_findWinner_15 (by assumption) (by decide) (by assumption) (by first | assumption | exact vp_in_nI (by omega) (by omega)) (by first | exact nI_clamp (by omega) | rfl) ?_
        rw [cp_v]
        refine r_aload_n (pc := 16) C dX0_findWinner_16 rfl ?_
        refine r_getI (pc := 17) C dX0_findWinner_17 fx_RX0_9 (by assumption) ?_
        rw [cg_0]
        refine r_icmp_lt (pc := 20) (tgt := 25) C dX0_findWinner_20 (by decide) (fun c20 => ?_) (fun c20 => ?_)
        · refine r_iinc (pc := 25) C _ dX0_findWinner_25 rfl (nI_1 _) (by decide) rfl ?_
          refine r_goto (pc := 28) (tgt := 2) C dX0_findWinner_28 (by decide) ?_
          exact r_lv C [(0, vr (some co)), (1, vi (nI (i + 1)))] rfl (ih u (by rw [fstU_f (by rw [dlt_t c20]; rfl)]; exact hu))
        · have e : fstU (fun c => !dlt (V c) (G 0)) (i + 1) = some i := fstU_t (by rw [dlt_f (Int32.not_lt.mp c20)]; rfl) hu
          have e2 : fstU (fun c => !dlt (V c) (G 0)) cs = some i := fstU_le e (by omega)
          refine r_iload_n (pc := 23) C dX0_findWinner_23 rfl ?_
          refine r_iret (pc := 24) C dX0_findWinner_24 rfl (by omega) (by omega) ?_
          exact ⟨by rw [e2]; rfl, rfl⟩
  refine r_iconst (pc := 0) C (nI 0) dX0_findWinner_0 rfl ?_
  refine r_istore_n (pc := 1) C dX0_findWinner_1 (by decide) rfl ?_
  exact r_lv C [(0, vr (some co)), (1, vi (nI 0))] rfl (L 0 () (by omega) rfl)
theorem cl_any {w : Option Nat} (hC : CO S co va wa) (hw : ∀ u, w = some u → u < 1000) : Sp l g mX0_followAny 0 0 [vr (some co), vi (oI w)] (cput S co va wa G V W) (fun r S' => r = none ∧ S' = cput S co va wa (fAny G w) V W) := by
  have hk : ∀ G, sK (cput S co va wa G V W) co = 1 + 1 := fun _ => hC.1
  refine Sp.start (own := RX0) [(0, vr (some co)), (1, vi (oI w))] (by decide +kernel) rfl rfl (Nat.le_of_ble_eq_true rfl) ?_
  intro J C
  cases w with
  | none =>
    refine r_iload_n (pc := 0) C dX0_followAny_0 rfl ?_
    refine r_iconst (pc := 1) C (-1) dX0_followAny_1 rfl ?_
    refine r_icmp_eq (pc := 2) (tgt := 20) C dX0_followAny_2 (by decide) (fun c2 => ?_) (fun c2 => ?_)
    · refine r_ret (pc := 20) C dX0_followAny_20 rfl (by omega) (by omega) ?_
      exact ⟨rfl, rfl⟩
    · exact absurd rfl c2
  | some u =>
    refine r_iload_n (pc := 0) C dX0_followAny_0 rfl ?_
    refine r_iconst (pc := 1) C (-1) dX0_followAny_1 rfl ?_
    refine r_icmp_eq (pc := 2) (tgt := 20) C dX0_followAny_2 (by decide) (fun c2 => ?_) (fun c2 => ?_)
    · exact absurd ((oI_m1 hw).mp c2) (by simp)
    · refine r_aload_n (pc := 5) C dX0_followAny_5 rfl ?_
      refine r_iload_n (pc := 6) C dX0_followAny_6 rfl ?_
      refine r_putI (pc := 7) C dX0_followAny_7 fx_RX0_31 (fp_1_6 _) (hk _) ?_
      rw [cs_6]
      refine r_aload_n (pc := 10) C dX0_followAny_10 rfl ?_
      refine r_dup (pc := 11) C dX0_followAny_11 rfl ?_
      refine r_getI (pc := 12) C dX0_followAny_12 fx_RX0_37 (hk _) ?_
      rw [cg_8]
      refine r_iconst (pc := 15) C (nI 1) dX0_followAny_15 rfl ?_
      refine r_iadd (pc := 16) C dX0_followAny_16 ?_
      refine r_putI (pc := 17) C dX0_followAny_17 fx_RX0_37 (fp_1_8 _) (hk _) ?_
      rw [cs_8]
      refine r_ret (pc := 20) C dX0_followAny_20 rfl (by omega) (by omega) ?_
      exact ⟨rfl, rfl⟩
theorem cl_row {w : Option Nat} (hC : CO S co va wa) (hw : ∀ u, w = some u → u < 1000) : Sp l g mX0_followRow 0 0 [vr (some co), vi (oI w)] (cput S co va wa G V W) (fun r S' => r = none ∧ S' = cput S co va wa (fRow G w) V W) := by
  have hk : ∀ G, sK (cput S co va wa G V W) co = 1 + 1 := fun _ => hC.1
  refine Sp.start (own := RX0) [(0, vr (some co)), (1, vi (oI w))] (by decide +kernel) rfl rfl (Nat.le_of_ble_eq_true rfl) ?_
  intro J C
  cases w with
  | none =>
    refine r_iload_n (pc := 0) C dX0_followRow_0 rfl ?_
    refine r_iconst (pc := 1) C (-1) dX0_followRow_1 rfl ?_
    refine r_icmp_ne (pc := 2) (tgt := 13) C dX0_followRow_2 (by decide) (fun c2 => ?_) (fun c2 => ?_)
    · exact absurd rfl c2
    · refine r_aload_n (pc := 5) C dX0_followRow_5 rfl ?_
      refine r_iconst (pc := 6) C (nI 0) dX0_followRow_6 rfl ?_
      refine r_putI (pc := 7) C dX0_followRow_7 fx_RX0_37 (fp_1_8 _) (hk _) ?_
      rw [cs_8]
      refine r_goto (pc := 10) (tgt := 40) C dX0_followRow_10 (by decide) ?_
      refine r_ret (pc := 40) C dX0_followRow_40 rfl (by omega) (by omega) ?_
      exact ⟨rfl, rfl⟩
  | some u =>
    refine r_iload_n (pc := 0) C dX0_followRow_0 rfl ?_
    refine r_iconst (pc := 1) C (-1) dX0_followRow_1 rfl ?_
    refine r_icmp_ne (pc := 2) (tgt := 13) C dX0_followRow_2 (by decide) (fun c2 => ?_) (fun c2 => ?_)
    · refine r_aload_n (pc := 13) C dX0_followRow_13 rfl ?_
      refine r_iload_n (pc := 14) C dX0_followRow_14 rfl ?_
      refine r_aload_n (pc := 15) C dX0_followRow_15 rfl ?_
      refine r_getI (pc := 16) C dX0_followRow_16 fx_RX0_31 (hk _) ?_
      rw [cg_6]
      refine r_icmp_ne (pc := 19) (tgt := 31) C dX0_followRow_19 (by decide) (fun c19 => ?_) (fun c19 => ?_)
      · refine r_iconst (pc := 31) C (nI 1) dX0_followRow_31 rfl ?_
        refine r_putI (pc := 32) C dX0_followRow_32 fx_RX0_37 (fp_1_8 _) (hk _) ?_
        rw [cs_8]
        refine r_aload_n (pc := 35) C dX0_followRow_35 rfl ?_
        refine r_iload_n (pc := 36) C dX0_followRow_36 rfl ?_
        refine r_putI (pc := 37) C dX0_followRow_37 fx_RX0_31 (fp_1_6 _) (hk _) ?_
        rw [cs_6]
        refine r_ret (pc := 40) C dX0_followRow_40 rfl (by omega) (by omega) ?_
        first | exact ⟨rfl, by rw [fRow, if_pos (show nI u = G 6 from c19)]; rfl⟩ | exact ⟨rfl, by rw [fRow, if_neg (show ¬ nI u = G 6 from c19)]; rfl⟩
      · refine r_aload_n (pc := 22) C dX0_followRow_22 rfl ?_
        refine r_getI (pc := 23) C dX0_followRow_23 fx_RX0_37 (hk _) ?_
        rw [cg_8]
        refine r_iconst (pc := 26) C (nI 1) dX0_followRow_26 rfl ?_
        refine r_iadd (pc := 27) C dX0_followRow_27 ?_
        refine r_goto (pc := 28) (tgt := 32) C dX0_followRow_28 (by decide) ?_
        refine r_putI (pc := 32) C dX0_followRow_32 fx_RX0_37 (fp_1_8 _) (hk _) ?_
        rw [cs_8]
        refine r_aload_n (pc := 35) C dX0_followRow_35 rfl ?_
        refine r_iload_n (pc := 36) C dX0_followRow_36 rfl ?_
        refine r_putI (pc := 37) C dX0_followRow_37 fx_RX0_31 (fp_1_6 _) (hk _) ?_
        rw [cs_6]
        refine r_ret (pc := 40) C dX0_followRow_40 rfl (by omega) (by omega) ?_
        first | exact ⟨rfl, by rw [fRow, if_pos (show nI u = G 6 from c19)]; rfl⟩ | exact ⟨rfl, by rw [fRow, if_neg (show ¬ nI u = G 6 from c19)]; rfl⟩
    · exact absurd ((oI_m1 hw).mp c2) (by simp)
theorem cl_wei {w : Option Nat} (hC : CO S co va wa) (hw : ∀ u, w = some u → u < 8) (h6 : G 6 = -1 ∨ ∃ v, v < 8 ∧ G 6 = nI v) : Sp l g mX0_followWeight 0 0 [vr (some co), vi (oI w)] (cput S co va wa G V W) (fun r S' => r = none ∧ S' = cput S co va wa (fWei G W w).1 V (fWei G W w).2) := by
  have hk : ∀ G W, sK (cput S co va wa G V W) co = 1 + 1 := fun _ _ => hC.1
  have hww : ∀ G W, sR (cput S co va wa G V W) 102 co = some wa := fun _ _ => hC.2.2.1
  have kw : ∀ G W, sK (cput S co va wa G V W) wa = 44 := fun _ _ => hC.2.2.2.2.1
  have nw : ∀ G W, sN (cput S co va wa G V W) wa = 8 := fun _ _ => hC.2.2.2.2.2
  refine Sp.start (own := RX0) [(0, vr (some co)), (1, vi (oI w))] (by decide +kernel) rfl rfl (Nat.le_of_ble_eq_true rfl) ?_
  intro J C
  cases w with
  | none =>
    refine r_iload_n (pc := 0) C dX0_followWeight_0 rfl ?_
    refine r_iconst (pc := 1) C (-1) dX0_followWeight_1 rfl ?_
    refine r_icmp_ne (pc := 2) (tgt := 13) C dX0_followWeight_2 (by decide) (fun c2 => ?_) (fun c2 => ?_)
    · exact absurd rfl c2
    · refine r_aload_n (pc := 5) C dX0_followWeight_5 rfl ?_
      refine r_iconst (pc := 6) C (nI 0) dX0_followWeight_6 rfl ?_
      refine r_putI (pc := 7) C dX0_followWeight_7 fx_RX0_37 (fp_1_8 _) (hk _ _) ?_
      rw [cs_8]
      refine r_goto (pc := 10) (tgt := 76) C dX0_followWeight_10 (by decide) ?_
      refine r_aload_n (pc := 76) C dX0_followWeight_76 rfl ?_
      refine r_iload_n (pc := 77) C dX0_followWeight_77 rfl ?_
      refine r_putI (pc := 78) C dX0_followWeight_78 fx_RX0_34 (fp_1_7 _) (hk _ _) ?_
      rw [cs_7]
      refine r_ret (pc := 81) C dX0_followWeight_81 rfl (by omega) (by omega) ?_
      exact ⟨rfl, rfl⟩
  | some u =>
    have hu := hw u rfl
    have P : ∀ G1, G1 8 = G 8 → G1 7 = G 7 → G1 = (if G 6 = -1 ∨ upd W u (W u + nI 1) (G 6).toNatClampNeg < upd W u (W u + nI 1) u then upd G 6 (nI u) else G) → J 54 [(0, vr (some co)), (1, vi (nI u))] [] (cput S co va wa G1 V (upd W u (W u + nI 1))) 0 0 := by
      intro G1 h8 h7 hG
      refine r_aload_n (pc := 54) C dX0_followWeight_54 rfl ?_
      refine r_iload_n (pc := 55) C dX0_followWeight_55 rfl ?_
      refine r_aload_n (pc := 56) C dX0_followWeight_56 rfl ?_
      refine r_getI (pc := 57) C dX0_followWeight_57 fx_RX0_34 (hk _ _) ?_
      rw [cg_7]
      refine r_icmp_ne (pc := 60) (tgt := 72) C dX0_followWeight_60 (by decide) (fun c60 => ?_) (fun c60 => ?_)
      · refine r_iconst (pc := 72) C (nI 1) dX0_followWeight_72 rfl ?_
        refine r_putI (pc := 73) C dX0_followWeight_73 fx_RX0_37 (fp_1_8 _) (hk _ _) ?_
        rw [cs_8]
        refine r_aload_n (pc := 76) C dX0_followWeight_76 rfl ?_
        refine r_iload_n (pc := 77) C dX0_followWeight_77 rfl ?_
        refine r_putI (pc := 78) C dX0_followWeight_78 fx_RX0_34 (fp_1_7 _) (hk _ _) ?_
        rw [cs_7]
        refine r_ret (pc := 81) C dX0_followWeight_81 rfl (by omega) (by omega) ?_
        first | exact ⟨rfl, by simp only [fWei]; rw [← hG, if_pos (show nI u = G 7 from by rw [← h7]; exact c60), h8]⟩ | exact ⟨rfl, by simp only [fWei]; rw [← hG, if_neg (show ¬ nI u = G 7 from by rw [← h7]; exact c60)]⟩
      · refine r_aload_n (pc := 63) C dX0_followWeight_63 rfl ?_
        refine r_getI (pc := 64) C dX0_followWeight_64 fx_RX0_37 (hk _ _) ?_
        rw [cg_8]
        refine r_iconst (pc := 67) C (nI 1) dX0_followWeight_67 rfl ?_
        refine r_iadd (pc := 68) C dX0_followWeight_68 ?_
        refine r_goto (pc := 69) (tgt := 73) C dX0_followWeight_69 (by decide) ?_
        refine r_putI (pc := 73) C dX0_followWeight_73 fx_RX0_37 (fp_1_8 _) (hk _ _) ?_
        rw [cs_8]
        refine r_aload_n (pc := 76) C dX0_followWeight_76 rfl ?_
        refine r_iload_n (pc := 77) C dX0_followWeight_77 rfl ?_
        refine r_putI (pc := 78) C dX0_followWeight_78 fx_RX0_34 (fp_1_7 _) (hk _ _) ?_
        rw [cs_7]
        refine r_ret (pc := 81) C dX0_followWeight_81 rfl (by omega) (by omega) ?_
        first | exact ⟨rfl, by simp only [fWei]; rw [← hG, if_pos (show nI u = G 7 from by rw [← h7]; exact c60), h8]⟩ | exact ⟨rfl, by simp only [fWei]; rw [← hG, if_neg (show ¬ nI u = G 7 from by rw [← h7]; exact c60)]⟩
    refine r_iload_n (pc := 0) C dX0_followWeight_0 rfl ?_
    refine r_iconst (pc := 1) C (-1) dX0_followWeight_1 rfl ?_
    refine r_icmp_ne (pc := 2) (tgt := 13) C dX0_followWeight_2 (by decide) (fun c2 => ?_) (fun c2 => ?_)
    · refine r_aload_n (pc := 13) C dX0_followWeight_13 rfl ?_
      refine r_getR (pc := 14) C dX0_followWeight_14 fx_RX0_19 (hk _ _) (hww _ _) ?_
      refine r_iload_n (pc := 17) C dX0_followWeight_17 rfl ?_
      refine r_dup2 (pc := 18) C dX0_followWeight_18 rfl rfl ?_
      refine r_iald (pc := 19) C dX0_followWeight_19 (kw _ _) (by decide) (nw _ _) (vp_in_nI hu (by omega)) (nI_clamp (by omega)) ?_
      rw [cp_w]
      refine r_iconst (pc := 20) C (nI 1) dX0_followWeight_20 rfl ?_
      refine r_iadd (pc := 21) C dX0_followWeight_21 ?_
      refine r_iast (pc := 22) C dX0_followWeight_22 (kw _ _) (by decide) (nw _ _) (vp_in_nI hu (by omega)) (nI_clamp (by omega)) ?_
      rw [cp_w, cp_pw]
      refine r_aload_n (pc := 23) C dX0_followWeight_23 rfl ?_
      refine r_getI (pc := 24) C dX0_followWeight_24 fx_RX0_31 (hk _ _) ?_
      rw [cg_6]
      refine r_iconst (pc := 27) C (-1) dX0_followWeight_27 rfl ?_
      refine r_icmp_eq (pc := 28) (tgt := 49) C dX0_followWeight_28 (by decide) (fun c28 => ?_) (fun c28 => ?_)
      · refine r_aload_n (pc := 49) C dX0_followWeight_49 rfl ?_
        refine r_iload_n (pc := 50) C dX0_followWeight_50 rfl ?_
        refine r_putI (pc := 51) C dX0_followWeight_51 fx_RX0_31 (fp_1_6 _) (hk _ _) ?_
        rw [cs_6]
        exact r_lv C [(0, vr (some co)), (1, vi (nI u))] rfl (P _ rfl rfl (by rw [if_pos (Or.inl c28)]; rfl))
      · obtain ⟨v, hv, hv6⟩ := h6.resolve_left c28
        refine r_aload_n (pc := 31) C dX0_followWeight_31 rfl ?_
        refine r_getR (pc := 32) C dX0_followWeight_32 fx_RX0_19 (hk _ _) (hww _ _) ?_
        refine r_iload_n (pc := 35) C dX0_followWeight_35 rfl ?_
        refine r_iald (pc := 36) C dX0_followWeight_36 (kw _ _) (by decide) (nw _ _) (vp_in_nI hu (by omega)) (nI_clamp (by omega)) ?_
        rw [cp_w]
        refine r_aload_n (pc := 37) C dX0_followWeight_37 rfl ?_
        refine r_getR (pc := 38) C dX0_followWeight_38 fx_RX0_19 (hk _ _) (hww _ _) ?_
        refine r_aload_n (pc := 41) C dX0_followWeight_41 rfl ?_
        refine r_getI (pc := 42) C dX0_followWeight_42 fx_RX0_31 (hk _ _) ?_
        rw [cg_6, hv6]
        refine r_iald (pc := 45) C dX0_followWeight_45 (kw _ _) (by decide) (nw _ _) (vp_in_nI hv (by omega)) (nI_clamp (by omega)) ?_
        rw [cp_w]
        refine r_icmp_le (pc := 46) (tgt := 54) C dX0_followWeight_46 (by decide) (fun c46 => ?_) (fun c46 => ?_)
        · have eG : G = (if G 6 = -1 ∨ upd W u (W u + nI 1) (G 6).toNatClampNeg < upd W u (W u + nI 1) u then upd G 6 (nI u) else G) := by rw [if_neg (fun q => q.elim c28 (fun q => by rw [hv6, nI_clamp (by omega)] at q; exact Int32.not_le.mpr q c46))]
          exact r_lv C [(0, vr (some co)), (1, vi (nI u))] rfl (P _ rfl rfl eG)
        · have eG : upd G 6 (nI u) = (if G 6 = -1 ∨ upd W u (W u + nI 1) (G 6).toNatClampNeg < upd W u (W u + nI 1) u then upd G 6 (nI u) else G) := by rw [if_pos (Or.inr (by rw [hv6, nI_clamp (by omega)]; exact Int32.not_le.mp c46))]
          refine r_aload_n (pc := 49) C dX0_followWeight_49 rfl ?_
          refine r_iload_n (pc := 50) C dX0_followWeight_50 rfl ?_
          refine r_putI (pc := 51) C dX0_followWeight_51 fx_RX0_31 (fp_1_6 _) (hk _ _) ?_
          rw [cs_6]
          exact r_lv C [(0, vr (some co)), (1, vi (nI u))] rfl (P _ rfl rfl eG)
    · exact absurd ((oI_m1 (fun v hv => by have := hw v hv; omega)).mp c2) (by simp)
theorem cl_restart {ru cs nd : Int32} (hC : CO S co va wa) : Sp l g mX0_restart 0 0 [vr (some co), vi ru, vi cs, vi nd] (cput S co va wa G V W) (fun r S' => r = none ∧ S' = cput S co va wa (upd (upd (upd (upd (upd (upd (upd (upd G 3 ru) 4 cs) 5 nd) 6 (-1)) 7 (-1)) 8 (nI 0)) 10 (nI 0)) 9 (nI 0)) (filF V (nI 0) 8) (filF W (nI 0) 8)) := by
  have hk : ∀ G V W, sK (cput S co va wa G V W) co = 1 + 1 := fun _ _ _ => hC.1
  have hww : ∀ G V W, sR (cput S co va wa G V W) 102 co = some wa := fun _ _ _ => hC.2.2.1
  have kw : ∀ G V W, sK (cput S co va wa G V W) wa = 44 := fun _ _ _ => hC.2.2.2.2.1
  have nw : ∀ G V W, sN (cput S co va wa G V W) wa = 8 := fun _ _ _ => hC.2.2.2.2.2
  refine Sp.start (own := RX0) [(0, vr (some co)), (1, vi ru), (2, vi cs), (3, vi nd)] (by decide +kernel) rfl rfl (Nat.le_of_ble_eq_true rfl) ?_
  intro J C
  refine r_aload_n (pc := 0) C dX0_restart_0 rfl ?_
  refine r_iload_n (pc := 1) C dX0_restart_1 rfl ?_
  refine r_putI (pc := 2) C dX0_restart_2 fx_RX0_22 (fp_1_3 _) (hk _ _ _) ?_
  rw [cs_3]
  refine r_aload_n (pc := 5) C dX0_restart_5 rfl ?_
  refine r_iload_n (pc := 6) C dX0_restart_6 rfl ?_
  refine r_putI (pc := 7) C dX0_restart_7 fx_RX0_25 (fp_1_4 _) (hk _ _ _) ?_
  rw [cs_4]
  refine r_aload_n (pc := 10) C dX0_restart_10 rfl ?_
  refine r_iload_n (pc := 11) C dX0_restart_11 rfl ?_
  refine r_putI (pc := 12) C dX0_restart_12 fx_RX0_28 (fp_1_5 _) (hk _ _ _) ?_
  rw [cs_5]
  refine r_aload_n (pc := 15) C dX0_restart_15 rfl ?_
  refine r_iconst (pc := 16) C (-1) dX0_restart_16 rfl ?_
  refine r_putI (pc := 17) C dX0_restart_17 fx_RX0_31 (fp_1_6 _) (hk _ _ _) ?_
  rw [cs_6]
  refine r_aload_n (pc := 20) C dX0_restart_20 rfl ?_
  refine r_iconst (pc := 21) C (-1) dX0_restart_21 rfl ?_
  refine r_putI (pc := 22) C dX0_restart_22 fx_RX0_34 (fp_1_7 _) (hk _ _ _) ?_
  rw [cs_7]
  refine r_aload_n (pc := 25) C dX0_restart_25 rfl ?_
  refine r_iconst (pc := 26) C (nI 0) dX0_restart_26 rfl ?_
  refine r_putI (pc := 27) C dX0_restart_27 fx_RX0_37 (fp_1_8 _) (hk _ _ _) ?_
  rw [cs_8]
  refine r_aload_n (pc := 30) C dX0_restart_30 rfl ?_
  refine r_iconst (pc := 31) C (nI 0) dX0_restart_31 rfl ?_
  refine r_putI (pc := 32) C dX0_restart_32 fx_RX0_40 (fp_1_10 _ (Or.inl rfl)) (hk _ _ _) ?_
  rw [cs_10]
  refine r_aload_n (pc := 35) C dX0_restart_35 rfl ?_
  refine r_getR (pc := 36) C dX0_restart_36 fx_RX0_19 (hk _ _ _) (hww _ _ _) ?_
  refine r_iconst (pc := 39) C (nI 0) dX0_restart_39 rfl ?_
  refine r_callS (pc := 40) C (ct_fill (r := 44) (n := 8) (kw _ _ _) (by decide) (nw _ _ _) (by decide)) iJ7_fill_53178 ml_RX0_44 dX0_restart_40 rfl (by decide) rfl (by simp [cv, Value.category, va_rf]) (by omega) (by omega) (fun r40 S40 h40 => ?_)
  obtain ⟨rfl, e40⟩ := h40
  dsimp only [Option.toList, List.cons_append, List.nil_append]
  rw [cp_w, cp_pw] at e40
  subst e40
  refine r_aload_n (pc := 43) C dX0_restart_43 rfl ?_
  refine r_callV (pc := 44) C (cl_clear hC) iX0_clearVotes ml_RX0_50 dX0_restart_44 (ci := 1) rfl rfl (hk _ _ _) rfl (by decide) rfl (by simp [cv, Value.category, va_rf]) (by omega) (by omega) (fun r44 S44 h44 => ?_)
  obtain ⟨rfl, e44⟩ := h44
  subst S44
  dsimp only [Option.toList, List.cons_append, List.nil_append]
  refine r_ret (pc := 47) C dX0_restart_47 rfl (by omega) (by omega) ?_
  exact ⟨rfl, rfl⟩
theorem cl_endR {cs : Nat} (hC : CO S co va wa) (hcs : G 4 = nI cs) (hcs2 : cs ≤ 8) (h6 : G 6 = -1 ∨ ∃ v, v < 8 ∧ G 6 = nI v) : Sp l g mX0_endRound 0 0 [vr (some co)] (cput S co va wa G V W) (fun r S' => r = some (vi (bi (fstU (fun c => !dlt (V c) (G 0)) cs).isSome)) ∧ S' = cput S co va wa (fEnd (fMid (upd G 9 (nI 0)) W (fstU (fun c => !dlt (V c) (G 0)) cs)).1) (filF V (nI 0) 8) (fMid (upd G 9 (nI 0)) W (fstU (fun c => !dlt (V c) (G 0)) cs)).2) := by
  have hk : ∀ G V W, sK (cput S co va wa G V W) co = 1 + 1 := fun _ _ _ => hC.1
  generalize hw : fstU (fun c => !dlt (V c) (G 0)) cs = w
  have hw8 : ∀ u, w = some u → u < 8 := fun u hu => by rw [hu] at hw; have := (fstU_some hw).1; omega
  have hw1 : ∀ u, w = some u → u < 1000 := fun u hu => by have := hw8 u hu; omega
  have hwin : Sp l g mX0_findWinner 0 0 [vr (some co)] (cput S co va wa G V W) (fun r S' => r = some (vi (oI w)) ∧ S' = cput S co va wa G V W) := by rw [← hw]; exact cl_winner hC hcs hcs2
  have h6' : upd G 9 (nI 0) 6 = -1 ∨ ∃ v, v < 8 ∧ upd G 9 (nI 0) 6 = nI v := h6
  refine Sp.start (own := RX0) [(0, vr (some co))] (by decide +kernel) rfl rfl (Nat.le_of_ble_eq_true rfl) ?_
  intro J C
  have Q : ∀ G2 W2, (G2, W2) = fMid (upd G 9 (nI 0)) W w → J 61 [(0, vr (some co)), (1, vi (oI w))] [] (cput S co va wa G2 (filF V (nI 0) 8) W2) 0 0 := by
    intro G2 W2 hG
    have hG1 : (fMid (upd G 9 (nI 0)) W w).1 = G2 := by rw [← hG]
    have hG2 : (fMid (upd G 9 (nI 0)) W w).2 = W2 := by rw [← hG]
    have R : ∀ b, b = bi (!decide (G2 6 = -1) && !dlt (G2 8) (G2 5)) → J 86 [(0, vr (some co)), (1, vi (oI w))] [vi b, vr (some co)] (cput S co va wa G2 (filF V (nI 0) 8) W2) 0 0 := by
      intro b hb
      have hz : b = 0 ∨ b = 1 := by rw [hb]; exact bi_01 _
      refine r_putI (pc := 86) C dX0_endRound_86 fx_RX0_40 (fp_1_10 _ (by assumption)) (hk _ _ _) ?_
      rw [cs_10]
      refine r_iload_n (pc := 89) C dX0_endRound_89 rfl ?_
      refine r_iconst (pc := 90) C (-1) dX0_endRound_90 rfl ?_
      refine r_icmp_eq (pc := 91) (tgt := 98) C dX0_endRound_91 (by decide) (fun c91 => ?_) (fun c91 => ?_)
      · have e : w = none := (oI_m1 hw1).mp c91
        refine r_iconst (pc := 98) C (nI 0) dX0_endRound_98 rfl ?_
        refine r_zret (pc := 99) C dX0_endRound_99 rfl (by first | exact Or.inl rfl | exact Or.inr rfl | assumption) (by omega) (by omega) ?_
        exact ⟨by rw [e]; rfl, by rw [hb, hG1, hG2]; rfl⟩
      · have e : w.isSome = true := by
          cases w with
          | none => exact absurd rfl c91
          | some u => rfl
        refine r_iconst (pc := 94) C (nI 1) dX0_endRound_94 rfl ?_
        refine r_goto (pc := 95) (tgt := 99) C dX0_endRound_95 (by decide) ?_
        refine r_zret (pc := 99) C dX0_endRound_99 rfl (by first | exact Or.inl rfl | exact Or.inr rfl | assumption) (by omega) (by omega) ?_
        exact ⟨by rw [e]; rfl, by rw [hb, hG1, hG2]; rfl⟩
    refine r_aload_n (pc := 61) C dX0_endRound_61 rfl ?_
    refine r_aload_n (pc := 62) C dX0_endRound_62 rfl ?_
    refine r_getI (pc := 63) C dX0_endRound_63 fx_RX0_31 (hk _ _ _) ?_
    rw [cg_6]
    refine r_iconst (pc := 66) C (-1) dX0_endRound_66 rfl ?_
    refine r_icmp_eq (pc := 67) (tgt := 85) C dX0_endRound_67 (by decide) (fun c67 => ?_) (fun c67 => ?_)
    · have e : nI 0 = bi (!decide (G2 6 = -1) && !dlt (G2 8) (G2 5)) := by rw [decide_eq_true c67]; rfl
      refine r_iconst (pc := 85) C (nI 0) dX0_endRound_85 rfl ?_
      exact R _ e
    · refine r_aload_n (pc := 70) C dX0_endRound_70 rfl ?_
      refine r_getI (pc := 71) C dX0_endRound_71 fx_RX0_37 (hk _ _ _) ?_
      rw [cg_8]
      refine r_aload_n (pc := 74) C dX0_endRound_74 rfl ?_
      refine r_getI (pc := 75) C dX0_endRound_75 fx_RX0_28 (hk _ _ _) ?_
      rw [cg_5]
      refine r_icmp_lt (pc := 78) (tgt := 85) C dX0_endRound_78 (by decide) (fun c78 => ?_) (fun c78 => ?_)
      · have e : nI 0 = bi (!decide (G2 6 = -1) && !dlt (G2 8) (G2 5)) := by rw [dlt_t c78, Bool.not_true, Bool.and_false]; rfl
        refine r_iconst (pc := 85) C (nI 0) dX0_endRound_85 rfl ?_
        exact R _ e
      · have e : nI 1 = bi (!decide (G2 6 = -1) && !dlt (G2 8) (G2 5)) := by rw [decide_eq_false c67, dlt_f (Int32.not_lt.mp c78)]; rfl
        refine r_iconst (pc := 81) C (nI 1) dX0_endRound_81 rfl ?_
        refine r_goto (pc := 82) (tgt := 86) C dX0_endRound_82 (by decide) ?_
        exact R _ e
  by_cases h0 : G 3 = 0
  · refine r_aload_n (pc := 0) C dX0_endRound_0 rfl ?_
    refine r_callV (pc := 1) C (hwin) iX0_findWinner ml_RX0_60 dX0_endRound_1 (ci := 1) rfl rfl (hk _ _ _) rfl (by decide) rfl (by simp [cv, Value.category, va_rf]) (by omega) (by omega) (fun r1 S1 h1 => ?_)
    obtain ⟨rfl, e1⟩ := h1
    subst S1
    dsimp only [Option.toList, List.cons_append, List.nil_append]
    refine r_istore_n (pc := 4) C dX0_endRound_4 (by decide) rfl ?_
    refine r_aload_n (pc := 5) C dX0_endRound_5 rfl ?_
    refine r_callV (pc := 6) C (cl_clear hC) iX0_clearVotes ml_RX0_50 dX0_endRound_6 (ci := 1) rfl rfl (hk _ _ _) rfl (by decide) rfl (by simp [cv, Value.category, va_rf]) (by omega) (by omega) (fun r6 S6 h6 => ?_)
    obtain ⟨rfl, e6⟩ := h6
    subst S6
    dsimp only [Option.toList, List.cons_append, List.nil_append]
    refine r_aload_n (pc := 9) C dX0_endRound_9 rfl ?_
    refine r_getI (pc := 10) C dX0_endRound_10 fx_RX0_22 (hk _ _ _) ?_
    rw [cg_3, show upd G 9 (nI 0) 3 = 0 from h0]
    refine r_lookup (pc := 13) C dX0_endRound_13 (by decide) (off := 27) rfl (tgt := 40) (by decide) ?_
    refine r_aload_n (pc := 40) C dX0_endRound_40 rfl ?_
    refine r_iload_n (pc := 41) C dX0_endRound_41 rfl ?_
    refine r_callV (pc := 42) C (cl_any hC hw1) iX0_followAny ml_RX0_64 dX0_endRound_42 (ci := 1) rfl rfl (hk _ _ _) rfl (by decide) rfl (by simp [cv, Value.category, va_rf]) (by omega) (by omega) (fun r42 S42 h42 => ?_)
    obtain ⟨rfl, e42⟩ := h42
    subst S42
    dsimp only [Option.toList, List.cons_append, List.nil_append]
    refine r_goto (pc := 45) (tgt := 61) C dX0_endRound_45 (by decide) ?_
    exact r_lv C [(0, vr (some co)), (1, vi (oI w))] rfl (Q _ _ (by unfold fMid; rw [if_pos (show upd G 9 (nI 0) 3 = 0 from h0)]))
  · by_cases h1 : G 3 = nI 1
    · refine r_aload_n (pc := 0) C dX0_endRound_0 rfl ?_
      refine r_callV (pc := 1) C (hwin) iX0_findWinner ml_RX0_60 dX0_endRound_1 (ci := 1) rfl rfl (hk _ _ _) rfl (by decide) rfl (by simp [cv, Value.category, va_rf]) (by omega) (by omega) (fun r1 S1 h1 => ?_)
      obtain ⟨rfl, e1⟩ := h1
      subst S1
      dsimp only [Option.toList, List.cons_append, List.nil_append]
      refine r_istore_n (pc := 4) C dX0_endRound_4 (by decide) rfl ?_
      refine r_aload_n (pc := 5) C dX0_endRound_5 rfl ?_
      refine r_callV (pc := 6) C (cl_clear hC) iX0_clearVotes ml_RX0_50 dX0_endRound_6 (ci := 1) rfl rfl (hk _ _ _) rfl (by decide) rfl (by simp [cv, Value.category, va_rf]) (by omega) (by omega) (fun r6 S6 h6 => ?_)
      obtain ⟨rfl, e6⟩ := h6
      subst S6
      dsimp only [Option.toList, List.cons_append, List.nil_append]
      refine r_aload_n (pc := 9) C dX0_endRound_9 rfl ?_
      refine r_getI (pc := 10) C dX0_endRound_10 fx_RX0_22 (hk _ _ _) ?_
      rw [cg_3, show upd G 9 (nI 0) 3 = nI 1 from h1]
      refine r_lookup (pc := 13) C dX0_endRound_13 (by decide) (off := 35) rfl (tgt := 48) (by decide) ?_
      refine r_aload_n (pc := 48) C dX0_endRound_48 rfl ?_
      refine r_iload_n (pc := 49) C dX0_endRound_49 rfl ?_
      refine r_callV (pc := 50) C (cl_row hC hw1) iX0_followRow ml_RX0_68 dX0_endRound_50 (ci := 1) rfl rfl (hk _ _ _) rfl (by decide) rfl (by simp [cv, Value.category, va_rf]) (by omega) (by omega) (fun r50 S50 h50 => ?_)
      obtain ⟨rfl, e50⟩ := h50
      subst S50
      dsimp only [Option.toList, List.cons_append, List.nil_append]
      refine r_goto (pc := 53) (tgt := 61) C dX0_endRound_53 (by decide) ?_
      exact r_lv C [(0, vr (some co)), (1, vi (oI w))] rfl (Q _ _ (by unfold fMid; rw [if_neg (show ¬ upd G 9 (nI 0) 3 = 0 from h0), if_pos (show upd G 9 (nI 0) 3 = nI 1 from h1)]))
    · refine r_aload_n (pc := 0) C dX0_endRound_0 rfl ?_
      refine r_callV (pc := 1) C (hwin) iX0_findWinner ml_RX0_60 dX0_endRound_1 (ci := 1) rfl rfl (hk _ _ _) rfl (by decide) rfl (by simp [cv, Value.category, va_rf]) (by omega) (by omega) (fun r1 S1 h1 => ?_)
      obtain ⟨rfl, e1⟩ := h1
      subst S1
      dsimp only [Option.toList, List.cons_append, List.nil_append]
      refine r_istore_n (pc := 4) C dX0_endRound_4 (by decide) rfl ?_
      refine r_aload_n (pc := 5) C dX0_endRound_5 rfl ?_
      refine r_callV (pc := 6) C (cl_clear hC) iX0_clearVotes ml_RX0_50 dX0_endRound_6 (ci := 1) rfl rfl (hk _ _ _) rfl (by decide) rfl (by simp [cv, Value.category, va_rf]) (by omega) (by omega) (fun r6 S6 h6 => ?_)
      obtain ⟨rfl, e6⟩ := h6
      subst S6
      dsimp only [Option.toList, List.cons_append, List.nil_append]
      refine r_aload_n (pc := 9) C dX0_endRound_9 rfl ?_
      refine r_getI (pc := 10) C dX0_endRound_10 fx_RX0_22 (hk _ _ _) ?_
      rw [cg_3, show upd G 9 (nI 0) 3 = G 3 from rfl]
      refine r_lookup (pc := 13) C dX0_endRound_13 (by decide) (off := 43) (by rw [show (#[((0 : Int), (27 : Int)), (1, 35)] : Array (Int × Int)).toList = [(0, 27), (1, 35)] from rfl, lv_osw (k := 0) h0 (by decide), lv_osw (k := nI 1) h1 (by decide)]; rfl) (tgt := 56) (by decide) ?_
      refine r_aload_n (pc := 56) C dX0_endRound_56 rfl ?_
      refine r_iload_n (pc := 57) C dX0_endRound_57 rfl ?_
      refine r_callV (pc := 58) C (cl_wei hC hw8 h6') iX0_followWeight ml_RX0_71 dX0_endRound_58 (ci := 1) rfl rfl (hk _ _ _) rfl (by decide) rfl (by simp [cv, Value.category, va_rf]) (by omega) (by omega) (fun r58 S58 h58 => ?_)
      obtain ⟨rfl, e58⟩ := h58
      subst S58
      dsimp only [Option.toList, List.cons_append, List.nil_append]
      exact r_lv C [(0, vr (some co)), (1, vi (oI w))] rfl (Q _ _ (by unfold fMid; rw [if_neg (show ¬ upd G 9 (nI 0) 3 = 0 from h0), if_neg (show ¬ upd G 9 (nI 0) 3 = nI 1 from h1)]))
theorem cl_coinit {al : Int32} (hk : sK S co = 2) : Sp l g mX0_init 2 16 [vr (some co), vi al] S (fun r S' => r = none ∧ ∃ va wa, sK S va = 0 ∧ sK S wa = 0 ∧ va ≠ wa ∧ S' = setR (newA (setR (newA (setI S 100 co al) va 41 8) 101 co (some va)) wa 44 8) 102 co (some wa)) := by
  refine Sp.start (own := RX0) [(0, vr (some co)), (1, vi al)] (by decide +kernel) rfl rfl (Nat.le_of_ble_eq_true rfl) ?_
  intro J C
  refine r_aload_n (pc := 0) C dX0_init_0 rfl ?_
  refine r_oinit (pc := 1) C dX0_init_1 ml_RX0_3 (by decide) (by decide) ?_
  refine r_aload_n (pc := 4) C dX0_init_4 rfl ?_
  refine r_iload_n (pc := 5) C dX0_init_5 rfl ?_
  refine r_putI (pc := 6) C dX0_init_6 fx_RX0_9 (fq_1_0 _ rfl rfl) (by assumption) ?_
  refine r_aload_n (pc := 9) C dX0_init_9 rfl ?_
  refine r_bipush (pc := 10) C (nI 8) dX0_init_10 rfl ?_
  refine r_newa (pc := 12) C 41 dX0_init_12 rfl (by decide) (wd_at 53 (by decide +kernel) rfl) (nI_pos (by omega)) (nI_clamp (by omega)) (by omega) (by omega) (by omega) (fun q12 hq12 => ?_)
  have hq12' : sK S q12 = 0 := hq12
  refine r_putR (pc := 14) C dX0_init_14 fx_RX0_15 (fq_1_1 _ rfl rfl) (show sK (newA (setI S 100 co al) q12 41 8) co = 1 + 1 from by rw [sK_na (ne_kq hq12 (show sK S co ≠ 0 by omega))]; exact hk) ?_
  refine r_aload_n (pc := 17) C dX0_init_17 rfl ?_
  refine r_bipush (pc := 18) C (nI 8) dX0_init_18 rfl ?_
  refine r_newa (pc := 20) C 44 dX0_init_20 rfl (by decide) (wd_at 53 (by decide +kernel) rfl) (nI_pos (by omega)) (nI_clamp (by omega)) (by omega) (by omega) (by omega) (fun q20 hq20 => ?_)
  have hne : q12 ≠ q20 := fun e => by
    rw [← e] at hq20
    have : sK (newA (setI S 100 co al) q12 41 8) q12 = 41 := va_up_self _ _ _
    rw [show sK (setR (newA (setI S 100 co al) q12 41 8) 101 co (some q12)) q12 = sK (newA (setI S 100 co al) q12 41 8) q12 from rfl, this] at hq20
    cases hq20
  have hq20' : sK S q20 = 0 := by rw [show sK (setR (newA (setI S 100 co al) q12 41 8) 101 co (some q12)) q20 = sK (newA (setI S 100 co al) q12 41 8) q20 from rfl, sK_na hne.symm] at hq20; exact hq20
  refine r_putR (pc := 22) C dX0_init_22 fx_RX0_19 (fq_1_2 _ rfl rfl) (show sK (newA (setR (newA (setI S 100 co al) q12 41 8) 101 co (some q12)) q20 44 8) co = 1 + 1 from by rw [sK_na (ne_kq hq20' (show sK S co ≠ 0 by omega))]; show sK (newA (setI S 100 co al) q12 41 8) co = 2; rw [sK_na (ne_kq hq12' (show sK S co ≠ 0 by omega))]; exact hk) ?_
  refine r_ret (pc := 25) C dX0_init_25 rfl (by omega) (by omega) ?_
  exact ⟨rfl, q12, q20, hq12', hq20', hne, rfl⟩
end ChoiceC
