/-! The class: identifiers and amounts, new outputs, new transactions -/
section Reader2
variable {l : Launch} {g : GG} {S : hS} {ro ra m i : Nat} {tb : Nat → Nat} {ok : Bool}
theorem nI_neg {n : Nat} (h : n < 2 ^ 32) : nI n < 0 ↔ 2 ^ 31 ≤ n := by
  rw [Int32.lt_iff_toInt_lt]
  have e : (nI n).toInt = if n < 2 ^ 31 then (n : Int) else (n : Int) - 2 ^ 32 := by
    show (BitVec.ofNat 32 n).toInt = _
    rw [BitVec.toInt_eq_toNat_cond, BitVec.toNat_ofNat, Nat.mod_eq_of_lt h]
    split <;> split <;> omega
  rw [e]
  show _ < (0 : Int) ↔ _
  split <;> omega
theorem f4_neg (hb : ∀ i, tb i < 256) : f4 tb i < 0 ↔ ¬ tb i < 128 := by
  have h0 := hb i
  have h1 := hb (i + 1)
  have h2 := hb (i + 2)
  have h3 := hb (i + 3)
  unfold f4 w4
  rw [nI_neg (by omega)]
  omega
theorem lt_1 {v : Int32} (h : v < nI 1) : v ≤ nI 0 := by
  have h1 := Int32.lt_iff_toInt_lt.mp h
  have e1 : (nI 1).toInt = 1 := by decide
  have e0 : (nI 0).toInt = 0 := by decide
  rw [Int32.le_iff_toInt_le]
  omega
theorem ge_1 {v : Int32} (h : ¬ v < nI 1) : nI 0 < v := by
  have h1 := Int32.le_iff_toInt_le.mp (Int32.not_lt.mp h)
  have e1 : (nI 1).toInt = 1 := by decide
  have e0 : (nI 0).toInt = 0 := by decide
  rw [Int32.lt_iff_toInt_lt]
  omega
theorem cl_nextId (hR : RD S ro ra m tb) (hb : ∀ i, tb i < 256) (hi : i ≤ m) : Sp l g mX6_nextId 0 0 [vr (some ro)] (rput S ro (nI i) (bi ok)) (fun r S' => ∃ v i2 ok2, r = some (vi v) ∧ S' = rput S ro (nI i2) (bi ok2) ∧ i2 ≤ m ∧ (ok2 = true ↔ ok = true ∧ i + 4 ≤ m ∧ tb i < 128) ∧ (ok2 = true → v = f4 tb i ∧ i2 = i + 4)) := by
  have h1' : ∀ a f, sK (rput S ro a f) ro = 7 + 1 := fun _ _ => hR.1
  refine Sp.start (own := RX6) [(0, vr (some ro))] (by decide +kernel) rfl rfl (Nat.le_of_ble_eq_true rfl) ?_
  intro J C
  refine r_aload_n (pc := 0) C dX6_nextId_0 rfl ?_
  refine r_callV (pc := 1) C (cl_nextWord hR hb hi) iX6_nextWord ml_RX6_53 dX6_nextId_1 (ci := 7) rfl rfl (h1' _ _) rfl (by decide) rfl (by simp [cv, Value.category, va_rf]) (by omega) (by omega) (fun r1 S1 h1 => ?_)
  obtain ⟨v, i2, ok2, rfl, rfl, q1, q2, q3⟩ := h1
  dsimp only [Option.toList, List.cons_append, List.nil_append]
  refine r_istore_n (pc := 4) C dX6_nextId_4 (by decide) rfl ?_
  refine r_iload_n (pc := 5) C dX6_nextId_5 rfl ?_
  refine r_if_ge (pc := 6) (tgt := 14) C dX6_nextId_6 (by decide) (fun c6 => ?_) (fun c6 => ?_)
  · have c6n : ¬ v < 0 := Int32.not_lt.mpr c6
    refine r_iload_n (pc := 14) C dX6_nextId_14 rfl ?_
    refine r_iret (pc := 15) C dX6_nextId_15 rfl (by omega) (by omega) ?_
    first
      | exact ⟨v, i2, ok2, rfl, rfl, q1, ⟨fun h => ⟨(q2.mp h).1, (q2.mp h).2, by have e := (q3 h).1; rw [e, f4_neg hb] at c6n; exact Classical.not_not.mp c6n⟩, fun h => q2.mpr ⟨h.1, h.2.1⟩⟩, q3⟩
      | exact ⟨v, i2, false, rfl, rfl, q1, ⟨fun h => (by cases h), fun h => absurd h.2.2 (by have e := (q3 (q2.mpr ⟨h.1, h.2.1⟩)).1; rw [e, f4_neg hb] at c6n; exact c6n)⟩, fun h => (by cases h)⟩
  · have c6n : v < 0 := Int32.not_le.mp c6
    refine r_aload_n (pc := 9) C dX6_nextId_9 rfl ?_
    refine r_iconst (pc := 10) C (nI 0) dX6_nextId_10 rfl ?_
    refine r_putI (pc := 11) C dX6_nextId_11 fx_RX6_17 (fp_7_2 _ (Or.inl rfl)) (h1' _ _) ?_
    rw [rp_sf]
    refine r_iload_n (pc := 14) C dX6_nextId_14 rfl ?_
    refine r_iret (pc := 15) C dX6_nextId_15 rfl (by omega) (by omega) ?_
    first
      | exact ⟨v, i2, ok2, rfl, rfl, q1, ⟨fun h => ⟨(q2.mp h).1, (q2.mp h).2, by have e := (q3 h).1; rw [e, f4_neg hb] at c6n; exact Classical.not_not.mp c6n⟩, fun h => q2.mpr ⟨h.1, h.2.1⟩⟩, q3⟩
      | exact ⟨v, i2, false, rfl, rfl, q1, ⟨fun h => (by cases h), fun h => absurd h.2.2 (by have e := (q3 (q2.mpr ⟨h.1, h.2.1⟩)).1; rw [e, f4_neg hb] at c6n; exact c6n)⟩, fun h => (by cases h)⟩
theorem cl_nextAmount (hR : RD S ro ra m tb) (hb : ∀ i, tb i < 256) (hi : i ≤ m) : Sp l g mX6_nextAmount 0 0 [vr (some ro)] (rput S ro (nI i) (bi ok)) (fun r S' => ∃ v i2 ok2, r = some (vi v) ∧ S' = rput S ro (nI i2) (bi ok2) ∧ i2 ≤ m ∧ (ok2 = true ↔ ok = true ∧ i + 4 ≤ m ∧ okA (f4 tb i) = true) ∧ (ok2 = true → v = f4 tb i ∧ i2 = i + 4)) := by
  have h1' : ∀ a f, sK (rput S ro a f) ro = 7 + 1 := fun _ _ => hR.1
  refine Sp.start (own := RX6) [(0, vr (some ro))] (by decide +kernel) rfl rfl (Nat.le_of_ble_eq_true rfl) ?_
  intro J C
  refine r_aload_n (pc := 0) C dX6_nextAmount_0 rfl ?_
  refine r_callV (pc := 1) C (cl_nextWord hR hb hi) iX6_nextWord ml_RX6_53 dX6_nextAmount_1 (ci := 7) rfl rfl (h1' _ _) rfl (by decide) rfl (by simp [cv, Value.category, va_rf]) (by omega) (by omega) (fun r1 S1 h1 => ?_)
  obtain ⟨v, i2, ok2, rfl, rfl, q1, q2, q3⟩ := h1
  dsimp only [Option.toList, List.cons_append, List.nil_append]
  refine r_istore_n (pc := 4) C dX6_nextAmount_4 (by decide) rfl ?_
  refine r_iload_n (pc := 5) C dX6_nextAmount_5 rfl ?_
  refine r_iconst (pc := 6) C (nI 1) dX6_nextAmount_6 rfl ?_
  refine r_icmp_lt (pc := 7) (tgt := 16) C dX6_nextAmount_7 (by decide) (fun c7 => ?_) (fun c7 => ?_)
  · have hno : okA v = false := by unfold okA; rw [dlt_f (lt_1 c7)]; rfl
    refine r_aload_n (pc := 16) C dX6_nextAmount_16 rfl ?_
    refine r_iconst (pc := 17) C (nI 0) dX6_nextAmount_17 rfl ?_
    refine r_putI (pc := 18) C dX6_nextAmount_18 fx_RX6_17 (fp_7_2 _ (Or.inl rfl)) (h1' _ _) ?_
    rw [rp_sf]
    refine r_iload_n (pc := 21) C dX6_nextAmount_21 rfl ?_
    refine r_iret (pc := 22) C dX6_nextAmount_22 rfl (by omega) (by omega) ?_
    first
      | exact ⟨v, i2, ok2, rfl, rfl, q1, ⟨fun h => ⟨(q2.mp h).1, (q2.mp h).2, by rw [← (q3 h).1]; exact hyes⟩, fun h => q2.mpr ⟨h.1, h.2.1⟩⟩, q3⟩
      | exact ⟨v, i2, false, rfl, rfl, q1, ⟨fun h => (by cases h), fun h => absurd h.2.2 (by rw [← (q3 (q2.mpr ⟨h.1, h.2.1⟩)).1, hno]; exact fun q => (by cases q))⟩, fun h => (by cases h)⟩
  · refine r_iload_n (pc := 10) C dX6_nextAmount_10 rfl ?_
    refine r_ldc (pc := 11) C kc_RX6_56 dX6_nextAmount_11 ?_
    refine r_icmp_le (pc := 13) (tgt := 21) C dX6_nextAmount_13 (by decide) (fun c13 => ?_) (fun c13 => ?_)
    · have hyes : okA v = true := by unfold okA; rw [show dlt (nI 1000000000) v = false from dlt_f c13, dlt_t (ge_1 c7)]; rfl
      refine r_iload_n (pc := 21) C dX6_nextAmount_21 rfl ?_
      refine r_iret (pc := 22) C dX6_nextAmount_22 rfl (by omega) (by omega) ?_
      first
        | exact ⟨v, i2, ok2, rfl, rfl, q1, ⟨fun h => ⟨(q2.mp h).1, (q2.mp h).2, by rw [← (q3 h).1]; exact hyes⟩, fun h => q2.mpr ⟨h.1, h.2.1⟩⟩, q3⟩
        | exact ⟨v, i2, false, rfl, rfl, q1, ⟨fun h => (by cases h), fun h => absurd h.2.2 (by rw [← (q3 (q2.mpr ⟨h.1, h.2.1⟩)).1, hno]; exact fun q => (by cases q))⟩, fun h => (by cases h)⟩
    · have hno : okA v = false := by unfold okA; rw [show dlt (nI 1000000000) v = true from dlt_t (Int32.not_le.mp c13), Bool.not_true, Bool.and_false]
      refine r_aload_n (pc := 16) C dX6_nextAmount_16 rfl ?_
      refine r_iconst (pc := 17) C (nI 0) dX6_nextAmount_17 rfl ?_
      refine r_putI (pc := 18) C dX6_nextAmount_18 fx_RX6_17 (fp_7_2 _ (Or.inl rfl)) (h1' _ _) ?_
      rw [rp_sf]
      refine r_iload_n (pc := 21) C dX6_nextAmount_21 rfl ?_
      refine r_iret (pc := 22) C dX6_nextAmount_22 rfl (by omega) (by omega) ?_
      first
        | exact ⟨v, i2, ok2, rfl, rfl, q1, ⟨fun h => ⟨(q2.mp h).1, (q2.mp h).2, by rw [← (q3 h).1]; exact hyes⟩, fun h => q2.mpr ⟨h.1, h.2.1⟩⟩, q3⟩
        | exact ⟨v, i2, false, rfl, rfl, q1, ⟨fun h => (by cases h), fun h => absurd h.2.2 (by rw [← (q3 (q2.mpr ⟨h.1, h.2.1⟩)).1, hno]; exact fun q => (by cases q))⟩, fun h => (by cases h)⟩
end Reader2
/-- all that was there stands -/
def Fx (S S' : hS) : Prop := ∀ a, sK S a ≠ 0 → sK S' a = sK S a ∧ (∀ f, sI S' f a = sI S f a) ∧ (∀ f, sR S' f a = sR S f a) ∧ (∀ f, sJ S' f a = sJ S f a) ∧ sN S' a = sN S a ∧ (∀ r, aI S' r a = aI S r a) ∧ (∀ r, aJ S' r a = aJ S r a) ∧ (∀ r, aR S' r a = aR S r a)
section Fx
variable {S S1 S2 : hS} {q b : Nat}
theorem Fx.rf : Fx S S := fun _ _ => ⟨rfl, fun _ => rfl, fun _ => rfl, fun _ => rfl, rfl, fun _ => rfl, fun _ => rfl, fun _ => rfl⟩
theorem Fx.tr (h1 : Fx S S1) (h2 : Fx S1 S2) : Fx S S2 := fun a ha => by
  obtain ⟨a1, a2, a3, a4, a5, a6, a7, a8⟩ := h1 a ha
  obtain ⟨b1, b2, b3, b4, b5, b6, b7, b8⟩ := h2 a (by rw [a1]; exact ha)
  exact ⟨b1.trans a1, fun f => (b2 f).trans (a2 f), fun f => (b3 f).trans (a3 f), fun f => (b4 f).trans (a4 f), b5.trans a5, fun f => (b6 f).trans (a6 f), fun f => (b7 f).trans (a7 f), fun f => (b8 f).trans (a8 f)⟩
theorem Fx.fresh (h : Fx S S1) (hq : sK S1 q = 0) : sK S q = 0 := by
  by_cases e : sK S q = 0
  · exact e
  · have := (h q e).1
    rw [hq] at this
    exact absurd this.symm e
theorem Fx.na {k n : Nat} (hq : sK S q = 0) : Fx S (newA S q k n) := fun a ha => by
  have hne : a ≠ q := ne_kq hq ha
  exact ⟨sK_na hne, fun _ => rfl, fun _ => rfl, fun _ => rfl, sN_na hne, fun _ => aI_na hne, fun _ => aJ_na hne, fun _ => aR_na hne⟩
theorem sK_no {k x : Nat} (h : x ≠ q) : sK (newO S q k) x = sK S x := va_up_ne _ _ h
theorem sK_nos {k : Nat} : sK (newO S q k) q = k := va_up_self _ _ _
theorem sI_no {k x f : Nat} (h : x ≠ q) : sI (newO S q k) f x = sI S f x := if_neg h
theorem sI_nos {k f : Nat} : sI (newO S q k) f q = 0 := if_pos rfl
theorem sR_no {k x f : Nat} (h : x ≠ q) : sR (newO S q k) f x = sR S f x := if_neg h
theorem sR_nos {k f : Nat} : sR (newO S q k) f q = none := if_pos rfl
theorem Fx.no {k : Nat} (hq : sK S q = 0) : Fx S (newO S q k) := fun a ha => by
  have hne : a ≠ q := ne_kq hq ha
  exact ⟨sK_no hne, fun _ => sI_no hne, fun _ => sR_no hne, fun _ => if_neg hne, rfl, fun _ => rfl, fun _ => rfl, fun _ => rfl⟩
theorem Fx.z (h : Fx S S1) (hq : sK S q = 0) (h2 : Fz S1 S2 q) : Fx S S2 := fun a ha => by
  obtain ⟨a1, a2, a3, a4, a5, a6, a7, a8⟩ := h a ha
  obtain ⟨b1, b2, b3, b4, b5, b6, b7, b8⟩ := h2 a (by rw [a1]; exact ha) (ne_kq hq ha)
  exact ⟨b1.trans a1, fun f => (b2 f).trans (a2 f), fun f => (b3 f).trans (a3 f), fun f => (b4 f).trans (a4 f), b5.trans a5, fun f => (b6 f).trans (a6 f), fun f => (b7 f).trans (a7 f), fun f => (b8 f).trans (a8 f)⟩
theorem Fz.si {f : Nat} {v : Int32} (h : Fz S S1 q) : Fz S (setI S1 f q v) q := fun a ha hm => by
  obtain ⟨a1, a2, a3, a4, a5, a6, a7, a8⟩ := h a ha hm
  exact ⟨a1, fun f => (sI_n (Or.inr hm)).trans (a2 f), a3, a4, a5, a6, a7, a8⟩
theorem Fz.sr {f : Nat} {v : Option Nat} (h : Fz S S1 q) : Fz S (setR S1 f q v) q := fun a ha hm => by
  obtain ⟨a1, a2, a3, a4, a5, a6, a7, a8⟩ := h a ha hm
  exact ⟨a1, a2, fun f => (sR_n (Or.inr hm)).trans (a3 f), a4, a5, a6, a7, a8⟩
theorem Fz.x (h : Fz S S1 q) (h2 : Fx S1 S2) : Fz S S2 q := fun a ha hm => by
  obtain ⟨a1, a2, a3, a4, a5, a6, a7, a8⟩ := h a ha hm
  obtain ⟨b1, b2, b3, b4, b5, b6, b7, b8⟩ := h2 a (by rw [a1]; exact ha)
  exact ⟨b1.trans a1, fun f => (b2 f).trans (a2 f), fun f => (b3 f).trans (a3 f), fun f => (b4 f).trans (a4 f), b5.trans a5, fun f => (b6 f).trans (a6 f), fun f => (b7 f).trans (a7 f), fun f => (b8 f).trans (a8 f)⟩
theorem Fz.z2 (h : Fz S S1 q) (hb : sK S b = 0) (h2 : Fz S1 S2 b) : Fz S S2 q := fun a ha hm => by
  obtain ⟨a1, a2, a3, a4, a5, a6, a7, a8⟩ := h a ha hm
  obtain ⟨b1, b2, b3, b4, b5, b6, b7, b8⟩ := h2 a (by rw [a1]; exact ha) (ne_kq hb ha)
  exact ⟨b1.trans a1, fun f => (b2 f).trans (a2 f), fun f => (b3 f).trans (a3 f), fun f => (b4 f).trans (a4 f), b5.trans a5, fun f => (b6 f).trans (a6 f), fun f => (b7 f).trans (a7 f), fun f => (b8 f).trans (a8 f)⟩
theorem Fz.fresh (h : Fz S S1 b) (hb : sK S1 b ≠ 0) (hq : sK S1 q = 0) : sK S q = 0 := by
  by_cases e : sK S q = 0
  · exact e
  · have := (h q e (fun e2 => hb (by rw [← e2]; exact hq))).1
    rw [hq] at this
    exact absurd this.symm e
end Fx
abbrev rA (S : hS) (f x : Nat) : Nat := (sR S f x).getD 0
/-- a new output -/
def ON (g : GG) (S : hS) (oo lo : Nat) (am : Int32) : Prop := sK S oo = 5 ∧ sI S 400 oo = am ∧ sR S 401 oo = some lo ∧ (sR S 402 oo = none ∧ sR S 403 oo = none ∧ sR S 404 oo = none ∧ sI S 405 oo = 0) ∧ sK S lo = 1 ∧ sI S 2 lo = nI 0 ∧ sR S 1 lo = some (gT g 0)
section NewO
variable {l : Launch} {g : GG} {S : hS} {oo : Nat}
theorem cl_outinit {am : Int32} (hk : sK S oo = 5) : Sp l g mX3_init 1 3 [vr (some oo), vi am] S (fun r S' => r = none ∧ ∃ lo, sK S lo = 0 ∧ ON g S' oo lo am ∧ Fz S S' oo) := by
  refine Sp.start (own := RX3) [(0, vr (some oo)), (1, vi am)] (by decide +kernel) rfl rfl (Nat.le_of_ble_eq_true rfl) ?_
  intro J C
  refine r_aload_n (pc := 0) C dX3_init_0 rfl ?_
  refine r_oinit (pc := 1) C dX3_init_1 ml_RX3_3 (by decide) (by decide) ?_
  refine r_aload_n (pc := 4) C dX3_init_4 rfl ?_
  refine r_iload_n (pc := 5) C dX3_init_5 rfl ?_
  refine r_putI (pc := 6) C dX3_init_6 fx_RX3_9 (fq_4_0 _ rfl rfl) hk ?_
  refine r_aload_n (pc := 9) C dX3_init_9 rfl ?_
  refine r_new (pc := 10) C dX3_init_10 (ci := 0) (n := 3) rfl kl_RX3_15 rfl (by omega) (by omega) (fun q10 hq10 => ?_)
  have hq0 : sK S q10 = 0 := hq10
  have hne : oo ≠ q10 := ne_kq hq0 (by omega)
  have f1 : Fz S (newO (setI S 400 oo am) q10 1) oo := (Fz.si Fz.rf).x (Fx.no hq10)
  have k1 : sK (newO (setI S 400 oo am) q10 1) oo = 5 := by rw [sK_no hne]; exact hk
  have k2 : sK (newO (setI S 400 oo am) q10 1) q10 = 1 := sK_nos
  have k3 : sI (newO (setI S 400 oo am) q10 1) 400 oo = am := by rw [sI_no hne, sI_s]
  have k4 : sI (newO (setI S 400 oo am) q10 1) 2 q10 = nI 0 := sI_nos
  generalize newO (setI S 400 oo am) q10 1 = S2 at f1 k1 k2 k3 k4 ⊢
  refine r_dup (pc := 13) C dX3_init_13 rfl ?_
  refine r_callI (pc := 14) C (ct_alinit k2) iJx4a65c_init_da8c8 ml_RX3_17 dX3_init_14 rfl (by decide) rfl (by simp [cv, Value.category, va_rf]) (by omega) (by omega) (fun r14 S14 h14 => ?_)
  obtain ⟨rfl, e14⟩ := h14
  dsimp only [Option.toList, List.cons_append, List.nil_append]
  have f2 : Fz S S14 oo := f1.z2 hq0 (by rw [e14]; exact (Fz.si Fz.rf).sr)
  have j1 : sK S14 oo = 4 + 1 := by rw [e14]; exact k1
  have j2 : sK S14 q10 = 1 := by rw [e14]; exact k2
  have j3 : sI S14 400 oo = am := by rw [e14]; show sI (setI S2 0 q10 (nI 0)) 400 oo = am; rw [sI_n (Or.inr hne)]; exact k3
  have j4 : sI S14 2 q10 = nI 0 := by rw [e14]; show sI (setI S2 0 q10 (nI 0)) 2 q10 = nI 0; rw [sI_n (Or.inl (by decide))]; exact k4
  have j5 : sR S14 1 q10 = some (gT g 0) := by rw [e14]; exact sR_s
  clear e14 f1 k1 k2 k3 k4
  refine r_putR (pc := 17) C dX3_init_17 fx_RX3_18 (fq_4_1 _ rfl rfl) j1 ?_
  refine r_aload_n (pc := 20) C dX3_init_20 rfl ?_
  refine r_null (pc := 21) C dX3_init_21 ?_
  refine r_putR (pc := 22) C dX3_init_22 fx_RX3_22 (fp_4_2 _) j1 ?_
  refine r_aload_n (pc := 25) C dX3_init_25 rfl ?_
  refine r_null (pc := 26) C dX3_init_26 ?_
  refine r_putR (pc := 27) C dX3_init_27 fx_RX3_26 (fp_4_3 _) j1 ?_
  refine r_aload_n (pc := 30) C dX3_init_30 rfl ?_
  refine r_null (pc := 31) C dX3_init_31 ?_
  refine r_putR (pc := 32) C dX3_init_32 fx_RX3_29 (fp_4_4 _) j1 ?_
  refine r_aload_n (pc := 35) C dX3_init_35 rfl ?_
  refine r_iconst (pc := 36) C (nI 0) dX3_init_36 rfl ?_
  refine r_putI (pc := 37) C dX3_init_37 fx_RX3_32 (fp_4_5 _) j1 ?_
  refine r_ret (pc := 40) C dX3_init_40 rfl (by omega) (by omega) ?_
  refine ⟨rfl, q10, hq0, ⟨j1, ?_, ?_, ⟨?_, ?_, ?_, ?_⟩, j2, ?_, ?_⟩, (((((f2.sr).sr).sr).sr).si)⟩
  · show sI (setI (setR (setR (setR (setR S14 401 oo (some q10)) 402 oo none) 403 oo none) 404 oo none) 405 oo (nI 0)) 400 oo = am
    rw [sI_n (Or.inl (by decide))]; exact j3
  · show sR (setR (setR (setR (setR S14 401 oo (some q10)) 402 oo none) 403 oo none) 404 oo none) 401 oo = some q10
    rw [sR_n (Or.inl (by decide)), sR_n (Or.inl (by decide)), sR_n (Or.inl (by decide)), sR_s]
  · show sR (setR (setR (setR (setR S14 401 oo (some q10)) 402 oo none) 403 oo none) 404 oo none) 402 oo = none
    rw [sR_n (Or.inl (by decide)), sR_n (Or.inl (by decide)), sR_s]
  · show sR (setR (setR (setR (setR S14 401 oo (some q10)) 402 oo none) 403 oo none) 404 oo none) 403 oo = none
    rw [sR_n (Or.inl (by decide)), sR_s]
  · exact sR_s (S := setR (setR (setR S14 401 oo (some q10)) 402 oo none) 403 oo none) (k := 404) (b := oo) (v := none)
  · exact sI_s
  · show sI (setI (setR (setR (setR (setR S14 401 oo (some q10)) 402 oo none) 403 oo none) 404 oo none) 405 oo (nI 0)) 2 q10 = nI 0
    rw [sI_n (Or.inl (by decide))]; exact j4
  · show sR (setR (setR (setR (setR S14 401 oo (some q10)) 402 oo none) 403 oo none) 404 oo none) 1 q10 = some (gT g 0)
    rw [sR_n (Or.inl (by decide)), sR_n (Or.inl (by decide)), sR_n (Or.inl (by decide)), sR_n (Or.inl (by decide))]; exact j5
end NewO
