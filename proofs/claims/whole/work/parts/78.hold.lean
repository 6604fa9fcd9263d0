/-! The class: a transaction is held, its sets joined -/
section HoldC
variable {l : Launch} {g : GG} {S S1 : hS} {po go n h a t s mi : Nat} {T O : Nat → Nat} {M : MM} {cf : Nat → Int32} {ao : Nat → Option Nat} {mL : Nat → List Nat}
theorem cg_join (hM : MIR g mi) (hC : CR g S po go T O M n h a cf ao mL) (hG : GV M n h) (hs : oV M n s) (ht : t < n) (hl : (mL s).length ≤ 64) (hmn : ∀ u ∈ mL s, u < n) : Sp l g mX3_join 1 100 [vr (some (O s)), vr (some (T t))] S (fun r S' => r = none ∧ CR g S' po go T O (if (mL s).length = 0 then um (um M 22 s (nI t)) 23 s (nI t) else M) n h a cf ao (fun x => if x = s then mL s ++ [t] else mL x) ∧ GrF po S S') := by
  have hn := hG.1
  have hL := hC.pL.l4 hs
  refine Sp.start (own := RX3) [(0, vr (some (O s))), (1, vr (some (T t)))] (by decide +kernel) rfl rfl (Nat.le_of_ble_eq_true rfl) ?_
  intro J C
  refine r_aload_n (pc := 0) C dX3_join_0 rfl ?_
  refine r_getR (pc := 1) C dX3_join_1 fx_RX3_18 (hC.pG.o hs).1 (hC.pG.o hs).2 ?_
  refine r_aload_n (pc := 4) C dX3_join_4 rfl ?_
  refine r_callV (pc := 5) C (ct_add (by omega) hl hM hL (fun i hi => ⟨9, Or.inl rfl, hC.pG.tk (hmn _ (getD_mem hi))⟩) ⟨9, Or.inl rfl, hC.pG.tk ht⟩) iJx4a65c_add_9ea2d ml_RX3_35 dX3_join_5 (ci := 0) rfl rfl hL.k rfl (by decide) rfl (by simp [cv, Value.category, va_rf]) (by omega) (by omega) (fun r5 S5 h5 => ?_)
  obtain ⟨rfl, hL2, hAu⟩ := h5
  dsimp only [Option.toList, List.cons_append, List.nil_append]
  obtain ⟨hC2, hg2⟩ := hC.mls (t := t) hG.hn hs hAu hL2
  refine r_pop (pc := 8) C dX3_join_8 rfl ?_
  refine r_aload_n (pc := 9) C dX3_join_9 rfl ?_
  refine r_getR (pc := 10) C dX3_join_10 fx_RX3_18 (hC2.pG.o hs).1 (hC2.pG.o hs).2 ?_
  refine r_callV (pc := 13) C (ct_size (hC2.pL.l4 hs)) iJx4a65c_size_8abf5 ml_RX3_39 dX3_join_13 (ci := 0) rfl rfl (hC2.pL.l4 hs).k rfl (by decide) rfl (by simp [cv, Value.category, va_rf]) (by omega) (by omega) (fun r13 S13 h13 => ?_)
  obtain ⟨rfl, e13⟩ := h13
  subst S13
  dsimp only [Option.toList, List.cons_append, List.nil_append]
  rw [if_pos rfl, List.length_append]
  refine r_iconst (pc := 16) C (nI 1) dX3_join_16 rfl ?_
  refine r_icmp_ne (pc := 17) (tgt := 30) C dX3_join_17 (by decide) (fun c17 => ?_) (fun c17 => ?_)
  · have e0 : (mL s).length ≠ 0 := fun q => c17 (by rw [q]; rfl)
    refine r_ret (pc := 30) C dX3_join_30 rfl (by omega) (by omega) ?_
    first
      | exact ⟨rfl, by rw [if_neg e0]; exact hC2, hg2⟩
      | exact ⟨rfl, by rw [if_pos e0]; exact hC4, (hg2.tr (GrF.w5 (by omega))).tr (GrF.w5 (by omega))⟩
  · have e0 : (mL s).length = 0 := by have := nI_inj' (show nI ((mL s).length + [t].length) = nI 1 from c17) (by simp; omega) (by omega); simpa using this
    refine r_aload_n (pc := 20) C dX3_join_20 rfl ?_
    refine r_aload_n (pc := 21) C dX3_join_21 rfl ?_
    refine r_putR (pc := 22) C dX3_join_22 fx_RX3_22 (fp_4_2 _) (hC2.pG.o hs).1 ?_
    have hC3 := hC2.fvs (o := some t) hG.hn hs (fun w hw => by cases hw; omega)
    have hs3 : oV (um M 22 s (oI (some t))) n s := by rw [(um_sy (by decide)).ov]; exact hs
    refine r_aload_n (pc := 25) C dX3_join_25 rfl ?_
    refine r_aload_n (pc := 26) C dX3_join_26 rfl ?_
    refine r_putR (pc := 27) C dX3_join_27 fx_RX3_26 (fp_4_3 _) (hC3.pG.o hs3).1 ?_
    have hC4 := hC3.lts (t := t) (hG.sq (um_sq (by omega))).hn hs3 (by omega)
    refine r_ret (pc := 30) C dX3_join_30 rfl (by omega) (by omega) ?_
    first
      | exact ⟨rfl, by rw [if_neg e0]; exact hC2, hg2⟩
      | exact ⟨rfl, by rw [if_pos e0]; exact hC4, (hg2.tr (GrF.w5 (by omega))).tr (GrF.w5 (by omega))⟩
theorem CR.hds (hC : CR g S po go T O (um M 13 t (nI 2)) n h a cf ao mL) (hG : GV M n h) (hO : ODR M n h) (ht : t < n) (hnd : hdB M h t = false) (hp : PHd M n t h) (hP : PT S T M n t) (hQ : ST S T O M n t) (hw : ∀ j, j < 192 → abt (aJ S 80 (rA S 908 (T t))) j = (decide (j < h) && anc M n h t (hdN M j)))
    (hA : Au (setI S 909 (T t) (nI h)) S1 (rA S 303 go) 105) (hL : LA g S1 (rA S 303 go) 105 (h + 1) (va_up (fun k => T (hdN M k)) h (T t))) : CR g S1 po go T O (ho1 M h t) n (h + 1) a cf ao mL ∧ GrF po S S1 := by
  obtain ⟨c1, c2, c3, c4, c5, c6, c7⟩ := hC
  have hn := hG.1
  have hh := hG.2.1
  have ht' : t < 1000 := by omega
  have ea : Sy M (um M 13 t (nI 2)) := um_sy (by decide)
  have hGa : GV (um M 13 t (nI 2)) n h := hG.sm ea.sm
  have v : ∀ j, j < 4 → lV (um M 13 t (nI 2)) n j := fun j hj => Or.inl hj
  have hg0 : Ag (fun f x => x = T t → f ≠ 909) (fun _ _ => True) (fun _ _ => True) S (setI S 909 (T t) (nI h)) := Ag.si (fun q => q rfl rfl)
  have d1 := c1.ag hg0 (fun x => ⟨fun _ => by omega, fun _ => by omega⟩) (fun _ _ _ => trivial) (fun _ => ⟨trivial, trivial, trivial, trivial, trivial⟩)
  obtain ⟨hg, ll, lk, gf⟩ := GS.lk (g := g) d1 (v 1 (by omega)) hA
  have e10 : ho1 M h t 10 = um M 13 t (nI 2) 10 := by unfold ho1; rw [um_n (by decide)]
  have e11 : ho1 M h t 11 = um M 13 t (nI 2) 11 := by unfold ho1; rw [um_n (by decide)]
  have e12 : ho1 M h t 12 = um M 13 t (nI 2) 12 := by unfold ho1; rw [um_n (by decide)]
  have m11 : ho1 M h t 11 = M 11 := ho_n (by decide) (by decide)
  have m10 : ho1 M h t 10 = M 10 := ho_n (by decide) (by decide)
  have o1 : oV (ho1 M h t) n = oV (um M 13 t (nI 2)) n := oV_e e11
  -- what is read alike from S to S1
  have hgg : Ag (fun f x => (x = T t → f ≠ 909) ∧ (x = lad (setI S 909 (T t) (nI h)) po go O 1 → f ≠ 0 ∧ f ≠ 2)) (fun f x => x = lad (setI S 909 (T t) (nI h)) po go O 1 → f ≠ 1) (fun r _ => r ≠ 105) S S1 := Ag.tr (hg0.mo (fun _ _ q => q.1) (fun _ _ _ => trivial) (fun _ _ _ => trivial)) (hg.mo (fun _ _ q => q.2) (fun _ _ q => q) (fun _ _ q => q))
  have hx : ∀ u, u < n → sK S (T u) ≠ 0 := fun u hu => by rw [c1.tk hu]; omega
  have hT1 : ∀ u, u < n → ∀ f, f ≠ 909 → 3 ≤ f → sI S1 f (T u) = sI S f (T u) := fun u hu f h1 h2 => hgg.i (hx u hu) ⟨fun _ => h1, fun _ => by omega⟩
  have hR1 : ∀ u, u < n → ∀ f, 3 ≤ f → rA S1 f (T u) = rA S f (T u) := fun u hu f h2 => rA_eq (hgg.r (hx u hu) (fun _ => by omega))
  have h9t : sI S1 909 (T t) = nI h := by
    rw [hg.i (hx t ht) (fun _ => by omega), sI_s]
  have h9 : ∀ u, u < n → u ≠ t → sI S1 909 (T u) = sI S 909 (T u) := fun u hu e => by
    rw [hg.i (hx u hu) (fun _ => by omega), sI_n (Or.inr (fun q => e (c1.tinj hu ht q)))]
  have an := ho_anc hO hnd ht' hp
  refine ⟨⟨(d1.ag hg (fun x => ⟨fun _ => by omega, fun _ => by omega⟩) (fun f x q _ => by omega) (fun x => by omega)).m3 e10 e11 e12, fun u hu => ?_, ⟨fun k hk => ?_, fun u hu q => ?_⟩, fun u hu => ?_, ⟨?_, ?_, ?_, fun u hu => ?_⟩, fun k hk => ?_, fun k hk j hj => ?_, fun u hu q => ?_⟩, ?_⟩
  · rw [hT1 u hu 910 (by omega) (by omega), hT1 u hu 911 (by omega) (by omega), hT1 u hu 912 (by omega) (by omega), hT1 u hu 913 (by omega) (by omega)]
    have := c2 u hu
    refine ⟨?_, this.2.1, ?_, ?_⟩
    · rw [this.1]; unfold ho1; rw [um_n (show (13 : Nat) ≠ 16 by decide)]
    · rw [this.2.2.1]; unfold ho1; rw [um_n (show (14 : Nat) ≠ 16 by decide)]
    · rw [this.2.2.2]; unfold ho1; rw [um_n (show (15 : Nat) ≠ 16 by decide)]
  · by_cases c : k = h
    · subst c; rw [ho_hh ht']; exact h9t
    · rw [ho_hd (by omega), h9 _ (hG.hn k (by omega)) (hd_no hnd (by omega))]
      have := c3.1 k (by omega)
      rwa [ea.hd] at this
  · rw [ho_hb ht', Bool.or_eq_false_iff] at q
    have hne : u ≠ t := fun e => by rw [e] at q; exact absurd q.2 (by simp)
    rw [h9 u hu hne]
    exact c3.2 u hu (by rw [ea.hb]; exact q.1)
  · rw [o1] at hu
    have hk : sK S (O u) = 5 := (c1.o hu).1
    have ho : sK S (O u) ≠ 0 := by omega
    have hne : O u ≠ T t := fun q => by rw [q, c1.tk ht] at hk; omega
    rw [hgg.r ho (fun _ => by omega), hgg.r ho (fun _ => by omega), hgg.r ho (fun _ => by omega), hgg.i ho ⟨fun q => absurd q hne, fun _ => by omega⟩]
    have := c4 u hu
    rw [show favN (ho1 M h t) u = favN (um M 13 t (nI 2)) u by simp only [favN]; unfold ho1; rw [um_n (show (22 : Nat) ≠ 16 by decide)], show latN (ho1 M h t) u = latN (um M 13 t (nI 2)) u by simp only [latN]; unfold ho1; rw [um_n (show (23 : Nat) ≠ 16 by decide)], show ho1 M h t 24 = um M 13 t (nI 2) 24 by unfold ho1; rw [um_n (show (24 : Nat) ≠ 16 by decide)]]
    exact this
  · exact lk 0 _ _ _ (v 0 (by omega)) (by omega) rfl (c5.1.ag (by omega) hg0 (fun _ => by omega) trivial (fun _ => trivial))
  · rw [ll 1 (v 1 (by omega))]
    refine hL.cg (fun i hi => ?_)
    by_cases e2 : i = h
    · subst e2; rw [va_up_self, ho_hh ht']
    · rw [va_up_ne _ _ e2, ho_hd (by omega)]
  · have := lk 2 _ _ _ (v 2 (by omega)) (by omega) rfl (c5.2.2.1.ag (by omega) hg0 (fun _ => by omega) trivial (fun _ => trivial))
    rw [show (fun i => T (acN (ho1 M h t) i)) = fun i => T (acN (um M 13 t (nI 2)) i) by funext i; simp only [acN]; unfold ho1; rw [um_n (show (18 : Nat) ≠ 16 by decide)]]
    exact this
  · rw [o1] at hu
    exact lk (4 + u) _ _ _ (lV4 hu) (by omega) (by omega) ((c5.2.2.2 u hu).ag (by omega) hg0 (fun _ => by omega) trivial (fun _ => trivial))
  · rw [par_e m10 m11, out_e m10 m11, m11]
    by_cases c : k = h
    · subst c
      rw [ho_hh ht', hR1 t ht _ (by omega), hR1 t ht _ (by omega), hgg.ar (r := 103) (by rw [(c1.r6 ht).2.1]; omega) (by omega), hgg.ar (r := 102) (by rw [(c1.r7 ht).2.1]; omega) (by omega)]
      exact ⟨fun i hi => (hP i hi).1, fun i hi => (hQ i hi).1⟩
    · have hk' := hG.hn k (by omega)
      rw [ho_hd (by omega), hR1 _ hk' _ (by omega), hR1 _ hk' _ (by omega), hgg.ar (r := 103) (by rw [(c1.r6 hk').2.1]; omega) (by omega), hgg.ar (r := 102) (by rw [(c1.r7 hk').2.1]; omega) (by omega)]
      have := c6 k (by omega)
      rw [ea.hd, ea.pr, ea.ou, ea.2.1] at this
      exact this
  · by_cases c : k = h
    · subst c
      rw [ho_hh ht', hR1 t ht _ (by omega), hgg.aj (r := 80) (by rw [(c1.r8 ht).2.1]; omega) (by omega), hw j hj, an.2]
      by_cases cj : j < k
      · rw [decide_eq_true cj, decide_eq_true (show j < k + 1 by omega), ho_hd cj]
      · rw [decide_eq_false cj, Bool.false_and]
        by_cases cj2 : j = k
        · subst cj2
          rw [ho_hh ht']
          cases ca : anc M n j t t with
          | false => rw [Bool.and_false]
          | true =>
            obtain ⟨x, hx2, e⟩ := anc_lt2 hO (Nat.le_refl _) hp ca
            exact absurd e.symm (hd_no hnd hx2)
        · rw [decide_eq_false (show ¬ j < k + 1 by omega), Bool.false_and]
    · have hk' := hG.hn k (by omega)
      rw [ho_hd (by omega), hR1 _ hk' _ (by omega), hgg.aj (r := 80) (by rw [(c1.r8 hk').2.1]; omega) (by omega), an.1 k (by omega)]
      have := c7.1 k (by omega) j hj
      rw [ea.hd, ea.an] at this
      rw [this]
      by_cases cj : j < h
      · rw [decide_eq_true cj, decide_eq_true (show j < h + 1 by omega), ho_hd cj]
      · rw [decide_eq_false cj, Bool.false_and]
        by_cases cj2 : j = h
        · subst cj2
          rw [ho_hh ht']
          cases ca : anc M n j (hdN M k) t with
          | false => rw [Bool.and_false]
          | true =>
            obtain ⟨x, hx2, e⟩ := anc_lt hO k (by omega) _ ca
            exact absurd e.symm (hd_no hnd (by omega))
        · rw [decide_eq_false (show ¬ j < h + 1 by omega), Bool.false_and]
  · have q2 : um M 13 t (nI 2) 13 u = nI 1 := by unfold ho1 at q; rwa [um_n (show (13 : Nat) ≠ 16 by decide)] at q
    rw [hR1 u hu _ (by omega), hgg.aj (r := 80) (by rw [(c1.r8 hu).2.1]; omega) (by omega)]
    exact c7.2 u hu q2
  · exact (GrF.w4 (by omega)).tr (gf (by omega))
theorem cg_hold (hM : MIR g mi) (hC : CR g (setI S 910 (T t) (nI 2)) po go T O (um M 13 t (nI 2)) n h a cf ao mL) (hml : mL = mem M n h) (hG : GV M n h) (hO : ODR M n h) (hnd : hdB M h t = false) (hH : Ht M n t) (hp : PHd M n t h) (hP : PT S T M n t) (hQ : ST S T O M n t) (hw : ∀ j, j < 192 → abt (aJ S 80 (rA S 908 (T t))) j = (decide (j < h) && anc M n h t (hdN M j))) (hh : h < n) (hn : n ≤ 65) (htw : anyU (fun i => twX M t i i) (nX (M 11) t) = false) : Sp l g mX2_hold 5 500 [vr (some go), vr (some (T t))] S (fun r S' => r = none ∧ CR g S' po go T O (joinL (ho1 M h t) n (h + 1) t (nX (M 11) t)) n (h + 1) a cf ao (mem (ho1 M h t) n (h + 1)) ∧ GrF po S S') := by
  have ht := hH.1
  have ht' : t < 1000 := by omega
  have x4 := (hG.2.2.1 t ht).2.2.1
  have m11 : ho1 M h t 11 = M 11 := ho_n (by decide) (by decide)
  have m10 : ho1 M h t 10 = M 10 := ho_n (by decide) (by decide)
  have hG1 := ho_gv hG hH hh
  have eO := out_e (n := n) m10 m11
  have hbt : hdB (ho1 M h t) (h + 1) t = true := by rw [ho_hb ht', decide_eq_true rfl, Bool.or_true]
  have dist : ∀ i j, i < nX (M 11) t → j < i → out M n t j ≠ out M n t i := fun i j hi hj e => by
    have hj' : j < nX (M 11) t := by omega
    obtain ⟨q1, q2⟩ := onum_inj (hG.2.2.1 _ (hH.src_lt hj')) (hG.2.2.1 _ (hH.src_lt hi)) (hH.2.2 j hj').2 (hH.2.2 i hi).2 e
    have x1 := (fdo_some (hH.2.2 j hj').1).2
    have x2 := (fdo_some (hH.2.2 i hi).1).2
    rw [q1] at x1
    have := anyU_no.mp htw i hi
    rw [show twX M t i i = true from anyU_t (i := j) hj (by rw [decide_eq_true (x1.symm.trans x2), decide_eq_true q2]; rfl)] at this
    cases this
  have ea : Sy M (um M 13 t (nI 2)) := um_sy (by decide)
  refine Sp.start (own := RX2) [(0, vr (some go)), (1, vr (some (T t)))] (by decide +kernel) rfl rfl (Nat.le_of_ble_eq_true rfl) ?_
  intro J C
  have L : ∀ i S1, i ≤ nX (M 11) t → (CR g S1 po go T O (joinL (ho1 M h t) n (h + 1) t i) n (h + 1) a cf ao (fun s => if anyU (fun j => decide (out M n t j = s)) i then mem M n h s ++ [t] else mem M n h s) ∧ GrF po S S1) → J 27 [(0, vr (some go)), (1, vr (some (T t))), (2, vi (nI i))] [] S1 (1 + i) (100 + 100 * i) := by
    refine up_loop _ _ _ ?_ ?_
    · intro S1 ⟨hC1, hg1⟩
      have h7 := hC1.pG.r7 ht
      rw [(joinL_sq _).sy.2.1, m11] at h7
      refine r_iload_n (pc := 27) C dX2_hold_27 rfl ?_
      refine r_aload_n (pc := 28) C dX2_hold_28 rfl ?_
      refine r_getR (pc := 29) C dX2_hold_29 fx_RX2_135 (hC1.pG.tk ht) h7.1 ?_
      refine r_alen (pc := 32) C dX2_hold_32 h7.2.1 (by first | decide | omega) ?_
      rw [h7.2.2]
      refine r_icmp_ge (pc := 33) (tgt := 52) C dX2_hold_33 (by decide) (fun c33 => ?_) (fun c33 => ?_)
      · refine r_ret (pc := 52) C dX2_hold_52 rfl (by omega) (by omega) ?_
        refine ⟨rfl, hC1.mLe (fun s _ => ?_), hg1⟩
        rw [ho_mem ht']
        show (mem M n h s ++ if inS M n t s = true then [t] else []) = if inS M n t s = true then mem M n h s ++ [t] else mem M n h s
        split
        · rfl
        · rw [List.append_nil]
      · exact absurd (Int32.le_refl _) c33
    · intro i S1 hi ⟨hC1, hg1⟩ ih
      have sq := @joinL_sq (ho1 M h t) n (h + 1) t i
      have e1 := sq.sy
      have hGi := hG1.sq sq
      have h7 := hC1.pG.r7 ht
      rw [e1.2.1, m11] at h7
      have hQi := (hC1.pst hGi (t := t) (by rw [e1.hb]; exact hbt)).2 i (by rw [e1.2.1, m11]; exact hi)
      rw [e1.ou, eO] at hQi
      have hno : anyU (fun j => decide (out M n t j = out M n t i)) i = false := anyU_no.mpr (fun j hj => decide_eq_false (dist i j hi hj))
      have hmi : (if anyU (fun j => decide (out M n t j = out M n t i)) i = true then mem M n h (out M n t i) ++ [t] else mem M n h (out M n t i)) = mem M n h (out M n t i) := by rw [hno]; rfl
      have hlen : (mem M n h (out M n t i)).length = mbs M n h (out M n t i) := mem_len h
      have hle : mbs M n h (out M n t i) ≤ h := cntU_le
      have hmb : mbs (joinL (ho1 M h t) n (h + 1) t i) n (h + 1) (out M n t i) = mbs M n h (out M n t i) + 1 := by
        rw [e1.mb, ← mem_len, ho_mem ht', if_pos (inS_iff.mpr ⟨i, hi, rfl⟩), List.length_append, hlen]; rfl
      refine r_iload_n (pc := 27) C dX2_hold_27 rfl ?_
      refine r_aload_n (pc := 28) C dX2_hold_28 rfl ?_
      refine r_getR (pc := 29) C dX2_hold_29 fx_RX2_135 (hC1.pG.tk ht) h7.1 ?_
      refine r_alen (pc := 32) C dX2_hold_32 h7.2.1 (by first | decide | omega) ?_
      rw [h7.2.2]
      refine r_icmp_ge (pc := 33) (tgt := 52) C dX2_hold_33 (by decide) (fun c33 => ?_) (fun c33 => ?_)
      · exact absurd c33 (nI_ge hi (by omega))
      · refine r_aload_n (pc := 36) C dX2_hold_36 rfl ?_
        refine r_getR (pc := 37) C dX2_hold_37 fx_RX2_135 (hC1.pG.tk ht) h7.1 ?_
        refine r_iload_n (pc := 40) C dX2_hold_40 rfl ?_
        refine r_aald (pc := 41) C dX2_hold_41 h7.2.1 (by decide) h7.2.2 (by first | assumption | exact vp_in_nI (by omega) (by omega)) (by first | exact nI_clamp (by omega) | rfl) ?_
        rw [hQi.1]
        refine r_aload_n (pc := 42) C dX2_hold_42 rfl ?_
        refine r_callV C (cg_join (t := t) hM hC1 hGi hQi.2 ht (by rw [hmi, hlen]; omega) (fun u hu => by
          rw [hmi] at hu
          obtain ⟨⟨k, hk, e⟩, -⟩ := mem_in.mp hu
          rw [← e]; exact hG.hn k hk)) iX3_join ml_RX2_139 dX2_hold_43 (ci := 4) rfl rfl (hC1.pG.o hQi.2).1 rfl (by decide) rfl (by simp [cv, Value.category, va_rf]) (by omega) (by omega) (fun r43 S43 h43 => ?_)
        obtain ⟨rfl, hC2, hg2⟩ := h43
        dsimp only [Option.toList, List.cons_append, List.nil_append]
        refine r_iinc (pc := 46) C _ dX2_hold_46 rfl (nI_1 _) (by decide) rfl ?_
        refine r_goto (pc := 49) (tgt := 27) C dX2_hold_49 (by decide) ?_
        refine r_lv C [(0, vr (some go)), (1, vr (some (T t))), (2, vi (nI (i + 1)))] rfl ?_
        rw [show 1 + i + 1 = 1 + (i + 1) by omega, show 100 + 100 * i + 100 = 100 + 100 * (i + 1) by omega]
        refine ih _ ⟨?_, hg1.tr hg2⟩
        rw [hmi, hlen] at hC2
        have eM : joinL (ho1 M h t) n (h + 1) t (i + 1) = if mbs M n h (out M n t i) = 0 then um (um (joinL (ho1 M h t) n (h + 1) t i) 22 (out M n t i) (nI t)) 23 (out M n t i) (nI t) else joinL (ho1 M h t) n (h + 1) t i := by
          conv => lhs; unfold joinL
          rw [eO, hmb]
          by_cases c0 : mbs M n h (out M n t i) = 0
          · rw [if_pos c0, if_pos (by omega)]
          · rw [if_neg c0, if_neg (by omega)]
        rw [eM]
        refine hC2.mLe (fun s _ => ?_)
        by_cases e5 : s = out M n t i
        · have e6 : anyU (fun j => decide (out M n t j = s)) (i + 1) = true := anyU_t (i := i) (by omega) (decide_eq_true e5.symm)
          rw [if_pos e5, if_pos e6, e5]
        · have e6 : anyU (fun j => decide (out M n t j = s)) (i + 1) = anyU (fun j => decide (out M n t j = s)) i := by
            simp only [anyU]
            rw [decide_eq_false (show ¬ out M n t i = s from fun q => e5 q.symm), Bool.or_false]
          rw [if_neg e5, e6]
  refine r_aload_n (pc := 0) C dX2_hold_0 rfl ?_
  refine r_iconst (pc := 1) C (nI 2) dX2_hold_1 rfl ?_
  refine r_putI (pc := 2) C dX2_hold_2 fx_RX2_57 (fp_9_10 _) (show sK S (T t) = 9 + 1 from hC.pG.tk ht) ?_
  refine r_aload_n (pc := 5) C dX2_hold_5 rfl ?_
  refine r_aload_n (pc := 6) C dX2_hold_6 rfl ?_
  refine r_getR (pc := 7) C dX2_hold_7 fx_RX2_25 hC.pG.gk hC.pG.1.2.2.1 ?_
  refine r_callV (pc := 10) C (ct_size hC.pL.l1) iJx4a65c_size_8abf5 ml_RX2_60 dX2_hold_10 (ci := 0) rfl rfl hC.pL.l1.k rfl (by decide) rfl (by simp [cv, Value.category, va_rf]) (by omega) (by omega) (fun r10 S10 h10 => ?_)
  obtain ⟨rfl, e10⟩ := h10
  subst S10
  dsimp only [Option.toList, List.cons_append, List.nil_append]
  refine r_putI (pc := 13) C dX2_hold_13 fx_RX2_54 (fp_9_9 _) (hC.pG.tk ht) ?_
  have hg9 : Ag (fun f _ => f ≠ 909) (fun _ _ => True) (fun _ _ => True) (setI S 910 (T t) (nI 2)) (setI (setI S 910 (T t) (nI 2)) 909 (T t) (nI h)) := Ag.si (fun q => q rfl)
  have hL1 := hC.pL.l1.ag (by omega) hg9 (by decide) trivial (fun _ => trivial)
  rw [ea.hd] at hL1
  refine r_aload_n (pc := 16) C dX2_hold_16 rfl ?_
  refine r_getR (pc := 17) C dX2_hold_17 fx_RX2_25 (show sK (setI (setI S 910 (T t) (nI 2)) 909 (T t) (nI h)) go = 3 + 1 from hC.pG.gk) hC.pG.1.2.2.1 ?_
  refine r_aload_n (pc := 20) C dX2_hold_20 rfl ?_
  refine r_callV (pc := 21) C (ct_add (by omega) (by omega) hM hL1 (fun i hi => ⟨9, Or.inl rfl, hC.pG.tk (hG.hn i hi)⟩) ⟨9, Or.inl rfl, hC.pG.tk ht⟩) iJx4a65c_add_9ea2d ml_RX2_39 dX2_hold_21 (ci := 0) rfl rfl hL1.k rfl (by decide) rfl (by simp [cv, Value.category, va_rf]) (by omega) (by omega) (fun r21 S21 h21 => ?_)
  obtain ⟨rfl, hL2, hAu⟩ := h21
  dsimp only [Option.toList, List.cons_append, List.nil_append]
  obtain ⟨hC2, hg2⟩ := CR.hds hC hG hO ht hnd hp hP hQ hw hAu hL2
  refine r_pop (pc := 24) C dX2_hold_24 rfl ?_
  refine r_iconst (pc := 25) C (nI 0) dX2_hold_25 rfl ?_
  refine r_istore_n (pc := 26) C dX2_hold_26 (by decide) rfl ?_
  refine r_lv C [(0, vr (some go)), (1, vr (some (T t))), (2, vi (nI 0))] rfl (L 0 _ (by omega) ⟨?_, (GrF.w4 (by omega)).tr hg2⟩)
  refine hC2.mLe (fun s _ => ?_)
  rw [hml]; rfl
end HoldC
