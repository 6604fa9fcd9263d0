/-! The class: polls, the reader of rows -/
def PO (S : hS) (pp sa da k : Nat) : Prop := sK S pp = 7 ∧ sR S 602 pp = some sa ∧ sR S 603 pp = some da ∧ (sK S sa = 39 ∧ sN S sa = k) ∧ sK S da = 91 ∧ sN S da = k
section PollC
variable {l : Launch} {g : GG} {S : hS} {pp sa da k : Nat}
theorem cl_place {x : Int32} (hP : PO S pp sa da k) (hk : k ≤ 10) : Sp l g mX5_placeOf 0 0 [vr (some pp), vi x] S (fun r S' => r = some (vi (oI (fstU (fun j => decide (aI S 39 sa j = x)) k))) ∧ S' = S) := by
  obtain ⟨h1, h2, h3, ⟨h4, h5⟩, h6, h7⟩ := hP
  refine Sp.start (own := RX5) [(0, vr (some pp)), (1, vi x)] (by decide +kernel) rfl rfl (Nat.le_of_ble_eq_true rfl) ?_
  intro J C
  have L : ∀ i (u : Unit), i ≤ k → fstU (fun j => decide (aI S 39 sa j = x)) i = none → J 2 [(0, vr (some pp)), (1, vi x), (2, vi (nI i))] [] S 0 0 := by
    refine up_loop _ _ _ ?_ ?_
    · intro u hu
      refine r_iload_n (pc := 2) C dX5_placeOf_2 rfl ?_
      refine r_aload_n (pc := 3) C dX5_placeOf_3 rfl ?_
      refine r_getR (pc := 4) C dX5_placeOf_4 fx_RX5_19 (by assumption) (by first | assumption | rfl) ?_
      refine r_alen (pc := 7) C dX5_placeOf_7 h4 (by first | decide | omega) ?_
      rw [h5]
      refine r_icmp_ge (pc := 8) (tgt := 29) C dX5_placeOf_8 (by decide) (fun c8 => ?_) (fun c8 => ?_)
      · refine r_iconst (pc := 29) C (-1) dX5_placeOf_29 rfl ?_
        refine r_iret (pc := 30) C dX5_placeOf_30 rfl (by omega) (by omega) ?_
        exact ⟨by rw [hu]; rfl, rfl⟩
      · exact absurd (Int32.le_refl _) c8
    · intro i u hi hu ih
      refine r_iload_n (pc := 2) C dX5_placeOf_2 rfl ?_
      refine r_aload_n (pc := 3) C dX5_placeOf_3 rfl ?_
      refine r_getR (pc := 4) C dX5_placeOf_4 fx_RX5_19 (by assumption) (by first | assumption | rfl) ?_
      refine r_alen (pc := 7) C dX5_placeOf_7 h4 (by first | decide | omega) ?_
      rw [h5]
      refine r_icmp_ge (pc := 8) (tgt := 29) C dX5_placeOf_8 (by decide) (fun c8 => ?_) (fun c8 => ?_)
      · exact absurd c8 (nI_ge hi (by omega))
      · refine r_aload_n (pc := 11) C dX5_placeOf_11 rfl ?_
        refine r_getR (pc := 12) C dX5_placeOf_12 fx_RX5_19 (by assumption) (by first | assumption | rfl) ?_
        refine r_iload_n (pc := 15) C dX5_placeOf_15 rfl ?_
        refine r_iald (pc := 16) C dX5_placeOf_16 h4 (by decide) h5 (by first | assumption | exact vp_in_nI (by omega) (by omega)) (by first | exact nI_clamp (by omega) | rfl) ?_
        refine r_iload_n (pc := 17) C dX5_placeOf_17 rfl ?_
        refine r_icmp_ne (pc := 18) (tgt := 23) C dX5_placeOf_18 (by decide) (fun c18 => ?_) (fun c18 => ?_)
        · refine r_iinc (pc := 23) C _ dX5_placeOf_23 rfl (nI_1 _) (by decide) rfl ?_
          refine r_goto (pc := 26) (tgt := 2) C dX5_placeOf_26 (by decide) ?_
          exact r_lv C [(0, vr (some pp)), (1, vi x), (2, vi (nI (i + 1)))] rfl (ih u (by rw [fstU_f (decide_eq_false c18)]; exact hu))
        · have e2 : fstU (fun j => decide (aI S 39 sa j = x)) k = some i := fstU_le (fstU_t (f := fun j => decide (aI S 39 sa j = x)) (decide_eq_true c18) hu) (by omega)
          refine r_iload_n (pc := 21) C dX5_placeOf_21 rfl ?_
          refine r_iret (pc := 22) C dX5_placeOf_22 rfl (by omega) (by omega) ?_
          exact ⟨by rw [e2]; rfl, rfl⟩
  refine r_iconst (pc := 0) C (nI 0) dX5_placeOf_0 rfl ?_
  refine r_istore_n (pc := 1) C dX5_placeOf_1 (by decide) rfl ?_
  exact r_lv C [(0, vr (some pp)), (1, vi x), (2, vi (nI 0))] rfl (L 0 () (by omega) rfl)
theorem cl_record {j : Nat} {w : Bool} (hP : PO S pp sa da k) (hj : j < k) (hk : k ≤ 10) : Sp l g mX5_record 0 0 [vr (some pp), vi (nI j), vi (bi w)] S (fun r S' => r = none ∧ S' = if w then setI (putI S 91 da (upd (aI S 91 da) j (nI 1))) 604 pp (sI S 604 pp + nI 1) else setI (putI S 91 da (upd (aI S 91 da) j (nI 1))) 605 pp (sI S 605 pp + nI 1)) := by
  obtain ⟨h1, h2, h3, ⟨h4, h5⟩, h6, h7⟩ := hP
  have h1' : ∀ f, sK (putI S 91 da f) pp = 6 + 1 := fun _ => h1
  refine Sp.start (own := RX5) [(0, vr (some pp)), (1, vi (nI j)), (2, vi (bi w))] (by decide +kernel) rfl rfl (Nat.le_of_ble_eq_true rfl) ?_
  intro J C
  refine r_aload_n (pc := 0) C dX5_record_0 rfl ?_
  refine r_getR (pc := 1) C dX5_record_1 fx_RX5_23 h1 (by first | assumption | rfl) ?_
  refine r_iload_n (pc := 4) C dX5_record_4 rfl ?_
  refine r_iconst (pc := 5) C (nI 1) dX5_record_5 rfl ?_
  refine r_zast (pc := 6) C dX5_record_6 h6 (by decide) h7 (by first | assumption | exact vp_in_nI (by omega) (by omega)) (by first | exact nI_clamp (by omega) | rfl) (Or.inr rfl) ?_
  refine r_iload_n (pc := 7) C dX5_record_7 rfl ?_
  refine r_if_eq (pc := 8) (tgt := 24) C dX5_record_8 (by decide) (fun c8 => ?_) (fun c8 => ?_)
  · rw [bi_0] at c8
    refine r_aload_n (pc := 24) C dX5_record_24 rfl ?_
    refine r_dup (pc := 25) C dX5_record_25 rfl ?_
    refine r_getI (pc := 26) C dX5_record_26 fx_RX5_30 (h1' _) ?_
    refine r_iconst (pc := 29) C (nI 1) dX5_record_29 rfl ?_
    refine r_iadd (pc := 30) C dX5_record_30 ?_
    refine r_putI (pc := 31) C dX5_record_31 fx_RX5_30 (fp_6_5 _) (h1' _) ?_
    refine r_ret (pc := 34) C dX5_record_34 rfl (by omega) (by omega) ?_
    first | exact ⟨rfl, by rw [c8]; rfl⟩ | exact ⟨rfl, by rw [ts_nf c8]; rfl⟩
  · rw [bi_0] at c8
    refine r_aload_n (pc := 11) C dX5_record_11 rfl ?_
    refine r_dup (pc := 12) C dX5_record_12 rfl ?_
    refine r_getI (pc := 13) C dX5_record_13 fx_RX5_27 (h1' _) ?_
    refine r_iconst (pc := 16) C (nI 1) dX5_record_16 rfl ?_
    refine r_iadd (pc := 17) C dX5_record_17 ?_
    refine r_putI (pc := 18) C dX5_record_18 fx_RX5_27 (fp_6_4 _) (h1' _) ?_
    refine r_goto (pc := 21) (tgt := 34) C dX5_record_21 (by decide) ?_
    refine r_ret (pc := 34) C dX5_record_34 rfl (by omega) (by omega) ?_
    first | exact ⟨rfl, by rw [c8]; rfl⟩ | exact ⟨rfl, by rw [ts_nf c8]; rfl⟩
theorem cl_poinit {nu : Int32} {ab : Nat} (h0 : sK S pp = 7) (hs : sK S sa = 39) (hn : sN S sa = k) (hk : k ≤ 10) : Sp l g mX5_init 1 10 [vr (some pp), vi nu, vr (some ab), vr (some sa)] S (fun r S' => r = none ∧ ∃ da, sK S da = 0 ∧ S' = setI (setI (setR (newA (setR (setR (setI S 600 pp nu) 601 pp (some ab)) 602 pp (some sa)) da 91 k) 603 pp (some da)) 604 pp (nI 0)) 605 pp (nI 0)) := by
  refine Sp.start (own := RX5) [(0, vr (some pp)), (1, vi nu), (2, vr (some ab)), (3, vr (some sa))] (by decide +kernel) rfl rfl (Nat.le_of_ble_eq_true rfl) ?_
  intro J C
  refine r_aload_n (pc := 0) C dX5_init_0 rfl ?_
  refine r_oinit (pc := 1) C dX5_init_1 ml_RX5_3 (by decide) (by decide) ?_
  refine r_aload_n (pc := 4) C dX5_init_4 rfl ?_
  refine r_iload_n (pc := 5) C dX5_init_5 rfl ?_
  refine r_putI (pc := 6) C dX5_init_6 fx_RX5_9 (fq_6_0 _ rfl rfl) h0 ?_
  refine r_aload_n (pc := 9) C dX5_init_9 rfl ?_
  refine r_aload_n (pc := 10) C dX5_init_10 rfl ?_
  refine r_putR (pc := 11) C dX5_init_11 fx_RX5_15 (fq_6_1 _ rfl rfl) h0 ?_
  refine r_aload_n (pc := 14) C dX5_init_14 rfl ?_
  refine r_aload_n (pc := 15) C dX5_init_15 rfl ?_
  refine r_putR (pc := 16) C dX5_init_16 fx_RX5_19 (fq_6_2 _ rfl rfl) h0 ?_
  refine r_aload_n (pc := 19) C dX5_init_19 rfl ?_
  refine r_aload_n (pc := 20) C dX5_init_20 rfl ?_
  refine r_alen (pc := 21) C dX5_init_21 hs (by first | decide | omega) ?_
  rw [show sN (setR (setR (setI S 600 pp nu) 601 pp (some ab)) 602 pp (some sa)) sa = k from hn]
  refine r_newa (pc := 22) C 91 dX5_init_22 rfl (by decide) (wd_at 955 (by decide +kernel) rfl) (nI_pos (by omega)) (nI_clamp (by omega)) (by omega) (by omega) (by omega) (fun q22 hq22 => ?_)
  have hq0 : sK S q22 = 0 := hq22
  have hk22 : sK (newA (setR (setR (setI S 600 pp nu) 601 pp (some ab)) 602 pp (some sa)) q22 91 k) pp = 6 + 1 := by rw [sK_na (ne_kq hq0 (by omega))]; exact h0
  refine r_putR (pc := 24) C dX5_init_24 fx_RX5_23 (fq_6_3 _ rfl rfl) hk22 ?_
  refine r_aload_n (pc := 27) C dX5_init_27 rfl ?_
  refine r_iconst (pc := 28) C (nI 0) dX5_init_28 rfl ?_
  refine r_putI (pc := 29) C dX5_init_29 fx_RX5_27 (fp_6_4 _) hk22 ?_
  refine r_aload_n (pc := 32) C dX5_init_32 rfl ?_
  refine r_iconst (pc := 33) C (nI 0) dX5_init_33 rfl ?_
  refine r_putI (pc := 34) C dX5_init_34 fx_RX5_30 (fp_6_5 _) hk22 ?_
  refine r_ret (pc := 37) C dX5_init_37 rfl (by omega) (by omega) ?_
  exact ⟨rfl, q22, hq0, rfl⟩
end PollC
/-- the reader at ro over the row ra of m bytes tb -/
def RD (S : hS) (ro ra m : Nat) (tb : Nat → Nat) : Prop := sK S ro = 8 ∧ sR S 700 ro = some ra ∧ sK S ra = 22 ∧ sN S ra = m ∧ (∀ i, i < m → aI S 22 ra i &&& nI 255 = nI (tb i)) ∧ m ≤ 128
def rput (S : hS) (ro : Nat) (a f : Int32) : hS := setI (setI S 701 ro a) 702 ro f
section Reader
variable {l : Launch} {g : GG} {S : hS} {ro ra m i : Nat} {tb : Nat → Nat} {ok : Bool} {a f a' f' : Int32}
theorem setI_comm {k1 k2 b1 b2 : Nat} {v w : Int32} (h : k1 ≠ k2) : setI (setI S k1 b1 v) k2 b2 w = setI (setI S k2 b2 w) k1 b1 v := by
  unfold setI
  simp only [Prod.mk.injEq, true_and, and_true]
  funext x y
  simp only [u2]
  by_cases e1 : x = k2
  · have hne : ¬ x = k1 := fun e2 => h (e2.symm.trans e1)
    simp only [if_pos e1, if_neg hne]
  · simp only [if_neg e1]
theorem rp_a : sI (rput S ro a f) 701 ro = a := by
  unfold rput
  rw [sI_n (Or.inl (by decide)), sI_s]
theorem rp_f : sI (rput S ro a f) 702 ro = f := sI_s
theorem rp_sf : setI (rput S ro a f) 702 ro f' = rput S ro a f' := setI_setI
theorem rp_sa : setI (rput S ro a f) 701 ro a' = rput S ro a' f := by
  unfold rput
  rw [setI_comm (by decide), setI_setI]
theorem rp_rp : rput (rput S ro a f) ro a' f' = rput S ro a' f' := by
  show setI (setI (rput S ro a f) 701 ro a') 702 ro f' = _
  rw [rp_sa, rp_sf]
theorem rp_id (h1 : sI S 701 ro = a) (h2 : sI S 702 ro = f) : rput S ro a f = S := by
  subst h1; subst h2
  unfold rput
  rw [setI_id, setI_id]
theorem RD.rp (h : RD S ro ra m tb) : RD (rput S ro a f) ro ra m tb := h
theorem cl_nextByte (hR : RD S ro ra m tb) (hi : i ≤ m) : Sp l g mX6_nextByte 0 0 [vr (some ro)] (rput S ro (nI i) (bi ok)) (fun r S' => (i < m ∧ r = some (vi (nI (tb i))) ∧ S' = rput S ro (nI (i + 1)) (bi ok)) ∨ (i = m ∧ r = some (vi (nI 0)) ∧ S' = rput S ro (nI i) (bi false))) := by
  obtain ⟨h1, h2, h3, h4, h5, h6⟩ := hR
  have h1' : ∀ a f, sK (rput S ro a f) ro = 7 + 1 := fun _ _ => h1
  have h2' : ∀ a f, sR (rput S ro a f) 700 ro = some ra := fun _ _ => h2
  refine Sp.start (own := RX6) [(0, vr (some ro))] (by decide +kernel) rfl rfl (Nat.le_of_ble_eq_true rfl) ?_
  intro J C
  refine r_aload_n (pc := 0) C dX6_nextByte_0 rfl ?_
  refine r_getI (pc := 1) C dX6_nextByte_1 fx_RX6_13 (h1' _ _) ?_
  rw [rp_a]
  refine r_aload_n (pc := 4) C dX6_nextByte_4 rfl ?_
  refine r_getR (pc := 5) C dX6_nextByte_5 fx_RX6_7 (h1' _ _) (h2' _ _) ?_
  refine r_alen (pc := 8) C dX6_nextByte_8 (show sK (rput S ro (nI i) (bi ok)) ra = 22 from h3) (by first | decide | omega) ?_
  rw [show sN (rput S ro (nI i) (bi ok)) ra = m from h4]
  refine r_icmp_lt (pc := 9) (tgt := 19) C dX6_nextByte_9 (by decide) (fun c9 => ?_) (fun c9 => ?_)
  · rw [nI_ltI (by omega) (by omega)] at c9
    refine r_aload_n (pc := 19) C dX6_nextByte_19 rfl ?_
    refine r_getR (pc := 20) C dX6_nextByte_20 fx_RX6_7 (h1' _ _) (h2' _ _) ?_
    refine r_aload_n (pc := 23) C dX6_nextByte_23 rfl ?_
    refine r_getI (pc := 24) C dX6_nextByte_24 fx_RX6_13 (h1' _ _) ?_
    rw [rp_a]
    refine r_bald (pc := 27) C dX6_nextByte_27 (show sK (rput S ro (nI i) (bi ok)) ra = 22 from h3) (by decide) (show sN (rput S ro (nI i) (bi ok)) ra = m from h4) (by first | assumption | exact vp_in_nI (by omega) (by omega)) (by first | exact nI_clamp (by omega) | rfl) ?_
    rw [show aI (rput S ro (nI i) (bi ok)) 22 ra = aI S 22 ra from rfl]
    refine r_sipush (pc := 28) C (nI 255) dX6_nextByte_28 rfl ?_
    refine r_iand (pc := 31) C dX6_nextByte_31 ?_
    rw [h5 i c9]
    refine r_istore_n (pc := 32) C dX6_nextByte_32 (by decide) rfl ?_
    refine r_aload_n (pc := 33) C dX6_nextByte_33 rfl ?_
    refine r_dup (pc := 34) C dX6_nextByte_34 rfl ?_
    refine r_getI (pc := 35) C dX6_nextByte_35 fx_RX6_13 (h1' _ _) ?_
    rw [rp_a]
    refine r_iconst (pc := 38) C (nI 1) dX6_nextByte_38 rfl ?_
    refine r_iadd (pc := 39) C dX6_nextByte_39 ?_
    try simp only [nI_add, pk_mul]
    refine r_putI (pc := 40) C dX6_nextByte_40 fx_RX6_13 (fp_7_1 _) (h1' _ _) ?_
    rw [rp_sa]
    refine r_iload_n (pc := 43) C dX6_nextByte_43 rfl ?_
    refine r_iret (pc := 44) C dX6_nextByte_44 rfl (by omega) (by omega) ?_
    exact Or.inl ⟨c9, rfl, rfl⟩
  · rw [nI_ltI (by omega) (by omega)] at c9
    refine r_aload_n (pc := 12) C dX6_nextByte_12 rfl ?_
    refine r_iconst (pc := 13) C (nI 0) dX6_nextByte_13 rfl ?_
    refine r_putI (pc := 14) C dX6_nextByte_14 fx_RX6_17 (fp_7_2 _ (Or.inl rfl)) (h1' _ _) ?_
    rw [rp_sf]
    refine r_iconst (pc := 17) C (nI 0) dX6_nextByte_17 rfl ?_
    refine r_iret (pc := 18) C dX6_nextByte_18 rfl (by omega) (by omega) ?_
    exact Or.inr ⟨by omega, rfl, rfl⟩
/-- 8 bits more -/
theorem sh8 {a b : Nat} (ha : a < 2 ^ 24) (hb : b < 256) : nI a <<< (nI 8 &&& 31) ||| nI b = nI (a * 256 + b) := by
  rw [pk_shlN _ 8 (by decide) (by omega), nI_or]
  congr 1
  rw [Nat.or_comm, Nat.mul_comm]
  exact (Nat.two_pow_add_eq_or_of_lt (i := 8) hb a).symm ▸ (by rw [Nat.or_comm])
def wdU (tb : Nat → Nat) (i : Nat) : Nat → Nat
  | 0 => 0
  | j + 1 => wdU tb i j * 256 + tb (i + j)
theorem wdU_lt {tb : Nat → Nat} (i : Nat) (hb : ∀ i, tb i < 256) : ∀ j, wdU tb i j < 256 ^ j
  | 0 => by simp [wdU]
  | j + 1 => by
    have h1 := wdU_lt i hb j
    have h2 := hb (i + j)
    simp only [wdU]
    rw [Nat.pow_succ]
    omega
theorem wdU_4 : wdU tb i 4 = w4 (tb i) (tb (i + 1)) (tb (i + 2)) (tb (i + 3)) := by
  simp only [wdU, w4, Nat.add_zero]
  omega
theorem cl_nextWord (hR : RD S ro ra m tb) (hb : ∀ i, tb i < 256) (hi : i ≤ m) : Sp l g mX6_nextWord 0 0 [vr (some ro)] (rput S ro (nI i) (bi ok)) (fun r S' => ∃ v i2 ok2, r = some (vi v) ∧ S' = rput S ro (nI i2) (bi ok2) ∧ i2 ≤ m ∧ (ok2 = true ↔ ok = true ∧ i + 4 ≤ m) ∧ (ok2 = true → v = f4 tb i ∧ i2 = i + 4)) := by
  have h1' : ∀ a f, sK (rput S ro a f) ro = 7 + 1 := fun _ _ => hR.1
  have hm := hR.2.2.2.2.2
  refine Sp.start (own := RX6) [(0, vr (some ro))] (by decide +kernel) rfl rfl (Nat.le_of_ble_eq_true rfl) ?_
  intro J C
  have L : ∀ j (z : hS × Int32), j ≤ 4 → (∃ i2 ok2, z.1 = rput S ro (nI i2) (bi ok2) ∧ i2 ≤ m ∧ (ok2 = true ↔ ok = true ∧ i + j ≤ m) ∧ (ok2 = true → z.2 = nI (wdU tb i j) ∧ i2 = i + j)) → J 4 [(0, vr (some ro)), (1, vi z.2), (2, vi (nI j))] [] z.1 0 0 := by
    refine up_loop _ _ _ ?_ ?_
    · intro z hz
      obtain ⟨S1, v⟩ := z
      obtain ⟨i2, ok2, rfl, q1, q2, q3⟩ := hz
      refine r_iload_n (pc := 4) C dX6_nextWord_4 rfl ?_
      refine r_iconst (pc := 5) C (nI 4) dX6_nextWord_5 rfl ?_
      refine r_icmp_ge (pc := 6) (tgt := 25) C dX6_nextWord_6 (by decide) (fun c6 => ?_) (fun c6 => ?_)
      · refine r_iload_n (pc := 25) C dX6_nextWord_25 rfl ?_
        refine r_iret (pc := 26) C dX6_nextWord_26 rfl (by omega) (by omega) ?_
        exact ⟨v, i2, ok2, rfl, rfl, q1, q2, fun h => ⟨by have q4 : v = nI (wdU tb i 4) := (q3 h).1; rw [q4, wdU_4]; rfl, (q3 h).2⟩⟩
      · exact absurd (Int32.le_refl _) c6
    · intro j z hj hz ih
      obtain ⟨S1, v⟩ := z
      obtain ⟨i2, ok2, rfl, q1, q2, q3⟩ := hz
      have hW := wdU_lt i hb j
      have hW2 : wdU tb i j < 2 ^ 24 := Nat.lt_of_lt_of_le hW (by
        rw [show (2 : Nat) ^ 24 = 256 ^ 3 from rfl]
        exact Nat.pow_le_pow_right (by omega) (by omega))
      dsimp only at q3 ⊢
      refine r_iload_n (pc := 4) C dX6_nextWord_4 rfl ?_
      refine r_iconst (pc := 5) C (nI 4) dX6_nextWord_5 rfl ?_
      refine r_icmp_ge (pc := 6) (tgt := 25) C dX6_nextWord_6 (by decide) (fun c6 => ?_) (fun c6 => ?_)
      · exact absurd c6 (nI_ge hj (by omega))
      · refine r_iload_n (pc := 9) C dX6_nextWord_9 rfl ?_
        refine r_bipush (pc := 10) C (nI 8) dX6_nextWord_10 rfl ?_
        refine r_ishl (pc := 12) C dX6_nextWord_12 ?_
        refine r_aload_n (pc := 13) C dX6_nextWord_13 rfl ?_
        refine r_callV (pc := 14) C (cl_nextByte hR q1) iX6_nextByte ml_RX6_31 dX6_nextWord_14 (ci := 7) rfl rfl (h1' _ _) rfl (by decide) rfl (by simp [cv, Value.category, va_rf]) (by omega) (by omega) (fun r14 S14 h14 => ?_)
        obtain ⟨b1, rfl, rfl⟩ | ⟨b1, rfl, rfl⟩ := h14
        dsimp only [Option.toList, List.cons_append, List.nil_append]
        all_goals try dsimp only [Option.toList, List.cons_append, List.nil_append]
        all_goals refine r_ior C dX6_nextWord_17 ?_
        all_goals refine r_istore_n C dX6_nextWord_18 (by decide) rfl ?_
        all_goals refine r_iinc C _ dX6_nextWord_19 rfl (nI_1 _) (by decide) rfl ?_
        all_goals refine r_goto (tgt := 4) C dX6_nextWord_22 (by decide) ?_
        · refine r_lv C [(0, vr (some ro)), (1, vi _), (2, vi (nI (j + 1)))] rfl (ih (_, _) ⟨i2 + 1, ok2, rfl, by omega, ⟨fun h => ?_, fun h => ?_⟩, fun h => ?_⟩)
          · have := q2.mp h; have := (q3 h).2; exact ⟨by simp_all, by omega⟩
          · exact q2.mpr ⟨h.1, by omega⟩
          · obtain ⟨q4, q5⟩ := q3 h
            refine ⟨?_, by omega⟩
            show v <<< (nI 8 &&& 31) ||| nI (tb i2) = nI (wdU tb i (j + 1))
            rw [q4, sh8 hW2 (hb _), q5]; rfl
        · refine r_lv C [(0, vr (some ro)), (1, vi _), (2, vi (nI (j + 1)))] rfl (ih (_, _) ⟨i2, false, rfl, q1, ⟨fun h => (by cases h), fun h => ?_⟩, fun h => (by cases h)⟩)
          have h3 := q2.mpr ⟨h.1, by omega⟩
          have h4 := (q3 h3).2
          omega
  refine r_iconst (pc := 0) C (nI 0) dX6_nextWord_0 rfl ?_
  refine r_istore_n (pc := 1) C dX6_nextWord_1 (by decide) rfl ?_
  refine r_iconst (pc := 2) C (nI 0) dX6_nextWord_2 rfl ?_
  refine r_istore_n (pc := 3) C dX6_nextWord_3 (by decide) rfl ?_
  exact r_lv C [(0, vr (some ro)), (1, vi (nI 0)), (2, vi (nI 0))] rfl (L 0 (_, nI 0) (by omega) ⟨i, ok, rfl, hi, ⟨fun h => ⟨h, by omega⟩, fun h => h.1⟩, fun _ => ⟨rfl, rfl⟩⟩)
theorem cl_nextFew (hR : RD S ro ra m tb) (hb : ∀ i, tb i < 256) (hi : i ≤ m) : Sp l g mX6_nextFew 0 0 [vr (some ro)] (rput S ro (nI i) (bi ok)) (fun r S' => ∃ k i2 ok2, r = some (vi (nI k)) ∧ S' = rput S ro (nI i2) (bi ok2) ∧ i2 ≤ m ∧ k ≤ 4 ∧ (ok2 = true ↔ ok = true ∧ i < m ∧ fewB (tb i) = true) ∧ (ok2 = true → k = tb i ∧ i2 = i + 1)) := by
  have h1' : ∀ a f, sK (rput S ro a f) ro = 7 + 1 := fun _ _ => hR.1
  have hbi := hb i
  refine Sp.start (own := RX6) [(0, vr (some ro))] (by decide +kernel) rfl rfl (Nat.le_of_ble_eq_true rfl) ?_
  intro J C
  have P : ∀ x i2 ok2, x < 256 → i2 ≤ m → (i < m ∧ x = tb i ∧ i2 = i + 1 ∧ ok2 = ok ∨ (i = m ∧ x = 0 ∧ ok2 = false)) → J 4 [(0, vr (some ro))] [vi (nI x)] (rput S ro (nI i2) (bi ok2)) 0 0 := by
    intro x i2 ok2 hx hi2 hc
    refine r_istore_n (pc := 4) C dX6_nextFew_4 (by decide) rfl ?_
    refine r_iload_n (pc := 5) C dX6_nextFew_5 rfl ?_
    refine r_iconst (pc := 6) C (nI 1) dX6_nextFew_6 rfl ?_
    refine r_icmp_lt (pc := 7) (tgt := 15) C dX6_nextFew_7 (by decide) (fun c7 => ?_) (fun c7 => ?_)
    · rw [nI_ltI (by omega) (by omega)] at c7
      have hno : ¬ (1 ≤ x ∧ x ≤ 4) := by omega
      refine r_aload_n (pc := 15) C dX6_nextFew_15 rfl ?_
      refine r_iconst (pc := 16) C (nI 0) dX6_nextFew_16 rfl ?_
      refine r_putI (pc := 17) C dX6_nextFew_17 fx_RX6_17 (fp_7_2 _ (Or.inl rfl)) (h1' _ _) ?_
      rw [rp_sf]
      refine r_iconst (pc := 20) C (nI 0) dX6_nextFew_20 rfl ?_
      refine r_iret (pc := 21) C dX6_nextFew_21 rfl (by omega) (by omega) ?_
      refine ⟨0, i2, false, rfl, rfl, hi2, by omega, ⟨fun h => (by cases h), fun h => ?_⟩, fun h => (by cases h)⟩
      rcases hc with ⟨e1, e2, -, -⟩ | ⟨e1, -, -⟩
      · rw [← e2, fewB, Bool.and_eq_true, decide_eq_true_eq, decide_eq_true_eq] at h; omega
      · exact absurd h.2.1 (by omega)
    · rw [nI_ltI (by omega) (by omega)] at c7
      refine r_iload_n (pc := 10) C dX6_nextFew_10 rfl ?_
      refine r_iconst (pc := 11) C (nI 4) dX6_nextFew_11 rfl ?_
      refine r_icmp_le (pc := 12) (tgt := 22) C dX6_nextFew_12 (by decide) (fun c12 => ?_) (fun c12 => ?_)
      · rw [nI_leI (by omega) (by omega)] at c12
        refine r_iload_n (pc := 22) C dX6_nextFew_22 rfl ?_
        refine r_iret (pc := 23) C dX6_nextFew_23 rfl (by omega) (by omega) ?_
        rcases hc with ⟨e1, e2, e3, e4⟩ | ⟨e0, e1, e4⟩
        · exact ⟨x, i2, ok2, rfl, rfl, hi2, by omega, ⟨fun h => ⟨by rw [← e4]; exact h, e1, by rw [← e2, fewB, decide_eq_true (show 0 < x by omega), decide_eq_true (show x < 5 by omega)]; rfl⟩, fun h => by rw [e4]; exact h.1⟩, fun _ => ⟨e2, e3⟩⟩
        · omega
      · rw [nI_leI (by omega) (by omega)] at c12
        have hno : ¬ (1 ≤ x ∧ x ≤ 4) := by omega
        refine r_aload_n (pc := 15) C dX6_nextFew_15 rfl ?_
        refine r_iconst (pc := 16) C (nI 0) dX6_nextFew_16 rfl ?_
        refine r_putI (pc := 17) C dX6_nextFew_17 fx_RX6_17 (fp_7_2 _ (Or.inl rfl)) (h1' _ _) ?_
        rw [rp_sf]
        refine r_iconst (pc := 20) C (nI 0) dX6_nextFew_20 rfl ?_
        refine r_iret (pc := 21) C dX6_nextFew_21 rfl (by omega) (by omega) ?_
        refine ⟨0, i2, false, rfl, rfl, hi2, by omega, ⟨fun h => (by cases h), fun h => ?_⟩, fun h => (by cases h)⟩
        rcases hc with ⟨e1, e2, -, -⟩ | ⟨e1, -, -⟩
        · rw [← e2, fewB, Bool.and_eq_true, decide_eq_true_eq, decide_eq_true_eq] at h; omega
        · exact absurd h.2.1 (by omega)
  refine r_aload_n (pc := 0) C dX6_nextFew_0 rfl ?_
  refine r_callV (pc := 1) C (cl_nextByte hR hi) iX6_nextByte ml_RX6_31 dX6_nextFew_1 (ci := 7) rfl rfl (h1' _ _) rfl (by decide) rfl (by simp [cv, Value.category, va_rf]) (by omega) (by omega) (fun r1 S1 h1 => ?_)
  obtain ⟨b1, rfl, rfl⟩ | ⟨b1, rfl, rfl⟩ := h1
  dsimp only [Option.toList, List.cons_append, List.nil_append]
  · exact P _ _ _ hbi (by omega) (Or.inl ⟨b1, rfl, rfl, rfl⟩)
  · exact P _ _ _ (by omega) (by omega) (Or.inr ⟨b1, rfl, rfl⟩)
end Reader
