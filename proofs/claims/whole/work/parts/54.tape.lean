/-! The class: tape -/
def TP (S : hS) (to ba : Nat) : Prop := sK S to = 9 ∧ sR S 800 to = some ba ∧ sK S ba = 21 ∧ sN S ba = 128
def tput (S : hS) (to ba : Nat) (f : Nat → Int32) (n : Int32) : hS := setI (putI S 21 ba f) 801 to n
def af (f : Nat → Int32) (tp : Nat) (b : Int32) : Nat → (Nat → Int32)
  | 0 => f
  | i + 1 => upd (af f tp b i) (tp + i) (b8 (by4 b i))
theorem i32_nat (x : Int32) : x.toBitVec.toNat = (x.toInt % 4294967296).toNat := by
  have h := x.toBitVec.isLt
  show _ = (x.toBitVec.toInt % 4294967296).toNat
  rw [BitVec.toInt_eq_toNat_cond]
  split <;> omega
theorem lo8 {x y : Int32} (h : x.toBitVec.toNat % 256 = y.toBitVec.toNat % 256) : x.toInt8 = y.toInt8 := by
  apply Int8.toBitVec_inj.mp
  apply BitVec.eq_of_toNat_eq
  rw [Int32.toBitVec_toInt8, Int32.toBitVec_toInt8, BitVec.signExtend_eq_setWidth_of_le _ (by decide), BitVec.signExtend_eq_setWidth_of_le _ (by decide), BitVec.toNat_setWidth, BitVec.toNat_setWidth]
  exact h
theorem ush8 {b : Int32} {s : Int32} {k : Nat} (hk : k ≤ 24) (h1 : ((s.toUInt32 &&& Int32.toUInt32 31).toBitVec % 32).toNat = k) (h2 : ((s &&& 31).toBitVec.smod 32).toNat = k) (hc : k = 0 ∨ k = 8 ∨ k = 16 ∨ k = 24) : (b.toUInt32 >>> (s.toUInt32 &&& Int32.toUInt32 31)).toInt32.toBitVec.toNat % 256 = (b >>> (s &&& 31)).toBitVec.toNat % 256 := by
  rw [pk_ushr b s k h1, i32_nat (b >>> (s &&& 31)), pk_shr b (s &&& 31) k h2, Int.shiftRight_eq_div_pow, i32_nat b]
  have h3 := Int32.toInt_lt b
  have h4 := Int32.le_toInt b
  generalize b.toInt = z at h3 h4 ⊢
  rcases hc with rfl | rfl | rfl | rfl
  · simp only [Nat.pow_zero, Nat.div_one]; omega
  · omega
  · omega
  · omega
theorem by4_u {b : Int32} {i : Nat} (hi : i < 4) : (b.toUInt32 >>> ((fs i).toUInt32 &&& Int32.toUInt32 31)).toInt32.toInt8.toInt32.toInt8.toInt32 = b8 (by4 b i) := by
  have h0 : ∀ x : Int32, x.toInt8.toInt32.toInt8 = x.toInt8 := fun x => by simp
  unfold b8
  rw [h0]
  congr 1
  apply lo8
  rw [nI_tb, BitVec.toNat_ofNat]
  have hb : by4 b i < 256 := Nat.mod_lt _ (by decide)
  rw [Nat.mod_eq_of_lt (show by4 b i < 2 ^ 32 by omega), Nat.mod_eq_of_lt hb]
  unfold by4
  match i, hi with
  | 0, _ => exact ush8 (k := 24) (by omega) (by decide) (by decide) (by omega)
  | 1, _ => exact ush8 (k := 16) (by omega) (by decide) (by decide) (by omega)
  | 2, _ => exact ush8 (k := 8) (by omega) (by decide) (by decide) (by omega)
  | 3, _ => exact ush8 (k := 0) (by omega) (by decide) (by decide) (by omega)
theorem fs_nn : ∀ i, i < 4 → ¬ fs i < 0 := by decide
theorem fs_st : ∀ i, i < 4 → fs i + -8 = fs (i + 1) := by decide
section Tape
variable {l : Launch} {g : GG} {S : hS} {to ba : Nat} {f f' : Nat → Int32} {n n' : Int32}
theorem tput_f : aI (tput S to ba f n) 21 ba = f := aI_ps
theorem tput_n : sI (tput S to ba f n) 801 to = n := sI_s
theorem setI_setI {k b : Nat} {v w : Int32} : setI (setI S k b v) k b w = setI S k b w := by
  unfold setI
  simp only [Prod.mk.injEq, true_and, and_true]
  funext x y
  simp only [u2]
  split
  · split <;> rfl
  · rfl
theorem setI_id {k b : Nat} : setI S k b (sI S k b) = S := by
  obtain ⟨s1, s2, s3, s4, s5, s6, s7, s8⟩ := S
  unfold setI
  simp only [Prod.mk.injEq, true_and, and_true]
  funext x y
  simp only [u2, sI]
  split
  · next h => split
              · next h2 => rw [h, h2]
              · rfl
  · rfl
theorem tput_pf : putI (tput S to ba f n) 21 ba f' = tput S to ba f' n := by
  show setI (putI (putI S 21 ba f) 21 ba f') 801 to n = _
  rw [putI_putI]
  rfl
theorem tput_pn : setI (tput S to ba f n) 801 to n' = tput S to ba f n' := setI_setI
theorem tput_id : tput S to ba (aI S 21 ba) (sI S 801 to) = S := by
  unfold tput
  rw [putI_id, setI_id]
theorem cl_appendN {b : Int32} {tp : Nat} (hT : TP S to ba) (ht : sI S 801 to = nI tp) (htp : 124 < tp) (htp2 : tp ≤ 128) : Sp l g mX7_append 0 0 [vr (some to), vi b] S (fun r S' => r = some (vi (bi false)) ∧ S' = S) := by
  obtain ⟨hk, hb, kb, nb⟩ := hT
  refine Sp.start (own := RX7) [(0, vr (some to)), (1, vi b)] (by decide +kernel) rfl rfl (Nat.le_of_ble_eq_true rfl) ?_
  intro J C
  refine r_aload_n (pc := 0) C dX7_append_0 rfl ?_
  refine r_getI (pc := 1) C dX7_append_1 fx_RX7_13 (by assumption) ?_
  rw [ht]
  refine r_iconst (pc := 4) C (nI 4) dX7_append_4 rfl ?_
  refine r_iadd (pc := 5) C dX7_append_5 ?_
  try simp only [nI_add, pk_mul]
  refine r_sipush (pc := 6) C (nI 128) dX7_append_6 rfl ?_
  refine r_icmp_le (pc := 9) (tgt := 14) C dX7_append_9 (by decide) (fun c9 => ?_) (fun c9 => ?_)
  · exact absurd c9 (nI_ge (by omega) (by omega))
  · refine r_iconst (pc := 12) C (nI 0) dX7_append_12 rfl ?_
    refine r_zret (pc := 13) C dX7_append_13 rfl (by first | exact Or.inl rfl | exact Or.inr rfl | assumption) (by omega) (by omega) ?_
    exact ⟨rfl, rfl⟩
theorem cl_append {b : Int32} {tp : Nat} (hT : TP S to ba) (ht : sI S 801 to = nI tp) (htp : tp ≤ 124) : Sp l g mX7_append 0 0 [vr (some to), vi b] S (fun r S' => r = some (vi (bi true)) ∧ S' = tput S to ba (af (aI S 21 ba) tp b 4) (nI (tp + 4))) := by
  obtain ⟨hk, hb, kb, nb⟩ := hT
  have hk' : ∀ f n, sK (tput S to ba f n) to = 8 + 1 := fun _ _ => hk
  have hb' : ∀ f n, sR (tput S to ba f n) 800 to = some ba := fun _ _ => hb
  have kb' : ∀ f n, sK (tput S to ba f n) ba = 21 := fun _ _ => kb
  have nb' : ∀ f n, sN (tput S to ba f n) ba = 128 := fun _ _ => nb
  generalize hf0 : aI S 21 ba = f0
  have hS : S = tput S to ba f0 (nI tp) := by rw [← hf0, ← ht, tput_id]
  refine Sp.start (own := RX7) [(0, vr (some to)), (1, vi b)] (by decide +kernel) rfl rfl (Nat.le_of_ble_eq_true rfl) ?_
  intro J C
  have L : ∀ i (u : Unit), i ≤ 4 → True → J 17 [(0, vr (some to)), (1, vi b), (2, vi (fs i))] [] (tput S to ba (af f0 tp b i) (nI (tp + i))) 0 0 := by
    refine up_loop _ _ _ ?_ ?_
    · intro u _
      refine r_iload_n (pc := 17) C dX7_append_17 rfl ?_
      refine r_if_lt (pc := 18) (tgt := 50) C dX7_append_18 (by decide) (fun c18 => ?_) (fun c18 => ?_)
      · refine r_iconst (pc := 50) C (nI 1) dX7_append_50 rfl ?_
        refine r_zret (pc := 51) C dX7_append_51 rfl (by first | exact Or.inl rfl | exact Or.inr rfl | assumption) (by omega) (by omega) ?_
        exact ⟨rfl, rfl⟩
      · exact absurd (show fs 4 < 0 by decide) c18
    · intro i u hi _ ih
      have hfs := fs_st i hi
      have hfs0 := fs_nn i hi
      refine r_iload_n (pc := 17) C dX7_append_17 rfl ?_
      refine r_if_lt (pc := 18) (tgt := 50) C dX7_append_18 (by decide) (fun c18 => ?_) (fun c18 => ?_)
      · exact absurd c18 hfs0
      · refine r_aload_n (pc := 21) C dX7_append_21 rfl ?_
        refine r_getR (pc := 22) C dX7_append_22 fx_RX7_9 (hk' _ _) (hb' _ _) ?_
        refine r_aload_n (pc := 25) C dX7_append_25 rfl ?_
        refine r_getI (pc := 26) C dX7_append_26 fx_RX7_13 (hk' _ _) ?_
        rw [tput_n]
        refine r_iload_n (pc := 29) C dX7_append_29 rfl ?_
        refine r_iload_n (pc := 30) C dX7_append_30 rfl ?_
        refine r_iushr (pc := 31) C dX7_append_31 ?_
        refine r_i2b (pc := 32) C dX7_append_32 ?_
        refine r_bast (pc := 33) C dX7_append_33 (kb' _ _) (by decide) (nb' _ _) (by first | assumption | exact vp_in_nI (by omega) (by omega)) (by first | exact nI_clamp (by omega) | rfl) (by4_u hi) ?_
        rw [tput_f, tput_pf]
        refine r_aload_n (pc := 34) C dX7_append_34 rfl ?_
        refine r_dup (pc := 35) C dX7_append_35 rfl ?_
        refine r_getI (pc := 36) C dX7_append_36 fx_RX7_13 (hk' _ _) ?_
        rw [tput_n]
        refine r_iconst (pc := 39) C (nI 1) dX7_append_39 rfl ?_
        refine r_iadd (pc := 40) C dX7_append_40 ?_
        try simp only [nI_add, pk_mul]
        refine r_putI (pc := 41) C dX7_append_41 fx_RX7_13 (fp_8_1 _) (hk' _ _) ?_
        rw [tput_pn]
        refine r_iinc (pc := 44) C (fs (i + 1)) dX7_append_44 rfl hfs (by decide) rfl ?_
        refine r_goto (pc := 47) (tgt := 17) C dX7_append_47 (by decide) ?_
        exact r_lv C [(0, vr (some to)), (1, vi b), (2, vi (fs (i + 1)))] rfl (ih u trivial)
  rw [hS]
  refine r_aload_n (pc := 0) C dX7_append_0 rfl ?_
  refine r_getI (pc := 1) C dX7_append_1 fx_RX7_13 (hk' _ _) ?_
  rw [tput_n]
  refine r_iconst (pc := 4) C (nI 4) dX7_append_4 rfl ?_
  refine r_iadd (pc := 5) C dX7_append_5 ?_
  try simp only [nI_add, pk_mul]
  refine r_sipush (pc := 6) C (nI 128) dX7_append_6 rfl ?_
  refine r_icmp_le (pc := 9) (tgt := 14) C dX7_append_9 (by decide) (fun c9 => ?_) (fun c9 => ?_)
  · refine r_bipush (pc := 14) C (nI 24) dX7_append_14 rfl ?_
    refine r_istore_n (pc := 16) C dX7_append_16 (by decide) rfl ?_
    exact r_lv C [(0, vr (some to)), (1, vi b), (2, vi (fs 0))] rfl (L 0 () (by omega) trivial)
  · exact absurd (nI_le (show tp + 4 ≤ 128 by omega) (by omega)) c9
theorem cl_tinit (hk : sK S to = 9) : Sp l g mX7_init 1 128 [vr (some to)] S (fun r S' => r = none ∧ ∃ q, sK S q = 0 ∧ S' = setI (setR (newA S q 21 128) 800 to (some q)) 801 to (nI 0)) := by
  refine Sp.start (own := RX7) [(0, vr (some to))] (by decide +kernel) rfl rfl (Nat.le_of_ble_eq_true rfl) ?_
  intro J C
  refine r_aload_n (pc := 0) C dX7_init_0 rfl ?_
  refine r_oinit (pc := 1) C dX7_init_1 ml_RX7_1 (by decide) (by decide) ?_
  refine r_aload_n (pc := 4) C dX7_init_4 rfl ?_
  refine r_sipush (pc := 5) C (nI 128) dX7_init_5 rfl ?_
  refine r_newa (pc := 8) C 21 dX7_init_8 rfl (by decide) (wd_at 69 (by decide +kernel) rfl) (nI_pos (by omega)) (nI_clamp (by omega)) (by omega) (by omega) (by omega) (fun q8 hq8 => ?_)
  refine r_putR (pc := 10) C dX7_init_10 fx_RX7_9 (fq_8_0 _ rfl rfl) (show sK (newA S q8 21 128) to = 8 + 1 from by rw [sK_na (ne_kq hq8 (show sK S to ≠ 0 by omega))]; exact hk) ?_
  refine r_aload_n (pc := 13) C dX7_init_13 rfl ?_
  refine r_iconst (pc := 14) C (nI 0) dX7_init_14 rfl ?_
  refine r_putI (pc := 15) C dX7_init_15 fx_RX7_13 (fp_8_1 _) (show sK (newA S q8 21 128) to = 8 + 1 from by rw [sK_na (ne_kq hq8 (show sK S to ≠ 0 by omega))]; exact hk) ?_
  refine r_ret (pc := 18) C dX7_init_18 rfl (by omega) (by omega) ?_
  exact ⟨rfl, q8, hq8, rfl⟩
end Tape
