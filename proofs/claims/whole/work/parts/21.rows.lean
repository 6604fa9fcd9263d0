/-! The reference's readers of rows -/
/-- the byte i of the row t; the number that stands at i -/
def rN (b : Nat → Int32) (t i : Nat) : Nat := (b (56 * t + i)).toBitVec.toNat % 256
def r4 (b : Nat → Int32) (t i : Nat) : Nat := w4 (rN b t i) (rN b t (i + 1)) (rN b t (i + 2)) (rN b t (i + 3))
theorem rN_lt (b : Nat → Int32) (t i : Nat) : rN b t i < 256 := Nat.mod_lt _ (by omega)
/-- parents, inputs, outputs of the row t: how many, where they begin -/
def nP (b : Nat → Int32) (t : Nat) : Nat := if t = 0 then 0 else rN b t 0
def fI (b : Nat → Int32) (t : Nat) : Nat := 1 + 4 * nP b t
def nX (b : Nat → Int32) (t : Nat) : Nat := if t = 0 then 0 else rN b t (fI b t)
def fO (b : Nat → Int32) (t : Nat) : Nat := fI b t + 1 + 5 * nX b t
def nO (b : Nat → Int32) (t : Nat) : Nat := if t = 0 then 8 else rN b t (fO b t)
def pid (b : Nat → Int32) (t i : Nat) : Int32 := nI (r4 b t (1 + 4 * i))
def xid (b : Nat → Int32) (t i : Nat) : Int32 := nI (r4 b t (fI b t + 1 + 5 * i))
def xix (b : Nat → Int32) (t i : Nat) : Nat := rN b t (fI b t + 5 + 5 * i)
def amt (b : Nat → Int32) (t i : Nat) : Int32 := if t = 0 then 1000000 else nI (r4 b t (fO b t + 1 + 4 * i))
/-- a row that can be read: few of each -/
def Rk (b : Nat → Int32) (t : Nat) : Prop := t < 140 ∧ nP b t ≤ 4 ∧ nX b t ≤ 4 ∧ nO b t ≤ 8 ∧ (t ≠ 0 → nO b t ≤ 4)
section ModelRows
variable {l : Launch} {g : GG} {S : hS} {mo : Nat}
theorem cm_at {t i : Nat} (hM : MO S mo) (ht : t < 140) (hi : i < 56) : Sp l g mX10_at 0 0 [vr (some mo), vi (nI t), vi (nI i)] S (fun r S' => r = some (vi (nI (rN (mI S mo 11) t i))) ∧ S' = S) := by
  refine Sp.start (own := RX10) [(0, vr (some mo)), (1, vi (nI t)), (2, vi (nI i))] (by decide +kernel) rfl rfl (Nat.le_of_ble_eq_true rfl) ?_
  intro J C
  have hmo := hM.1
  obtain ⟨h11, k11, n11⟩ := hM.2 11 7840 (by decide)
  refine r_aload_n (pc := 0) C dX10_at_0 rfl ?_
  refine r_getR (pc := 1) C dX10_at_1 fx_RX10_23 (by assumption) (by first | assumption | rfl) ?_
  refine r_bipush (pc := 4) C (nI 56) dX10_at_4 rfl ?_
  refine r_iload_n (pc := 6) C dX10_at_6 rfl ?_
  refine r_imul (pc := 7) C dX10_at_7 ?_
  try simp only [nI_add, pk_mul]
  refine r_iload_n (pc := 8) C dX10_at_8 rfl ?_
  refine r_iadd (pc := 9) C dX10_at_9 ?_
  try simp only [nI_add, pk_mul]
  refine r_bald (pc := 10) C dX10_at_10 (by assumption) (by decide) (by assumption) (by first | assumption | exact vp_in_nI (by omega) (by omega)) (by first | exact nI_clamp (by omega) | rfl) ?_
  refine r_sipush (pc := 11) C (nI 255) dX10_at_11 rfl ?_
  refine r_iand (pc := 14) C dX10_at_14 ?_
  refine r_iret (pc := 15) C dX10_at_15 rfl (by omega) (by omega) ?_
  refine ⟨?_, rfl⟩
  rw [pk_and _ 8 (by decide)]
  rfl
theorem cm_four {t i : Nat} (hM : MO S mo) (ht : t < 140) (hi : i + 3 < 56) : Sp l g mX10_four 0 0 [vr (some mo), vi (nI t), vi (nI i)] S (fun r S' => r = some (vi (nI (r4 (mI S mo 11) t i))) ∧ S' = S) := by
  refine Sp.start (own := RX10) [(0, vr (some mo)), (1, vi (nI t)), (2, vi (nI i))] (by decide +kernel) rfl rfl (Nat.le_of_ble_eq_true rfl) ?_
  intro J C
  have hmo := hM.1
  obtain ⟨h11, k11, n11⟩ := hM.2 11 7840 (by decide)
  refine r_aload_n (pc := 0) C dX10_four_0 rfl ?_
  refine r_iload_n (pc := 1) C dX10_four_1 rfl ?_
  refine r_iload_n (pc := 2) C dX10_four_2 rfl ?_
  refine r_callV (pc := 3) C (cm_at hM ht (by omega)) iX10_at ml_RX10_176 dX10_four_3 (ci := 11) rfl rfl (by assumption) rfl (by decide) rfl (by simp [cv, Value.category, va_rf]) (by omega) (by omega) (fun r3 S3 h3 => ?_)
  obtain ⟨rfl, e3⟩ := h3
  subst S3
  dsimp only [Option.toList, List.cons_append, List.nil_append]
  refine r_bipush (pc := 6) C (nI 24) dX10_four_6 rfl ?_
  refine r_ishl (pc := 8) C dX10_four_8 ?_
  refine r_aload_n (pc := 9) C dX10_four_9 rfl ?_
  refine r_iload_n (pc := 10) C dX10_four_10 rfl ?_
  refine r_iload_n (pc := 11) C dX10_four_11 rfl ?_
  refine r_iconst (pc := 12) C (nI 1) dX10_four_12 rfl ?_
  refine r_iadd (pc := 13) C dX10_four_13 ?_
  try simp only [nI_add, pk_mul]
  refine r_callV (pc := 14) C (cm_at hM ht (by omega)) iX10_at ml_RX10_176 dX10_four_14 (ci := 11) rfl rfl (by assumption) rfl (by decide) rfl (by simp [cv, Value.category, va_rf]) (by omega) (by omega) (fun r14 S14 h14 => ?_)
  obtain ⟨rfl, e14⟩ := h14
  subst S14
  dsimp only [Option.toList, List.cons_append, List.nil_append]
  refine r_bipush (pc := 17) C (nI 16) dX10_four_17 rfl ?_
  refine r_ishl (pc := 19) C dX10_four_19 ?_
  refine r_ior (pc := 20) C dX10_four_20 ?_
  refine r_aload_n (pc := 21) C dX10_four_21 rfl ?_
  refine r_iload_n (pc := 22) C dX10_four_22 rfl ?_
  refine r_iload_n (pc := 23) C dX10_four_23 rfl ?_
  refine r_iconst (pc := 24) C (nI 2) dX10_four_24 rfl ?_
  refine r_iadd (pc := 25) C dX10_four_25 ?_
  try simp only [nI_add, pk_mul]
  refine r_callV (pc := 26) C (cm_at hM ht (by omega)) iX10_at ml_RX10_176 dX10_four_26 (ci := 11) rfl rfl (by assumption) rfl (by decide) rfl (by simp [cv, Value.category, va_rf]) (by omega) (by omega) (fun r26 S26 h26 => ?_)
  obtain ⟨rfl, e26⟩ := h26
  subst S26
  dsimp only [Option.toList, List.cons_append, List.nil_append]
  refine r_bipush (pc := 29) C (nI 8) dX10_four_29 rfl ?_
  refine r_ishl (pc := 31) C dX10_four_31 ?_
  refine r_ior (pc := 32) C dX10_four_32 ?_
  refine r_aload_n (pc := 33) C dX10_four_33 rfl ?_
  refine r_iload_n (pc := 34) C dX10_four_34 rfl ?_
  refine r_iload_n (pc := 35) C dX10_four_35 rfl ?_
  refine r_iconst (pc := 36) C (nI 3) dX10_four_36 rfl ?_
  refine r_iadd (pc := 37) C dX10_four_37 ?_
  try simp only [nI_add, pk_mul]
  refine r_callV (pc := 38) C (cm_at hM ht (by omega)) iX10_at ml_RX10_176 dX10_four_38 (ci := 11) rfl rfl (by assumption) rfl (by decide) rfl (by simp [cv, Value.category, va_rf]) (by omega) (by omega) (fun r38 S38 h38 => ?_)
  obtain ⟨rfl, e38⟩ := h38
  subst S38
  dsimp only [Option.toList, List.cons_append, List.nil_append]
  refine r_ior (pc := 41) C dX10_four_41 ?_
  refine r_iret (pc := 42) C dX10_four_42 rfl (by omega) (by omega) ?_
  exact ⟨by rw [w4_or (rN_lt _ _ _) (rN_lt _ _ _) (rN_lt _ _ _) (rN_lt _ _ _)]; rfl, rfl⟩
theorem cm_parentsOf {t : Nat} (hM : MO S mo) (ht : t < 140) : Sp l g mX10_parentsOf 0 0 [vr (some mo), vi (nI t)] S (fun r S' => r = some (vi (nI (nP (mI S mo 11) t))) ∧ S' = S) := by
  refine Sp.start (own := RX10) [(0, vr (some mo)), (1, vi (nI t))] (by decide +kernel) rfl rfl (Nat.le_of_ble_eq_true rfl) ?_
  intro J C
  have hmo := hM.1
  obtain ⟨h11, k11, n11⟩ := hM.2 11 7840 (by decide)
  refine r_iload_n (pc := 0) C dX10_parentsOf_0 rfl ?_
  refine r_if_ne (pc := 1) (tgt := 8) C dX10_parentsOf_1 (by decide) (fun c1 => ?_) (fun c1 => ?_)
  · have ht0 : t ≠ 0 := fun e => by subst e; exact c1 rfl
    refine r_aload_n (pc := 8) C dX10_parentsOf_8 rfl ?_
    refine r_iload_n (pc := 9) C dX10_parentsOf_9 rfl ?_
    refine r_iconst (pc := 10) C (nI 0) dX10_parentsOf_10 rfl ?_
    refine r_callV (pc := 11) C (cm_at hM ht (by omega)) iX10_at ml_RX10_176 dX10_parentsOf_11 (ci := 11) rfl rfl (by assumption) rfl (by decide) rfl (by simp [cv, Value.category, va_rf]) (by omega) (by omega) (fun r11 S11 h11 => ?_)
    obtain ⟨rfl, e11⟩ := h11
    subst S11
    dsimp only [Option.toList, List.cons_append, List.nil_append]
    refine r_iret (pc := 14) C dX10_parentsOf_14 rfl (by omega) (by omega) ?_
    exact ⟨by simp [nP, ht0], rfl⟩
  · have ht0 : t = 0 := (nI_eq (b := 0) (by omega) (by omega)).mp c1
    refine r_iconst (pc := 4) C (nI 0) dX10_parentsOf_4 rfl ?_
    refine r_goto (pc := 5) (tgt := 14) C dX10_parentsOf_5 (by decide) ?_
    refine r_iret (pc := 14) C dX10_parentsOf_14 rfl (by omega) (by omega) ?_
    exact ⟨by simp [nP, ht0], rfl⟩
theorem cm_parentId {t i : Nat} (hM : MO S mo) (ht : t < 140) (hi : i < 4) : Sp l g mX10_parentId 0 0 [vr (some mo), vi (nI t), vi (nI i)] S (fun r S' => r = some (vi (pid (mI S mo 11) t i)) ∧ S' = S) := by
  refine Sp.start (own := RX10) [(0, vr (some mo)), (1, vi (nI t)), (2, vi (nI i))] (by decide +kernel) rfl rfl (Nat.le_of_ble_eq_true rfl) ?_
  intro J C
  have hmo := hM.1
  obtain ⟨h11, k11, n11⟩ := hM.2 11 7840 (by decide)
  refine r_aload_n (pc := 0) C dX10_parentId_0 rfl ?_
  refine r_iload_n (pc := 1) C dX10_parentId_1 rfl ?_
  refine r_iconst (pc := 2) C (nI 1) dX10_parentId_2 rfl ?_
  refine r_iconst (pc := 3) C (nI 4) dX10_parentId_3 rfl ?_
  refine r_iload_n (pc := 4) C dX10_parentId_4 rfl ?_
  refine r_imul (pc := 5) C dX10_parentId_5 ?_
  try simp only [nI_add, pk_mul]
  refine r_iadd (pc := 6) C dX10_parentId_6 ?_
  try simp only [nI_add, pk_mul]
  refine r_callV (pc := 7) C (cm_four hM ht (by omega)) iX10_four ml_RX10_179 dX10_parentId_7 (ci := 11) rfl rfl (by assumption) rfl (by decide) rfl (by simp [cv, Value.category, va_rf]) (by omega) (by omega) (fun r7 S7 h7 => ?_)
  obtain ⟨rfl, e7⟩ := h7
  subst S7
  dsimp only [Option.toList, List.cons_append, List.nil_append]
  refine r_iret (pc := 10) C dX10_parentId_10 rfl (by omega) (by omega) ?_
  exact ⟨rfl, rfl⟩
theorem cm_inputsFrom {t : Nat} (hM : MO S mo) (ht : t < 140) : Sp l g mX10_inputsFrom 0 0 [vr (some mo), vi (nI t)] S (fun r S' => r = some (vi (nI (fI (mI S mo 11) t))) ∧ S' = S) := by
  refine Sp.start (own := RX10) [(0, vr (some mo)), (1, vi (nI t))] (by decide +kernel) rfl rfl (Nat.le_of_ble_eq_true rfl) ?_
  intro J C
  have hmo := hM.1
  obtain ⟨h11, k11, n11⟩ := hM.2 11 7840 (by decide)
  refine r_iconst (pc := 0) C (nI 1) dX10_inputsFrom_0 rfl ?_
  refine r_iconst (pc := 1) C (nI 4) dX10_inputsFrom_1 rfl ?_
  refine r_aload_n (pc := 2) C dX10_inputsFrom_2 rfl ?_
  refine r_iload_n (pc := 3) C dX10_inputsFrom_3 rfl ?_
  refine r_callV (pc := 4) C (cm_parentsOf hM ht) iX10_parentsOf ml_RX10_182 dX10_inputsFrom_4 (ci := 11) rfl rfl (by assumption) rfl (by decide) rfl (by simp [cv, Value.category, va_rf]) (by omega) (by omega) (fun r4 S4 h4 => ?_)
  obtain ⟨rfl, e4⟩ := h4
  subst S4
  dsimp only [Option.toList, List.cons_append, List.nil_append]
  refine r_imul (pc := 7) C dX10_inputsFrom_7 ?_
  try simp only [nI_add, pk_mul]
  refine r_iadd (pc := 8) C dX10_inputsFrom_8 ?_
  try simp only [nI_add, pk_mul]
  refine r_iret (pc := 9) C dX10_inputsFrom_9 rfl (by omega) (by omega) ?_
  exact ⟨rfl, rfl⟩
theorem cm_inputsOf {t : Nat} (hM : MO S mo) (hR : Rk (mI S mo 11) t) : Sp l g mX10_inputsOf 0 0 [vr (some mo), vi (nI t)] S (fun r S' => r = some (vi (nI (nX (mI S mo 11) t))) ∧ S' = S) := by
  obtain ⟨ht, hp, hx, ho, ho2⟩ := hR
  refine Sp.start (own := RX10) [(0, vr (some mo)), (1, vi (nI t))] (by decide +kernel) rfl rfl (Nat.le_of_ble_eq_true rfl) ?_
  intro J C
  have hmo := hM.1
  obtain ⟨h11, k11, n11⟩ := hM.2 11 7840 (by decide)
  refine r_iload_n (pc := 0) C dX10_inputsOf_0 rfl ?_
  refine r_if_ne (pc := 1) (tgt := 8) C dX10_inputsOf_1 (by decide) (fun c1 => ?_) (fun c1 => ?_)
  · have ht0 : t ≠ 0 := fun e => by subst e; exact c1 rfl
    refine r_aload_n (pc := 8) C dX10_inputsOf_8 rfl ?_
    refine r_iload_n (pc := 9) C dX10_inputsOf_9 rfl ?_
    refine r_aload_n (pc := 10) C dX10_inputsOf_10 rfl ?_
    refine r_iload_n (pc := 11) C dX10_inputsOf_11 rfl ?_
    refine r_callV (pc := 12) C (cm_inputsFrom hM ht) iX10_inputsFrom ml_RX10_185 dX10_inputsOf_12 (ci := 11) rfl rfl (by assumption) rfl (by decide) rfl (by simp [cv, Value.category, va_rf]) (by omega) (by omega) (fun r12 S12 h12 => ?_)
    obtain ⟨rfl, e12⟩ := h12
    subst S12
    dsimp only [Option.toList, List.cons_append, List.nil_append]
    refine r_callV (pc := 15) C (cm_at hM ht (by unfold fI; omega)) iX10_at ml_RX10_176 dX10_inputsOf_15 (ci := 11) rfl rfl (by assumption) rfl (by decide) rfl (by simp [cv, Value.category, va_rf]) (by omega) (by omega) (fun r15 S15 h15 => ?_)
    obtain ⟨rfl, e15⟩ := h15
    subst S15
    dsimp only [Option.toList, List.cons_append, List.nil_append]
    refine r_iret (pc := 18) C dX10_inputsOf_18 rfl (by omega) (by omega) ?_
    exact ⟨by simp [nX, ht0], rfl⟩
  · have ht0 : t = 0 := (nI_eq (b := 0) (by omega) (by omega)).mp c1
    refine r_iconst (pc := 4) C (nI 0) dX10_inputsOf_4 rfl ?_
    refine r_goto (pc := 5) (tgt := 18) C dX10_inputsOf_5 (by decide) ?_
    refine r_iret (pc := 18) C dX10_inputsOf_18 rfl (by omega) (by omega) ?_
    exact ⟨by simp [nX, ht0], rfl⟩
theorem cm_inputId {t i : Nat} (hM : MO S mo) (hR : Rk (mI S mo 11) t) (hi : i < 4) : Sp l g mX10_inputId 0 0 [vr (some mo), vi (nI t), vi (nI i)] S (fun r S' => r = some (vi (xid (mI S mo 11) t i)) ∧ S' = S) := by
  obtain ⟨ht, hp, hx, ho, ho2⟩ := hR
  refine Sp.start (own := RX10) [(0, vr (some mo)), (1, vi (nI t)), (2, vi (nI i))] (by decide +kernel) rfl rfl (Nat.le_of_ble_eq_true rfl) ?_
  intro J C
  have hmo := hM.1
  obtain ⟨h11, k11, n11⟩ := hM.2 11 7840 (by decide)
  refine r_aload_n (pc := 0) C dX10_inputId_0 rfl ?_
  refine r_iload_n (pc := 1) C dX10_inputId_1 rfl ?_
  refine r_aload_n (pc := 2) C dX10_inputId_2 rfl ?_
  refine r_iload_n (pc := 3) C dX10_inputId_3 rfl ?_
  refine r_callV (pc := 4) C (cm_inputsFrom hM ht) iX10_inputsFrom ml_RX10_185 dX10_inputId_4 (ci := 11) rfl rfl (by assumption) rfl (by decide) rfl (by simp [cv, Value.category, va_rf]) (by omega) (by omega) (fun r4 S4 h4 => ?_)
  obtain ⟨rfl, e4⟩ := h4
  subst S4
  dsimp only [Option.toList, List.cons_append, List.nil_append]
  refine r_iconst (pc := 7) C (nI 1) dX10_inputId_7 rfl ?_
  refine r_iadd (pc := 8) C dX10_inputId_8 ?_
  try simp only [nI_add, pk_mul]
  refine r_iconst (pc := 9) C (nI 5) dX10_inputId_9 rfl ?_
  refine r_iload_n (pc := 10) C dX10_inputId_10 rfl ?_
  refine r_imul (pc := 11) C dX10_inputId_11 ?_
  try simp only [nI_add, pk_mul]
  refine r_iadd (pc := 12) C dX10_inputId_12 ?_
  try simp only [nI_add, pk_mul]
  refine r_callV (pc := 13) C (cm_four hM ht (by unfold fI; omega)) iX10_four ml_RX10_179 dX10_inputId_13 (ci := 11) rfl rfl (by assumption) rfl (by decide) rfl (by simp [cv, Value.category, va_rf]) (by omega) (by omega) (fun r13 S13 h13 => ?_)
  obtain ⟨rfl, e13⟩ := h13
  subst S13
  dsimp only [Option.toList, List.cons_append, List.nil_append]
  refine r_iret (pc := 16) C dX10_inputId_16 rfl (by omega) (by omega) ?_
  exact ⟨rfl, rfl⟩
theorem cm_inputIndex {t i : Nat} (hM : MO S mo) (hR : Rk (mI S mo 11) t) (hi : i < 4) : Sp l g mX10_inputIndex 0 0 [vr (some mo), vi (nI t), vi (nI i)] S (fun r S' => r = some (vi (nI (xix (mI S mo 11) t i))) ∧ S' = S) := by
  obtain ⟨ht, hp, hx, ho, ho2⟩ := hR
  refine Sp.start (own := RX10) [(0, vr (some mo)), (1, vi (nI t)), (2, vi (nI i))] (by decide +kernel) rfl rfl (Nat.le_of_ble_eq_true rfl) ?_
  intro J C
  have hmo := hM.1
  obtain ⟨h11, k11, n11⟩ := hM.2 11 7840 (by decide)
  refine r_aload_n (pc := 0) C dX10_inputIndex_0 rfl ?_
  refine r_iload_n (pc := 1) C dX10_inputIndex_1 rfl ?_
  refine r_aload_n (pc := 2) C dX10_inputIndex_2 rfl ?_
  refine r_iload_n (pc := 3) C dX10_inputIndex_3 rfl ?_
  refine r_callV (pc := 4) C (cm_inputsFrom hM ht) iX10_inputsFrom ml_RX10_185 dX10_inputIndex_4 (ci := 11) rfl rfl (by assumption) rfl (by decide) rfl (by simp [cv, Value.category, va_rf]) (by omega) (by omega) (fun r4 S4 h4 => ?_)
  obtain ⟨rfl, e4⟩ := h4
  subst S4
  dsimp only [Option.toList, List.cons_append, List.nil_append]
  refine r_iconst (pc := 7) C (nI 5) dX10_inputIndex_7 rfl ?_
  refine r_iadd (pc := 8) C dX10_inputIndex_8 ?_
  try simp only [nI_add, pk_mul]
  refine r_iconst (pc := 9) C (nI 5) dX10_inputIndex_9 rfl ?_
  refine r_iload_n (pc := 10) C dX10_inputIndex_10 rfl ?_
  refine r_imul (pc := 11) C dX10_inputIndex_11 ?_
  try simp only [nI_add, pk_mul]
  refine r_iadd (pc := 12) C dX10_inputIndex_12 ?_
  try simp only [nI_add, pk_mul]
  refine r_callV (pc := 13) C (cm_at hM ht (by unfold fI; omega)) iX10_at ml_RX10_176 dX10_inputIndex_13 (ci := 11) rfl rfl (by assumption) rfl (by decide) rfl (by simp [cv, Value.category, va_rf]) (by omega) (by omega) (fun r13 S13 h13 => ?_)
  obtain ⟨rfl, e13⟩ := h13
  subst S13
  dsimp only [Option.toList, List.cons_append, List.nil_append]
  refine r_iret (pc := 16) C dX10_inputIndex_16 rfl (by omega) (by omega) ?_
  exact ⟨rfl, rfl⟩
theorem cm_outputsFrom {t : Nat} (hM : MO S mo) (hR : Rk (mI S mo 11) t) : Sp l g mX10_outputsFrom 0 0 [vr (some mo), vi (nI t)] S (fun r S' => r = some (vi (nI (fO (mI S mo 11) t))) ∧ S' = S) := by
  have hR0 := hR
  obtain ⟨ht, hp, hx, ho, ho2⟩ := hR
  refine Sp.start (own := RX10) [(0, vr (some mo)), (1, vi (nI t))] (by decide +kernel) rfl rfl (Nat.le_of_ble_eq_true rfl) ?_
  intro J C
  have hmo := hM.1
  obtain ⟨h11, k11, n11⟩ := hM.2 11 7840 (by decide)
  refine r_aload_n (pc := 0) C dX10_outputsFrom_0 rfl ?_
  refine r_iload_n (pc := 1) C dX10_outputsFrom_1 rfl ?_
  refine r_callV (pc := 2) C (cm_inputsFrom hM ht) iX10_inputsFrom ml_RX10_185 dX10_outputsFrom_2 (ci := 11) rfl rfl (by assumption) rfl (by decide) rfl (by simp [cv, Value.category, va_rf]) (by omega) (by omega) (fun r2 S2 h2 => ?_)
  obtain ⟨rfl, e2⟩ := h2
  subst S2
  dsimp only [Option.toList, List.cons_append, List.nil_append]
  refine r_iconst (pc := 5) C (nI 1) dX10_outputsFrom_5 rfl ?_
  refine r_iadd (pc := 6) C dX10_outputsFrom_6 ?_
  try simp only [nI_add, pk_mul]
  refine r_iconst (pc := 7) C (nI 5) dX10_outputsFrom_7 rfl ?_
  refine r_aload_n (pc := 8) C dX10_outputsFrom_8 rfl ?_
  refine r_iload_n (pc := 9) C dX10_outputsFrom_9 rfl ?_
  refine r_callV (pc := 10) C (cm_inputsOf hM hR0) iX10_inputsOf ml_RX10_188 dX10_outputsFrom_10 (ci := 11) rfl rfl (by assumption) rfl (by decide) rfl (by simp [cv, Value.category, va_rf]) (by omega) (by omega) (fun r10 S10 h10 => ?_)
  obtain ⟨rfl, e10⟩ := h10
  subst S10
  dsimp only [Option.toList, List.cons_append, List.nil_append]
  refine r_imul (pc := 13) C dX10_outputsFrom_13 ?_
  try simp only [nI_add, pk_mul]
  refine r_iadd (pc := 14) C dX10_outputsFrom_14 ?_
  try simp only [nI_add, pk_mul]
  refine r_iret (pc := 15) C dX10_outputsFrom_15 rfl (by omega) (by omega) ?_
  exact ⟨rfl, rfl⟩
theorem cm_outputsOf {t : Nat} (hM : MO S mo) (hR : Rk (mI S mo 11) t) : Sp l g mX10_outputsOf 0 0 [vr (some mo), vi (nI t)] S (fun r S' => r = some (vi (nI (nO (mI S mo 11) t))) ∧ S' = S) := by
  have hR0 := hR
  obtain ⟨ht, hp, hx, ho, ho2⟩ := hR
  refine Sp.start (own := RX10) [(0, vr (some mo)), (1, vi (nI t))] (by decide +kernel) rfl rfl (Nat.le_of_ble_eq_true rfl) ?_
  intro J C
  have hmo := hM.1
  obtain ⟨h11, k11, n11⟩ := hM.2 11 7840 (by decide)
  refine r_iload_n (pc := 0) C dX10_outputsOf_0 rfl ?_
  refine r_if_ne (pc := 1) (tgt := 9) C dX10_outputsOf_1 (by decide) (fun c1 => ?_) (fun c1 => ?_)
  · have ht0 : t ≠ 0 := fun e => by subst e; exact c1 rfl
    refine r_aload_n (pc := 9) C dX10_outputsOf_9 rfl ?_
    refine r_iload_n (pc := 10) C dX10_outputsOf_10 rfl ?_
    refine r_aload_n (pc := 11) C dX10_outputsOf_11 rfl ?_
    refine r_iload_n (pc := 12) C dX10_outputsOf_12 rfl ?_
    refine r_callV (pc := 13) C (cm_outputsFrom hM hR0) iX10_outputsFrom ml_RX10_191 dX10_outputsOf_13 (ci := 11) rfl rfl (by assumption) rfl (by decide) rfl (by simp [cv, Value.category, va_rf]) (by omega) (by omega) (fun r13 S13 h13 => ?_)
    obtain ⟨rfl, e13⟩ := h13
    subst S13
    dsimp only [Option.toList, List.cons_append, List.nil_append]
    refine r_callV (pc := 16) C (cm_at hM ht (by unfold fO fI; omega)) iX10_at ml_RX10_176 dX10_outputsOf_16 (ci := 11) rfl rfl (by assumption) rfl (by decide) rfl (by simp [cv, Value.category, va_rf]) (by omega) (by omega) (fun r16 S16 h16 => ?_)
    obtain ⟨rfl, e16⟩ := h16
    subst S16
    dsimp only [Option.toList, List.cons_append, List.nil_append]
    refine r_iret (pc := 19) C dX10_outputsOf_19 rfl (by omega) (by omega) ?_
    exact ⟨by simp [nO, ht0], rfl⟩
  · have ht0 : t = 0 := (nI_eq (b := 0) (by omega) (by omega)).mp c1
    refine r_bipush (pc := 4) C (nI 8) dX10_outputsOf_4 rfl ?_
    refine r_goto (pc := 6) (tgt := 19) C dX10_outputsOf_6 (by decide) ?_
    refine r_iret (pc := 19) C dX10_outputsOf_19 rfl (by omega) (by omega) ?_
    exact ⟨by simp [nO, ht0], rfl⟩
theorem cm_amount {t i : Nat} (hM : MO S mo) (hR : Rk (mI S mo 11) t) (hi : t ≠ 0 → i < 4) : Sp l g mX10_amount 0 0 [vr (some mo), vi (nI t), vi (nI i)] S (fun r S' => r = some (vi (amt (mI S mo 11) t i)) ∧ S' = S) := by
  have hR0 := hR
  obtain ⟨ht, hp, hx, ho, ho2⟩ := hR
  refine Sp.start (own := RX10) [(0, vr (some mo)), (1, vi (nI t)), (2, vi (nI i))] (by decide +kernel) rfl rfl (Nat.le_of_ble_eq_true rfl) ?_
  intro J C
  have hmo := hM.1
  obtain ⟨h11, k11, n11⟩ := hM.2 11 7840 (by decide)
  refine r_iload_n (pc := 0) C dX10_amount_0 rfl ?_
  refine r_if_ne (pc := 1) (tgt := 9) C dX10_amount_1 (by decide) (fun c1 => ?_) (fun c1 => ?_)
  · have ht0 : t ≠ 0 := fun e => by subst e; exact c1 rfl
    refine r_aload_n (pc := 9) C dX10_amount_9 rfl ?_
    refine r_iload_n (pc := 10) C dX10_amount_10 rfl ?_
    refine r_aload_n (pc := 11) C dX10_amount_11 rfl ?_
    refine r_iload_n (pc := 12) C dX10_amount_12 rfl ?_
    refine r_callV (pc := 13) C (cm_outputsFrom hM hR0) iX10_outputsFrom ml_RX10_191 dX10_amount_13 (ci := 11) rfl rfl (by assumption) rfl (by decide) rfl (by simp [cv, Value.category, va_rf]) (by omega) (by omega) (fun r13 S13 h13 => ?_)
    obtain ⟨rfl, e13⟩ := h13
    subst S13
    dsimp only [Option.toList, List.cons_append, List.nil_append]
    refine r_iconst (pc := 16) C (nI 1) dX10_amount_16 rfl ?_
    refine r_iadd (pc := 17) C dX10_amount_17 ?_
    try simp only [nI_add, pk_mul]
    refine r_iconst (pc := 18) C (nI 4) dX10_amount_18 rfl ?_
    refine r_iload_n (pc := 19) C dX10_amount_19 rfl ?_
    refine r_imul (pc := 20) C dX10_amount_20 ?_
    try simp only [nI_add, pk_mul]
    refine r_iadd (pc := 21) C dX10_amount_21 ?_
    try simp only [nI_add, pk_mul]
    refine r_callV (pc := 22) C (cm_four hM ht (by have := hi ht0; unfold fO fI; omega)) iX10_four ml_RX10_179 dX10_amount_22 (ci := 11) rfl rfl (by assumption) rfl (by decide) rfl (by simp [cv, Value.category, va_rf]) (by omega) (by omega) (fun r22 S22 h22 => ?_)
    obtain ⟨rfl, e22⟩ := h22
    subst S22
    dsimp only [Option.toList, List.cons_append, List.nil_append]
    refine r_iret (pc := 25) C dX10_amount_25 rfl (by omega) (by omega) ?_
    exact ⟨by simp [amt, ht0], rfl⟩
  · have ht0 : t = 0 := (nI_eq (b := 0) (by omega) (by omega)).mp c1
    refine r_ldc (pc := 4) C kc_RX10_194 dX10_amount_4 ?_
    refine r_goto (pc := 6) (tgt := 25) C dX10_amount_6 (by decide) ?_
    refine r_iret (pc := 25) C dX10_amount_25 rfl (by omega) (by omega) ?_
    exact ⟨by simp [amt, ht0], rfl⟩
end ModelRows
