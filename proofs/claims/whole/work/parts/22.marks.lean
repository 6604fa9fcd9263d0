/-! The reference: sets of outputs, marks -/
theorem aI_pI {S : hS} {r a : Nat} {f : Nat → Int32} : aI (putI S r a f) r a = f := by simp [aI, putI, u2r]
theorem pI_pI {S : hS} {r a : Nat} {f f' : Nat → Int32} : putI (putI S r a f) r a f' = putI S r a f' := by
  unfold putI
  simp only [Prod.mk.injEq, true_and, and_true]
  funext j b
  simp only [u2r]
  split
  · split <;> rfl
  · rfl
theorem pI_id {S : hS} {r a : Nat} : putI S r a (aI S r a) = S := by
  unfold putI aI
  rcases S with ⟨s1, s2, s3, s4, s5, s6, s7, s8⟩
  simp only [Prod.mk.injEq, true_and, and_true]
  funext j b
  simp only [u2r]
  split
  · next h => subst h; split
              · next h => subst h; rfl
              · rfl
  · rfl
theorem aI_ne {S : hS} {r r' a b : Nat} {f : Nat → Int32} (h : r' ≠ r) : aI (putI S r a f) r' b = aI S r' b := by simp [aI, putI, u2r, h]
def oI (o : Option Nat) : Int32 := match o with
  | none => -1
  | some t => nI t
def fdo (f : Nat → Int32) (x : Int32) : Nat → Option Nat
  | 0 => none
  | n + 1 => if f n = x then some n else fdo f x n
theorem fnd_oI (f : Nat → Int32) (x : Int32) (n : Nat) : fnd f x n = oI (fdo f x n) := by
  induction n with
  | zero => rfl
  | succ n ih => simp only [fnd, fdo]; split <;> simp_all [oI]
theorem fdo_some {f : Nat → Int32} {x : Int32} {n p : Nat} (h : fdo f x n = some p) : p < n ∧ f p = x := by
  induction n with
  | zero => cases h
  | succ n ih =>
    simp only [fdo] at h
    split at h
    · next e => cases h; exact ⟨by omega, e⟩
    · obtain ⟨h1, h2⟩ := ih h; exact ⟨by omega, h2⟩
/-- the memory of the reference, by its arrays: what the graph is -/
abbrev MM : Type := Nat → Nat → Int32
def par (M : MM) (n t i : Nat) : Nat := (fdo (M 10) (pid (M 11) t i) n).getD 0
def onum (t ix : Nat) : Nat := if t = 0 then ix else 4 + 4 * t + ix
def src (M : MM) (n t i : Nat) : Nat := (fdo (M 10) (xid (M 11) t i) n).getD 0
def out (M : MM) (n t i : Nat) : Nat := onum (src M n t i) (xix (M 11) t i)
/-- t stands with its parents and what it spends -/
def Ht (M : MM) (n t : Nat) : Prop := t < n ∧ (∀ i, i < nP (M 11) t → fdo (M 10) (pid (M 11) t i) n = some (par M n t i)) ∧ (∀ i, i < nX (M 11) t → fdo (M 10) (xid (M 11) t i) n = some (src M n t i) ∧ xix (M 11) t i < nO (M 11) (src M n t i))
def Hp (M : MM) (n t : Nat) : Prop := t < n ∧ ∀ i, i < nP (M 11) t → fdo (M 10) (pid (M 11) t i) n = some (par M n t i)
theorem Ht.p {M : MM} {n t : Nat} (h : Ht M n t) : Hp M n t := ⟨h.1, h.2.1⟩
theorem Hp.par_lt {M : MM} {n t i : Nat} (h : Hp M n t) (hi : i < nP (M 11) t) : par M n t i < n := (fdo_some (h.2 i hi)).1
def hdN (M : MM) (k : Nat) : Nat := (M 16 k).toNatClampNeg
def GV (M : MM) (n h : Nat) : Prop := n ≤ 140 ∧ h ≤ n ∧ (∀ t, t < n → Rk (M 11) t) ∧ ∀ k, k < h → M 16 k = nI (hdN M k) ∧ Ht M n (hdN M k)
/-- the arrays that hold the graph -/
def gk : List Nat := [10, 11, 12, 13, 14, 15, 16, 18, 22, 23, 24]
/-- the reference at mo holds the graph M, n known and h held ones -/
def MV (S : hS) (mo : Nat) (M : MM) (n h : Nat) : Prop := MO S mo ∧ sI S 1109 mo = nI n ∧ sI S 1117 mo = nI h ∧ (∀ k, k ∈ gk → mI S mo k = M k) ∧ GV M n h
def inS (M : MM) (n t s : Nat) : Bool := anyU (fun i => decide (out M n t i = s)) (nX (M 11) t)
def lastU (f : Nat → Bool) : Nat → Option Nat
  | 0 => none
  | n + 1 => if f n then some n else lastU f n
def mbs (M : MM) (n h s : Nat) : Nat := cntU (fun k => inS M n (hdN M k) s) h
def acO (M : MM) (n h s : Nat) : Option Nat := (lastU (fun k => decide (M 13 (hdN M k) = nI 3) && inS M n (hdN M k) s) h).map (hdN M)
def pset (M : MM) (n t a : Nat) : Bool := anyU (fun i => decide (par M n t i = a)) (nP (M 11) t)
theorem Ht.par_lt {M : MM} {n t i : Nat} (h : Ht M n t) (hi : i < nP (M 11) t) : par M n t i < n := (fdo_some (h.2.1 i hi)).1
theorem Ht.src_lt {M : MM} {n t i : Nat} (h : Ht M n t) (hi : i < nX (M 11) t) : src M n t i < n := (fdo_some (h.2.2 i hi).1).1
theorem Ht.out_lt {M : MM} {n h t i : Nat} (hG : GV M n h) (ht : Ht M n t) (hi : i < nX (M 11) t) : out M n t i < 564 := by
  have h1 := ht.src_lt hi
  have h2 := (ht.2.2 i hi).2
  obtain ⟨-, -, -, h5, h6⟩ := hG.2.2.1 _ h1
  unfold out onum
  split
  · omega
  · next h0 => have := h6 h0; have := hG.1; omega
section Marks
variable {l : Launch} {g : GG} {S : hS} {mo : Nat} {M : MM} {n h : Nat}
theorem MV.e (hV : MV S mo M n h) (k : Nat) (hk : k ∈ gk) : aI S (mkd k) (ma S mo k) = M k := hV.2.2.2.1 k hk
theorem MV.G (hV : MV S mo M n h) : GV M n h := hV.2.2.2.2
theorem MV.R (hV : MV S mo M n h) {t : Nat} (ht : t < n) : Rk (M 11) t := hV.2.2.2.2.2.2.1 t ht
/-- the readers again, by the graph -/
theorem mv_find {x : Int32} (hV : MV S mo M n h) : Sp l g mX10_find 0 0 [vr (some mo), vi x] S (fun r S' => r = some (vi (oI (fdo (M 10) x n))) ∧ S' = S) := by
  have e := hV.2.2.2.1 10 (by decide)
  rw [← e]
  exact (cm_find hV.1 hV.2.1 hV.G.1).mono (fun r S' q => ⟨by rw [q.1, fnd_oI], q.2⟩)
theorem mv_findS {x : Int32} {p : Nat} (hV : MV S mo M n h) (hp : fdo (M 10) x n = some p) : Sp l g mX10_find 0 0 [vr (some mo), vi x] S (fun r S' => r = some (vi (nI p)) ∧ S' = S) :=
  (mv_find hV).mono (fun r S' q => ⟨by rw [q.1, hp]; rfl, q.2⟩)
theorem mv_parentsOf {t : Nat} (hV : MV S mo M n h) (ht : t < 140) : Sp l g mX10_parentsOf 0 0 [vr (some mo), vi (nI t)] S (fun r S' => r = some (vi (nI (nP (M 11) t))) ∧ S' = S) := by
  rw [← hV.2.2.2.1 11 (by decide)]
  exact cm_parentsOf hV.1 ht
theorem mv_parentId {t i : Nat} (hV : MV S mo M n h) (ht : t < 140) (hi : i < 4) : Sp l g mX10_parentId 0 0 [vr (some mo), vi (nI t), vi (nI i)] S (fun r S' => r = some (vi (pid (M 11) t i)) ∧ S' = S) := by
  rw [← hV.2.2.2.1 11 (by decide)]
  exact cm_parentId hV.1 ht hi
theorem mv_inputsOf {t : Nat} (hV : MV S mo M n h) (ht : t < n) : Sp l g mX10_inputsOf 0 0 [vr (some mo), vi (nI t)] S (fun r S' => r = some (vi (nI (nX (M 11) t))) ∧ S' = S) := by
  have hR := hV.R ht
  rw [← hV.2.2.2.1 11 (by decide)] at hR ⊢
  exact cm_inputsOf hV.1 hR
theorem mv_inputId {t i : Nat} (hV : MV S mo M n h) (ht : t < n) (hi : i < 4) : Sp l g mX10_inputId 0 0 [vr (some mo), vi (nI t), vi (nI i)] S (fun r S' => r = some (vi (xid (M 11) t i)) ∧ S' = S) := by
  have hR := hV.R ht
  rw [← hV.2.2.2.1 11 (by decide)] at hR ⊢
  exact cm_inputId hV.1 hR hi
theorem mv_inputIndex {t i : Nat} (hV : MV S mo M n h) (ht : t < n) (hi : i < 4) : Sp l g mX10_inputIndex 0 0 [vr (some mo), vi (nI t), vi (nI i)] S (fun r S' => r = some (vi (nI (xix (M 11) t i))) ∧ S' = S) := by
  have hR := hV.R ht
  rw [← hV.2.2.2.1 11 (by decide)] at hR ⊢
  exact cm_inputIndex hV.1 hR hi
theorem mv_outputsOf {t : Nat} (hV : MV S mo M n h) (ht : t < n) : Sp l g mX10_outputsOf 0 0 [vr (some mo), vi (nI t)] S (fun r S' => r = some (vi (nI (nO (M 11) t))) ∧ S' = S) := by
  have hR := hV.R ht
  rw [← hV.2.2.2.1 11 (by decide)] at hR ⊢
  exact cm_outputsOf hV.1 hR
theorem mv_amount {t i : Nat} (hV : MV S mo M n h) (ht : t < n) (hi : t ≠ 0 → i < 4) : Sp l g mX10_amount 0 0 [vr (some mo), vi (nI t), vi (nI i)] S (fun r S' => r = some (vi (amt (M 11) t i)) ∧ S' = S) := by
  have hR := hV.R ht
  rw [← hV.2.2.2.1 11 (by decide)] at hR ⊢
  exact cm_amount hV.1 hR hi
theorem mv_at {t i : Nat} (hV : MV S mo M n h) (ht : t < 140) (hi : i < 56) : Sp l g mX10_at 0 0 [vr (some mo), vi (nI t), vi (nI i)] S (fun r S' => r = some (vi (nI (rN (M 11) t i))) ∧ S' = S) := by
  rw [← hV.2.2.2.1 11 (by decide)]
  exact cm_at hV.1 ht hi
theorem cm_number {t i : Nat} (ht : t < 1000) : Sp l g mX10_number 0 0 [vi (nI t), vi (nI i)] S (fun r S' => r = some (vi (nI (onum t i))) ∧ S' = S) := by
  refine Sp.start (own := RX10) [(0, vi (nI t)), (1, vi (nI i))] (by decide +kernel) rfl rfl (Nat.le_of_ble_eq_true rfl) ?_
  intro J C
  refine r_iload_n (pc := 0) C dX10_number_0 rfl ?_
  refine r_if_ne (pc := 1) (tgt := 8) C dX10_number_1 (by decide) (fun c1 => ?_) (fun c1 => ?_)
  · have ht0 : t ≠ 0 := fun e => by subst e; exact c1 rfl
    refine r_iconst (pc := 8) C (nI 4) dX10_number_8 rfl ?_
    refine r_iconst (pc := 9) C (nI 4) dX10_number_9 rfl ?_
    refine r_iload_n (pc := 10) C dX10_number_10 rfl ?_
    refine r_imul (pc := 11) C dX10_number_11 ?_
    try simp only [nI_add, pk_mul]
    refine r_iadd (pc := 12) C dX10_number_12 ?_
    try simp only [nI_add, pk_mul]
    refine r_iload_n (pc := 13) C dX10_number_13 rfl ?_
    refine r_iadd (pc := 14) C dX10_number_14 ?_
    try simp only [nI_add, pk_mul]
    refine r_iret (pc := 15) C dX10_number_15 rfl (by omega) (by omega) ?_
    exact ⟨by simp [onum, ht0], rfl⟩
  · have ht0 : t = 0 := (nI_eq (b := 0) (by omega) (by omega)).mp c1
    refine r_iload_n (pc := 4) C dX10_number_4 rfl ?_
    refine r_goto (pc := 5) (tgt := 15) C dX10_number_5 (by decide) ?_
    refine r_iret (pc := 15) C dX10_number_15 rfl (by omega) (by omega) ?_
    exact ⟨by simp [onum, ht0], rfl⟩
theorem cm_outputOf {t i : Nat} (hV : MV S mo M n h) (ht : Ht M n t) (hi : i < nX (M 11) t) : Sp l g mX10_outputOf 0 0 [vr (some mo), vi (nI t), vi (nI i)] S (fun r S' => r = some (vi (nI (out M n t i))) ∧ S' = S) := by
  have hG := hV.G
  have hM := hV.1
  have hh := hV.2.2.1
  have hR := hG.2.2.1 t ht.1
  have hi4 : i < 4 := Nat.lt_of_lt_of_le hi hR.2.2.1
  have hs := ht.src_lt hi
  have hn2 := hG.1
  refine Sp.start (own := RX10) [(0, vr (some mo)), (1, vi (nI t)), (2, vi (nI i))] (by decide +kernel) rfl rfl (Nat.le_of_ble_eq_true rfl) ?_
  intro J C
  have hmo := hM.1
  obtain ⟨h11, k11, n11⟩ := hM.2 11 7840 (by decide)
  refine r_aload_n (pc := 0) C dX10_outputOf_0 rfl ?_
  refine r_aload_n (pc := 1) C dX10_outputOf_1 rfl ?_
  refine r_iload_n (pc := 2) C dX10_outputOf_2 rfl ?_
  refine r_iload_n (pc := 3) C dX10_outputOf_3 rfl ?_
  refine r_callV (pc := 4) C (mv_inputId hV ht.1 hi4) iX10_inputId ml_RX10_195 dX10_outputOf_4 (ci := 11) rfl rfl (by assumption) rfl (by decide) rfl (by simp [cv, Value.category, va_rf]) (by omega) (by omega) (fun r4 S4 h4 => ?_)
  obtain ⟨rfl, e4⟩ := h4
  subst S4
  dsimp only [Option.toList, List.cons_append, List.nil_append]
  refine r_callV (pc := 7) C (mv_findS hV (ht.2.2 i hi).1) iX10_find ml_RX10_198 dX10_outputOf_7 (ci := 11) rfl rfl (by assumption) rfl (by decide) rfl (by simp [cv, Value.category, va_rf]) (by omega) (by omega) (fun r7 S7 h7 => ?_)
  obtain ⟨rfl, e7⟩ := h7
  subst S7
  dsimp only [Option.toList, List.cons_append, List.nil_append]
  refine r_aload_n (pc := 10) C dX10_outputOf_10 rfl ?_
  refine r_iload_n (pc := 11) C dX10_outputOf_11 rfl ?_
  refine r_iload_n (pc := 12) C dX10_outputOf_12 rfl ?_
  refine r_callV (pc := 13) C (mv_inputIndex hV ht.1 hi4) iX10_inputIndex ml_RX10_201 dX10_outputOf_13 (ci := 11) rfl rfl (by assumption) rfl (by decide) rfl (by simp [cv, Value.category, va_rf]) (by omega) (by omega) (fun r13 S13 h13 => ?_)
  obtain ⟨rfl, e13⟩ := h13
  subst S13
  dsimp only [Option.toList, List.cons_append, List.nil_append]
  refine r_callS (pc := 16) C (cm_number (by omega)) iX10_number ml_RX10_204 dX10_outputOf_16 rfl (by decide) rfl (by simp [cv, Value.category, va_rf]) (by omega) (by omega) (fun r16 S16 h16 => ?_)
  obtain ⟨rfl, e16⟩ := h16
  subst S16
  dsimp only [Option.toList, List.cons_append, List.nil_append]
  refine r_iret (pc := 19) C dX10_outputOf_19 rfl (by omega) (by omega) ?_
  exact ⟨rfl, rfl⟩
theorem cm_isIn {t s : Nat} (hV : MV S mo M n h) (ht : Ht M n t) (hs : s < 2000) : Sp l g mX10_isIn 0 0 [vr (some mo), vi (nI t), vi (nI s)] S (fun r S' => r = some (vi (bi (inS M n t s))) ∧ S' = S) := by
  have hG := hV.G
  have hM := hV.1
  have hh := hV.2.2.1
  have hR := hG.2.2.1 t ht.1
  have hx4 := hR.2.2.1
  refine Sp.start (own := RX10) [(0, vr (some mo)), (1, vi (nI t)), (2, vi (nI s))] (by decide +kernel) rfl rfl (Nat.le_of_ble_eq_true rfl) ?_
  intro J C
  have hmo := hM.1
  have L : ∀ i x, i ≤ nX (M 11) t → x = bi (anyU (fun i => decide (out M n t i = s)) i) → J 5 [(0, vr (some mo)), (1, vi (nI t)), (2, vi (nI s)), (3, vi x), (4, vi (nI i))] [] S 0 0 := by
    refine up_loop _ _ _ ?_ ?_
    · intro x hx
      refine r_iload (pc := 5) C dX10_isIn_5 rfl ?_
      refine r_aload_n (pc := 7) C dX10_isIn_7 rfl ?_
      refine r_iload_n (pc := 8) C dX10_isIn_8 rfl ?_
      refine r_callV (pc := 9) C (mv_inputsOf hV ht.1) iX10_inputsOf ml_RX10_188 dX10_isIn_9 (ci := 11) rfl rfl (by assumption) rfl (by decide) rfl (by simp [cv, Value.category, va_rf]) (by omega) (by omega) (fun r9 S9 h9 => ?_)
      obtain ⟨rfl, e9⟩ := h9
      subst S9
      dsimp only [Option.toList, List.cons_append, List.nil_append]
      refine r_icmp_ge (pc := 12) (tgt := 42) C dX10_isIn_12 (by decide) (fun c12 => ?_) (fun c12 => ?_)
      · refine r_iload_n (pc := 42) C dX10_isIn_42 rfl ?_
        refine r_zret (pc := 43) C dX10_isIn_43 rfl (by rw [hx]; exact bi_01 _) (by omega) (by omega) ?_
        subst hx; exact ⟨rfl, rfl⟩
      · exact absurd (Int32.le_refl _) c12
    · intro i x hi hx ih
      have ho := ht.out_lt hG hi
      subst hx
      refine r_iload (pc := 5) C dX10_isIn_5 rfl ?_
      refine r_aload_n (pc := 7) C dX10_isIn_7 rfl ?_
      refine r_iload_n (pc := 8) C dX10_isIn_8 rfl ?_
      refine r_callV (pc := 9) C (mv_inputsOf hV ht.1) iX10_inputsOf ml_RX10_188 dX10_isIn_9 (ci := 11) rfl rfl (by assumption) rfl (by decide) rfl (by simp [cv, Value.category, va_rf]) (by omega) (by omega) (fun r9 S9 h9 => ?_)
      obtain ⟨rfl, e9⟩ := h9
      subst S9
      dsimp only [Option.toList, List.cons_append, List.nil_append]
      refine r_icmp_ge (pc := 12) (tgt := 42) C dX10_isIn_12 (by decide) (fun c12 => ?_) (fun c12 => ?_)
      · exact absurd c12 (nI_ge hi (by omega))
      · refine r_iload_n (pc := 15) C dX10_isIn_15 rfl ?_
        refine r_if_ne (pc := 16) (tgt := 30) C dX10_isIn_16 (by decide) (fun c16 => ?_) (fun c16 => ?_)
        · refine r_iconst (pc := 30) C (nI 1) dX10_isIn_30 rfl ?_
          refine r_goto (pc := 31) (tgt := 35) C dX10_isIn_31 (by decide) ?_
          refine r_istore_n (pc := 35) C dX10_isIn_35 (by decide) rfl ?_
          refine r_iinc (pc := 36) C _ dX10_isIn_36 rfl (nI_1 _) (by decide) rfl ?_
          refine r_goto (pc := 39) (tgt := 5) C dX10_isIn_39 (by decide) ?_
          refine r_lv C [(0, vr (some mo)), (1, vi (nI t)), (2, vi (nI s)), (3, vi _), (4, vi (nI (i + 1)))] rfl (ih _ ?_)
          simp_all [anyU, bi_0, bi_t, bi_f]
        · refine r_aload_n (pc := 19) C dX10_isIn_19 rfl ?_
          refine r_iload_n (pc := 20) C dX10_isIn_20 rfl ?_
          refine r_iload (pc := 21) C dX10_isIn_21 rfl ?_
          refine r_callV (pc := 23) C (cm_outputOf hV ht hi) iX10_outputOf ml_RX10_255 dX10_isIn_23 (ci := 11) rfl rfl (by assumption) rfl (by decide) rfl (by simp [cv, Value.category, va_rf]) (by omega) (by omega) (fun r23 S23 h23 => ?_)
          obtain ⟨rfl, e23⟩ := h23
          subst S23
          dsimp only [Option.toList, List.cons_append, List.nil_append]
          refine r_iload_n (pc := 26) C dX10_isIn_26 rfl ?_
          refine r_icmp_ne (pc := 27) (tgt := 34) C dX10_isIn_27 (by decide) (fun c27 => ?_) (fun c27 => ?_)
          · have c27 := mt (nI_eq (by omega) (by omega)).mpr c27
            refine r_iconst (pc := 34) C (nI 0) dX10_isIn_34 rfl ?_
            refine r_istore_n (pc := 35) C dX10_isIn_35 (by decide) rfl ?_
            refine r_iinc (pc := 36) C _ dX10_isIn_36 rfl (nI_1 _) (by decide) rfl ?_
            refine r_goto (pc := 39) (tgt := 5) C dX10_isIn_39 (by decide) ?_
            refine r_lv C [(0, vr (some mo)), (1, vi (nI t)), (2, vi (nI s)), (3, vi _), (4, vi (nI (i + 1)))] rfl (ih _ ?_)
            simp_all [anyU, bi_0, bi_t, bi_f]
          · have c27 := (nI_eq (by omega) (by omega)).mp c27
            refine r_iconst (pc := 30) C (nI 1) dX10_isIn_30 rfl ?_
            refine r_goto (pc := 31) (tgt := 35) C dX10_isIn_31 (by decide) ?_
            refine r_istore_n (pc := 35) C dX10_isIn_35 (by decide) rfl ?_
            refine r_iinc (pc := 36) C _ dX10_isIn_36 rfl (nI_1 _) (by decide) rfl ?_
            refine r_goto (pc := 39) (tgt := 5) C dX10_isIn_39 (by decide) ?_
            refine r_lv C [(0, vr (some mo)), (1, vi (nI t)), (2, vi (nI s)), (3, vi _), (4, vi (nI (i + 1)))] rfl (ih _ ?_)
            simp_all [anyU, bi_0, bi_t, bi_f]
  refine r_iconst (pc := 0) C (nI 0) dX10_isIn_0 rfl ?_
  refine r_istore_n (pc := 1) C dX10_isIn_1 (by decide) rfl ?_
  refine r_iconst (pc := 2) C (nI 0) dX10_isIn_2 rfl ?_
  refine r_istore (pc := 3) C dX10_isIn_3 (by decide) rfl ?_
  refine r_lv C [(0, vr (some mo)), (1, vi (nI t)), (2, vi (nI s)), (3, vi _), (4, vi (nI 0))] rfl (L 0 _ (by omega) rfl)
theorem cm_membersOf {s : Nat} (hV : MV S mo M n h) (hs : s < 2000) : Sp l g mX10_membersOf 0 0 [vr (some mo), vi (nI s)] S (fun r S' => r = some (vi (nI (mbs M n h s))) ∧ S' = S) := by
  have hG := hV.G
  have hM := hV.1
  have hh := hV.2.2.1
  have hn2 := hG.1
  have hh2 := hG.2.1
  refine Sp.start (own := RX10) [(0, vr (some mo)), (1, vi (nI s))] (by decide +kernel) rfl rfl (Nat.le_of_ble_eq_true rfl) ?_
  intro J C
  have hmo := hM.1
  obtain ⟨h16, k16, n16⟩ := hM.2 16 140 (by decide)
  have L : ∀ i x, i ≤ h → x = nI (cntU (fun k => inS M n (hdN M k) s) i) → J 4 [(0, vr (some mo)), (1, vi (nI s)), (2, vi x), (3, vi (nI i))] [] S 0 0 := by
    refine up_loop _ _ _ ?_ ?_
    · intro x hx
      refine r_iload_n (pc := 4) C dX10_membersOf_4 rfl ?_
      refine r_aload_n (pc := 5) C dX10_membersOf_5 rfl ?_
      refine r_getI (pc := 6) C dX10_membersOf_6 fx_RX10_43 (by assumption) ?_
      rw [hh]
      refine r_icmp_ge (pc := 9) (tgt := 40) C dX10_membersOf_9 (by decide) (fun c9 => ?_) (fun c9 => ?_)
      · refine r_iload_n (pc := 40) C dX10_membersOf_40 rfl ?_
        refine r_iret (pc := 41) C dX10_membersOf_41 rfl (by omega) (by omega) ?_
        subst hx; exact ⟨rfl, rfl⟩
      · exact absurd (Int32.le_refl _) c9
    · intro i x hi hx ih
      obtain ⟨e16, ht⟩ := hG.2.2.2 i hi
      subst hx
      refine r_iload_n (pc := 4) C dX10_membersOf_4 rfl ?_
      refine r_aload_n (pc := 5) C dX10_membersOf_5 rfl ?_
      refine r_getI (pc := 6) C dX10_membersOf_6 fx_RX10_43 (by assumption) ?_
      rw [hh]
      refine r_icmp_ge (pc := 9) (tgt := 40) C dX10_membersOf_9 (by decide) (fun c9 => ?_) (fun c9 => ?_)
      · exact absurd c9 (nI_ge hi (by omega))
      · refine r_iload_n (pc := 12) C dX10_membersOf_12 rfl ?_
        refine r_aload_n (pc := 13) C dX10_membersOf_13 rfl ?_
        refine r_aload_n (pc := 14) C dX10_membersOf_14 rfl ?_
        refine r_getR (pc := 15) C dX10_membersOf_15 fx_RX10_40 (by assumption) (by first | assumption | rfl) ?_
        refine r_iload_n (pc := 18) C dX10_membersOf_18 rfl ?_
        refine r_iald (pc := 19) C dX10_membersOf_19 (by assumption) (by decide) (by assumption) (by first | assumption | exact vp_in_nI (by omega) (by omega)) (by first | exact nI_clamp (by omega) | rfl) ?_
        rw [hV.e 16 (by decide), e16]
        refine r_iload_n (pc := 20) C dX10_membersOf_20 rfl ?_
        refine r_callV (pc := 21) C (cm_isIn hV ht hs) iX10_isIn ml_RX10_258 dX10_membersOf_21 (ci := 11) rfl rfl (by assumption) rfl (by decide) rfl (by simp [cv, Value.category, va_rf]) (by omega) (by omega) (fun r21 S21 h21 => ?_)
        obtain ⟨rfl, e21⟩ := h21
        subst S21
        dsimp only [Option.toList, List.cons_append, List.nil_append]
        refine r_if_eq (pc := 24) (tgt := 31) C dX10_membersOf_24 (by decide) (fun c24 => ?_) (fun c24 => ?_)
        · refine r_iconst (pc := 31) C (nI 0) dX10_membersOf_31 rfl ?_
          refine r_iadd (pc := 32) C dX10_membersOf_32 ?_
          try simp only [nI_add, pk_mul]
          refine r_istore_n (pc := 33) C dX10_membersOf_33 (by decide) rfl ?_
          refine r_iinc (pc := 34) C _ dX10_membersOf_34 rfl (nI_1 _) (by decide) rfl ?_
          refine r_goto (pc := 37) (tgt := 4) C dX10_membersOf_37 (by decide) ?_
          refine r_lv C [(0, vr (some mo)), (1, vi (nI s)), (2, vi _), (3, vi (nI (i + 1)))] rfl (ih _ ?_)
          simp_all [cntU, bi_0]
        · refine r_iconst (pc := 27) C (nI 1) dX10_membersOf_27 rfl ?_
          refine r_goto (pc := 28) (tgt := 32) C dX10_membersOf_28 (by decide) ?_
          refine r_iadd (pc := 32) C dX10_membersOf_32 ?_
          try simp only [nI_add, pk_mul]
          refine r_istore_n (pc := 33) C dX10_membersOf_33 (by decide) rfl ?_
          refine r_iinc (pc := 34) C _ dX10_membersOf_34 rfl (nI_1 _) (by decide) rfl ?_
          refine r_goto (pc := 37) (tgt := 4) C dX10_membersOf_37 (by decide) ?_
          refine r_lv C [(0, vr (some mo)), (1, vi (nI s)), (2, vi _), (3, vi (nI (i + 1)))] rfl (ih _ ?_)
          simp_all [cntU, bi_0]
  refine r_iconst (pc := 0) C (nI 0) dX10_membersOf_0 rfl ?_
  refine r_istore_n (pc := 1) C dX10_membersOf_1 (by decide) rfl ?_
  refine r_iconst (pc := 2) C (nI 0) dX10_membersOf_2 rfl ?_
  refine r_istore_n (pc := 3) C dX10_membersOf_3 (by decide) rfl ?_
  refine r_lv C [(0, vr (some mo)), (1, vi (nI s)), (2, vi _), (3, vi (nI 0))] rfl (L 0 _ (by omega) rfl)
theorem cm_acceptedOf {s : Nat} (hV : MV S mo M n h) (hs : s < 2000) : Sp l g mX10_acceptedOf 0 0 [vr (some mo), vi (nI s)] S (fun r S' => r = some (vi (oI (acO M n h s))) ∧ S' = S) := by
  have hG := hV.G
  have hM := hV.1
  have hh := hV.2.2.1
  have hn2 := hG.1
  have hh2 := hG.2.1
  refine Sp.start (own := RX10) [(0, vr (some mo)), (1, vi (nI s))] (by decide +kernel) rfl rfl (Nat.le_of_ble_eq_true rfl) ?_
  intro J C
  have hmo := hM.1
  obtain ⟨h16, k16, n16⟩ := hM.2 16 140 (by decide)
  obtain ⟨h13, k13, n13⟩ := hM.2 13 140 (by decide)
  have L : ∀ i x, i ≤ h → x = oI (acO M n i s) → J 4 [(0, vr (some mo)), (1, vi (nI s)), (2, vi x), (3, vi (nI i))] [] S 0 0 := by
    refine up_loop _ _ _ ?_ ?_
    · intro x hx
      refine r_iload_n (pc := 4) C dX10_acceptedOf_4 rfl ?_
      refine r_aload_n (pc := 5) C dX10_acceptedOf_5 rfl ?_
      refine r_getI (pc := 6) C dX10_acceptedOf_6 fx_RX10_43 (by assumption) ?_
      rw [hh]
      refine r_icmp_ge (pc := 9) (tgt := 58) C dX10_acceptedOf_9 (by decide) (fun c9 => ?_) (fun c9 => ?_)
      · refine r_iload_n (pc := 58) C dX10_acceptedOf_58 rfl ?_
        refine r_iret (pc := 59) C dX10_acceptedOf_59 rfl (by omega) (by omega) ?_
        subst hx; exact ⟨rfl, rfl⟩
      · exact absurd (Int32.le_refl _) c9
    · intro i x hi hx ih
      obtain ⟨e16, ht⟩ := hG.2.2.2 i hi
      have htn := ht.1
      subst hx
      refine r_iload_n (pc := 4) C dX10_acceptedOf_4 rfl ?_
      refine r_aload_n (pc := 5) C dX10_acceptedOf_5 rfl ?_
      refine r_getI (pc := 6) C dX10_acceptedOf_6 fx_RX10_43 (by assumption) ?_
      rw [hh]
      refine r_icmp_ge (pc := 9) (tgt := 58) C dX10_acceptedOf_9 (by decide) (fun c9 => ?_) (fun c9 => ?_)
      · exact absurd c9 (nI_ge hi (by omega))
      · refine r_aload_n (pc := 12) C dX10_acceptedOf_12 rfl ?_
        refine r_getR (pc := 13) C dX10_acceptedOf_13 fx_RX10_30 (by assumption) (by first | assumption | rfl) ?_
        refine r_aload_n (pc := 16) C dX10_acceptedOf_16 rfl ?_
        refine r_getR (pc := 17) C dX10_acceptedOf_17 fx_RX10_40 (by assumption) (by first | assumption | rfl) ?_
        refine r_iload_n (pc := 20) C dX10_acceptedOf_20 rfl ?_
        refine r_iald (pc := 21) C dX10_acceptedOf_21 (by assumption) (by decide) (by assumption) (by first | assumption | exact vp_in_nI (by omega) (by omega)) (by first | exact nI_clamp (by omega) | rfl) ?_
        rw [hV.e 16 (by decide), e16]
        refine r_iald (pc := 22) C dX10_acceptedOf_22 (by assumption) (by decide) (by assumption) (by first | assumption | exact vp_in_nI (by omega) (by omega)) (by first | exact nI_clamp (by omega) | rfl) ?_
        refine r_iconst (pc := 23) C (nI 3) dX10_acceptedOf_23 rfl ?_
        rw [hV.e 13 (by decide)]
        refine r_icmp_ne (pc := 24) (tgt := 50) C dX10_acceptedOf_24 (by decide) (fun c24 => ?_) (fun c24 => ?_)
        · refine r_iload_n (pc := 50) C dX10_acceptedOf_50 rfl ?_
          refine r_istore_n (pc := 51) C dX10_acceptedOf_51 (by decide) rfl ?_
          refine r_iinc (pc := 52) C _ dX10_acceptedOf_52 rfl (nI_1 _) (by decide) rfl ?_
          refine r_goto (pc := 55) (tgt := 4) C dX10_acceptedOf_55 (by decide) ?_
          refine r_lv C [(0, vr (some mo)), (1, vi (nI s)), (2, vi _), (3, vi (nI (i + 1)))] rfl (ih _ ?_)
          simp_all [acO, lastU, bi_0, oI]
        · refine r_aload_n (pc := 27) C dX10_acceptedOf_27 rfl ?_
          refine r_aload_n (pc := 28) C dX10_acceptedOf_28 rfl ?_
          refine r_getR (pc := 29) C dX10_acceptedOf_29 fx_RX10_40 (by assumption) (by first | assumption | rfl) ?_
          refine r_iload_n (pc := 32) C dX10_acceptedOf_32 rfl ?_
          refine r_iald (pc := 33) C dX10_acceptedOf_33 (by assumption) (by decide) (by assumption) (by first | assumption | exact vp_in_nI (by omega) (by omega)) (by first | exact nI_clamp (by omega) | rfl) ?_
          rw [hV.e 16 (by decide), e16]
          refine r_iload_n (pc := 34) C dX10_acceptedOf_34 rfl ?_
          refine r_callV (pc := 35) C (cm_isIn hV ht hs) iX10_isIn ml_RX10_258 dX10_acceptedOf_35 (ci := 11) rfl rfl (by assumption) rfl (by decide) rfl (by simp [cv, Value.category, va_rf]) (by omega) (by omega) (fun r35 S35 h35 => ?_)
          obtain ⟨rfl, e35⟩ := h35
          subst S35
          dsimp only [Option.toList, List.cons_append, List.nil_append]
          refine r_if_eq (pc := 38) (tgt := 50) C dX10_acceptedOf_38 (by decide) (fun c38 => ?_) (fun c38 => ?_)
          · refine r_iload_n (pc := 50) C dX10_acceptedOf_50 rfl ?_
            refine r_istore_n (pc := 51) C dX10_acceptedOf_51 (by decide) rfl ?_
            refine r_iinc (pc := 52) C _ dX10_acceptedOf_52 rfl (nI_1 _) (by decide) rfl ?_
            refine r_goto (pc := 55) (tgt := 4) C dX10_acceptedOf_55 (by decide) ?_
            refine r_lv C [(0, vr (some mo)), (1, vi (nI s)), (2, vi _), (3, vi (nI (i + 1)))] rfl (ih _ ?_)
            simp_all [acO, lastU, bi_0, oI]
          · refine r_aload_n (pc := 41) C dX10_acceptedOf_41 rfl ?_
            refine r_getR (pc := 42) C dX10_acceptedOf_42 fx_RX10_40 (by assumption) (by first | assumption | rfl) ?_
            refine r_iload_n (pc := 45) C dX10_acceptedOf_45 rfl ?_
            refine r_iald (pc := 46) C dX10_acceptedOf_46 (by assumption) (by decide) (by assumption) (by first | assumption | exact vp_in_nI (by omega) (by omega)) (by first | exact nI_clamp (by omega) | rfl) ?_
            rw [hV.e 16 (by decide), e16]
            refine r_goto (pc := 47) (tgt := 51) C dX10_acceptedOf_47 (by decide) ?_
            refine r_istore_n (pc := 51) C dX10_acceptedOf_51 (by decide) rfl ?_
            refine r_iinc (pc := 52) C _ dX10_acceptedOf_52 rfl (nI_1 _) (by decide) rfl ?_
            refine r_goto (pc := 55) (tgt := 4) C dX10_acceptedOf_55 (by decide) ?_
            refine r_lv C [(0, vr (some mo)), (1, vi (nI s)), (2, vi _), (3, vi (nI (i + 1)))] rfl (ih _ ?_)
            simp_all [acO, lastU, bi_0, oI]
  refine r_iconst (pc := 0) C (-1) dX10_acceptedOf_0 rfl ?_
  refine r_istore_n (pc := 1) C dX10_acceptedOf_1 (by decide) rfl ?_
  refine r_iconst (pc := 2) C (nI 0) dX10_acceptedOf_2 rfl ?_
  refine r_istore_n (pc := 3) C dX10_acceptedOf_3 (by decide) rfl ?_
  refine r_lv C [(0, vr (some mo)), (1, vi (nI s)), (2, vi _), (3, vi (nI 0))] rfl (L 0 _ (by omega) rfl)
end Marks
