/-! The reference: a new one among the known, those that wait -/
def b8 (v : Nat) : Int32 := (nI v).toInt8.toInt32
theorem b8_tb (v : Nat) : (b8 v).toBitVec = ((BitVec.ofNat 32 v).setWidth 8).signExtend 32 := by
  simp only [b8, nI]
  rw [Int8.toBitVec_toInt32, Int32.toBitVec_toInt8, BitVec.signExtend_eq_setWidth_of_le (w := 32) (v := 8) _ (by decide)]
  rfl
theorem sx8 (x : BitVec 8) : (x.signExtend 32).setWidth 8 = x := by
  apply BitVec.eq_of_getLsbD_eq
  intro i hi
  simp only [BitVec.getLsbD_setWidth, BitVec.getLsbD_signExtend]
  simp [hi]
  intro h; omega
theorem b8_n {v : Nat} (h : v < 256) : (b8 v).toBitVec.toNat % 256 = v := by
  rw [b8_tb]
  have e := congrArg BitVec.toNat (sx8 ((BitVec.ofNat 32 v).setWidth 8))
  rw [BitVec.toNat_setWidth] at e
  rw [show (256 : Nat) = 2 ^ 8 by decide, e]
  simp
  omega
theorem b8_8 (v : Nat) : (b8 v).toInt8.toInt32 = b8 v := by
  apply Int32.toBitVec_inj.mp
  rw [Int8.toBitVec_toInt32, Int32.toBitVec_toInt8, BitVec.signExtend_eq_setWidth_of_le (w := 32) (v := 8) _ (by decide), b8_tb, sx8]
/-- rows with the first i bytes of tb written at the row t -/
def rw1 (b : Nat → Int32) (t : Nat) (tb : Nat → Nat) (i : Nat) : Nat → Int32 := fun j => if 56 * t ≤ j ∧ j < 56 * t + i then b8 (tb (j - 56 * t)) else b j
theorem rw1_0 (b : Nat → Int32) (t : Nat) (tb : Nat → Nat) : rw1 b t tb 0 = b := by
  funext j
  simp only [rw1]
  rw [if_neg (by omega)]
theorem rw1_s (b : Nat → Int32) (t : Nat) (tb : Nat → Nat) (i : Nat) : upd (rw1 b t tb i) (56 * t + i) (b8 (tb i)) = rw1 b t tb (i + 1) := by
  funext j
  simp only [upd, rw1]
  by_cases e : j = 56 * t + i
  · subst e
    rw [if_pos rfl, if_pos (by omega), show 56 * t + i - 56 * t = i by omega]
  · rw [if_neg e]
    by_cases e2 : 56 * t ≤ j ∧ j < 56 * t + i
    · rw [if_pos e2, if_pos (by omega)]
    · rw [if_neg e2, if_neg (by omega)]
/-- a row is read from its 56 bytes alone -/
theorem rN_congr {b b' : Nat → Int32} {t : Nat} (e : ∀ i, i < 56 → b' (56 * t + i) = b (56 * t + i)) {i : Nat} (hi : i < 56) : rN b' t i = rN b t i := by simp only [rN, e i hi]
def RowEq (b b' : Nat → Int32) (t : Nat) : Prop := nP b' t = nP b t ∧ nX b' t = nX b t ∧ nO b' t = nO b t ∧ (∀ i, i < 4 → pid b' t i = pid b t i) ∧ (∀ i, i < 4 → xid b' t i = xid b t i) ∧ (∀ i, i < 4 → xix b' t i = xix b t i) ∧ (∀ i, (t ≠ 0 → i < 4) → amt b' t i = amt b t i)
section RowEqs
variable {b b' : Nat → Int32} {t : Nat}
theorem RowEq.p (h : RowEq b b' t) : nP b' t = nP b t := h.1
theorem RowEq.x (h : RowEq b b' t) : nX b' t = nX b t := h.2.1
theorem RowEq.o (h : RowEq b b' t) : nO b' t = nO b t := h.2.2.1
theorem RowEq.pi (h : RowEq b b' t) : ∀ i, i < 4 → pid b' t i = pid b t i := h.2.2.2.1
theorem RowEq.xi (h : RowEq b b' t) : ∀ i, i < 4 → xid b' t i = xid b t i := h.2.2.2.2.1
theorem RowEq.xx (h : RowEq b b' t) : ∀ i, i < 4 → xix b' t i = xix b t i := h.2.2.2.2.2.1
theorem RowEq.am (h : RowEq b b' t) : ∀ i, (t ≠ 0 → i < 4) → amt b' t i = amt b t i := h.2.2.2.2.2.2
end RowEqs
theorem row_eq {b b' : Nat → Int32} {t : Nat} (e : ∀ i, i < 56 → b' (56 * t + i) = b (56 * t + i)) (hR : Rk b t) : RowEq b b' t := by
  obtain ⟨ht, hp, hx, ho, ho2⟩ := hR
  have r : ∀ i, i < 56 → rN b' t i = rN b t i := fun i hi => rN_congr e hi
  have r4e : ∀ i, i + 3 < 56 → r4 b' t i = r4 b t i := fun i hi => by simp only [r4]; rw [r i (by omega), r (i + 1) (by omega), r (i + 2) (by omega), r (i + 3) (by omega)]
  have e1 : nP b' t = nP b t := by simp only [nP]; rw [r 0 (by omega)]
  have e2 : fI b' t = fI b t := by simp only [fI, e1]
  have hfI : fI b t ≤ 17 := by simp only [fI]; omega
  have e3 : nX b' t = nX b t := by simp only [nX, e2]; rw [r _ (by omega)]
  have e4 : fO b' t = fO b t := by simp only [fO, e2, e3]
  have hfO : fO b t ≤ 38 := by simp only [fO]; omega
  have e5 : nO b' t = nO b t := by simp only [nO, e4]; rw [r _ (by omega)]
  refine ⟨e1, e3, e5, fun i hi => ?_, fun i hi => ?_, fun i hi => ?_, fun i hi => ?_⟩
  · simp only [pid]; rw [r4e _ (by omega)]
  · simp only [xid, e2]; rw [r4e _ (by omega)]
  · simp only [xix, e2]; rw [r _ (by omega)]
  · simp only [amt, e4]
    split
    · rfl
    · next h0 => have := hi h0; rw [r4e _ (by omega)]
theorem fdo_upd {f : Nat → Int32} {x v : Int32} {n k : Nat} (hk : n ≤ k) : fdo (upd f k v) x n = fdo f x n := by
  induction n with
  | zero => rfl
  | succ n ih => simp only [fdo]; rw [ih (by omega), pk_un (by omega)]
theorem fdo_none {f : Nat → Int32} {x : Int32} {n : Nat} (h : fdo f x n = none) : ∀ i, i < n → f i ≠ x := by
  induction n with
  | zero => intro i hi; omega
  | succ n ih =>
    simp only [fdo] at h
    split at h
    · cases h
    · next e =>
      intro i hi
      by_cases hin : i = n
      · subst hin; exact e
      · exact ih h i (by omega)
/-- what the graph was is what it is, for one more known -/
def Grw (M M' : MM) (n : Nat) (id : Int32) : Prop := M' 10 = upd (M 10) n id ∧ (∀ j, j < 56 * n → M' 11 j = M 11 j) ∧ M' 16 = M 16 ∧ fdo (M 10) id n = none
theorem Grw.ids {M M' : MM} {n : Nat} {id : Int32} (h : Grw M M' n id) : M' 10 = upd (M 10) n id := h.1
theorem Grw.rows {M M' : MM} {n : Nat} {id : Int32} (h : Grw M M' n id) : ∀ j, j < 56 * n → M' 11 j = M 11 j := h.2.1
theorem Grw.helds {M M' : MM} {n : Nat} {id : Int32} (h : Grw M M' n id) : M' 16 = M 16 := h.2.2.1
theorem Grw.new {M M' : MM} {n : Nat} {id : Int32} (h : Grw M M' n id) : fdo (M 10) id n = none := h.2.2.2
theorem Grw.fd {M M' : MM} {n : Nat} {id x : Int32} (h : Grw M M' n id) : fdo (M' 10) x (n + 1) = if x = id then some n else fdo (M 10) x n := by
  rw [h.ids]
  simp only [fdo]
  rw [pk_us, fdo_upd (Nat.le_refl _)]
  by_cases e : id = x
  · rw [if_pos e, if_pos e.symm]
  · rw [if_neg e, if_neg (fun q => e q.symm)]
theorem Grw.fdoS {M M' : MM} {n p : Nat} {id x : Int32} (h : Grw M M' n id) (hx : fdo (M 10) x n = some p) : fdo (M' 10) x (n + 1) = some p := by
  rw [h.fd, if_neg, hx]
  intro e
  rw [e, h.new] at hx
  cases hx
theorem Grw.row {M M' : MM} {n t : Nat} {id : Int32} (h : Grw M M' n id) (ht : t < n) (hR : Rk (M 11) t) : RowEq (M 11) (M' 11) t := row_eq (fun i hi => h.rows _ (by omega)) hR
theorem Grw.rk {M M' : MM} {n t : Nat} {id : Int32} (h : Grw M M' n id) (ht : t < n) (hR : Rk (M 11) t) : Rk (M' 11) t := by
  have r := h.row ht hR
  obtain ⟨h1, h2, h3, h4, h5⟩ := hR
  exact ⟨h1, by rw [r.p]; exact h2, by rw [r.x]; exact h3, by rw [r.o]; exact h4, by rw [r.o]; exact h5⟩
theorem Grw.pa {M M' : MM} {n t i : Nat} {id : Int32} (h : Grw M M' n id) (hR : Rk (M 11) t) (ht : Hp M n t) (hi : i < nP (M 11) t) : par M' (n + 1) t i = par M n t i := by
  have r := h.row ht.1 hR
  have hi4 : i < 4 := Nat.lt_of_lt_of_le hi hR.2.1
  have e : fdo (M' 10) (pid (M' 11) t i) (n + 1) = some (par M n t i) := by
    rw [r.pi i hi4]
    exact h.fdoS (ht.2 i hi)
  simp only [par] at e ⊢
  rw [e]
  rfl
theorem Grw.sr {M M' : MM} {n t i : Nat} {id : Int32} (h : Grw M M' n id) (hR : Rk (M 11) t) (ht : Ht M n t) (hi : i < nX (M 11) t) : src M' (n + 1) t i = src M n t i := by
  have r := h.row ht.1 hR
  have hi4 : i < 4 := Nat.lt_of_lt_of_le hi hR.2.2.1
  have e : fdo (M' 10) (xid (M' 11) t i) (n + 1) = some (src M n t i) := by
    rw [r.xi i hi4]
    exact h.fdoS (ht.2.2 i hi).1
  simp only [src] at e ⊢
  rw [e]
  rfl
theorem Grw.ou {M M' : MM} {n t i : Nat} {id : Int32} (h : Grw M M' n id) (hR : Rk (M 11) t) (ht : Ht M n t) (hi : i < nX (M 11) t) : out M' (n + 1) t i = out M n t i := by
  have r := h.row ht.1 hR
  have hi4 : i < 4 := Nat.lt_of_lt_of_le hi hR.2.2.1
  simp only [out]
  rw [h.sr hR ht hi, r.xx i hi4]
theorem Grw.ht {M M' : MM} {n h t : Nat} {id : Int32} (hg : Grw M M' n id) (hG : GV M n h) (ht : Ht M n t) : Ht M' (n + 1) t := by
  have hR := hG.2.2.1 t ht.1
  have r := hg.row ht.1 hR
  refine ⟨Nat.lt_succ_of_lt ht.1, fun i hi => ?_, fun i hi => ?_⟩
  · rw [r.p] at hi
    have hi4 : i < 4 := Nat.lt_of_lt_of_le hi hR.2.1
    rw [hg.pa hR ht.p hi, r.pi i hi4]
    exact hg.fdoS (ht.2.1 i hi)
  · rw [r.x] at hi
    have hi4 : i < 4 := Nat.lt_of_lt_of_le hi hR.2.2.1
    have hs := ht.src_lt hi
    rw [hg.sr hR ht hi, r.xi i hi4, r.xx i hi4, (hg.row hs (hG.2.2.1 _ hs)).o]
    exact ⟨hg.fdoS (ht.2.2 i hi).1, (ht.2.2 i hi).2⟩
theorem GV.add {M M' : MM} {n h : Nat} {id : Int32} (hG : GV M n h) (hg : Grw M M' n id) (hn : n < 140) (hR : Rk (M' 11) n) : GV M' (n + 1) h := by
  refine ⟨by omega, Nat.le_succ_of_le hG.2.1, fun t ht => ?_, fun k hk => ?_⟩
  · by_cases e : t = n
    · subst e; exact hR
    · exact hg.rk (by omega) (hG.2.2.1 t (by omega))
  · have e : hdN M' k = hdN M k := by simp only [hdN, hg.helds]
    rw [e, hg.helds]
    exact ⟨(hG.2.2.2 k hk).1, hg.ht hG (hG.2.2.2 k hk).2⟩
/-- the row that was read from the tape -/
theorem rk_new {b : Nat → Int32} {tb : Nat → Nat} {n m : Nat} (hn : n < 140) (hn0 : n ≠ 0) (hb : ∀ i, tb i < 256) (hm : m ≤ 55) (hT : isT tb m = true) (hrow : ∀ i, i < m → rN b n i = tb i) : Rk b n ∧ nP b n = tb 0 ∧ nX b n = tb (tP tb) ∧ nO b n = tb (tQ tb) ∧ fI b n = tP tb ∧ fO b n = tQ tb := by
  simp only [isT, Bool.and_eq_true, decide_eq_true_eq] at hT
  obtain ⟨⟨⟨⟨⟨⟨⟨⟨q1, q2⟩, q3⟩, q4⟩, q5⟩, q6⟩, q7⟩, q8⟩, q9⟩ := hT
  have ⟨g1, g2⟩ := fewB_iff.mp q1
  have ⟨g3, g4⟩ := fewB_iff.mp q4
  have ⟨g5, g6⟩ := fewB_iff.mp q7
  have e1 : nP b n = tb 0 := by simp only [nP, if_neg hn0]; exact hrow 0 (by omega)
  have e2 : fI b n = tP tb := by simp only [fI, e1, tP]
  have e3 : nX b n = tb (tP tb) := by simp only [nX, if_neg hn0, e2]; exact hrow _ q2
  have e4 : fO b n = tQ tb := by simp only [fO, e2, e3, tQ]
  have e5 : nO b n = tb (tQ tb) := by simp only [nO, if_neg hn0, e4]; exact hrow _ q5
  refine ⟨⟨hn, by omega, by omega, by omega, fun _ => by omega⟩, e1, e3, e5, e2, e4⟩
/-- what lookAt does to the states -/
theorem rejL_13 {M : MM} {n h t : Nat} : ∀ i, rejL M n h t i 13 = upd (M 13) t (nI 4)
  | 0 => by simp only [rejL, um, uk_s]
  | i + 1 => by
    have ih := rejL_13 (M := M) (n := n) (h := h) (t := t) i
    simp only [rejL]
    split
    · rw [um_n (by decide), um_n (by decide)]; exact ih
    · exact ih
theorem joinL_13 {M : MM} {n h t : Nat} : ∀ i, joinL M n h t i 13 = M 13
  | 0 => rfl
  | i + 1 => by
    have ih := joinL_13 (M := M) (n := n) (h := h) (t := t) i
    simp only [joinL]
    split
    · rw [um_n (by decide), um_n (by decide)]; exact ih
    · exact ih
theorem ho1_13 {M : MM} {h t : Nat} : ho1 M h t 13 = upd (M 13) t (nI 2) := by simp only [ho1]; rw [um_n (by decide)]; simp only [um, uk_s]
theorem hol_13 {M : MM} {n h t : Nat} : hol M n h t 13 = upd (M 13) t (if rejB M n h t then nI 4 else nI 2) := by
  simp only [hol]
  split
  · simp only [rej]; rw [rejL_13, joinL_13, ho1_13, upd_upd]
  · rw [joinL_13, ho1_13]
/-- does it go on -/
def goes (M : MM) (n t : Nat) : Bool := match lkP M n t (nP (M 11) t) with
  | some true => false
  | _ => true
def wai (M : MM) (n t : Nat) : Bool := decide (M 13 t = nI 1) && goes M n t
theorem lok_stay {M : MM} {n h t : Nat} (hg : goes M n t = false) : lok M n h t = (M, h) := by
  simp only [goes] at hg
  split at hg
  · next e => simp only [lok, e, if_true]
  · cases hg
theorem lok_go {M : MM} {n h t : Nat} (hg : goes M n t = true) : ((lok M n h t).1 13 = upd (M 13) t (nI 5) ∧ (lok M n h t).2 = h) ∨ (∃ v, (v = nI 2 ∨ v = nI 4) ∧ (lok M n h t).1 13 = upd (M 13) t v ∧ (lok M n h t).2 = h + 1) := by
  simp only [goes] at hg
  simp only [lok]
  split at hg
  · cases hg
  · next w hw =>
    cases hq : lkP M n t (nP (M 11) t) with
    | none => exact Or.inl ⟨by simp only [um, uk_s], rfl⟩
    | some w =>
      cases w with
      | true => exact absurd hq hw
      | false =>
        simp only [Bool.false_eq_true, if_false]
        split
        · exact Or.inl ⟨by simp only [um, uk_s], rfl⟩
        · refine Or.inr ⟨if rejB M n h t then nI 4 else nI 2, ?_, hol_13, rfl⟩
          split
          · exact Or.inr rfl
          · exact Or.inl rfl
def fstU (f : Nat → Bool) : Nat → Option Nat
  | 0 => none
  | n + 1 => match fstU f n with
    | some k => some k
    | none => if f n then some n else none
theorem fstU_no {f : Nat → Bool} {n : Nat} (h : fstU f n = none) : ∀ j, j < n → f j = false := by
  induction n with
  | zero => intro j hj; omega
  | succ n ih =>
    simp only [fstU] at h
    cases hq : fstU f n with
    | some k => rw [hq] at h; cases h
    | none =>
      rw [hq] at h
      dsimp only at h
      split at h
      · cases h
      · next e =>
        intro j hj
        by_cases hjn : j = n
        · subst hjn; simpa using e
        · exact ih hq j (by omega)
theorem fstU_some {f : Nat → Bool} {n k : Nat} (h : fstU f n = some k) : k < n ∧ f k = true ∧ ∀ j, j < k → f j = false := by
  induction n with
  | zero => cases h
  | succ n ih =>
    simp only [fstU] at h
    cases hq : fstU f n with
    | some j => rw [hq] at h; cases h; obtain ⟨h1, h2, h3⟩ := ih hq; exact ⟨by omega, h2, h3⟩
    | none =>
      rw [hq] at h
      dsimp only at h
      split at h
      · next e => cases h; exact ⟨by omega, e, fstU_no hq⟩
      · cases h
theorem fstU_none {f : Nat → Bool} {n : Nat} : fstU f n = none ↔ ∀ j, j < n → f j = false := by
  induction n with
  | zero => simp [fstU]
  | succ n ih =>
    simp only [fstU]
    cases hq : fstU f n with
    | some k =>
      have := (fstU_some hq)
      simp only [reduceCtorEq, false_iff]
      intro q
      have := q k (by omega)
      simp_all
    | none =>
      rw [hq] at ih
      have ih := ih.mp rfl
      cases hf : f n with
      | true =>
        simp only [if_true, reduceCtorEq, false_iff]
        intro q
        rw [q n (by omega)] at hf
        cases hf
      | false =>
        simp only [Bool.false_eq_true, if_false, true_iff]
        intro j hj
        by_cases e : j = n
        · subst e; exact hf
        · exact ih j (by omega)
/-- those that wait are looked at again, the first that goes on, and so on -/
def itW : Nat → MM → Nat → Nat → MM × Nat
  | 0, M, _, h => (M, h)
  | f + 1, M, n, h => match fstU (wai M n) n with
    | none => (M, h)
    | some w => itW f (lok M n h w).1 n (lok M n h w).2
def cW (M : MM) (n : Nat) : Nat := cntU (fun t => decide (M 13 t = nI 1)) n
def cH (M : MM) (n : Nat) : Nat := cntU (hv M) n
theorem cntU_upd {f f' : Nat → Bool} {t : Nat} (e : ∀ i, i ≠ t → f' i = f i) : ∀ n, t < n → cntU f' n + (if f t then 1 else 0) = cntU f n + (if f' t then 1 else 0) := by
  intro n
  induction n with
  | zero => intro h; omega
  | succ n ih =>
    intro h
    simp only [cntU]
    by_cases hn : n = t
    · subst hn
      rw [cntU_congr (f := f') (h := f) (fun i hi => e i (by omega))]
      omega
    · rw [e n hn]
      have := ih (by omega)
      omega
theorem hv_w {M : MM} {t : Nat} (h : M 13 t = nI 1) : hv M t = false := by simp only [hv, h]; rfl
theorem hv_5 {M : MM} {t : Nat} (h : M 13 t = nI 5) : hv M t = false := by simp only [hv, h]; rfl
theorem hv_24 {M : MM} {t : Nat} (h : M 13 t = nI 2 ∨ M 13 t = nI 4) : hv M t = true := by rcases h with h | h <;> (simp only [hv, h]; rfl)
theorem hv_ne {M M' : MM} {t i : Nat} {v : Int32} (e : M' 13 = upd (M 13) t v) (hi : i ≠ t) : hv M' i = hv M i := by simp only [hv, e]; rw [pk_un hi]
theorem wai_w {M : MM} {n t : Nat} (h : wai M n t = true) : M 13 t = nI 1 := by simp only [wai, Bool.and_eq_true, decide_eq_true_eq] at h; exact h.1
theorem lok_cH {M : MM} {n h t : Nat} (hw : wai M n t = true) (ht : t < n) (hc : h = cH M n) : (lok M n h t).2 = cH (lok M n h t).1 n ∧ cW (lok M n h t).1 n < cW M n := by
  have h1 := wai_w hw
  simp only [wai, Bool.and_eq_true] at hw
  rcases lok_go (h := h) hw.2 with ⟨e1, e2⟩ | ⟨v, hvv, e1, e2⟩
  · have c1 := cntU_upd (f := hv M) (f' := hv (lok M n h t).1) (t := t) (fun i hi => hv_ne e1 hi) n ht
    have hvt : hv (lok M n h t).1 t = false := hv_5 (by rw [e1, pk_us])
    have c2 := cntU_upd (f := fun t => decide (M 13 t = nI 1)) (f' := fun s => decide ((lok M n h t).1 13 s = nI 1)) (t := t) (fun i hi => by rw [e1, pk_un hi]) n ht
    rw [hv_w h1, hvt] at c1
    simp only [h1, e1, pk_us, decide_true, if_true, show decide (nI 5 = nI 1) = false by decide, Bool.false_eq_true, if_false] at c2
    refine ⟨?_, ?_⟩
    · rw [e2]; simp only [cH] at hc ⊢; simp at c1; omega
    · simp only [cW, e1] at c2 ⊢; omega
  · have c1 := cntU_upd (f := hv M) (f' := hv (lok M n h t).1) (t := t) (fun i hi => hv_ne e1 hi) n ht
    have hvt : hv (lok M n h t).1 t = true := hv_24 (by rw [e1, pk_us]; exact hvv)
    have hv1 : decide (v = nI 1) = false := by rcases hvv with rfl | rfl <;> decide
    have c2 := cntU_upd (f := fun t => decide (M 13 t = nI 1)) (f' := fun s => decide ((lok M n h t).1 13 s = nI 1)) (t := t) (fun i hi => by rw [e1, pk_un hi]) n ht
    rw [hv_w h1, hvt] at c1
    simp only [h1, e1, pk_us, decide_true, if_true, hv1, Bool.false_eq_true, if_false] at c2
    refine ⟨?_, ?_⟩
    · rw [e2]; simp only [cH] at hc ⊢; simp at c1; omega
    · simp only [cW, e1] at c2 ⊢; omega
theorem cH_lt {M : MM} {n t : Nat} (ht : t < n) (hw : M 13 t = nI 1) : cH M n < n := by
  have c1 := cntU_upd (f := hv M) (f' := fun i => if i = t then true else hv M i) (t := t) (fun i hi => by simp [hi]) n ht
  rw [hv_w hw] at c1
  simp only [Bool.false_eq_true, if_false, if_true] at c1
  have := cntU_le (f := fun i => if i = t then true else hv M i) (n := n)
  simp only [cH]
  omega
