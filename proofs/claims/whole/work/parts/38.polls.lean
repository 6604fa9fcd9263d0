/-! The reference: polls -/
theorem cntU_t {f : Nat → Bool} {n : Nat} (h : f n = true) : cntU f (n + 1) = cntU f n + 1 := by simp only [cntU, h, if_true]
theorem cntU_f {f : Nat → Bool} {n : Nat} (h : f n = false) : cntU f (n + 1) = cntU f n + 0 := by simp only [cntU, h, Bool.false_eq_true, if_false]
theorem lastU_t {f : Nat → Bool} {n : Nat} (h : f n = true) : lastU f (n + 1) = some n := by simp only [lastU, h, if_true]
theorem lastU_f {f : Nat → Bool} {n : Nat} (h : f n = false) : lastU f (n + 1) = lastU f n := by simp only [lastU, h, Bool.false_eq_true, if_false]
theorem fstU_t {f : Nat → Bool} {n : Nat} (h : f n = true) (hn : fstU f n = none) : fstU f (n + 1) = some n := by simp only [fstU, hn, h, if_true]
theorem fstU_f {f : Nat → Bool} {n : Nat} (h : f n = false) : fstU f (n + 1) = fstU f n := by
  simp only [fstU, h, Bool.false_eq_true, if_false]
  cases fstU f n <;> rfl
theorem fstU_k {f : Nat → Bool} {n : Nat} (h : fstU f n ≠ none) : fstU f (n + 1) = fstU f n := by
  simp only [fstU]
  cases hq : fstU f n with
  | none => exact absurd hq h
  | some k => rfl
/-- as Gc, the generator is X -/
def Gx (E : List Nat) (S S' : hS) (mo : Nat) (G : Nat → Int32) (X : Int64) : Prop := ∃ F : MM, S' = mput S mo F G X ∧ ∀ k ∈ mks, k ∉ gk → k ∉ E → F k = mI S mo k
section Gxs
variable {E E' : List Nat} {S S1 S2 : hS} {mo : Nat} {G G1 G2 : Nat → Int32} {X X1 X2 : Int64}
theorem Gc.gx (h : Gc E S S1 mo G) : Gx E S S1 mo G (sJ S 1101 mo) := h
theorem Gx.tr (h1 : Gx E S S1 mo G1 X1) (h2 : Gx E' S1 S2 mo G2 X2) (hs : ∀ x ∈ E', x ∈ E := by decide) : Gx E S S2 mo G2 X2 := by
  obtain ⟨F1, rfl, e1⟩ := h1
  obtain ⟨F2, rfl, e2⟩ := h2
  refine ⟨F2, ?_, fun k a b c => ?_⟩
  · rw [mput_mput]
  · rw [e2 k a b (fun q => c (hs k q)), ← e1 k a b c]
    exact aI_mput a
theorem Gx.gs (h : Gx E S S1 mo G X) : Gs S1 mo = G := by
  obtain ⟨F, rfl, -⟩ := h
  funext k
  exact sI_mput
theorem Gx.sj (h : Gx E S S1 mo G X) : sJ S1 1101 mo = X := by
  obtain ⟨F, rfl, -⟩ := h
  exact sJ_mput
theorem Gx.keep {k : Nat} (h : Gx E S S1 mo G X) (hk : k ∈ mks) (h1 : k ∉ gk) (h2 : k ∉ E) : mI S1 mo k = mI S mo k := by
  obtain ⟨F, rfl, e⟩ := h
  rw [← e k hk h1 h2]
  exact aI_mput hk
theorem Gx.trk (h1 : Gx E S S1 mo G X) (h2 : Gc E' S1 S2 mo (Gs S1 mo)) (hs : ∀ x ∈ E', x ∈ E := by decide) : Gx E S S2 mo G X := by
  have h := h1.tr h2.gx hs
  rw [h1.gs, h1.sj] at h
  exact h
theorem Gx.trs {k : Nat} {v : Int32} (h1 : Gx E S S1 mo G X) (h2 : Gc E' S1 S2 mo (upd (Gs S1 mo) k v)) (hs : ∀ x ∈ E', x ∈ E := by decide) : Gx E S S2 mo (upd G k v) X := by
  have h := h1.tr h2.gx hs
  rw [h1.gs, h1.sj] at h
  exact h
theorem Gx.trx (h1 : Gx E S S1 mo G X) (h2 : Gx E' S1 S2 mo (Gs S1 mo) X2) (hs : ∀ x ∈ E', x ∈ E := by decide) : Gx E S S2 mo G X2 := by
  have h := h1.tr h2 hs
  rw [h1.gs] at h
  exact h
theorem Gx.setj {v : Int64} : Gx E S (setJ S 1101 mo v) mo (Gs S mo) v := by
  refine ⟨mI S mo, ?_, fun _ _ _ _ => rfl⟩
  have h := setJ_mput (S := S) (mo := mo) (F := mI S mo) (G := Gs S mo) (X := sJ S 1101 mo) (v := v)
  rw [show mput S mo (mI S mo) (Gs S mo) (sJ S 1101 mo) = S from mput_self (fun _ _ => rfl)] at h
  exact h
end Gxs
def ek : List Nat := [6, 7, 25, 26, 27, 28, 32, 33, 34, 35, 36, 37, 38, 39, 41, 42]
/-- the reference at mo: the graph M, the other arrays F, the numbers G, the generator X -/
def MX (S : hS) (mo : Nat) (M F : MM) (G : Nat → Int32) (X : Int64) (n h : Nat) : Prop := MV S mo M n h ∧ (∀ k, k ∈ ek → mI S mo k = F k) ∧ Gs S mo = G ∧ sJ S 1101 mo = X
def Rf (S S' : hS) (mo : Nat) : Prop := ∃ F G X, S' = mput S mo F G X
theorem ek_mks {k : Nat} (h : k ∈ ek) : k ∈ mks ∧ k ∉ gk := by
  simp only [ek, List.mem_cons, List.not_mem_nil, or_false] at h
  rcases h with rfl | rfl | rfl | rfl | rfl | rfl | rfl | rfl | rfl | rfl | rfl | rfl | rfl | rfl | rfl | rfl <;> decide
theorem MX.fin {E : List Nat} {S S' : hS} {mo : Nat} {M M' F : MM} {G G' : Nat → Int32} {X X' : Int64} {n h n' h' : Nat} (F' : MM) (hX : MX S mo M F G X n h) (hC : Gx E S S' mo G' X') (hV : MV S' mo M' n' h') (hF : ∀ k, k ∈ ek → k ∈ E → mI S' mo k = F' k) (hF2 : ∀ k, k ∈ ek → k ∉ E → F' k = F k) : MX S' mo M' F' G' X' n' h' ∧ Rf S S' mo := by
  refine ⟨⟨hV, fun k hk => ?_, hC.gs, hC.sj⟩, ?_⟩
  · by_cases e : k ∈ E
    · exact hF k hk e
    · rw [hC.keep (ek_mks hk).1 (ek_mks hk).2 e, hF2 k hk e, hX.2.1 k hk]
  · obtain ⟨F1, e, -⟩ := hC
    exact ⟨F1, G', X', e⟩
/-- numbers of the drawing -/
def dsum (wt : Nat → Nat) (D : Nat → Bool) : Nat → Nat
  | 0 => 0
  | i + 1 => dsum wt D i + (if D i then 0 else wt i)
def lcg (x : Int64) : Int64 := x * 6364136223846793005 + 1442695040888963407
def u33 (x : Int64) : Nat := x.toBitVec.toNat / 2 ^ 33
theorem u33_lt (x : Int64) : u33 x < 2 ^ 31 := by
  unfold u33
  have := x.toBitVec.isLt
  omega
theorem u33_shr (x : Int64) : (x.toUInt64 >>> ((nI 33).toInt64.toUInt64 &&& Int64.toUInt64 63)).toInt64 = lN (u33 x) := by
  apply Int64.toBitVec_inj.mp
  apply BitVec.eq_of_toNat_eq
  rw [show (lN (u33 x)).toBitVec.toNat = u33 x from by have := u33_lt x; show (BitVec.ofNat 64 (u33 x)).toNat = _; rw [BitVec.toNat_ofNat]; exact Nat.mod_eq_of_lt (by omega)]
  show (x.toUInt64 >>> ((nI 33).toInt64.toUInt64 &&& Int64.toUInt64 63)).toBitVec.toNat = _
  rw [UInt64.toBitVec_shiftRight, show ((nI 33).toInt64.toUInt64 &&& Int64.toUInt64 63).toBitVec % 64 = 33#64 by decide +kernel]
  simp only [u33, BitVec.ushiftRight_eq', BitVec.toNat_ushiftRight, BitVec.toNat_ofNat]
  rw [Nat.shiftRight_eq_div_pow]
  rfl
theorem lcmp_le {x y : Int64} : (lg_cmp x y ≤ 0) = (x ≤ y) := by
  unfold lg_cmp
  simp only [eq_iff_iff]
  split
  · next h => exact ⟨fun q => absurd q (by decide), fun q => absurd h (Int64.not_lt.mpr q)⟩
  · next h => exact ⟨fun _ => Int64.not_lt.mp h, fun _ => by split <;> decide⟩
/-- the peer that is drawn -/
def dF (wt : Nat → Nat) (D : Nat → Bool) (x : Int64) (p : Nat) : Bool := !D p && decide (u33 x % dsum wt D 20 < dsum wt D (p + 1))
def dP (wt : Nat → Nat) (D : Nat → Bool) (x : Int64) : Nat := (fstU (dF wt D x) 20).getD 0
theorem dsum_le {wt : Nat → Nat} {D : Nat → Bool} (hw : ∀ p, wt p ≤ 1000) : ∀ i, dsum wt D i ≤ 1000 * i
  | 0 => Nat.le_refl _
  | i + 1 => by
    have ih := dsum_le (D := D) hw i
    have := hw i
    simp only [dsum]
    split <;> omega
theorem dsum_mono {wt : Nat → Nat} {D : Nat → Bool} {i : Nat} : ∀ {j}, i ≤ j → dsum wt D i ≤ dsum wt D j := by
  intro j
  induction j with
  | zero => intro h; have : i = 0 := by omega
            subst this; exact Nat.le_refl _
  | succ j ih =>
    intro h
    by_cases e : i = j + 1
    · subst e; exact Nat.le_refl _
    · have := ih (by omega)
      simp only [dsum]
      omega
theorem dF_some {wt : Nat → Nat} {D : Nat → Bool} {x : Int64} (hp : 0 < dsum wt D 20) : fstU (dF wt D x) 20 = some (dP wt D x) := by
  cases hq : fstU (dF wt D x) 20 with
  | some p => simp only [dP, hq, Option.getD_some]
  | none =>
    exfalso
    have h1 := fstU_none.mp hq
    have hr : u33 x % dsum wt D 20 < dsum wt D 20 := Nat.mod_lt _ hp
    have h2 : ∀ i, i ≤ 20 → dsum wt D i ≤ u33 x % dsum wt D 20 := by
      intro i
      induction i with
      | zero => intro _; exact Nat.zero_le _
      | succ i ih =>
        intro hi
        have h3 := h1 i (by omega)
        have h4 := ih (by omega)
        simp only [dF] at h3
        cases hD : D i with
        | true => rw [show dsum wt D (i + 1) = dsum wt D i from by simp only [dsum, hD, if_true, Nat.add_zero]]; exact h4
        | false =>
          rw [hD] at h3
          simp only [Bool.not_false, Bool.true_and, decide_eq_false_iff_not] at h3
          omega
    have := h2 20 (Nat.le_refl _)
    omega
theorem dP_lt {wt : Nat → Nat} {D : Nat → Bool} {x : Int64} (hp : 0 < dsum wt D 20) : dP wt D x < 20 ∧ D (dP wt D x) = false := by
  have h := fstU_some (dF_some (x := x) hp)
  refine ⟨h.1, ?_⟩
  have h2 := h.2.1
  simp only [dF, Bool.and_eq_true, Bool.not_eq_true'] at h2
  exact h2.1
def dX (X : Int64) : Nat → Int64
  | 0 => X
  | j + 1 => lcg (dX X j)
def dD (wt : Nat → Nat) (X : Int64) : Nat → (Nat → Bool)
  | 0 => fun _ => false
  | j + 1 => fun q => dD wt X j q || decide (q = dP wt (dD wt X j) (dX X (j + 1)))
/-- the j-th of the sample -/
def smp (wt : Nat → Nat) (X : Int64) (j : Nat) : Nat := dP wt (dD wt X j) (dX X (j + 1))
theorem cntU_or1 {f f' : Nat → Bool} {q : Nat} (e : ∀ i, f' i = (f i || decide (i = q))) : ∀ n, cntU f' n ≤ cntU f n + 1 ∧ (n ≤ q → cntU f' n ≤ cntU f n)
  | 0 => ⟨by simp [cntU], fun _ => Nat.le_refl _⟩
  | n + 1 => by
    obtain ⟨i1, i2⟩ := cntU_or1 e n
    have en := e n
    by_cases h : n = q
    · have i2 := i2 (by omega)
      rw [decide_eq_true h, Bool.or_true] at en
      rw [cntU_t en]
      cases hf : f n with
      | true => rw [cntU_t hf]; omega
      | false => rw [cntU_f hf]; omega
    · rw [decide_eq_false h, Bool.or_false] at en
      cases hf : f n with
      | true => rw [cntU_t hf, cntU_t (by rw [en, hf])]; omega
      | false => rw [cntU_f hf, cntU_f (by rw [en, hf])]; omega
theorem dD_cnt {wt : Nat → Nat} {X : Int64} : ∀ j, cntU (dD wt X j) 20 ≤ j
  | 0 => by
    have h : ∀ n, cntU (dD wt X 0) n = 0 := by
      intro n
      induction n with
      | zero => rfl
      | succ n ih => rw [cntU_f rfl, ih]
    rw [h]; omega
  | j + 1 => by
    have ih := dD_cnt (wt := wt) (X := X) j
    have := (cntU_or1 (f := dD wt X j) (f' := dD wt X (j + 1)) (fun i => rfl) 20).1
    omega
theorem cntU_sub {f f' : Nat → Bool} : ∀ n, (∀ i, i < n → f i = true → f' i = true) → cntU f n ≤ cntU f' n
  | 0, _ => Nat.le_refl _
  | n + 1, h => by
    have ih := cntU_sub n (fun i hi => h i (by omega))
    simp only [cntU]
    cases hf : f n with
    | false => simp; omega
    | true => rw [h n (by omega) hf]; simp; omega
theorem dsum_pos {wt : Nat → Nat} {D : Nat → Bool} {p : Nat} (hp : p < 20) (hD : D p = false) (hw : 0 < wt p) : 0 < dsum wt D 20 := by
  have h1 : 0 < dsum wt D (p + 1) := by simp only [dsum, hD, Bool.false_eq_true, if_false]; omega
  have := dsum_mono (wt := wt) (D := D) (show p + 1 ≤ 20 by omega)
  omega
/-- enough peers have a weight: each drawing finds one -/
theorem dD_pos {wt : Nat → Nat} {X : Int64} {k j : Nat} (hk : k ≤ cntU (fun p => decide (0 < wt p)) 20) (hj : j < k) : 0 < dsum wt (dD wt X j) 20 := by
  cases hq : fstU (fun p => decide (0 < wt p) && !dD wt X j p) 20 with
  | some p =>
    obtain ⟨h1, h2, -⟩ := fstU_some hq
    simp only [Bool.and_eq_true, decide_eq_true_eq, Bool.not_eq_true'] at h2
    exact dsum_pos h1 h2.2 h2.1
  | none =>
    exfalso
    have h1 := fstU_none.mp hq
    have := cntU_sub (f := fun p => decide (0 < wt p)) (f' := dD wt X j) 20 (fun i hi hf => by
      have := h1 i hi
      rw [hf, Bool.true_and] at this
      simpa using this)
    have := dD_cnt (wt := wt) (X := X) j
    omega
/-- a scan downwards ends with the first -/
def scanD (f : Nat → Bool) : Nat → Option Nat → Option Nat
  | 0, a => a
  | i + 1, a => scanD f i (if f i then some i else a)
theorem fstU_up {f : Nat → Bool} {n : Nat} : fstU f (n + 1) = match fstU f n with
    | some k => some k
    | none => if f n then some n else none := rfl
theorem scanD_fst {f : Nat → Bool} : ∀ n a, scanD f n a = match fstU f n with
    | some k => some k
    | none => a
  | 0, a => rfl
  | n + 1, a => by
    simp only [scanD]
    rw [scanD_fst n]
    simp only [fstU]
    cases fstU f n with
    | some k => rfl
    | none => cases f n <;> rfl
def opn (f : Nat → Int32) : Nat := cntU (fun p => !dlt (f p) (nI 0)) 6
def plc (f : Nat → Int32) (x : Int32) : Option Nat := if x < 0 then none else lastU (fun p => decide (f p = x)) 6
def pabt (M : MM) (k : Nat) : Bool := decide (M 13 (hdN M k) = nI 2) && decide (M 15 (hdN M k) = 0)
def abo (M : MM) (h : Nat) : Option Nat := (fstU (pabt M) h).map (hdN M)
def hvy (f : Nat → Int32) : Nat := cntU (fun p => dlt (nI 0) (f p)) 20
def sdn (f : Nat → Int32) (p k : Nat) (w : Int32) : Nat := cntU (fun j => decide (f (10 * p + j) = w)) k
section Polls
variable {l : Launch} {g : GG} {S : hS} {mo : Nat} {M : MM} {n h : Nat}
theorem cm_openPolls (hV : MV S mo M n h) : Sp l g mX10_openPolls 0 0 [vr (some mo)] S (fun r S' => r = some (vi (nI (opn (mI S mo 25)))) ∧ S' = S) := by
  have hC0 : Gch S S mo (Gs S mo) := Gc.rf
  refine Sp.start (own := RX10) [(0, vr (some mo))] (by decide +kernel) rfl rfl (Nat.le_of_ble_eq_true rfl) ?_
  intro J C
  have L : ∀ i x, i ≤ 6 → x = nI (cntU (fun p => !dlt (mI S mo 25 p) (nI 0)) i) → J 4 [(0, vr (some mo)), (1, vi x), (2, vi (nI i))] [] S 0 0 := by
    refine up_loop _ _ _ ?_ ?_
    · intro x hx
      refine r_iload_n (pc := 4) C dX10_openPolls_4 rfl ?_
      refine r_bipush (pc := 5) C (nI 6) dX10_openPolls_5 rfl ?_
      refine r_icmp_ge (pc := 7) (tgt := 33) C dX10_openPolls_7 (by decide) (fun c7 => ?_) (fun c7 => ?_)
      · refine r_iload_n (pc := 33) C dX10_openPolls_33 rfl ?_
        refine r_iret (pc := 34) C dX10_openPolls_34 rfl (by omega) (by omega) ?_
        exact ⟨by rw [hx]; rfl, rfl⟩
      · exact absurd (Int32.le_refl _) c7
    · intro i x hi hx ih
      subst hx
      refine r_iload_n (pc := 4) C dX10_openPolls_4 rfl ?_
      refine r_bipush (pc := 5) C (nI 6) dX10_openPolls_5 rfl ?_
      refine r_icmp_ge (pc := 7) (tgt := 33) C dX10_openPolls_7 (by decide) (fun c7 => ?_) (fun c7 => ?_)
      · exact absurd c7 (nI_ge hi (by omega))
      · refine r_iload_n (pc := 10) C dX10_openPolls_10 rfl ?_
        refine r_aload_n (pc := 11) C dX10_openPolls_11 rfl ?_
        refine r_mA (pc := 12) C hV dX10_openPolls_12 fx_RX10_67 (len := 6) (by decide) ?_
        refine r_iload_n (pc := 15) C dX10_openPolls_15 rfl ?_
        refine r_xL (pc := 16) C hV dX10_openPolls_16 (k := 25) (len := 6) (by decide) (by decide) (by omega) (by decide) ?_
        refine r_if_lt (pc := 17) (tgt := 24) C dX10_openPolls_17 (by decide) (fun c17 => ?_) (fun c17 => ?_)
        · have hv2 : cntU (fun p => !dlt (mI S mo 25 p) (nI 0)) (i + 1) = cntU (fun p => !dlt (mI S mo 25 p) (nI 0)) i + 0 := cntU_f (by rw [show dlt (mI S mo 25 i) (nI 0) = true from dlt_t c17]; rfl)
          refine r_iconst (pc := 24) C (nI 0) dX10_openPolls_24 rfl ?_
          refine r_iadd (pc := 25) C dX10_openPolls_25 ?_
          try simp only [nI_add, pk_mul]
          refine r_istore_n (pc := 26) C dX10_openPolls_26 (by decide) rfl ?_
          refine r_iinc (pc := 27) C _ dX10_openPolls_27 rfl (nI_1 _) (by decide) rfl ?_
          refine r_goto (pc := 30) (tgt := 4) C dX10_openPolls_30 (by decide) ?_
          exact r_lv C [(0, vr (some mo)), (1, vi _), (2, vi (nI (i + 1)))] rfl (ih _ (by rw [hv2]))
        · have hv2 : cntU (fun p => !dlt (mI S mo 25 p) (nI 0)) (i + 1) = cntU (fun p => !dlt (mI S mo 25 p) (nI 0)) i + 1 := cntU_t (by rw [show dlt (mI S mo 25 i) (nI 0) = false from dlt_f (Int32.not_lt.mp c17)]; rfl)
          refine r_iconst (pc := 20) C (nI 1) dX10_openPolls_20 rfl ?_
          refine r_goto (pc := 21) (tgt := 25) C dX10_openPolls_21 (by decide) ?_
          refine r_iadd (pc := 25) C dX10_openPolls_25 ?_
          try simp only [nI_add, pk_mul]
          refine r_istore_n (pc := 26) C dX10_openPolls_26 (by decide) rfl ?_
          refine r_iinc (pc := 27) C _ dX10_openPolls_27 rfl (nI_1 _) (by decide) rfl ?_
          refine r_goto (pc := 30) (tgt := 4) C dX10_openPolls_30 (by decide) ?_
          exact r_lv C [(0, vr (some mo)), (1, vi _), (2, vi (nI (i + 1)))] rfl (ih _ (by rw [hv2]))
  refine r_iconst (pc := 0) C (nI 0) dX10_openPolls_0 rfl ?_
  refine r_istore_n (pc := 1) C dX10_openPolls_1 (by decide) rfl ?_
  refine r_iconst (pc := 2) C (nI 0) dX10_openPolls_2 rfl ?_
  refine r_istore_n (pc := 3) C dX10_openPolls_3 (by decide) rfl ?_
  exact r_lv C [(0, vr (some mo)), (1, vi _), (2, vi (nI 0))] rfl (L 0 _ (by omega) rfl)
theorem cm_placeOf {x : Int32} (hV : MV S mo M n h) : Sp l g mX10_placeOf 0 0 [vr (some mo), vi x] S (fun r S' => r = some (vi (oI (plc (mI S mo 25) x))) ∧ S' = S) := by
  have hC0 : Gch S S mo (Gs S mo) := Gc.rf
  refine Sp.start (own := RX10) [(0, vr (some mo)), (1, vi x)] (by decide +kernel) rfl rfl (Nat.le_of_ble_eq_true rfl) ?_
  intro J C
  have L : ∀ i y, i ≤ 6 → y = oI (if x < 0 then none else lastU (fun p => decide (mI S mo 25 p = x)) i) → J 4 [(0, vr (some mo)), (1, vi x), (2, vi y), (3, vi (nI i))] [] S 0 0 := by
    refine up_loop _ _ _ ?_ ?_
    · intro y hx
      refine r_iload_n (pc := 4) C dX10_placeOf_4 rfl ?_
      refine r_bipush (pc := 5) C (nI 6) dX10_placeOf_5 rfl ?_
      refine r_icmp_ge (pc := 7) (tgt := 36) C dX10_placeOf_7 (by decide) (fun c7 => ?_) (fun c7 => ?_)
      · refine r_iload_n (pc := 36) C dX10_placeOf_36 rfl ?_
        refine r_iret (pc := 37) C dX10_placeOf_37 rfl (by omega) (by omega) ?_
        exact ⟨by rw [hx]; rfl, rfl⟩
      · exact absurd (Int32.le_refl _) c7
    · intro i y hi hx ih
      subst hx
      refine r_iload_n (pc := 4) C dX10_placeOf_4 rfl ?_
      refine r_bipush (pc := 5) C (nI 6) dX10_placeOf_5 rfl ?_
      refine r_icmp_ge (pc := 7) (tgt := 36) C dX10_placeOf_7 (by decide) (fun c7 => ?_) (fun c7 => ?_)
      · exact absurd c7 (nI_ge hi (by omega))
      · refine r_iload_n (pc := 10) C dX10_placeOf_10 rfl ?_
        refine r_if_lt (pc := 11) (tgt := 28) C dX10_placeOf_11 (by decide) (fun c11 => ?_) (fun c11 => ?_)
        · have hv2 : oI (if x < 0 then none else lastU (fun p => decide (mI S mo 25 p = x)) i) = oI (if x < 0 then none else lastU (fun p => decide (mI S mo 25 p = x)) (i + 1)) := by rw [if_pos c11, if_pos c11]
          refine r_iload_n (pc := 28) C dX10_placeOf_28 rfl ?_
          refine r_istore_n (pc := 29) C dX10_placeOf_29 (by decide) rfl ?_
          refine r_iinc (pc := 30) C _ dX10_placeOf_30 rfl (nI_1 _) (by decide) rfl ?_
          refine r_goto (pc := 33) (tgt := 4) C dX10_placeOf_33 (by decide) ?_
          exact r_lv C [(0, vr (some mo)), (1, vi x), (2, vi _), (3, vi (nI (i + 1)))] rfl (ih _ hv2)
        · refine r_aload_n (pc := 14) C dX10_placeOf_14 rfl ?_
          refine r_mA (pc := 15) C hV dX10_placeOf_15 fx_RX10_67 (len := 6) (by decide) ?_
          refine r_iload_n (pc := 18) C dX10_placeOf_18 rfl ?_
          refine r_xL (pc := 19) C hV dX10_placeOf_19 (k := 25) (len := 6) (by decide) (by decide) (by omega) (by decide) ?_
          refine r_iload_n (pc := 20) C dX10_placeOf_20 rfl ?_
          refine r_icmp_ne (pc := 21) (tgt := 28) C dX10_placeOf_21 (by decide) (fun c21 => ?_) (fun c21 => ?_)
          · have hv2 : oI (if x < 0 then none else lastU (fun p => decide (mI S mo 25 p = x)) i) = oI (if x < 0 then none else lastU (fun p => decide (mI S mo 25 p = x)) (i + 1)) := by rw [if_neg c11, if_neg c11, lastU_f (decide_eq_false c21)]
            refine r_iload_n (pc := 28) C dX10_placeOf_28 rfl ?_
            refine r_istore_n (pc := 29) C dX10_placeOf_29 (by decide) rfl ?_
            refine r_iinc (pc := 30) C _ dX10_placeOf_30 rfl (nI_1 _) (by decide) rfl ?_
            refine r_goto (pc := 33) (tgt := 4) C dX10_placeOf_33 (by decide) ?_
            exact r_lv C [(0, vr (some mo)), (1, vi x), (2, vi _), (3, vi (nI (i + 1)))] rfl (ih _ hv2)
          · have hv2 : nI i = oI (if x < 0 then none else lastU (fun p => decide (mI S mo 25 p = x)) (i + 1)) := by rw [if_neg c11, lastU_t (decide_eq_true c21)]; rfl
            refine r_iload_n (pc := 24) C dX10_placeOf_24 rfl ?_
            refine r_goto (pc := 25) (tgt := 29) C dX10_placeOf_25 (by decide) ?_
            refine r_istore_n (pc := 29) C dX10_placeOf_29 (by decide) rfl ?_
            refine r_iinc (pc := 30) C _ dX10_placeOf_30 rfl (nI_1 _) (by decide) rfl ?_
            refine r_goto (pc := 33) (tgt := 4) C dX10_placeOf_33 (by decide) ?_
            exact r_lv C [(0, vr (some mo)), (1, vi x), (2, vi _), (3, vi (nI (i + 1)))] rfl (ih _ hv2)
  refine r_iconst (pc := 0) C (-1) dX10_placeOf_0 rfl ?_
  refine r_istore_n (pc := 1) C dX10_placeOf_1 (by decide) rfl ?_
  refine r_iconst (pc := 2) C (nI 0) dX10_placeOf_2 rfl ?_
  refine r_istore_n (pc := 3) C dX10_placeOf_3 (by decide) rfl ?_
  exact r_lv C [(0, vr (some mo)), (1, vi x), (2, vi _), (3, vi (nI 0))] rfl (L 0 _ (by omega) (by split <;> rfl))
theorem MV.setj {v : Int64} (hV : MV S mo M n h) : MV (setJ S 1101 mo v) mo M n h := ⟨hV.1, hV.2.1, hV.2.2.1, hV.2.2.2.1, hV.2.2.2.2⟩
theorem cm_draw {wt : Nat → Nat} {D : Nat → Bool} (hV : MV S mo M n h) (hw : ∀ p, p < 20 → mI S mo 6 p = nI (wt p)) (hw2 : ∀ p, wt p ≤ 1000) (hD : ∀ p, p < 20 → mI S mo 31 p = bi (D p)) (hp : 0 < dsum wt D 20) : Sp l g mX10_draw 0 0 [vr (some mo)] S (fun r S' => r = some (vi (nI (dP wt D (lcg (sJ S 1101 mo))))) ∧ Gx [31] S S' mo (Gs S mo) (lcg (sJ S 1101 mo)) ∧ MV S' mo M n h ∧ (∀ q, q < 20 → mI S' mo 31 q = bi (D q || decide (q = dP wt D (lcg (sJ S 1101 mo)))))) := by
  have hC0 : Gx [31] S S mo (Gs S mo) (sJ S 1101 mo) := Gc.rf
  generalize hX0 : lcg (sJ S 1101 mo) = x1
  have hpl := dP_lt (x := x1) hp
  have hps := dF_some (x := x1) hp
  have hd20 := dsum_le (D := D) hw2 20
  have hu := u33_lt x1
  refine Sp.start (own := RX10) [(0, vr (some mo))] (by decide +kernel) rfl rfl (Nat.le_of_ble_eq_true rfl) ?_
  intro J C
  have L2 : ∀ S1, Gx [31] S S1 mo (Gs S mo) x1 → MV S1 mo M n h → mI S1 mo 31 = mI S mo 31 → ∀ i f a, i ≤ 20 → (f = oI (fstU (dF wt D x1) i) ∧ a = lN (dsum wt D i)) → J 74 [(0, vr (some mo)), (3, vl (lN (u33 x1 % dsum wt D 20))), (5, vi f), (6, vl a), (8, vi (nI i))] [] S1 0 0 := by
    intro S1 hC1 hV1 h31
    have e31 : ∀ p, p < 20 → mI S1 mo 31 p = bi (D p) := fun p hp2 => by rw [h31]; exact hD p hp2
    have e6 : mI S1 mo 6 = mI S mo 6 := hC1.keep (by decide) (by decide) (by decide)
    refine up2 _ _ _ ?_ ?_
    · intro f a hz
      obtain ⟨rfl, rfl⟩ := hz
      rw [hps]
      refine r_iload (pc := 74) C dX10_draw_74 rfl ?_
      refine r_bipush (pc := 76) C (nI 20) dX10_draw_76 rfl ?_
      refine r_icmp_ge (pc := 78) (tgt := 131) C dX10_draw_78 (by decide) (fun c78 => ?_) (fun c78 => ?_)
      · refine r_aload_n (pc := 131) C dX10_draw_131 rfl ?_
        refine r_mA (pc := 132) C hV1 dX10_draw_132 fx_RX10_79 (len := 20) (by decide) ?_
        refine r_iload (pc := 135) C dX10_draw_135 rfl ?_
        refine r_iconst (pc := 137) C (nI 1) dX10_draw_137 rfl ?_
        refine r_xSz (pc := 138) C hV1 dX10_draw_138 (k := 31) (len := 20) (by decide) (by decide) (by decide) (by decide) (by omega) (by decide) (Or.inr rfl) (fun S138 hC138r hV138 hF138 => ?_)
        have hC138 := hC1.trk hC138r
        refine r_iload (pc := 139) C dX10_draw_139 rfl ?_
        refine r_iret (pc := 141) C dX10_draw_141 rfl (by omega) (by omega) ?_
        refine ⟨rfl, hC138, hV138, fun q hq => ?_⟩
        rw [hF138 31 (by decide), uk_s]
        simp only [upd]
        by_cases e : q = dP wt D x1
        · rw [if_pos e, decide_eq_true e, Bool.or_true]; rfl
        · rw [if_neg e, decide_eq_false e, Bool.or_false]; exact e31 q hq
      · exact absurd (Int32.le_refl _) c78
    · intro i f a hi hz ih
      obtain ⟨rfl, rfl⟩ := hz
      have hdi := dsum_le (D := D) hw2 i
      have hdi1 := dsum_le (D := D) hw2 (i + 1)
      have hlo : ∀ u, fstU (dF wt D x1) i = some u → u < 1000 := fun u hu => by have := (fstU_some hu).1; omega
      refine r_iload (pc := 74) C dX10_draw_74 rfl ?_
      refine r_bipush (pc := 76) C (nI 20) dX10_draw_76 rfl ?_
      refine r_icmp_ge (pc := 78) (tgt := 131) C dX10_draw_78 (by decide) (fun c78 => ?_) (fun c78 => ?_)
      · exact absurd c78 (nI_ge hi (by omega))
      · refine r_aload_n (pc := 81) C dX10_draw_81 rfl ?_
        refine r_mA (pc := 82) C hV1 dX10_draw_82 fx_RX10_79 (len := 20) (by decide) ?_
        refine r_iload (pc := 85) C dX10_draw_85 rfl ?_
        refine r_xLz (pc := 87) C hV1 dX10_draw_87 (k := 31) (len := 20) (by decide) (by decide) (by omega) (by decide) ?_
        rw [e31 i hi]
        refine r_if_ne (pc := 88) (tgt := 125) C dX10_draw_88 (by decide) (fun c88 => ?_) (fun c88 => ?_)
        · rw [bi_0] at c88
          have c88t := ts_nf c88
          have hvf : fstU (dF wt D x1) i = fstU (dF wt D x1) (i + 1) := (fstU_f (by simp only [dF, c88t]; rfl)).symm
          have hva : dsum wt D i = dsum wt D (i + 1) := by simp only [dsum, c88t, if_true, Nat.add_zero]
          refine r_iinc (pc := 125) C _ dX10_draw_125 rfl (nI_1 _) (by decide) rfl ?_
          refine r_goto (pc := 128) (tgt := 74) C dX10_draw_128 (by decide) ?_
          first
            | exact r_lv C [(0, vr (some mo)), (3, vl (lN (u33 x1 % dsum wt D 20))), (5, vi (oI (fstU (dF wt D x1) i))), (6, vl (lN (dsum wt D i))), (8, vi (nI (i + 1)))] rfl (ih _ _ ⟨by rw [hvf], by rw [hva]⟩)
            | exact r_lv C [(0, vr (some mo)), (3, vl (lN (u33 x1 % dsum wt D 20))), (5, vi (oI (fstU (dF wt D x1) i))), (6, vl (lN (dsum wt D (i + 1)))), (8, vi (nI (i + 1)))] rfl (ih _ _ ⟨by rw [hvf], rfl⟩)
            | exact r_lv C [(0, vr (some mo)), (3, vl (lN (u33 x1 % dsum wt D 20))), (5, vi (nI i)), (6, vl (lN (dsum wt D (i + 1)))), (8, vi (nI (i + 1)))] rfl (ih _ _ ⟨by rw [← hvf2]; rfl, rfl⟩)
        · rw [bi_0] at c88
          have hva2 : dsum wt D i + wt i = dsum wt D (i + 1) := by simp only [dsum, c88, Bool.false_eq_true, if_false]
          refine r_lload (pc := 91) C dX10_draw_91 rfl ?_
          refine r_aload_n (pc := 93) C dX10_draw_93 rfl ?_
          refine r_mA (pc := 94) C hV1 dX10_draw_94 fx_RX10_7 (len := 20) (by decide) ?_
          refine r_iload (pc := 97) C dX10_draw_97 rfl ?_
          refine r_xL (pc := 99) C hV1 dX10_draw_99 (k := 6) (len := 20) (by decide) (by decide) (by omega) (by decide) ?_
          rw [e6, hw i hi]
          refine r_i2l (pc := 100) C dX10_draw_100 ?_
          rw [nI_l (by have := hw2 i; omega)]
          refine r_ladd (pc := 101) C dX10_draw_101 ?_
          rw [lN_add, hva2]
          refine r_lstore (pc := 102) C dX10_draw_102 (by decide) rfl ?_
          refine r_iload (pc := 104) C dX10_draw_104 rfl ?_
          refine r_if_ge (pc := 106) (tgt := 121) C dX10_draw_106 (by decide) (fun c106 => ?_) (fun c106 => ?_)
          · have c106n : ¬ fstU (dF wt D x1) i = none := fun q => absurd ((oI_lt hlo).mpr q) (Int32.not_lt.mpr c106)
            have hvf : fstU (dF wt D x1) i = fstU (dF wt D x1) (i + 1) := (fstU_k c106n).symm
            refine r_iload (pc := 121) C dX10_draw_121 rfl ?_
            refine r_istore (pc := 123) C dX10_draw_123 (by decide) rfl ?_
            refine r_iinc (pc := 125) C _ dX10_draw_125 rfl (nI_1 _) (by decide) rfl ?_
            refine r_goto (pc := 128) (tgt := 74) C dX10_draw_128 (by decide) ?_
            first
              | exact r_lv C [(0, vr (some mo)), (3, vl (lN (u33 x1 % dsum wt D 20))), (5, vi (oI (fstU (dF wt D x1) i))), (6, vl (lN (dsum wt D i))), (8, vi (nI (i + 1)))] rfl (ih _ _ ⟨by rw [hvf], by rw [hva]⟩)
              | exact r_lv C [(0, vr (some mo)), (3, vl (lN (u33 x1 % dsum wt D 20))), (5, vi (oI (fstU (dF wt D x1) i))), (6, vl (lN (dsum wt D (i + 1)))), (8, vi (nI (i + 1)))] rfl (ih _ _ ⟨by rw [hvf], rfl⟩)
              | exact r_lv C [(0, vr (some mo)), (3, vl (lN (u33 x1 % dsum wt D 20))), (5, vi (nI i)), (6, vl (lN (dsum wt D (i + 1)))), (8, vi (nI (i + 1)))] rfl (ih _ _ ⟨by rw [← hvf2]; rfl, rfl⟩)
          · have c106n := (oI_lt hlo).mp (Int32.not_le.mp c106)
            refine r_lload (pc := 109) C dX10_draw_109 rfl ?_
            refine r_lload_n (pc := 111) C dX10_draw_111 rfl ?_
            refine r_lcmp (pc := 112) C dX10_draw_112 ?_
            refine r_if_le (pc := 113) (tgt := 121) C dX10_draw_113 (by decide) (fun c113 => ?_) (fun c113 => ?_)
            · rw [lcmp_le, lN_le (by omega) (by have := Nat.mod_lt (u33 x1) hp; omega)] at c113
              have hvf : fstU (dF wt D x1) i = fstU (dF wt D x1) (i + 1) := (fstU_f (by simp only [dF]; rw [decide_eq_false (Nat.not_lt.mpr c113), Bool.and_false])).symm
              refine r_iload (pc := 121) C dX10_draw_121 rfl ?_
              refine r_istore (pc := 123) C dX10_draw_123 (by decide) rfl ?_
              refine r_iinc (pc := 125) C _ dX10_draw_125 rfl (nI_1 _) (by decide) rfl ?_
              refine r_goto (pc := 128) (tgt := 74) C dX10_draw_128 (by decide) ?_
              first
                | exact r_lv C [(0, vr (some mo)), (3, vl (lN (u33 x1 % dsum wt D 20))), (5, vi (oI (fstU (dF wt D x1) i))), (6, vl (lN (dsum wt D i))), (8, vi (nI (i + 1)))] rfl (ih _ _ ⟨by rw [hvf], by rw [hva]⟩)
                | exact r_lv C [(0, vr (some mo)), (3, vl (lN (u33 x1 % dsum wt D 20))), (5, vi (oI (fstU (dF wt D x1) i))), (6, vl (lN (dsum wt D (i + 1)))), (8, vi (nI (i + 1)))] rfl (ih _ _ ⟨by rw [hvf], rfl⟩)
                | exact r_lv C [(0, vr (some mo)), (3, vl (lN (u33 x1 % dsum wt D 20))), (5, vi (nI i)), (6, vl (lN (dsum wt D (i + 1)))), (8, vi (nI (i + 1)))] rfl (ih _ _ ⟨by rw [← hvf2]; rfl, rfl⟩)
            · rw [lcmp_le, lN_le (by omega) (by have := Nat.mod_lt (u33 x1) hp; omega)] at c113
              have hvf2 : some i = fstU (dF wt D x1) (i + 1) := (fstU_t (by simp only [dF, c88]; rw [decide_eq_true (Nat.not_le.mp c113)]; rfl) c106n).symm
              refine r_iload (pc := 116) C dX10_draw_116 rfl ?_
              refine r_goto (pc := 118) (tgt := 123) C dX10_draw_118 (by decide) ?_
              refine r_istore (pc := 123) C dX10_draw_123 (by decide) rfl ?_
              refine r_iinc (pc := 125) C _ dX10_draw_125 rfl (nI_1 _) (by decide) rfl ?_
              refine r_goto (pc := 128) (tgt := 74) C dX10_draw_128 (by decide) ?_
              first
                | exact r_lv C [(0, vr (some mo)), (3, vl (lN (u33 x1 % dsum wt D 20))), (5, vi (oI (fstU (dF wt D x1) i))), (6, vl (lN (dsum wt D i))), (8, vi (nI (i + 1)))] rfl (ih _ _ ⟨by rw [hvf], by rw [hva]⟩)
                | exact r_lv C [(0, vr (some mo)), (3, vl (lN (u33 x1 % dsum wt D 20))), (5, vi (oI (fstU (dF wt D x1) i))), (6, vl (lN (dsum wt D (i + 1)))), (8, vi (nI (i + 1)))] rfl (ih _ _ ⟨by rw [hvf], rfl⟩)
                | exact r_lv C [(0, vr (some mo)), (3, vl (lN (u33 x1 % dsum wt D 20))), (5, vi (nI i)), (6, vl (lN (dsum wt D (i + 1)))), (8, vi (nI (i + 1)))] rfl (ih _ _ ⟨by rw [← hvf2]; rfl, rfl⟩)
  have L1 : ∀ i s, i ≤ 20 → s = lN (dsum wt D i) → J 4 [(0, vr (some mo)), (1, vl s), (3, vi (nI i))] [] S 0 0 := by
    refine up_loop _ _ _ ?_ ?_
    · intro s hs
      subst hs
      refine r_iload_n (pc := 4) C dX10_draw_4 rfl ?_
      refine r_bipush (pc := 5) C (nI 20) dX10_draw_5 rfl ?_
      refine r_icmp_ge (pc := 7) (tgt := 39) C dX10_draw_7 (by decide) (fun c7 => ?_) (fun c7 => ?_)
      · refine r_aload_n (pc := 39) C dX10_draw_39 rfl ?_
        refine r_aload_n (pc := 40) C dX10_draw_40 rfl ?_
        refine r_getJ (pc := 41) C dX10_draw_41 fx_RX10_118 hV.1.1 ?_
        refine r_ldc2 (pc := 44) C kc_RX10_289 dX10_draw_44 ?_
        refine r_lmul (pc := 47) C dX10_draw_47 ?_
        refine r_ldc2 (pc := 48) C kc_RX10_291 dX10_draw_48 ?_
        refine r_ladd (pc := 51) C dX10_draw_51 ?_
        refine r_putJ (pc := 52) C dX10_draw_52 fx_RX10_118 (fp_11_1 _) hV.1.1 ?_
        rw [show sJ S 1101 mo * 6364136223846793005 + 1442695040888963407 = x1 from hX0]
        refine r_aload_n (pc := 55) C dX10_draw_55 rfl ?_
        refine r_getJ (pc := 56) C dX10_draw_56 fx_RX10_118 hV.1.1 ?_
        rw [show sJ (setJ S 1101 mo x1) 1101 mo = x1 from by simp [sJ, setJ, u2]]
        refine r_bipush (pc := 59) C (nI 33) dX10_draw_59 rfl ?_
        refine r_lushr (pc := 61) C dX10_draw_61 ?_
        rw [u33_shr]
        refine r_lload_n (pc := 62) C dX10_draw_62 rfl ?_
        refine r_lrem (pc := 63) C dX10_draw_63 (fun q => by rw [show (0 : Int64) = lN 0 from rfl, lN_eq (by omega) (by omega)] at q; omega) ?_
        rw [pk_lRem (by omega) hp (by omega)]
        refine r_lstore_n (pc := 64) C dX10_draw_64 (by decide) rfl ?_
        refine r_iconst (pc := 65) C (-1) dX10_draw_65 rfl ?_
        refine r_istore (pc := 66) C dX10_draw_66 (by decide) rfl ?_
        refine r_lconst (pc := 68) C (lN 0) dX10_draw_68 rfl ?_
        refine r_lstore (pc := 69) C dX10_draw_69 (by decide) rfl ?_
        refine r_iconst (pc := 71) C (nI 0) dX10_draw_71 rfl ?_
        refine r_istore (pc := 72) C dX10_draw_72 (by decide) rfl ?_
        exact r_lv C [(0, vr (some mo)), (3, vl (lN (u33 x1 % dsum wt D 20))), (5, vi (-1)), (6, vl (lN 0)), (8, vi (nI 0))] rfl (L2 _ (Gx.setj (E := [31])) hV.setj rfl 0 _ _ (by omega) ⟨rfl, rfl⟩)
      · exact absurd (Int32.le_refl _) c7
    · intro i s hi hs ih
      subst hs
      refine r_iload_n (pc := 4) C dX10_draw_4 rfl ?_
      refine r_bipush (pc := 5) C (nI 20) dX10_draw_5 rfl ?_
      refine r_icmp_ge (pc := 7) (tgt := 39) C dX10_draw_7 (by decide) (fun c7 => ?_) (fun c7 => ?_)
      · exact absurd c7 (nI_ge hi (by omega))
      · refine r_lload_n (pc := 10) C dX10_draw_10 rfl ?_
        refine r_aload_n (pc := 11) C dX10_draw_11 rfl ?_
        refine r_mA (pc := 12) C hV dX10_draw_12 fx_RX10_79 (len := 20) (by decide) ?_
        refine r_iload_n (pc := 15) C dX10_draw_15 rfl ?_
        refine r_xLz (pc := 16) C hV dX10_draw_16 (k := 31) (len := 20) (by decide) (by decide) (by omega) (by decide) ?_
        rw [hD i hi]
        refine r_if_eq (pc := 17) (tgt := 24) C dX10_draw_17 (by decide) (fun c17 => ?_) (fun c17 => ?_)
        · rw [bi_0] at c17
          have hva : dsum wt D i + wt i = dsum wt D (i + 1) := by simp only [dsum, c17, Bool.false_eq_true, if_false]
          refine r_aload_n (pc := 24) C dX10_draw_24 rfl ?_
          refine r_mA (pc := 25) C hV dX10_draw_25 fx_RX10_7 (len := 20) (by decide) ?_
          refine r_iload_n (pc := 28) C dX10_draw_28 rfl ?_
          refine r_xL (pc := 29) C hV dX10_draw_29 (k := 6) (len := 20) (by decide) (by decide) (by omega) (by decide) ?_
          rw [hw i hi]
          refine r_i2l (pc := 30) C dX10_draw_30 ?_
          rw [nI_l (by have := hw2 i; omega)]
          refine r_ladd (pc := 31) C dX10_draw_31 ?_
          rw [lN_add, hva]
          refine r_lstore_n (pc := 32) C dX10_draw_32 (by decide) rfl ?_
          refine r_iinc (pc := 33) C _ dX10_draw_33 rfl (nI_1 _) (by decide) rfl ?_
          refine r_goto (pc := 36) (tgt := 4) C dX10_draw_36 (by decide) ?_
          exact r_lv C [(0, vr (some mo)), (1, vl _), (3, vi (nI (i + 1)))] rfl (ih _ rfl)
        · rw [bi_0] at c17
          have hva : dsum wt D i + 0 = dsum wt D (i + 1) := by simp only [dsum, ts_nf c17, if_true]
          refine r_lconst (pc := 20) C (lN 0) dX10_draw_20 rfl ?_
          refine r_goto (pc := 21) (tgt := 31) C dX10_draw_21 (by decide) ?_
          refine r_ladd (pc := 31) C dX10_draw_31 ?_
          rw [lN_add, hva]
          refine r_lstore_n (pc := 32) C dX10_draw_32 (by decide) rfl ?_
          refine r_iinc (pc := 33) C _ dX10_draw_33 rfl (nI_1 _) (by decide) rfl ?_
          refine r_goto (pc := 36) (tgt := 4) C dX10_draw_36 (by decide) ?_
          exact r_lv C [(0, vr (some mo)), (1, vl _), (3, vi (nI (i + 1)))] rfl (ih _ rfl)
  refine r_lconst (pc := 0) C (lN 0) dX10_draw_0 rfl ?_
  refine r_lstore_n (pc := 1) C dX10_draw_1 (by decide) rfl ?_
  refine r_iconst (pc := 2) C (nI 0) dX10_draw_2 rfl ?_
  refine r_istore_n (pc := 3) C dX10_draw_3 (by decide) rfl ?_
  exact r_lv C [(0, vr (some mo)), (1, vl (lN 0)), (3, vi (nI 0))] rfl (L1 0 _ (by omega) rfl)
end Polls
