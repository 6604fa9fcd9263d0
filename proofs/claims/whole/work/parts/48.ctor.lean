/-! The reference's constructor -/
/-- what was there stands, but for the object mo -/
def Fz (S0 S : hS) (mo : Nat) : Prop := ∀ a, sK S0 a ≠ 0 → a ≠ mo → sK S a = sK S0 a ∧ (∀ f, sI S f a = sI S0 f a) ∧ (∀ f, sR S f a = sR S0 f a) ∧ (∀ f, sJ S f a = sJ S0 f a) ∧ sN S a = sN S0 a ∧ (∀ r, aI S r a = aI S0 r a) ∧ (∀ r, aJ S r a = aJ S0 r a) ∧ (∀ r, aR S r a = aR S0 r a)
def AIx (S0 S : hS) (mo : Nat) (L : List (Nat × Nat)) : Prop := ∀ k n, (k, n) ∈ L → sR S (1100 + k) mo = some (ma S mo k) ∧ sK S (ma S mo k) = mkd k ∧ sN S (ma S mo k) = n ∧ mI S mo k = (fun _ => 0) ∧ sK S0 (ma S mo k) = 0
def AI (S0 S : hS) (mo : Nat) (L : List (Nat × Nat)) (G : Nat → Int32) (X : Int64) : Prop := sK S mo = 12 ∧ AIx S0 S mo L ∧ Gs S mo = G ∧ sJ S 1101 mo = X ∧ Fz S0 S mo
section Ctor
variable {l : Launch} {g : GG} {S0 S S' : hS} {mo : Nat} {M F : MM} {G G' : Nat → Int32} {X : Int64} {L : List (Nat × Nat)}
theorem mkd_20 (k : Nat) : 20 ≤ mkd k := by
  unfold mkd
  split <;> omega
theorem Fz.rf : Fz S S mo := fun a _ _ => ⟨rfl, fun _ => rfl, fun _ => rfl, fun _ => rfl, rfl, fun _ => rfl, fun _ => rfl, fun _ => rfl⟩
theorem AI.k (hA : AI S0 S mo L G X) : sK S mo = 12 := hA.1
theorem AI.new (hA : AI S0 S mo L G X) {q : Nat} (hq : sK S q = 0) : q ≠ mo ∧ sK S0 q = 0 := by
  have h1 : q ≠ mo := fun e => by have := hA.1; rw [← e, hq] at this; cases this
  refine ⟨h1, ?_⟩
  rcases Nat.eq_zero_or_pos (sK S0 q) with h | h
  · exact h
  · have := (hA.2.2.2.2 q (by omega) h1).1
    omega
theorem AI.kq (hA : AI S0 S mo L G X) {q kd n : Nat} (hq : sK S q = 0) : sK (newA S q kd n) mo = 12 := by
  show va_up S.1 q kd mo = 12
  rw [va_up_ne _ _ (fun e => (hA.new hq).1 e.symm)]
  exact hA.1
theorem AI.add (hA : AI S0 S mo L G X) {q k n : Nat} (hq : sK S q = 0) (hk : ∀ q ∈ L, q.1 ≠ k) : AI S0 (setR (newA S q (mkd k) n) (1100 + k) mo (some q)) mo ((k, n) :: L) G X := by
  obtain ⟨h1, h2⟩ := hA.new hq
  have hne : ∀ j n, (j, n) ∈ L → ma S mo j ≠ q := fun j n h e => by
    have := (hA.2.1 j n h).2.1
    rw [e, hq] at this
    have := mkd_20 j
    omega
  have hs : ∀ j, j ≠ k → sR (setR (newA S q (mkd k) n) (1100 + k) mo (some q)) (1100 + j) mo = sR S (1100 + j) mo := fun j hj => by
    show u2 S.2.2.1 (1100 + k) mo (some q) (1100 + j) mo = _
    unfold u2
    rw [if_neg (by omega)]
    rfl
  have hs2 : sR (setR (newA S q (mkd k) n) (1100 + k) mo (some q)) (1100 + k) mo = some q := by
    show u2 S.2.2.1 (1100 + k) mo (some q) (1100 + k) mo = _
    unfold u2
    rw [if_pos rfl, if_pos rfl]
  have hm : ma (setR (newA S q (mkd k) n) (1100 + k) mo (some q)) mo k = q := by
    unfold ma
    rw [hs2]
    rfl
  have hm2 : ∀ j, j ≠ k → ma (setR (newA S q (mkd k) n) (1100 + k) mo (some q)) mo j = ma S mo j := fun j hj => by
    unfold ma
    rw [hs j hj]
  have hK : ∀ a, a ≠ q → sK (setR (newA S q (mkd k) n) (1100 + k) mo (some q)) a = sK S a := fun a ha => va_up_ne _ _ ha
  have hN : ∀ a, a ≠ q → sN (setR (newA S q (mkd k) n) (1100 + k) mo (some q)) a = sN S a := fun a ha => va_up_ne _ _ ha
  have hI : ∀ r a, a ≠ q → aI (setR (newA S q (mkd k) n) (1100 + k) mo (some q)) r a = aI S r a := fun r a ha => if_neg ha
  have hJ : ∀ r a, a ≠ q → aJ (setR (newA S q (mkd k) n) (1100 + k) mo (some q)) r a = aJ S r a := fun r a ha => if_neg ha
  have hR : ∀ r a, a ≠ q → aR (setR (newA S q (mkd k) n) (1100 + k) mo (some q)) r a = aR S r a := fun r a ha => if_neg ha
  refine ⟨by rw [hK mo h1.symm]; exact hA.1, ?_, hA.2.2.1, hA.2.2.2.1, ?_⟩
  · intro j m hj
    rcases List.mem_cons.mp hj with e | hj
    · cases e
      rw [hm]
      refine ⟨hs2, va_up_self _ _ _, va_up_self _ _ _, ?_, h2⟩
      show aI _ (mkd k) (ma _ mo k) = _
      rw [hm]
      exact if_pos rfl
    · have hjk := hk (j, m) hj
      obtain ⟨a1, a2, a3, a4, a5⟩ := hA.2.1 j m hj
      have hq2 := hne j m hj
      rw [hm2 j hjk]
      refine ⟨by rw [hs j hjk]; exact a1, by rw [hK _ hq2]; exact a2, by rw [hN _ hq2]; exact a3, ?_, a5⟩
      show aI _ (mkd j) (ma _ mo j) = _
      rw [hm2 j hjk, hI _ _ hq2]
      exact a4
  · intro a ha hm3
    have haq : a ≠ q := fun e => ha (by rw [e]; exact h2)
    obtain ⟨b1, b2, b3, b4, b5, b6, b7, b8⟩ := hA.2.2.2.2 a ha hm3
    refine ⟨by rw [hK a haq]; exact b1, b2, fun f => ?_, b4, by rw [hN a haq]; exact b5, fun r => by rw [hI r a haq]; exact b6 r, fun r => by rw [hJ r a haq]; exact b7 r, fun r => by rw [hR r a haq]; exact b8 r⟩
    rw [← b3 f]
    show u2 S.2.2.1 (1100 + k) mo (some q) f a = _
    unfold u2
    rw [if_neg hm3]
    split <;> rfl
theorem AI.si (hA : AI S0 S mo L G X) {k : Nat} {v : Int32} : AI S0 (setI S (1100 + k) mo v) mo L (upd G k v) X := by
  refine ⟨hA.1, hA.2.1, ?_, hA.2.2.2.1, ?_⟩
  · rw [← hA.2.2.1]
    funext j
    show u2 S.2.1 (1100 + k) mo v (1100 + j) mo = _
    unfold u2 upd
    by_cases e : j = k
    · rw [if_pos (by omega), if_pos rfl, if_pos e]
    · rw [if_neg (by omega), if_neg e]
      rfl
  · intro a ha hm3
    obtain ⟨b1, b2, b3, b4, b5, b6, b7, b8⟩ := hA.2.2.2.2 a ha hm3
    refine ⟨b1, fun f => ?_, b3, b4, b5, b6, b7, b8⟩
    rw [← b2 f]
    show u2 S.2.1 (1100 + k) mo v f a = _
    unfold u2
    rw [if_neg hm3]
    split <;> rfl
theorem AI.sj (hA : AI S0 S mo L G X) {v : Int64} : AI S0 (setJ S 1101 mo v) mo L G v := by
  refine ⟨hA.1, hA.2.1, hA.2.2.1, ?_, ?_⟩
  · show u2 S.2.2.2.1 1101 mo v 1101 mo = v
    unfold u2
    rw [if_pos rfl, if_pos rfl]
  · intro a ha hm3
    obtain ⟨b1, b2, b3, b4, b5, b6, b7, b8⟩ := hA.2.2.2.2 a ha hm3
    refine ⟨b1, b2, b3, fun f => ?_, b5, b6, b7, b8⟩
    rw [← b4 f]
    show u2 S.2.2.2.1 1101 mo v f a = _
    unfold u2
    rw [if_neg hm3]
    split <;> rfl
theorem AI.gg (hA : AI S0 S mo L G X) {k : Nat} : sI S (1100 + k) mo = G k := by rw [← hA.2.2.1]; rfl
def z0 : Nat → Int32 := fun _ => 0
def Z0 : MM := fun _ => z0
def tl (N : Nat) (f : Nat → Int32) : Nat → Int32 := fun i => if i < N then f i else 0
def M0 : MM := uk (uk (um Z0 13 0 (nI 3)) 22 (tl 564 (fun _ => -1))) 23 (tl 564 (fun _ => -1))
def Fi0 : MM := uk (uk (uk (uk Z0 6 (tl 20 (fun _ => nI 1))) 25 (tl 6 (fun _ => -1))) 41 (tl 64 rdT)) 42 (tl 8 stT)
def gN : Nat → Int32 := upd (upd (upd z0 9 (nI 1)) 17 (nI 1)) 19 (nI 1)
/-- the parameters as they are kept -/
def pK (k : Int32) : Nat := if 0 < k ∧ k < nI 11 then k.toNatClampNeg else 4
def pA (k al : Int32) : Nat := if nI (pK k / 2) < al ∧ al ≤ nI (pK k) then al.toNatClampNeg else pK k / 2 + 1
def pB (b : Int32) : Nat := if 0 < b ∧ b < nI 21 then b.toNatClampNeg else 3
def pC (b c : Int32) : Nat := if nI (pB b) ≤ c ∧ c < nI 41 then c.toNatClampNeg else pB b + 4
def G0 (k al b1 b2 : Int32) : Nat → Int32 := upd (upd (upd (upd gN 2 (nI (pK k))) 3 (nI (pA k al))) 4 (nI (pB b1))) 5 (nI (pC b1 b2))
theorem nI_self {x : Int32} (h : ¬ x < 0) : nI x.toNatClampNeg = x := by
  obtain ⟨j, hj, rfl⟩ := nI_of h
  rw [nI_clamp hj]
theorem nI_lt1 {x : Int32} {n : Nat} (h : ¬ x < 0) (h2 : x < nI n) (hn : n < 2 ^ 31) : x.toNatClampNeg < n := by
  obtain ⟨j, hj, rfl⟩ := nI_of h
  rw [nI_clamp hj]
  exact (nI_ltI hj hn).mp h2
theorem pos_nn {x : Int32} (h : 0 < x) : ¬ x < 0 := Int32.not_lt.mpr (Int32.le_of_lt h)
theorem pK_b {k : Int32} : 1 ≤ pK k ∧ pK k ≤ 10 := by
  unfold pK
  split
  · next h =>
    have h1 := nI_lt1 (pos_nn h.1) h.2 (by omega)
    obtain ⟨j, hj, rfl⟩ := nI_of (pos_nn h.1)
    rw [nI_clamp hj] at h1 ⊢
    have := (nI_ltI (a := 0) (by omega) hj).mp h.1
    omega
  · omega
theorem pA_b {k al : Int32} : pK k / 2 < pA k al ∧ pA k al ≤ pK k := by
  have hk := @pK_b k
  unfold pA
  split
  · next h =>
    have hn : ¬ al < 0 := pos_nn (Int32.lt_of_le_of_lt (nI_pos' (by omega)) h.1)
    obtain ⟨j, hj, rfl⟩ := nI_of hn
    rw [nI_clamp hj]
    exact ⟨(nI_ltI (by omega) hj).mp h.1, (nI_leI hj (by omega)).mp h.2⟩
  · omega
theorem pB_b {b : Int32} : 1 ≤ pB b ∧ pB b ≤ 20 := by
  unfold pB
  split
  · next h =>
    have h1 := nI_lt1 (pos_nn h.1) h.2 (by omega)
    obtain ⟨j, hj, rfl⟩ := nI_of (pos_nn h.1)
    rw [nI_clamp hj] at h1 ⊢
    have := (nI_ltI (a := 0) (by omega) hj).mp h.1
    omega
  · omega
theorem pC_b {b c : Int32} : pB b ≤ pC b c ∧ pC b c ≤ 40 := by
  have hb := @pB_b b
  unfold pC
  split
  · next h =>
    have hn : ¬ c < 0 := Int32.not_lt.mpr (Int32.le_trans (nI_pos' (by omega)) h.1)
    obtain ⟨j, hj, rfl⟩ := nI_of hn
    rw [nI_clamp hj]
    exact ⟨(nI_leI (by omega) hj).mp h.1, by have := (nI_ltI hj (by omega)).mp h.2; omega⟩
  · omega
theorem gvZ {M : MM} (h11 : M 11 = z0) (h16 : M 16 = z0) : GV M 1 1 := by
  refine ⟨by omega, by omega, fun t ht => ?_, fun k hk => ?_⟩
  · have : t = 0 := by omega
    subst this
    exact ⟨by omega, by simp [nP], by simp [nX], by simp [nO], fun h => absurd rfl h⟩
  · have e : hdN M k = 0 := by unfold hdN; rw [h16]; rfl
    rw [e, h16]
    exact ⟨rfl, by omega, fun i hi => absurd hi (by simp [nP]), fun i hi => absurd hi (by simp [nX])⟩
theorem AI.mv (hA : AI S0 S mo L G X) (hL : ∀ q ∈ marrs, q ∈ L) (h9 : G 9 = nI 1) (h17 : G 17 = nI 1) : MV S mo Z0 1 1 ∧ EF S mo Z0 := by
  have hm : MO S mo := ⟨hA.1, fun k n h => by obtain ⟨a1, a2, a3, -, -⟩ := hA.2.1 k n (hL _ h); exact ⟨a1, a2, a3⟩⟩
  have hz : ∀ k, k ∈ mks → mI S mo k = z0 := fun k hk => by
    obtain ⟨q, hq, e⟩ := List.mem_map.mp hk
    subst e
    exact (hA.2.1 q.1 q.2 (hL q hq)).2.2.2.1
  exact ⟨⟨hm, by rw [← h9]; exact hA.gg (k := 9), by rw [← h17]; exact hA.gg (k := 17), fun k hk => hz k (gk_mks hk), gvZ rfl rfl⟩, fun k hk => hz k (ek_mks hk).1⟩
theorem Gc.fz {E : List Nat} (hA : AI S0 S mo L G X) (hL : ∀ q ∈ marrs, q ∈ L) (hC : Gc E S S' mo G') : Fz S0 S' mo := by
  obtain ⟨F, rfl, -⟩ := hC
  intro a ha hm3
  obtain ⟨b1, b2, b3, b4, b5, b6, b7, b8⟩ := hA.2.2.2.2 a ha hm3
  refine ⟨b1, fun f => ?_, b3, fun f => ?_, b5, fun r => ?_, b7, b8⟩
  · rw [← b2 f]
    exact if_neg (fun h => hm3 h.2)
  · rw [← b4 f]
    exact if_neg (fun h => hm3 h.2)
  · rw [← b6 r]
    show (match rk r with | some k => if a = ma S mo k then F k else S.2.2.2.2.2.1 r a | none => S.2.2.2.2.2.1 r a) = _
    cases hr : rk r with
    | none => rfl
    | some k =>
      obtain ⟨e1, e2⟩ := mkd_rk hr
      obtain ⟨q, hq, e⟩ := List.mem_map.mp e2
      subst e
      have h5 := (hA.2.1 q.1 q.2 (hL q hq)).2.2.2.2
      exact if_neg (fun e => ha (by rw [e]; exact h5))
theorem tl_s {N i : Nat} {f : Nat → Int32} {g : Nat → Int32} (h : i < N) (hg : ∀ j, g j = if j < i then f j else 0) : (fun j => upd g i (f i) j) = fun j => if j < i + 1 then f j else 0 := by
  funext j
  show upd g i (f i) j = _
  unfold upd
  by_cases e : j = i
  · subst e; rw [if_pos rfl, if_pos (by omega)]
  · rw [if_neg e, hg]
    by_cases q : j < i
    · rw [if_pos q, if_pos (by omega)]
    · rw [if_neg q, if_neg (by omega)]
theorem upd_tl {i : Nat} {f : Nat → Int32} {v : Int32} (hv : v = f i) : upd (tl i f) i v = tl (i + 1) f := by
  subst hv
  exact tl_s (N := i + 1) (by omega) (fun j => rfl)
theorem tl_0 {f : Nat → Int32} : tl 0 f = z0 := by funext j; exact if_neg (by omega)

theorem uk_zz {F : MM} {k j : Nat} {f : Nat → Int32} (hjk : j ≠ k) (hF : F k = z0) : uk (uk F j f) k z0 = uk F j f := by
  funext x
  by_cases e : x = k
  · subst e; rw [uk_s, uk_n hjk.symm, hF]
  · rw [uk_n e]
theorem uk_zz0 {k : Nat} : uk Z0 k z0 = Z0 := by
  funext x
  by_cases e : x = k
  · subst e; rw [uk_s]; rfl
  · rw [uk_n e]
theorem uk_z22 {v : Int32} : uk (uk (um Z0 13 0 v) 22 z0) 23 z0 = um Z0 13 0 v := by
  funext x
  by_cases e : x = 23
  · subst e; rfl
  · rw [uk_n e]
    by_cases e : x = 22
    · subst e; rfl
    · rw [uk_n e]
theorem um_2223 {M : MM} {i : Nat} {v : Int32} {f : Nat → Int32} (hf : v = f i) : um (um (uk (uk M 22 (tl i f)) 23 (tl i f)) 22 i v) 23 i v = uk (uk M 22 (tl (i + 1) f)) 23 (tl (i + 1) f) := by
  funext x
  by_cases e : x = 23
  · subst e
    simp only [um, uk_s]
    rw [uk_n (by decide), uk_s]
    exact upd_tl hf
  · rw [um_n e, uk_n e]
    by_cases e2 : x = 22
    · subst e2
      simp only [um, uk_s]
      rw [uk_n (by decide), uk_s]
      exact upd_tl hf
    · rw [um_n e2, uk_n e, uk_n e2, uk_n e2]
theorem ef_uk41 {S2 : hS} {i : Nat} {F : MM} {f : Nat → Int32} (hE : EF S mo (uk (uk F 41 (tl i rdT)) 42 f)) (hF : ∀ j, j ∈ mks → mI S2 mo j = uk (mI S mo) 41 (upd (mI S mo 41) i (rdT i)) j) : EF S2 mo (uk (uk F 41 (tl (i + 1) rdT)) 42 f) := by
  have h := EF.um hE hF
  intro j hj
  rw [h j hj]
  by_cases e : j = 42
  · subst e; rw [um_n (by decide), uk_s, uk_s]
  · by_cases e2 : j = 41
    · subst e2
      simp only [um, uk_s]
      rw [uk_n (by decide), uk_s, uk_n (by decide), uk_s]
      exact upd_tl rfl
    · rw [um_n e2, uk_n e, uk_n e, uk_n e2, uk_n e2]
theorem ef_uk42 {S2 : hS} {i : Nat} {F : MM} (h8 : i < 8) (hE : EF S mo (uk F 42 (tl (min i 8) stT))) (hF : ∀ j, j ∈ mks → mI S2 mo j = uk (mI S mo) 42 (upd (mI S mo 42) i (stT i)) j) : EF S2 mo (uk F 42 (tl (min (i + 1) 8) stT)) := by
  rw [show min i 8 = i by omega] at hE
  rw [show min (i + 1) 8 = i + 1 by omega]
  exact EF.uk hE hF (upd_tl rfl)
theorem ef_uk42n {i : Nat} {F : MM} (h8 : 8 ≤ i) (hE : EF S mo (uk F 42 (tl (min i 8) stT))) : EF S mo (uk F 42 (tl (min (i + 1) 8) stT)) := by
  rw [show min i 8 = 8 by omega] at hE
  rw [show min (i + 1) 8 = 8 by omega]
  exact hE
theorem ef_z2 {F6 F25 : Nat → Int32} (hE : EF S mo (uk (uk Z0 6 F6) 25 F25)) : EF S mo (uk (uk (uk (uk Z0 6 F6) 25 F25) 41 (tl 0 rdT)) 42 (tl (min 0 8) stT)) := by
  rw [show min 0 8 = 0 from rfl, tl_0, tl_0]
  rw [uk_zz (F := uk (uk Z0 6 F6) 25 F25) (by decide) rfl, uk_zz (by decide) rfl]
  exact hE
theorem ef_gc2 {E : List Nat} {S2 : hS} {F : MM} (hE : EF S mo F) (hC : Gc E S S2 mo G) (hk : ∀ k ∈ ek, k ∉ E := by decide) : EF S2 mo F := hE.gc hC hk
theorem cm_mctor {sd k al b1 b2 : Int32} (hk : sK S mo = 12) (hz : Gs S mo = z0) (hj : sJ S 1101 mo = 0) : Sp l g mX10_init 32 11412 [vr (some mo), vi sd, vi k, vi al, vi b1, vi b2] S (fun r S' => r = none ∧ MX S' mo M0 Fi0 (G0 k al b1 b2) sd.toInt64 1 1 ∧ Fz S S' mo) := by
  refine Sp.start (own := RX10) [(0, vr (some mo)), (1, vi sd), (2, vi k), (3, vi al), (4, vi b1), (5, vi b2)] (by decide +kernel) rfl rfl (Nat.le_of_ble_eq_true rfl) ?_
  intro J C
  have P2 : ∀ S1, AI S S1 mo [(43, 8), (42, 8), (41, 64), (40, 64), (39, 64), (38, 64), (37, 8), (36, 8), (35, 8), (34, 8), (33, 8), (32, 8), (31, 20), (28, 60), (27, 60), (26, 6), (25, 6), (24, 564), (23, 564), (22, 564), (21, 140), (20, 140), (18, 140), (16, 140), (15, 140), (14, 140), (13, 140), (12, 140), (11, 7840), (10, 140), (7, 128), (6, 20)] (G0 k al b1 b2) sd.toInt64 → J 401 [(0, vr (some mo)), (1, vi sd), (2, vi k), (3, vi al), (4, vi b1), (5, vi b2)] [] S1 32 11412 := by
    intro S1 hA
    have hLL : ∀ q ∈ marrs, q ∈ [(43, 8), (42, 8), (41, 64), (40, 64), (39, 64), (38, 64), (37, 8), (36, 8), (35, 8), (34, 8), (33, 8), (32, 8), (31, 20), (28, 60), (27, 60), (26, 6), (25, 6), (24, 564), (23, 564), (22, 564), (21, 140), (20, 140), (18, 140), (16, 140), (15, 140), (14, 140), (13, 140), (12, 140), (11, 7840), (10, 140), (7, 128), (6, 20)] := by decide
    obtain ⟨hV1, hE1⟩ := hA.mv hLL rfl rfl
    have hC1 : Gc [20, 6, 25, 41, 42] S1 S1 mo (Gs S1 mo) := Gc.rf
    rw [hA.2.2.1] at hC1
    have L5 : ∀ i S2, i ≤ 64 → (Gc [20, 6, 25, 41, 42] S1 S2 mo (G0 k al b1 b2) ∧ MV S2 mo M0 1 1 ∧ EF S2 mo (uk (uk (uk (uk Z0 6 (tl 20 (fun _ => nI 1))) 25 (tl 6 (fun _ => -1))) 41 (tl i rdT)) 42 (tl (min i 8) stT))) → J 495 [(0, vr (some mo)), (6, vi (nI (pLo i))), (7, vi (nI i))] [] S2 32 11412 := by
      refine up_loop _ _ _ ?_ ?_
      · intro S2 ⟨hC, hV, hE⟩
        refine r_iload (pc := 495) C dX10_init_495 rfl ?_
        refine r_bipush (pc := 497) C (nI 64) dX10_init_497 rfl ?_
        refine r_icmp_ge (pc := 499) (tgt := 556) C dX10_init_499 (by decide) (fun c499 => ?_) (fun c499 => ?_)
        · refine r_ret (pc := 556) C dX10_init_556 rfl (by omega) (by omega) ?_
          exact ⟨rfl, ⟨hV, hE, hC.gs, by rw [hC.gx.sj]; exact hA.2.2.2.1⟩, hC.fz hA hLL⟩
        · exact absurd (Int32.le_refl _) c499
      · intro i S2 hi ⟨hC, hV, hE⟩ ih
        obtain ⟨p1, p2, p3, p4⟩ := p_at hi
        have L6 : ∀ j q, q + j = pN i → pLo i ≤ q → J 502 [(0, vr (some mo)), (6, vi (nI q)), (7, vi (nI i))] [] S2 32 11412 := by
          intro j
          induction j with
          | zero =>
            intro q hq hq2
            have e : q = pN i := by omega
            subst e
            refine r_iload (pc := 502) C dX10_init_502 rfl ?_
            refine r_callS (pc := 504) C (cm_isPrime (p := pN i) (by omega)) iX10_isPrime ml_RX10_134 dX10_init_504 rfl (by decide) rfl (by simp [cv, Value.category, va_rf]) (by omega) (by omega) (fun r504 S504 h504 => ?_)
            obtain ⟨rfl, e504⟩ := h504
            subst S504
            dsimp only [Option.toList, List.cons_append, List.nil_append]
            rw [p1]
            refine r_if_ne (pc := 507) (tgt := 516) C dX10_init_507 (by decide) (fun c507 => ?_) (fun c507 => ?_)
            · refine r_aload_n (pc := 516) C dX10_init_516 rfl ?_
              refine r_mA (pc := 517) C hV dX10_init_517 fx_RX10_109 (len := 64) (by decide) ?_
              refine r_iload (pc := 520) C dX10_init_520 rfl ?_
              refine r_iload (pc := 522) C dX10_init_522 rfl ?_
              refine r_callS (pc := 524) C (cm_cubeRoot) iX10_cubeRoot ml_RX10_138 dX10_init_524 rfl (by decide) rfl (by simp [cv, Value.category, va_rf]) (by omega) (by omega) (fun r524 S524 h524 => ?_)
              obtain ⟨rfl, e524⟩ := h524
              subst S524
              dsimp only [Option.toList, List.cons_append, List.nil_append]
              rw [cb_at hi]
              refine r_xS (pc := 527) C hV dX10_init_527 (k := 41) (len := 64) (by decide) (by decide) (by decide) (by decide) (by omega) (by decide) (fun S527 hC527r hV527 hF527 => ?_)
              have hC527 := hC.trk hC527r
              have hE527 := ef_uk41 hE hF527
              refine r_iload (pc := 528) C dX10_init_528 rfl ?_
              refine r_bipush (pc := 530) C (nI 8) dX10_init_530 rfl ?_
              refine r_icmp_ge (pc := 532) (tgt := 547) C dX10_init_532 (by decide) (fun c532 => ?_) (fun c532 => ?_)
              · have hE547 := ef_uk42n (show 8 ≤ i from by rw [nI_leI (by omega) (by omega)] at c532; omega) hE527
                have hV547 := hV527
                have hC547 := hC527
                refine r_iinc (pc := 547) C _ dX10_init_547 rfl (nI_1 _) (by decide) rfl ?_
                refine r_iinc (pc := 550) C _ dX10_init_550 rfl (nI_1 _) (by decide) rfl ?_
                refine r_goto (pc := 553) (tgt := 495) C dX10_init_553 (by decide) ?_
                exact r_lv C [(0, vr (some mo)), (6, vi (nI (pN i + 1))), (7, vi (nI (i + 1)))] rfl (by have := ih _ ⟨hC547, hV547, hE547⟩; rw [show pLo (i + 1) = pN i + 1 from rfl] at this; exact this)
              · refine r_aload_n (pc := 535) C dX10_init_535 rfl ?_
                refine r_mA (pc := 536) C hV527 dX10_init_536 fx_RX10_112 (len := 8) (by decide) ?_
                refine r_iload (pc := 539) C dX10_init_539 rfl ?_
                refine r_iload (pc := 541) C dX10_init_541 rfl ?_
                refine r_callS (pc := 543) C (cm_squareRoot) iX10_squareRoot ml_RX10_142 dX10_init_543 rfl (by decide) rfl (by simp [cv, Value.category, va_rf]) (by omega) (by omega) (fun r543 S543 h543 => ?_)
                obtain ⟨rfl, e543⟩ := h543
                subst S543
                dsimp only [Option.toList, List.cons_append, List.nil_append]
                rw [sq_at (show i < 8 from by rw [nI_leI (by omega) (by omega)] at c532; omega)]
                refine r_xS (pc := 546) C hV527 dX10_init_546 (k := 42) (len := 8) (by decide) (by decide) (by decide) (by decide) (show i < 8 from by rw [nI_leI (by omega) (by omega)] at c532; omega) (by decide) (fun S546 hC546r hV546 hF546 => ?_)
                have hC546 := hC527.trk hC546r
                have hE546 := ef_uk42 (show i < 8 from by rw [nI_leI (by omega) (by omega)] at c532; omega) hE527 hF546
                have hE547 := hE546
                have hV547 := hV546
                have hC547 := hC546
                refine r_iinc (pc := 547) C _ dX10_init_547 rfl (nI_1 _) (by decide) rfl ?_
                refine r_iinc (pc := 550) C _ dX10_init_550 rfl (nI_1 _) (by decide) rfl ?_
                refine r_goto (pc := 553) (tgt := 495) C dX10_init_553 (by decide) ?_
                exact r_lv C [(0, vr (some mo)), (6, vi (nI (pN i + 1))), (7, vi (nI (i + 1)))] rfl (by have := ih _ ⟨hC547, hV547, hE547⟩; rw [show pLo (i + 1) = pN i + 1 from rfl] at this; exact this)
            · exact absurd c507 (by decide)
          | succ j ihj =>
            intro q hq hq2
            refine r_iload (pc := 502) C dX10_init_502 rfl ?_
            refine r_callS (pc := 504) C (cm_isPrime (p := q) (by omega)) iX10_isPrime ml_RX10_134 dX10_init_504 rfl (by decide) rfl (by simp [cv, Value.category, va_rf]) (by omega) (by omega) (fun r504 S504 h504 => ?_)
            obtain ⟨rfl, e504⟩ := h504
            subst S504
            dsimp only [Option.toList, List.cons_append, List.nil_append]
            rw [p2 q hq2 (by omega)]
            refine r_if_ne (pc := 507) (tgt := 516) C dX10_init_507 (by decide) (fun c507 => ?_) (fun c507 => ?_)
            · exact absurd (show bi false = 0 from rfl) c507
            · refine r_iinc (pc := 510) C _ dX10_init_510 rfl (nI_1 _) (by decide) rfl ?_
              refine r_goto (pc := 513) (tgt := 502) C dX10_init_513 (by decide) ?_
              exact r_lv C [(0, vr (some mo)), (6, vi (nI (q + 1))), (7, vi (nI i))] rfl (ihj (q + 1) (by omega) (by omega))
        refine r_iload (pc := 495) C dX10_init_495 rfl ?_
        refine r_bipush (pc := 497) C (nI 64) dX10_init_497 rfl ?_
        refine r_icmp_ge (pc := 499) (tgt := 556) C dX10_init_499 (by decide) (fun c499 => ?_) (fun c499 => ?_)
        · exact absurd c499 (nI_ge hi (by omega))
        · exact r_lv C [(0, vr (some mo)), (6, vi (nI (pLo i))), (7, vi (nI i))] rfl (L6 (pN i - pLo i) (pLo i) (by omega) (by omega))
    have L4 : ∀ i S2, i ≤ 564 → (Gc [20, 6, 25, 41, 42] S1 S2 mo (G0 k al b1 b2) ∧ MV S2 mo (uk (uk (um Z0 13 0 (nI 3)) 22 (tl i (fun _ => -1))) 23 (tl i (fun _ => -1))) 1 1 ∧ EF S2 mo (uk (uk Z0 6 (tl 20 (fun _ => nI 1))) 25 (tl 6 (fun _ => -1)))) → J 459 [(0, vr (some mo)), (6, vi (nI i))] [] S2 32 11412 := by
      refine up_loop _ _ _ ?_ ?_
      · intro S2 ⟨hC, hV, hE⟩
        refine r_iload (pc := 459) C dX10_init_459 rfl ?_
        refine r_sipush (pc := 461) C (nI 564) dX10_init_461 rfl ?_
        refine r_icmp_ge (pc := 464) (tgt := 489) C dX10_init_464 (by decide) (fun c464 => ?_) (fun c464 => ?_)
        · refine r_iconst (pc := 489) C (nI 2) dX10_init_489 rfl ?_
          refine r_istore (pc := 490) C dX10_init_490 (by decide) rfl ?_
          refine r_iconst (pc := 492) C (nI 0) dX10_init_492 rfl ?_
          refine r_istore (pc := 493) C dX10_init_493 (by decide) rfl ?_
          exact r_lv C [(0, vr (some mo)), (6, vi (nI (pLo 0))), (7, vi (nI 0))] rfl (L5 0 _ (by omega) ⟨hC, hV, ef_z2 hE⟩)
        · exact absurd (Int32.le_refl _) c464
      · intro i S2 hi ⟨hC, hV, hE⟩ ih
        refine r_iload (pc := 459) C dX10_init_459 rfl ?_
        refine r_sipush (pc := 461) C (nI 564) dX10_init_461 rfl ?_
        refine r_icmp_ge (pc := 464) (tgt := 489) C dX10_init_464 (by decide) (fun c464 => ?_) (fun c464 => ?_)
        · exact absurd c464 (nI_ge hi (by omega))
        · refine r_aload_n (pc := 467) C dX10_init_467 rfl ?_
          refine r_mA (pc := 468) C hV dX10_init_468 fx_RX10_58 (len := 564) (by decide) ?_
          refine r_iload (pc := 471) C dX10_init_471 rfl ?_
          refine r_iconst (pc := 473) C (-1) dX10_init_473 rfl ?_
          refine r_mS (pc := 474) C hV dX10_init_474 (k := 22) (len := 564) (by decide) (by decide) (by decide) (by decide) (by omega) (by decide) (fun S474 hC474r hV474 => ?_)
          have hC474 := hC.trk hC474r
          refine r_aload_n (pc := 475) C dX10_init_475 rfl ?_
          refine r_mA (pc := 476) C hV474 dX10_init_476 fx_RX10_61 (len := 564) (by decide) ?_
          refine r_iload (pc := 479) C dX10_init_479 rfl ?_
          refine r_iconst (pc := 481) C (-1) dX10_init_481 rfl ?_
          refine r_mS (pc := 482) C hV474 dX10_init_482 (k := 23) (len := 564) (by decide) (by decide) (by decide) (by decide) (by omega) (by decide) (fun S482 hC482r hV482 => ?_)
          have hC482 := hC474.trk hC482r
          refine r_iinc (pc := 483) C _ dX10_init_483 rfl (nI_1 _) (by decide) rfl ?_
          refine r_goto (pc := 486) (tgt := 459) C dX10_init_486 (by decide) ?_
          exact r_lv C [(0, vr (some mo)), (6, vi (nI (i + 1)))] rfl (ih _ ⟨hC482, by have := hV482; rw [um_2223 (f := fun _ => -1) rfl] at this; exact this, ef_gc2 hE (hC474r.tr hC482r)⟩)
    have L2 : ∀ i S2, i ≤ 6 → (Gc [20, 6, 25, 41, 42] S1 S2 mo (G0 k al b1 b2) ∧ MV S2 mo Z0 1 1 ∧ EF S2 mo (uk (uk Z0 6 (tl 20 (fun _ => nI 1))) 25 (tl i (fun _ => -1)))) → J 428 [(0, vr (some mo)), (6, vi (nI i))] [] S2 32 11412 := by
      refine up_loop _ _ _ ?_ ?_
      · intro S2 ⟨hC, hV, hE⟩
        refine r_iload (pc := 428) C dX10_init_428 rfl ?_
        refine r_bipush (pc := 430) C (nI 6) dX10_init_430 rfl ?_
        refine r_icmp_ge (pc := 432) (tgt := 449) C dX10_init_432 (by decide) (fun c432 => ?_) (fun c432 => ?_)
        · refine r_aload_n (pc := 449) C dX10_init_449 rfl ?_
          refine r_mA (pc := 450) C hV dX10_init_450 fx_RX10_30 (len := 140) (by decide) ?_
          refine r_iconst (pc := 453) C (nI 0) dX10_init_453 rfl ?_
          refine r_iconst (pc := 454) C (nI 3) dX10_init_454 rfl ?_
          refine r_mS (pc := 455) C hV dX10_init_455 (k := 13) (len := 140) (by decide) (by decide) (by decide) (by decide) (by omega) (by decide) (fun S455 hC455r hV455 => ?_)
          have hC455 := hC.trk hC455r
          refine r_iconst (pc := 456) C (nI 0) dX10_init_456 rfl ?_
          refine r_istore (pc := 457) C dX10_init_457 (by decide) rfl ?_
          exact r_lv C [(0, vr (some mo)), (6, vi (nI 0))] rfl (L4 0 _ (by omega) ⟨hC455, by rw [tl_0, uk_z22]; exact hV455, ef_gc2 hE hC455r⟩)
        · exact absurd (Int32.le_refl _) c432
      · intro i S2 hi ⟨hC, hV, hE⟩ ih
        refine r_iload (pc := 428) C dX10_init_428 rfl ?_
        refine r_bipush (pc := 430) C (nI 6) dX10_init_430 rfl ?_
        refine r_icmp_ge (pc := 432) (tgt := 449) C dX10_init_432 (by decide) (fun c432 => ?_) (fun c432 => ?_)
        · exact absurd c432 (nI_ge hi (by omega))
        · refine r_aload_n (pc := 435) C dX10_init_435 rfl ?_
          refine r_mA (pc := 436) C hV dX10_init_436 fx_RX10_67 (len := 6) (by decide) ?_
          refine r_iload (pc := 439) C dX10_init_439 rfl ?_
          refine r_iconst (pc := 441) C (-1) dX10_init_441 rfl ?_
          refine r_xS (pc := 442) C hV dX10_init_442 (k := 25) (len := 6) (by decide) (by decide) (by decide) (by decide) (by omega) (by decide) (fun S442 hC442r hV442 hF442 => ?_)
          have hC442 := hC.trk hC442r
          refine r_iinc (pc := 443) C _ dX10_init_443 rfl (nI_1 _) (by decide) rfl ?_
          refine r_goto (pc := 446) (tgt := 428) C dX10_init_446 (by decide) ?_
          exact r_lv C [(0, vr (some mo)), (6, vi (nI (i + 1)))] rfl (ih _ ⟨hC442, hV442, EF.uk hE hF442 (upd_tl rfl)⟩)
    have L1 : ∀ i S2, i ≤ 20 → (Gc [20, 6, 25, 41, 42] S1 S2 mo (G0 k al b1 b2) ∧ MV S2 mo Z0 1 1 ∧ EF S2 mo (uk Z0 6 (tl i (fun _ => nI 1)))) → J 404 [(0, vr (some mo)), (6, vi (nI i))] [] S2 32 11412 := by
      refine up_loop _ _ _ ?_ ?_
      · intro S2 ⟨hC, hV, hE⟩
        refine r_iload (pc := 404) C dX10_init_404 rfl ?_
        refine r_bipush (pc := 406) C (nI 20) dX10_init_406 rfl ?_
        refine r_icmp_ge (pc := 408) (tgt := 425) C dX10_init_408 (by decide) (fun c408 => ?_) (fun c408 => ?_)
        · refine r_iconst (pc := 425) C (nI 0) dX10_init_425 rfl ?_
          refine r_istore (pc := 426) C dX10_init_426 (by decide) rfl ?_
          exact r_lv C [(0, vr (some mo)), (6, vi (nI 0))] rfl (L2 0 _ (by omega) ⟨hC, hV, by rw [tl_0, uk_zz (by decide) rfl]; exact hE⟩)
        · exact absurd (Int32.le_refl _) c408
      · intro i S2 hi ⟨hC, hV, hE⟩ ih
        refine r_iload (pc := 404) C dX10_init_404 rfl ?_
        refine r_bipush (pc := 406) C (nI 20) dX10_init_406 rfl ?_
        refine r_icmp_ge (pc := 408) (tgt := 425) C dX10_init_408 (by decide) (fun c408 => ?_) (fun c408 => ?_)
        · exact absurd c408 (nI_ge hi (by omega))
        · refine r_aload_n (pc := 411) C dX10_init_411 rfl ?_
          refine r_mA (pc := 412) C hV dX10_init_412 fx_RX10_7 (len := 20) (by decide) ?_
          refine r_iload (pc := 415) C dX10_init_415 rfl ?_
          refine r_iconst (pc := 417) C (nI 1) dX10_init_417 rfl ?_
          refine r_xS (pc := 418) C hV dX10_init_418 (k := 6) (len := 20) (by decide) (by decide) (by decide) (by decide) (by omega) (by decide) (fun S418 hC418r hV418 hF418 => ?_)
          have hC418 := hC.trk hC418r
          refine r_iinc (pc := 419) C _ dX10_init_419 rfl (nI_1 _) (by decide) rfl ?_
          refine r_goto (pc := 422) (tgt := 404) C dX10_init_422 (by decide) ?_
          exact r_lv C [(0, vr (some mo)), (6, vi (nI (i + 1)))] rfl (ih _ ⟨hC418, hV418, EF.uk hE hF418 (upd_tl rfl)⟩)
    refine r_iconst (pc := 401) C (nI 0) dX10_init_401 rfl ?_
    refine r_istore (pc := 402) C dX10_init_402 (by decide) rfl ?_
    exact r_lv C [(0, vr (some mo)), (6, vi (nI 0))] rfl (L1 0 _ (by omega) ⟨hC1, hV1, by rw [tl_0, uk_zz0]; exact hE1⟩)
  have P5 : ∀ S1 v, AI S S1 mo [(43, 8), (42, 8), (41, 64), (40, 64), (39, 64), (38, 64), (37, 8), (36, 8), (35, 8), (34, 8), (33, 8), (32, 8), (31, 20), (28, 60), (27, 60), (26, 6), (25, 6), (24, 564), (23, 564), (22, 564), (21, 140), (20, 140), (18, 140), (16, 140), (15, 140), (14, 140), (13, 140), (12, 140), (11, 7840), (10, 140), (7, 128), (6, 20)] (upd (upd (upd gN 2 (nI (pK k))) 3 (nI (pA k al))) 4 (nI (pB b1))) sd.toInt64 → v = nI (pC b1 b2) → J 398 [(0, vr (some mo)), (1, vi sd), (2, vi k), (3, vi al), (4, vi b1), (5, vi b2)] [vi v, vr (some mo)] S1 32 11412 := by
    intro S1 v hA hv
    subst hv
    refine r_putI (pc := 398) C dX10_init_398 fx_RX10_131 (fq_11_5 _ rfl rfl) hA.1 ?_
    exact P2 _ (hA.si (k := 5))
  have P4 : ∀ S1 v, AI S S1 mo [(43, 8), (42, 8), (41, 64), (40, 64), (39, 64), (38, 64), (37, 8), (36, 8), (35, 8), (34, 8), (33, 8), (32, 8), (31, 20), (28, 60), (27, 60), (26, 6), (25, 6), (24, 564), (23, 564), (22, 564), (21, 140), (20, 140), (18, 140), (16, 140), (15, 140), (14, 140), (13, 140), (12, 140), (11, 7840), (10, 140), (7, 128), (6, 20)] (upd (upd gN 2 (nI (pK k))) 3 (nI (pA k al))) sd.toInt64 → v = nI (pB b1) → J 367 [(0, vr (some mo)), (1, vi sd), (2, vi k), (3, vi al), (4, vi b1), (5, vi b2)] [vi v, vr (some mo)] S1 32 11412 := by
    intro S1 v hA hv
    subst hv
    have hB := @pB_b b1
    refine r_putI (pc := 367) C dX10_init_367 fx_RX10_128 (fq_11_4 _ rfl rfl) hA.1 ?_
    have hA2 := hA.si (k := 4) (v := nI (pB b1))
    generalize setI S1 1104 mo (nI (pB b1)) = S2 at hA2 ⊢
    refine r_aload_n (pc := 370) C dX10_init_370 rfl ?_
    refine r_iload (pc := 371) C dX10_init_371 rfl ?_
    refine r_aload_n (pc := 373) C dX10_init_373 rfl ?_
    refine r_getI (pc := 374) C dX10_init_374 fx_RX10_128 hA2.1 ?_
    rw [show sI S2 1104 mo = nI (pB b1) from hA2.gg (k := 4)]
    refine r_icmp_lt (pc := 377) (tgt := 392) C dX10_init_377 (by decide) (fun c377 => ?_) (fun c377 => ?_)
    · have e : nI (pB b1 + 4) = nI (pC b1 b2) := by rw [show pC b1 b2 = pB b1 + 4 from if_neg (fun q => Int32.not_le.mpr c377 q.1)]
      refine r_aload_n (pc := 392) C dX10_init_392 rfl ?_
      refine r_getI (pc := 393) C dX10_init_393 fx_RX10_128 hA2.1 ?_
      rw [show sI S2 1104 mo = nI (pB b1) from hA2.gg (k := 4)]
      refine r_iconst (pc := 396) C (nI 4) dX10_init_396 rfl ?_
      refine r_iadd (pc := 397) C dX10_init_397 ?_
      try simp only [nI_add, pk_mul]
      exact P5 _ _ hA2 e
    · have c377' := Int32.not_lt.mp c377
      refine r_iload (pc := 380) C dX10_init_380 rfl ?_
      refine r_bipush (pc := 382) C (nI 41) dX10_init_382 rfl ?_
      refine r_icmp_ge (pc := 384) (tgt := 392) C dX10_init_384 (by decide) (fun c384 => ?_) (fun c384 => ?_)
      · have e : nI (pB b1 + 4) = nI (pC b1 b2) := by rw [show pC b1 b2 = pB b1 + 4 from if_neg (fun q => Int32.not_le.mpr q.2 c384)]
        refine r_aload_n (pc := 392) C dX10_init_392 rfl ?_
        refine r_getI (pc := 393) C dX10_init_393 fx_RX10_128 hA2.1 ?_
        rw [show sI S2 1104 mo = nI (pB b1) from hA2.gg (k := 4)]
        refine r_iconst (pc := 396) C (nI 4) dX10_init_396 rfl ?_
        refine r_iadd (pc := 397) C dX10_init_397 ?_
        try simp only [nI_add, pk_mul]
        exact P5 _ _ hA2 e
      · have e1 : pC b1 b2 = b2.toNatClampNeg := if_pos ⟨c377', Int32.not_le.mp c384⟩
        have e : b2 = nI (pC b1 b2) := by rw [e1, nI_self (Int32.not_lt.mpr (Int32.le_trans (nI_pos' (by omega)) c377'))]
        refine r_iload (pc := 387) C dX10_init_387 rfl ?_
        refine r_goto (pc := 389) (tgt := 398) C dX10_init_389 (by decide) ?_
        exact P5 _ _ hA2 e
  have P3 : ∀ S1 v, AI S S1 mo [(43, 8), (42, 8), (41, 64), (40, 64), (39, 64), (38, 64), (37, 8), (36, 8), (35, 8), (34, 8), (33, 8), (32, 8), (31, 20), (28, 60), (27, 60), (26, 6), (25, 6), (24, 564), (23, 564), (22, 564), (21, 140), (20, 140), (18, 140), (16, 140), (15, 140), (14, 140), (13, 140), (12, 140), (11, 7840), (10, 140), (7, 128), (6, 20)] (upd gN 2 (nI (pK k))) sd.toInt64 → v = nI (pA k al) → J 345 [(0, vr (some mo)), (1, vi sd), (2, vi k), (3, vi al), (4, vi b1), (5, vi b2)] [vi v, vr (some mo)] S1 32 11412 := by
    intro S1 v hA hv
    subst hv
    refine r_putI (pc := 345) C dX10_init_345 fx_RX10_125 (fq_11_3 _ rfl rfl) hA.1 ?_
    have hA2 := hA.si (k := 3) (v := nI (pA k al))
    generalize setI S1 1103 mo (nI (pA k al)) = S2 at hA2 ⊢
    refine r_aload_n (pc := 348) C dX10_init_348 rfl ?_
    refine r_iload (pc := 349) C dX10_init_349 rfl ?_
    refine r_if_le (pc := 351) (tgt := 366) C dX10_init_351 (by decide) (fun c351 => ?_) (fun c351 => ?_)
    · have e : nI 3 = nI (pB b1) := by rw [show pB b1 = 3 from if_neg (fun q => Int32.not_le.mpr q.1 c351)]
      refine r_iconst (pc := 366) C (nI 3) dX10_init_366 rfl ?_
      exact P4 _ _ hA2 e
    · have c351' := Int32.not_le.mp c351
      refine r_iload (pc := 354) C dX10_init_354 rfl ?_
      refine r_bipush (pc := 356) C (nI 21) dX10_init_356 rfl ?_
      refine r_icmp_ge (pc := 358) (tgt := 366) C dX10_init_358 (by decide) (fun c358 => ?_) (fun c358 => ?_)
      · have e : nI 3 = nI (pB b1) := by rw [show pB b1 = 3 from if_neg (fun q => Int32.not_le.mpr q.2 c358)]
        refine r_iconst (pc := 366) C (nI 3) dX10_init_366 rfl ?_
        exact P4 _ _ hA2 e
      · have e1 : pB b1 = b1.toNatClampNeg := if_pos ⟨c351', Int32.not_le.mp c358⟩
        have e : b1 = nI (pB b1) := by rw [e1, nI_self (pos_nn c351')]
        refine r_iload (pc := 361) C dX10_init_361 rfl ?_
        refine r_goto (pc := 363) (tgt := 367) C dX10_init_363 (by decide) ?_
        exact P4 _ _ hA2 e
  have P1 : ∀ S1 v, AI S S1 mo [(43, 8), (42, 8), (41, 64), (40, 64), (39, 64), (38, 64), (37, 8), (36, 8), (35, 8), (34, 8), (33, 8), (32, 8), (31, 20), (28, 60), (27, 60), (26, 6), (25, 6), (24, 564), (23, 564), (22, 564), (21, 140), (20, 140), (18, 140), (16, 140), (15, 140), (14, 140), (13, 140), (12, 140), (11, 7840), (10, 140), (7, 128), (6, 20)] (gN) sd.toInt64 → v = nI (pK k) → J 311 [(0, vr (some mo)), (1, vi sd), (2, vi k), (3, vi al), (4, vi b1), (5, vi b2)] [vi v, vr (some mo)] S1 32 11412 := by
    intro S1 v hA hv
    subst hv
    have hB := @pK_b k
    refine r_putI (pc := 311) C dX10_init_311 fx_RX10_122 (fq_11_2 _ rfl rfl) hA.1 ?_
    have hA2 := hA.si (k := 2) (v := nI (pK k))
    generalize setI S1 1102 mo (nI (pK k)) = S2 at hA2 ⊢
    refine r_aload_n (pc := 314) C dX10_init_314 rfl ?_
    refine r_iload_n (pc := 315) C dX10_init_315 rfl ?_
    refine r_aload_n (pc := 316) C dX10_init_316 rfl ?_
    refine r_getI (pc := 317) C dX10_init_317 fx_RX10_122 hA2.1 ?_
    rw [show sI S2 1102 mo = nI (pK k) from hA2.gg (k := 2)]
    refine r_iconst (pc := 320) C (nI 2) dX10_init_320 rfl ?_
    refine r_idiv (pc := 321) C dX10_init_321 (by decide) ?_
    rw [pk_div (d := 2) (by omega) (by omega) (by omega)]
    refine r_icmp_le (pc := 322) (tgt := 337) C dX10_init_322 (by decide) (fun c322 => ?_) (fun c322 => ?_)
    · have e : nI (pK k / 2 + 1) = nI (pA k al) := by rw [show pA k al = pK k / 2 + 1 from if_neg (fun q => Int32.not_le.mpr q.1 c322)]
      refine r_aload_n (pc := 337) C dX10_init_337 rfl ?_
      refine r_getI (pc := 338) C dX10_init_338 fx_RX10_122 hA2.1 ?_
      rw [show sI S2 1102 mo = nI (pK k) from hA2.gg (k := 2)]
      refine r_iconst (pc := 341) C (nI 2) dX10_init_341 rfl ?_
      refine r_idiv (pc := 342) C dX10_init_342 (by decide) ?_
      rw [pk_div (d := 2) (by omega) (by omega) (by omega)]
      refine r_iconst (pc := 343) C (nI 1) dX10_init_343 rfl ?_
      refine r_iadd (pc := 344) C dX10_init_344 ?_
      try simp only [nI_add, pk_mul]
      exact P3 _ _ hA2 e
    · have c322' := Int32.not_le.mp c322
      refine r_iload_n (pc := 325) C dX10_init_325 rfl ?_
      refine r_aload_n (pc := 326) C dX10_init_326 rfl ?_
      refine r_getI (pc := 327) C dX10_init_327 fx_RX10_122 hA2.1 ?_
      rw [show sI S2 1102 mo = nI (pK k) from hA2.gg (k := 2)]
      refine r_icmp_gt (pc := 330) (tgt := 337) C dX10_init_330 (by decide) (fun c330 => ?_) (fun c330 => ?_)
      · have e : nI (pK k / 2 + 1) = nI (pA k al) := by rw [show pA k al = pK k / 2 + 1 from if_neg (fun q => Int32.not_le.mpr c330 q.2)]
        refine r_aload_n (pc := 337) C dX10_init_337 rfl ?_
        refine r_getI (pc := 338) C dX10_init_338 fx_RX10_122 hA2.1 ?_
        rw [show sI S2 1102 mo = nI (pK k) from hA2.gg (k := 2)]
        refine r_iconst (pc := 341) C (nI 2) dX10_init_341 rfl ?_
        refine r_idiv (pc := 342) C dX10_init_342 (by decide) ?_
        rw [pk_div (d := 2) (by omega) (by omega) (by omega)]
        refine r_iconst (pc := 343) C (nI 1) dX10_init_343 rfl ?_
        refine r_iadd (pc := 344) C dX10_init_344 ?_
        try simp only [nI_add, pk_mul]
        exact P3 _ _ hA2 e
      · have c330' := Int32.not_lt.mp c330
        have e1 : pA k al = al.toNatClampNeg := if_pos ⟨c322', c330'⟩
        have e : al = nI (pA k al) := by rw [e1, nI_self (pos_nn (Int32.lt_of_le_of_lt (nI_pos' (by omega)) c322'))]
        refine r_iload_n (pc := 333) C dX10_init_333 rfl ?_
        refine r_goto (pc := 334) (tgt := 345) C dX10_init_334 (by decide) ?_
        exact P3 _ _ hA2 e
  have hA0 : AI S S mo [] z0 0 := ⟨hk, fun k n h => (by cases h), hz, hj, Fz.rf⟩
  refine r_aload_n (pc := 0) C dX10_init_0 rfl ?_
  refine r_oinit (pc := 1) C dX10_init_1 ml_RX10_1 (by decide) (by decide) ?_
  refine r_aload_n (pc := 4) C dX10_init_4 rfl ?_
  refine r_bipush (pc := 5) C (nI 20) dX10_init_5 rfl ?_
  refine r_newa (pc := 7) C (mkd 6) dX10_init_7 rfl (by decide) (wd_at 53 (by decide +kernel) rfl) (nI_pos (by omega)) (nI_clamp (by omega)) (by omega) (by omega) (by omega) (fun q7 hq7 => ?_)
  refine r_putR (pc := 9) C dX10_init_9 fx_RX10_7 (fq_11_6 _ rfl rfl) (hA0.kq hq7) ?_
  have hA9 := hA0.add (k := 6) (n := 20) hq7 (by decide)
  clear hA0
  generalize setR (newA _ q7 (mkd 6) 20) 1106 mo (some q7) = S9 at hA9 ⊢
  refine r_aload_n (pc := 12) C dX10_init_12 rfl ?_
  refine r_sipush (pc := 13) C (nI 128) dX10_init_13 rfl ?_
  refine r_newa (pc := 16) C (mkd 7) dX10_init_16 rfl (by decide) (wd_at 53 (by decide +kernel) rfl) (nI_pos (by omega)) (nI_clamp (by omega)) (by omega) (by omega) (by omega) (fun q16 hq16 => ?_)
  refine r_putR (pc := 18) C dX10_init_18 fx_RX10_13 (fq_11_7 _ rfl rfl) (hA9.kq hq16) ?_
  have hA18 := hA9.add (k := 7) (n := 128) hq16 (by decide)
  clear hA9
  generalize setR (newA _ q16 (mkd 7) 128) 1107 mo (some q16) = S18 at hA18 ⊢
  refine r_aload_n (pc := 21) C dX10_init_21 rfl ?_
  refine r_iconst (pc := 22) C (nI 1) dX10_init_22 rfl ?_
  refine r_putI (pc := 23) C dX10_init_23 fx_RX10_16 (fp_11_9 _) hA18.1 ?_
  have hA23 := hA18.si (k := 9) (v := nI 1)
  clear hA18
  generalize setI _ 1109 mo (nI 1) = S23 at hA23 ⊢
  refine r_aload_n (pc := 26) C dX10_init_26 rfl ?_
  refine r_sipush (pc := 27) C (nI 140) dX10_init_27 rfl ?_
  refine r_newa (pc := 30) C (mkd 10) dX10_init_30 rfl (by decide) (wd_at 53 (by decide +kernel) rfl) (nI_pos (by omega)) (nI_clamp (by omega)) (by omega) (by omega) (by omega) (fun q30 hq30 => ?_)
  refine r_putR (pc := 32) C dX10_init_32 fx_RX10_20 (fq_11_10 _ rfl rfl) (hA23.kq hq30) ?_
  have hA32 := hA23.add (k := 10) (n := 140) hq30 (by decide)
  clear hA23
  generalize setR (newA _ q30 (mkd 10) 140) 1110 mo (some q30) = S32 at hA32 ⊢
  refine r_aload_n (pc := 35) C dX10_init_35 rfl ?_
  refine r_sipush (pc := 36) C (nI 7840) dX10_init_36 rfl ?_
  refine r_newa (pc := 39) C (mkd 11) dX10_init_39 rfl (by decide) (wd_at 69 (by decide +kernel) rfl) (nI_pos (by omega)) (nI_clamp (by omega)) (by omega) (by omega) (by omega) (fun q39 hq39 => ?_)
  refine r_putR (pc := 41) C dX10_init_41 fx_RX10_23 (fq_11_11 _ rfl rfl) (hA32.kq hq39) ?_
  have hA41 := hA32.add (k := 11) (n := 7840) hq39 (by decide)
  clear hA32
  generalize setR (newA _ q39 (mkd 11) 7840) 1111 mo (some q39) = S41 at hA41 ⊢
  refine r_aload_n (pc := 44) C dX10_init_44 rfl ?_
  refine r_sipush (pc := 45) C (nI 140) dX10_init_45 rfl ?_
  refine r_newa (pc := 48) C (mkd 12) dX10_init_48 rfl (by decide) (wd_at 53 (by decide +kernel) rfl) (nI_pos (by omega)) (nI_clamp (by omega)) (by omega) (by omega) (by omega) (fun q48 hq48 => ?_)
  refine r_putR (pc := 50) C dX10_init_50 fx_RX10_27 (fq_11_12 _ rfl rfl) (hA41.kq hq48) ?_
  have hA50 := hA41.add (k := 12) (n := 140) hq48 (by decide)
  clear hA41
  generalize setR (newA _ q48 (mkd 12) 140) 1112 mo (some q48) = S50 at hA50 ⊢
  refine r_aload_n (pc := 53) C dX10_init_53 rfl ?_
  refine r_sipush (pc := 54) C (nI 140) dX10_init_54 rfl ?_
  refine r_newa (pc := 57) C (mkd 13) dX10_init_57 rfl (by decide) (wd_at 53 (by decide +kernel) rfl) (nI_pos (by omega)) (nI_clamp (by omega)) (by omega) (by omega) (by omega) (fun q57 hq57 => ?_)
  refine r_putR (pc := 59) C dX10_init_59 fx_RX10_30 (fq_11_13 _ rfl rfl) (hA50.kq hq57) ?_
  have hA59 := hA50.add (k := 13) (n := 140) hq57 (by decide)
  clear hA50
  generalize setR (newA _ q57 (mkd 13) 140) 1113 mo (some q57) = S59 at hA59 ⊢
  refine r_aload_n (pc := 62) C dX10_init_62 rfl ?_
  refine r_sipush (pc := 63) C (nI 140) dX10_init_63 rfl ?_
  refine r_newa (pc := 66) C (mkd 14) dX10_init_66 rfl (by decide) (wd_at 955 (by decide +kernel) rfl) (nI_pos (by omega)) (nI_clamp (by omega)) (by omega) (by omega) (by omega) (fun q66 hq66 => ?_)
  refine r_putR (pc := 68) C dX10_init_68 fx_RX10_33 (fq_11_14 _ rfl rfl) (hA59.kq hq66) ?_
  have hA68 := hA59.add (k := 14) (n := 140) hq66 (by decide)
  clear hA59
  generalize setR (newA _ q66 (mkd 14) 140) 1114 mo (some q66) = S68 at hA68 ⊢
  refine r_aload_n (pc := 71) C dX10_init_71 rfl ?_
  refine r_sipush (pc := 72) C (nI 140) dX10_init_72 rfl ?_
  refine r_newa (pc := 75) C (mkd 15) dX10_init_75 rfl (by decide) (wd_at 955 (by decide +kernel) rfl) (nI_pos (by omega)) (nI_clamp (by omega)) (by omega) (by omega) (by omega) (fun q75 hq75 => ?_)
  refine r_putR (pc := 77) C dX10_init_77 fx_RX10_37 (fq_11_15 _ rfl rfl) (hA68.kq hq75) ?_
  have hA77 := hA68.add (k := 15) (n := 140) hq75 (by decide)
  clear hA68
  generalize setR (newA _ q75 (mkd 15) 140) 1115 mo (some q75) = S77 at hA77 ⊢
  refine r_aload_n (pc := 80) C dX10_init_80 rfl ?_
  refine r_sipush (pc := 81) C (nI 140) dX10_init_81 rfl ?_
  refine r_newa (pc := 84) C (mkd 16) dX10_init_84 rfl (by decide) (wd_at 53 (by decide +kernel) rfl) (nI_pos (by omega)) (nI_clamp (by omega)) (by omega) (by omega) (by omega) (fun q84 hq84 => ?_)
  refine r_putR (pc := 86) C dX10_init_86 fx_RX10_40 (fq_11_16 _ rfl rfl) (hA77.kq hq84) ?_
  have hA86 := hA77.add (k := 16) (n := 140) hq84 (by decide)
  clear hA77
  generalize setR (newA _ q84 (mkd 16) 140) 1116 mo (some q84) = S86 at hA86 ⊢
  refine r_aload_n (pc := 89) C dX10_init_89 rfl ?_
  refine r_iconst (pc := 90) C (nI 1) dX10_init_90 rfl ?_
  refine r_putI (pc := 91) C dX10_init_91 fx_RX10_43 (fp_11_17 _) hA86.1 ?_
  have hA91 := hA86.si (k := 17) (v := nI 1)
  clear hA86
  generalize setI _ 1117 mo (nI 1) = S91 at hA91 ⊢
  refine r_aload_n (pc := 94) C dX10_init_94 rfl ?_
  refine r_sipush (pc := 95) C (nI 140) dX10_init_95 rfl ?_
  refine r_newa (pc := 98) C (mkd 18) dX10_init_98 rfl (by decide) (wd_at 53 (by decide +kernel) rfl) (nI_pos (by omega)) (nI_clamp (by omega)) (by omega) (by omega) (by omega) (fun q98 hq98 => ?_)
  refine r_putR (pc := 100) C dX10_init_100 fx_RX10_46 (fq_11_18 _ rfl rfl) (hA91.kq hq98) ?_
  have hA100 := hA91.add (k := 18) (n := 140) hq98 (by decide)
  clear hA91
  generalize setR (newA _ q98 (mkd 18) 140) 1118 mo (some q98) = S100 at hA100 ⊢
  refine r_aload_n (pc := 103) C dX10_init_103 rfl ?_
  refine r_iconst (pc := 104) C (nI 1) dX10_init_104 rfl ?_
  refine r_putI (pc := 105) C dX10_init_105 fx_RX10_49 (fp_11_19 _) hA100.1 ?_
  have hA105 := hA100.si (k := 19) (v := nI 1)
  clear hA100
  generalize setI _ 1119 mo (nI 1) = S105 at hA105 ⊢
  refine r_aload_n (pc := 108) C dX10_init_108 rfl ?_
  refine r_sipush (pc := 109) C (nI 140) dX10_init_109 rfl ?_
  refine r_newa (pc := 112) C (mkd 20) dX10_init_112 rfl (by decide) (wd_at 955 (by decide +kernel) rfl) (nI_pos (by omega)) (nI_clamp (by omega)) (by omega) (by omega) (by omega) (fun q112 hq112 => ?_)
  refine r_putR (pc := 114) C dX10_init_114 fx_RX10_52 (fq_11_20 _ rfl rfl) (hA105.kq hq112) ?_
  have hA114 := hA105.add (k := 20) (n := 140) hq112 (by decide)
  clear hA105
  generalize setR (newA _ q112 (mkd 20) 140) 1120 mo (some q112) = S114 at hA114 ⊢
  refine r_aload_n (pc := 117) C dX10_init_117 rfl ?_
  refine r_sipush (pc := 118) C (nI 140) dX10_init_118 rfl ?_
  refine r_newa (pc := 121) C (mkd 21) dX10_init_121 rfl (by decide) (wd_at 955 (by decide +kernel) rfl) (nI_pos (by omega)) (nI_clamp (by omega)) (by omega) (by omega) (by omega) (fun q121 hq121 => ?_)
  refine r_putR (pc := 123) C dX10_init_123 fx_RX10_55 (fq_11_21 _ rfl rfl) (hA114.kq hq121) ?_
  have hA123 := hA114.add (k := 21) (n := 140) hq121 (by decide)
  clear hA114
  generalize setR (newA _ q121 (mkd 21) 140) 1121 mo (some q121) = S123 at hA123 ⊢
  refine r_aload_n (pc := 126) C dX10_init_126 rfl ?_
  refine r_sipush (pc := 127) C (nI 564) dX10_init_127 rfl ?_
  refine r_newa (pc := 130) C (mkd 22) dX10_init_130 rfl (by decide) (wd_at 53 (by decide +kernel) rfl) (nI_pos (by omega)) (nI_clamp (by omega)) (by omega) (by omega) (by omega) (fun q130 hq130 => ?_)
  refine r_putR (pc := 132) C dX10_init_132 fx_RX10_58 (fq_11_22 _ rfl rfl) (hA123.kq hq130) ?_
  have hA132 := hA123.add (k := 22) (n := 564) hq130 (by decide)
  clear hA123
  generalize setR (newA _ q130 (mkd 22) 564) 1122 mo (some q130) = S132 at hA132 ⊢
  refine r_aload_n (pc := 135) C dX10_init_135 rfl ?_
  refine r_sipush (pc := 136) C (nI 564) dX10_init_136 rfl ?_
  refine r_newa (pc := 139) C (mkd 23) dX10_init_139 rfl (by decide) (wd_at 53 (by decide +kernel) rfl) (nI_pos (by omega)) (nI_clamp (by omega)) (by omega) (by omega) (by omega) (fun q139 hq139 => ?_)
  refine r_putR (pc := 141) C dX10_init_141 fx_RX10_61 (fq_11_23 _ rfl rfl) (hA132.kq hq139) ?_
  have hA141 := hA132.add (k := 23) (n := 564) hq139 (by decide)
  clear hA132
  generalize setR (newA _ q139 (mkd 23) 564) 1123 mo (some q139) = S141 at hA141 ⊢
  refine r_aload_n (pc := 144) C dX10_init_144 rfl ?_
  refine r_sipush (pc := 145) C (nI 564) dX10_init_145 rfl ?_
  refine r_newa (pc := 148) C (mkd 24) dX10_init_148 rfl (by decide) (wd_at 53 (by decide +kernel) rfl) (nI_pos (by omega)) (nI_clamp (by omega)) (by omega) (by omega) (by omega) (fun q148 hq148 => ?_)
  refine r_putR (pc := 150) C dX10_init_150 fx_RX10_64 (fq_11_24 _ rfl rfl) (hA141.kq hq148) ?_
  have hA150 := hA141.add (k := 24) (n := 564) hq148 (by decide)
  clear hA141
  generalize setR (newA _ q148 (mkd 24) 564) 1124 mo (some q148) = S150 at hA150 ⊢
  refine r_aload_n (pc := 153) C dX10_init_153 rfl ?_
  refine r_bipush (pc := 154) C (nI 6) dX10_init_154 rfl ?_
  refine r_newa (pc := 156) C (mkd 25) dX10_init_156 rfl (by decide) (wd_at 53 (by decide +kernel) rfl) (nI_pos (by omega)) (nI_clamp (by omega)) (by omega) (by omega) (by omega) (fun q156 hq156 => ?_)
  refine r_putR (pc := 158) C dX10_init_158 fx_RX10_67 (fq_11_25 _ rfl rfl) (hA150.kq hq156) ?_
  have hA158 := hA150.add (k := 25) (n := 6) hq156 (by decide)
  clear hA150
  generalize setR (newA _ q156 (mkd 25) 6) 1125 mo (some q156) = S158 at hA158 ⊢
  refine r_aload_n (pc := 161) C dX10_init_161 rfl ?_
  refine r_bipush (pc := 162) C (nI 6) dX10_init_162 rfl ?_
  refine r_newa (pc := 164) C (mkd 26) dX10_init_164 rfl (by decide) (wd_at 53 (by decide +kernel) rfl) (nI_pos (by omega)) (nI_clamp (by omega)) (by omega) (by omega) (by omega) (fun q164 hq164 => ?_)
  refine r_putR (pc := 166) C dX10_init_166 fx_RX10_70 (fq_11_26 _ rfl rfl) (hA158.kq hq164) ?_
  have hA166 := hA158.add (k := 26) (n := 6) hq164 (by decide)
  clear hA158
  generalize setR (newA _ q164 (mkd 26) 6) 1126 mo (some q164) = S166 at hA166 ⊢
  refine r_aload_n (pc := 169) C dX10_init_169 rfl ?_
  refine r_bipush (pc := 170) C (nI 60) dX10_init_170 rfl ?_
  refine r_newa (pc := 172) C (mkd 27) dX10_init_172 rfl (by decide) (wd_at 53 (by decide +kernel) rfl) (nI_pos (by omega)) (nI_clamp (by omega)) (by omega) (by omega) (by omega) (fun q172 hq172 => ?_)
  refine r_putR (pc := 174) C dX10_init_174 fx_RX10_73 (fq_11_27 _ rfl rfl) (hA166.kq hq172) ?_
  have hA174 := hA166.add (k := 27) (n := 60) hq172 (by decide)
  clear hA166
  generalize setR (newA _ q172 (mkd 27) 60) 1127 mo (some q172) = S174 at hA174 ⊢
  refine r_aload_n (pc := 177) C dX10_init_177 rfl ?_
  refine r_bipush (pc := 178) C (nI 60) dX10_init_178 rfl ?_
  refine r_newa (pc := 180) C (mkd 28) dX10_init_180 rfl (by decide) (wd_at 53 (by decide +kernel) rfl) (nI_pos (by omega)) (nI_clamp (by omega)) (by omega) (by omega) (by omega) (fun q180 hq180 => ?_)
  refine r_putR (pc := 182) C dX10_init_182 fx_RX10_76 (fq_11_28 _ rfl rfl) (hA174.kq hq180) ?_
  have hA182 := hA174.add (k := 28) (n := 60) hq180 (by decide)
  clear hA174
  generalize setR (newA _ q180 (mkd 28) 60) 1128 mo (some q180) = S182 at hA182 ⊢
  refine r_aload_n (pc := 185) C dX10_init_185 rfl ?_
  refine r_bipush (pc := 186) C (nI 20) dX10_init_186 rfl ?_
  refine r_newa (pc := 188) C (mkd 31) dX10_init_188 rfl (by decide) (wd_at 955 (by decide +kernel) rfl) (nI_pos (by omega)) (nI_clamp (by omega)) (by omega) (by omega) (by omega) (fun q188 hq188 => ?_)
  refine r_putR (pc := 190) C dX10_init_190 fx_RX10_79 (fq_11_31 _ rfl rfl) (hA182.kq hq188) ?_
  have hA190 := hA182.add (k := 31) (n := 20) hq188 (by decide)
  clear hA182
  generalize setR (newA _ q188 (mkd 31) 20) 1131 mo (some q188) = S190 at hA190 ⊢
  refine r_aload_n (pc := 193) C dX10_init_193 rfl ?_
  refine r_bipush (pc := 194) C (nI 8) dX10_init_194 rfl ?_
  refine r_newa (pc := 196) C (mkd 32) dX10_init_196 rfl (by decide) (wd_at 53 (by decide +kernel) rfl) (nI_pos (by omega)) (nI_clamp (by omega)) (by omega) (by omega) (by omega) (fun q196 hq196 => ?_)
  refine r_putR (pc := 198) C dX10_init_198 fx_RX10_82 (fq_11_32 _ rfl rfl) (hA190.kq hq196) ?_
  have hA198 := hA190.add (k := 32) (n := 8) hq196 (by decide)
  clear hA190
  generalize setR (newA _ q196 (mkd 32) 8) 1132 mo (some q196) = S198 at hA198 ⊢
  refine r_aload_n (pc := 201) C dX10_init_201 rfl ?_
  refine r_bipush (pc := 202) C (nI 8) dX10_init_202 rfl ?_
  refine r_newa (pc := 204) C (mkd 33) dX10_init_204 rfl (by decide) (wd_at 53 (by decide +kernel) rfl) (nI_pos (by omega)) (nI_clamp (by omega)) (by omega) (by omega) (by omega) (fun q204 hq204 => ?_)
  refine r_putR (pc := 206) C dX10_init_206 fx_RX10_85 (fq_11_33 _ rfl rfl) (hA198.kq hq204) ?_
  have hA206 := hA198.add (k := 33) (n := 8) hq204 (by decide)
  clear hA198
  generalize setR (newA _ q204 (mkd 33) 8) 1133 mo (some q204) = S206 at hA206 ⊢
  refine r_aload_n (pc := 209) C dX10_init_209 rfl ?_
  refine r_bipush (pc := 210) C (nI 8) dX10_init_210 rfl ?_
  refine r_newa (pc := 212) C (mkd 34) dX10_init_212 rfl (by decide) (wd_at 53 (by decide +kernel) rfl) (nI_pos (by omega)) (nI_clamp (by omega)) (by omega) (by omega) (by omega) (fun q212 hq212 => ?_)
  refine r_putR (pc := 214) C dX10_init_214 fx_RX10_88 (fq_11_34 _ rfl rfl) (hA206.kq hq212) ?_
  have hA214 := hA206.add (k := 34) (n := 8) hq212 (by decide)
  clear hA206
  generalize setR (newA _ q212 (mkd 34) 8) 1134 mo (some q212) = S214 at hA214 ⊢
  refine r_aload_n (pc := 217) C dX10_init_217 rfl ?_
  refine r_bipush (pc := 218) C (nI 8) dX10_init_218 rfl ?_
  refine r_newa (pc := 220) C (mkd 35) dX10_init_220 rfl (by decide) (wd_at 53 (by decide +kernel) rfl) (nI_pos (by omega)) (nI_clamp (by omega)) (by omega) (by omega) (by omega) (fun q220 hq220 => ?_)
  refine r_putR (pc := 222) C dX10_init_222 fx_RX10_91 (fq_11_35 _ rfl rfl) (hA214.kq hq220) ?_
  have hA222 := hA214.add (k := 35) (n := 8) hq220 (by decide)
  clear hA214
  generalize setR (newA _ q220 (mkd 35) 8) 1135 mo (some q220) = S222 at hA222 ⊢
  refine r_aload_n (pc := 225) C dX10_init_225 rfl ?_
  refine r_bipush (pc := 226) C (nI 8) dX10_init_226 rfl ?_
  refine r_newa (pc := 228) C (mkd 36) dX10_init_228 rfl (by decide) (wd_at 955 (by decide +kernel) rfl) (nI_pos (by omega)) (nI_clamp (by omega)) (by omega) (by omega) (by omega) (fun q228 hq228 => ?_)
  refine r_putR (pc := 230) C dX10_init_230 fx_RX10_94 (fq_11_36 _ rfl rfl) (hA222.kq hq228) ?_
  have hA230 := hA222.add (k := 36) (n := 8) hq228 (by decide)
  clear hA222
  generalize setR (newA _ q228 (mkd 36) 8) 1136 mo (some q228) = S230 at hA230 ⊢
  refine r_aload_n (pc := 233) C dX10_init_233 rfl ?_
  refine r_bipush (pc := 234) C (nI 8) dX10_init_234 rfl ?_
  refine r_newa (pc := 236) C (mkd 37) dX10_init_236 rfl (by decide) (wd_at 53 (by decide +kernel) rfl) (nI_pos (by omega)) (nI_clamp (by omega)) (by omega) (by omega) (by omega) (fun q236 hq236 => ?_)
  refine r_putR (pc := 238) C dX10_init_238 fx_RX10_97 (fq_11_37 _ rfl rfl) (hA230.kq hq236) ?_
  have hA238 := hA230.add (k := 37) (n := 8) hq236 (by decide)
  clear hA230
  generalize setR (newA _ q236 (mkd 37) 8) 1137 mo (some q236) = S238 at hA238 ⊢
  refine r_aload_n (pc := 241) C dX10_init_241 rfl ?_
  refine r_bipush (pc := 242) C (nI 64) dX10_init_242 rfl ?_
  refine r_newa (pc := 244) C (mkd 38) dX10_init_244 rfl (by decide) (wd_at 53 (by decide +kernel) rfl) (nI_pos (by omega)) (nI_clamp (by omega)) (by omega) (by omega) (by omega) (fun q244 hq244 => ?_)
  refine r_putR (pc := 246) C dX10_init_246 fx_RX10_100 (fq_11_38 _ rfl rfl) (hA238.kq hq244) ?_
  have hA246 := hA238.add (k := 38) (n := 64) hq244 (by decide)
  clear hA238
  generalize setR (newA _ q244 (mkd 38) 64) 1138 mo (some q244) = S246 at hA246 ⊢
  refine r_aload_n (pc := 249) C dX10_init_249 rfl ?_
  refine r_bipush (pc := 250) C (nI 64) dX10_init_250 rfl ?_
  refine r_newa (pc := 252) C (mkd 39) dX10_init_252 rfl (by decide) (wd_at 53 (by decide +kernel) rfl) (nI_pos (by omega)) (nI_clamp (by omega)) (by omega) (by omega) (by omega) (fun q252 hq252 => ?_)
  refine r_putR (pc := 254) C dX10_init_254 fx_RX10_103 (fq_11_39 _ rfl rfl) (hA246.kq hq252) ?_
  have hA254 := hA246.add (k := 39) (n := 64) hq252 (by decide)
  clear hA246
  generalize setR (newA _ q252 (mkd 39) 64) 1139 mo (some q252) = S254 at hA254 ⊢
  refine r_aload_n (pc := 257) C dX10_init_257 rfl ?_
  refine r_bipush (pc := 258) C (nI 64) dX10_init_258 rfl ?_
  refine r_newa (pc := 260) C (mkd 40) dX10_init_260 rfl (by decide) (wd_at 53 (by decide +kernel) rfl) (nI_pos (by omega)) (nI_clamp (by omega)) (by omega) (by omega) (by omega) (fun q260 hq260 => ?_)
  refine r_putR (pc := 262) C dX10_init_262 fx_RX10_106 (fq_11_40 _ rfl rfl) (hA254.kq hq260) ?_
  have hA262 := hA254.add (k := 40) (n := 64) hq260 (by decide)
  clear hA254
  generalize setR (newA _ q260 (mkd 40) 64) 1140 mo (some q260) = S262 at hA262 ⊢
  refine r_aload_n (pc := 265) C dX10_init_265 rfl ?_
  refine r_bipush (pc := 266) C (nI 64) dX10_init_266 rfl ?_
  refine r_newa (pc := 268) C (mkd 41) dX10_init_268 rfl (by decide) (wd_at 53 (by decide +kernel) rfl) (nI_pos (by omega)) (nI_clamp (by omega)) (by omega) (by omega) (by omega) (fun q268 hq268 => ?_)
  refine r_putR (pc := 270) C dX10_init_270 fx_RX10_109 (fq_11_41 _ rfl rfl) (hA262.kq hq268) ?_
  have hA270 := hA262.add (k := 41) (n := 64) hq268 (by decide)
  clear hA262
  generalize setR (newA _ q268 (mkd 41) 64) 1141 mo (some q268) = S270 at hA270 ⊢
  refine r_aload_n (pc := 273) C dX10_init_273 rfl ?_
  refine r_bipush (pc := 274) C (nI 8) dX10_init_274 rfl ?_
  refine r_newa (pc := 276) C (mkd 42) dX10_init_276 rfl (by decide) (wd_at 53 (by decide +kernel) rfl) (nI_pos (by omega)) (nI_clamp (by omega)) (by omega) (by omega) (by omega) (fun q276 hq276 => ?_)
  refine r_putR (pc := 278) C dX10_init_278 fx_RX10_112 (fq_11_42 _ rfl rfl) (hA270.kq hq276) ?_
  have hA278 := hA270.add (k := 42) (n := 8) hq276 (by decide)
  clear hA270
  generalize setR (newA _ q276 (mkd 42) 8) 1142 mo (some q276) = S278 at hA278 ⊢
  refine r_aload_n (pc := 281) C dX10_init_281 rfl ?_
  refine r_bipush (pc := 282) C (nI 8) dX10_init_282 rfl ?_
  refine r_newa (pc := 284) C (mkd 43) dX10_init_284 rfl (by decide) (wd_at 53 (by decide +kernel) rfl) (nI_pos (by omega)) (nI_clamp (by omega)) (by omega) (by omega) (by omega) (fun q284 hq284 => ?_)
  refine r_putR (pc := 286) C dX10_init_286 fx_RX10_115 (fq_11_43 _ rfl rfl) (hA278.kq hq284) ?_
  have hA286 := hA278.add (k := 43) (n := 8) hq284 (by decide)
  clear hA278
  generalize setR (newA _ q284 (mkd 43) 8) 1143 mo (some q284) = S286 at hA286 ⊢
  refine r_aload_n (pc := 289) C dX10_init_289 rfl ?_
  refine r_iload_n (pc := 290) C dX10_init_290 rfl ?_
  refine r_i2l (pc := 291) C dX10_init_291 ?_
  refine r_putJ (pc := 292) C dX10_init_292 fx_RX10_118 (fp_11_1 _) hA286.1 ?_
  have hA292 := hA286.sj (v := sd.toInt64)
  generalize setJ _ 1101 mo sd.toInt64 = S292 at hA292 ⊢
  refine r_aload_n (pc := 295) C dX10_init_295 rfl ?_
  refine r_iload_n (pc := 296) C dX10_init_296 rfl ?_
  refine r_if_le (pc := 297) (tgt := 310) C dX10_init_297 (by decide) (fun c297 => ?_) (fun c297 => ?_)
  · have e : nI 4 = nI (pK k) := by rw [show pK k = 4 from if_neg (fun q => Int32.not_le.mpr q.1 c297)]
    refine r_iconst (pc := 310) C (nI 4) dX10_init_310 rfl ?_
    exact P1 _ _ hA292 e
  · have c297' := Int32.not_le.mp c297
    refine r_iload_n (pc := 300) C dX10_init_300 rfl ?_
    refine r_bipush (pc := 301) C (nI 11) dX10_init_301 rfl ?_
    refine r_icmp_ge (pc := 303) (tgt := 310) C dX10_init_303 (by decide) (fun c303 => ?_) (fun c303 => ?_)
    · have e : nI 4 = nI (pK k) := by rw [show pK k = 4 from if_neg (fun q => Int32.not_le.mpr q.2 c303)]
      refine r_iconst (pc := 310) C (nI 4) dX10_init_310 rfl ?_
      exact P1 _ _ hA292 e
    · have e1 : pK k = k.toNatClampNeg := if_pos ⟨c297', Int32.not_le.mp c303⟩
      have e : k = nI (pK k) := by rw [e1, nI_self (pos_nn c297')]
      refine r_iload_n (pc := 306) C dX10_init_306 rfl ?_
      refine r_goto (pc := 307) (tgt := 311) C dX10_init_307 (by decide) ?_
      exact P1 _ _ hA292 e
end Ctor
