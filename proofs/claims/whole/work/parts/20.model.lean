/-! The reference: its arrays, its readers of rows -/
/-- a row for loops that count up -/
theorem up_loop {σ : Type} (N : Nat) (J : Nat → σ → Prop) (I : Nat → σ → Prop) (hx : ∀ s, I N s → J N s) (hs : ∀ i s, i < N → I i s → (∀ s', I (i + 1) s' → J (i + 1) s') → J i s) : ∀ i s, i ≤ N → I i s → J i s := by
  have h : ∀ k i s, i + k = N → I i s → J i s := by
    intro k
    induction k with
    | zero => intro i s e h; rw [Nat.add_zero] at e; subst e; exact hx s h
    | succ k ih => intro i s e h; exact hs i s (by omega) h (fun s' h' => ih (i + 1) s' (by omega) h')
  intro i s hi hI
  exact h (N - i) i s (by omega) hI
theorem dn_loop {σ : Type} (J : Nat → σ → Prop) (I : Nat → σ → Prop) (hx : ∀ s, I 0 s → J 0 s) (hs : ∀ i s, I (i + 1) s → (∀ s', I i s' → J i s') → J (i + 1) s) : ∀ i s, I i s → J i s := by
  intro i
  induction i with
  | zero => exact hx
  | succ i ih => intro s h; exact hs i s h (fun s' h' => ih s' h')
/-- the kinds of the reference's arrays -/
def mkd : Nat → Nat := fun k => match k with
  | 11 => 20
  | 14 => 85
  | 15 => 86
  | 20 => 87
  | 21 => 88
  | 31 => 89
  | 36 => 90
  | k => 30 + k
def marrs : List (Nat × Nat) := [(6, 20), (7, 128), (10, 140), (11, 7840), (12, 140), (13, 140), (14, 140), (15, 140), (16, 140), (18, 140), (20, 140), (21, 140), (22, 564), (23, 564), (24, 564), (25, 6), (26, 6), (27, 60), (28, 60), (31, 20), (32, 8), (33, 8), (34, 8), (35, 8), (36, 8), (37, 8), (38, 64), (39, 64), (40, 64), (41, 64), (42, 8), (43, 8)]
def ma (S : hS) (mo k : Nat) : Nat := (sR S (1100 + k) mo).getD 0
/-- the reference at mo: its arrays stand, each of its length -/
def MO (S : hS) (mo : Nat) : Prop := sK S mo = 12 ∧ ∀ k n, (k, n) ∈ marrs → sR S (1100 + k) mo = some (ma S mo k) ∧ sK S (ma S mo k) = mkd k ∧ sN S (ma S mo k) = n
abbrev mI (S : hS) (mo k : Nat) : Nat → Int32 := aI S (mkd k) (ma S mo k)
/-- the last place t < n where f is x, or -1 -/
def fnd (f : Nat → Int32) (x : Int32) : Nat → Int32
  | 0 => -1
  | n + 1 => if f n = x then nI n else fnd f x n
section Model
variable {l : Launch} {g : GG} {S : hS} {mo : Nat}
theorem cm_find {n : Nat} {id : Int32} (hM : MO S mo) (hn : sI S 1109 mo = nI n) (hn2 : n ≤ 140) : Sp l g mX10_find 0 0 [vr (some mo), vi id] S (fun r S' => r = some (vi (fnd (mI S mo 10) id n)) ∧ S' = S) := by
  refine Sp.start (own := RX10) [(0, vr (some mo)), (1, vi id)] (by decide +kernel) rfl rfl (Nat.le_of_ble_eq_true rfl) ?_
  intro J C
  have hmo := hM.1
  obtain ⟨h10, k10, n10⟩ := hM.2 10 140 (by decide)
  have L : ∀ i x, i ≤ n → x = fnd (mI S mo 10) id i → J 4 [(0, vr (some mo)), (1, vi id), (2, vi x), (3, vi (nI i))] [] S 0 0 := by
    refine up_loop n _ _ ?_ ?_
    · intro x hx
      refine r_iload_n (pc := 4) C dX10_find_4 rfl ?_
      refine r_aload_n (pc := 5) C dX10_find_5 rfl ?_
      refine r_getI (pc := 6) C dX10_find_6 fx_RX10_16 (by assumption) ?_
      rw [hn]
      refine r_icmp_ge (pc := 9) (tgt := 34) C dX10_find_9 (by decide) (fun c9 => ?_) (fun c9 => ?_)
      · refine r_iload_n (pc := 34) C dX10_find_34 rfl ?_
        refine r_iret (pc := 35) C dX10_find_35 rfl (by omega) (by omega) ?_
        subst hx; exact ⟨rfl, rfl⟩
      · exact absurd (Int32.le_refl _) c9
    · intro i x hi hx ih
      refine r_iload_n (pc := 4) C dX10_find_4 rfl ?_
      refine r_aload_n (pc := 5) C dX10_find_5 rfl ?_
      refine r_getI (pc := 6) C dX10_find_6 fx_RX10_16 (by assumption) ?_
      rw [hn]
      refine r_icmp_ge (pc := 9) (tgt := 34) C dX10_find_9 (by decide) (fun c9 => ?_) (fun c9 => ?_)
      · exact absurd c9 (nI_ge hi (by omega))
      · refine r_aload_n (pc := 12) C dX10_find_12 rfl ?_
        refine r_getR (pc := 13) C dX10_find_13 fx_RX10_20 (by assumption) (by first | assumption | rfl) ?_
        refine r_iload_n (pc := 16) C dX10_find_16 rfl ?_
        refine r_iald (pc := 17) C dX10_find_17 (by assumption) (by decide) (by assumption) (by first | assumption | exact vp_in_nI (by omega) (by omega)) (by first | exact nI_clamp (by omega) | rfl) ?_
        refine r_iload_n (pc := 18) C dX10_find_18 rfl ?_
        refine r_icmp_ne (pc := 19) (tgt := 26) C dX10_find_19 (by decide) (fun c19 => ?_) (fun c19 => ?_)
        · refine r_iload_n (pc := 26) C dX10_find_26 rfl ?_
          refine r_istore_n (pc := 27) C dX10_find_27 (by decide) rfl ?_
          refine r_iinc (pc := 28) C (nI (i + 1)) dX10_find_28 rfl (nI_1 i) (by decide) rfl ?_
          refine r_goto (pc := 31) (tgt := 4) C dX10_find_31 (by decide) ?_
          refine r_lv C [(0, vr (some mo)), (1, vi id), (2, vi _), (3, vi (nI (i + 1)))] rfl (ih _ ?_)
          simp_all [fnd, mI, mkd]
        · refine r_iload_n (pc := 22) C dX10_find_22 rfl ?_
          refine r_goto (pc := 23) (tgt := 27) C dX10_find_23 (by decide) ?_
          refine r_istore_n (pc := 27) C dX10_find_27 (by decide) rfl ?_
          refine r_iinc (pc := 28) C (nI (i + 1)) dX10_find_28 rfl (nI_1 i) (by decide) rfl ?_
          refine r_goto (pc := 31) (tgt := 4) C dX10_find_31 (by decide) ?_
          refine r_lv C [(0, vr (some mo)), (1, vi id), (2, vi _), (3, vi (nI (i + 1)))] rfl (ih _ ?_)
          simp_all [fnd, mI, mkd]
  refine r_iconst (pc := 0) C (-1) dX10_find_0 rfl ?_
  refine r_istore_n (pc := 1) C dX10_find_1 (by decide) rfl ?_
  refine r_iconst (pc := 2) C (nI 0) dX10_find_2 rfl ?_
  refine r_istore_n (pc := 3) C dX10_find_3 (by decide) rfl ?_
  refine r_lv C [(0, vr (some mo)), (1, vi id), (2, vi _), (3, vi (nI 0))] rfl (L 0 _ (by omega) rfl)
end Model
