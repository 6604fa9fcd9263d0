/-! The law: what holds when its loop begins -/
section Init
variable {k al b1 b2 : Int32}
theorem hd00 : hdN M0 0 = 0 := by decide
theorem m0_11 : M0 11 = z0 := by unfold M0; rw [uk_n (by decide), uk_n (by decide), um_n (by decide)]; rfl
theorem m0_16 : M0 16 = z0 := by unfold M0; rw [uk_n (by decide), uk_n (by decide), um_n (by decide)]; rfl
theorem m0_n {q : Nat} (h1 : q ≠ 13) (h2 : q ≠ 22) (h3 : q ≠ 23) : M0 q = z0 := by unfold M0; rw [uk_n h3, uk_n h2, um_n h1]; rfl
theorem m0_13 : M0 13 0 = nI 3 := by unfold M0; rw [uk_n (by decide), uk_n (by decide), um_s]
theorem m0_22 {s : Nat} (h : s < 564) : M0 22 s = -1 := by
  unfold M0
  rw [uk_n (by decide), uk_s]
  exact if_pos h
theorem m0_23 {s : Nat} (h : s < 564) : M0 23 s = -1 := by
  unfold M0
  rw [uk_s]
  exact if_pos h
theorem pi_0 : PI M0 1 1 1 := by
  have z : ∀ {q}, q < 1 → q = 0 := fun {q} h => by omega
  refine ⟨⟨gvZ m0_11 m0_16, ⟨fun i j hi hj _ => by omega, fun i hi j hj => ?_⟩, ⟨fun i hi => ?_, fun i hi j hj => ?_, fun i hi _ j hj => ?_, fun i j hi hj _ hne => ?_, hd00, m0_13⟩, fun s hs => ?_, fun s hs => ?_, fun i hi => ?_, ?_⟩, fun i j hi hj _ => by omega, fun t ht => ?_, fun t ht e => ?_, Nat.le_refl _⟩
  · cases z hi; rw [hd00] at hj; exact absurd hj (Nat.not_lt_zero _)
  · cases z hi; rw [hd00, m0_13]; exact Or.inr (Or.inl rfl)
  · cases z hi; rw [hd00] at hj; exact absurd hj (Nat.not_lt_zero _)
  · cases z hi; rw [hd00] at hj; exact absurd hj (Nat.not_lt_zero _)
  · cases z hi; cases z hj; exact absurd rfl hne
  · have e : favN M0 s = none := by unfold favN; rw [m0_22 hs, if_pos (by decide)]
    rw [e, m0_22 hs]
    exact ⟨rfl, fun u q => by cases q⟩
  · have e : latN M0 s = none := by unfold latN; rw [m0_23 hs, if_pos (by decide)]
    rw [e, m0_23 hs]
    exact ⟨rfl, fun u q => by cases q⟩
  · cases z hi
    unfold acN
    rw [m0_n (by decide) (by decide) (by decide)]
    exact ⟨by decide, by decide⟩
  · show 1 = cntU (fun t => decide (M0 13 t = nI 3)) 1
    rw [cntU_t (by rw [m0_13]; decide)]
    rfl
  · cases z ht
    unfold szN
    rw [m0_n (by decide) (by decide) (by decide)]
    exact ⟨by decide, by decide⟩
  · cases z ht
    rw [show hdB M0 1 0 = true from hdB_iff.mpr ⟨0, by omega, hd00⟩] at e
    cases e
theorem fr_0 : FRS M0 1 := ⟨fun t _ => by rw [m0_n (by decide) (by decide) (by decide), m0_n (by decide) (by decide) (by decide)]; exact ⟨rfl, rfl⟩, fun s _ hs => by rw [m0_22 hs, m0_23 hs, m0_n (by decide) (by decide) (by decide)]; exact ⟨rfl, rfl, rfl⟩⟩
theorem fi_n {q : Nat} (h1 : q ≠ 6) (h2 : q ≠ 25) (h3 : q ≠ 41) (h4 : q ≠ 42) : Fi0 q = z0 := by unfold Fi0; rw [uk_n h4, uk_n h3, uk_n h2, uk_n h1]; rfl
theorem tl_self {N : Nat} {f : Nat → Int32} (h : ∀ i, N ≤ i → f i = 0) : tl N f = f := by
  funext i
  unfold tl
  split
  · rfl
  · next q => exact (h i (by omega)).symm
theorem fi_41 : Fi0 41 = rdT := by
  unfold Fi0
  rw [uk_n (by decide), uk_s]
  refine tl_self (fun i hi => ?_)
  unfold rdT
  rw [List.getD_eq_getElem?_getD, List.getElem?_eq_none (by show 64 ≤ i; exact hi)]
  rfl
theorem fi_42 : Fi0 42 = stT := by
  unfold Fi0
  rw [uk_s]
  refine tl_self (fun i hi => ?_)
  unfold stT
  rw [List.getD_eq_getElem?_getD, List.getElem?_eq_none (by show 8 ≤ i; exact hi)]
  rfl
theorem pv_0 : PV M0 Fi0 (G0 k al b1 b2) 1 1 1 (pK k) (pA k al) 0 0 := by
  have no : ∀ p, p < 6 → ¬ Fi0 25 p < 0 → False := fun p hp h => h (by rw [fi_25 hp]; decide)
  have hk := @pK_b k
  have ha := @pA_b k al
  refine ⟨⟨pi_0, fr_0, by omega, by omega⟩, ⟨⟨fun p hp h => (no p hp h).elim, fun p q hp _ h => (no p hp h).elim⟩, fun t ht _ => ?_⟩, ⟨fun p q hp _ h => (no p hp h).elim, fun p hp h => (no p hp h).elim, fun p hp h => (no p hp h).elim, fun p hp h => (no p hp h).elim⟩, ⟨fun j hj => ⟨?_, ?_⟩, fun j hj => ⟨fun _ => 0, fun c hc => ?_, ?_, fun _ _ _ => rfl⟩⟩, ⟨⟨fun _ => 0, fun _ => (show (0 : Nat) < 256 by decide), fun i hi => ?_⟩, ⟨fun _ => 1, fun p hp => fi_6 hp, fun _ => (show (1 : Nat) ≤ 1000 by decide)⟩⟩, ⟨g0_2, hk.2, g0_3, by omega, ha.2, ?_, by omega, ?_, 0, ?_, by omega⟩, fi_41, fi_42⟩
  · unfold chitB
    rw [m0_n (by decide) (by decide) (by decide)]
    rfl
  · unfold coN
    rw [fi_n (by decide) (by decide) (by decide) (by decide), show z0 j = (0 : Int32) from rfl]
    exact ⟨by decide, by decide⟩
  · refine OK6.cho (Or.inr ⟨0, by omega, ?_⟩)
    rw [fi_n (by decide) (by decide) (by decide) (by decide)]
    rfl
  · rw [fi_n (by decide) (by decide) (by decide) (by decide)]; rfl
  · show 0 + 0 + 0 + 0 + 0 + 0 + 0 + 0 + 0 ≤ pK k
    omega
  · rw [fi_n (by decide) (by decide) (by decide) (by decide)]; rfl
  · rw [g0_n (by decide), gN_8]
  · rw [g0_n (by decide), gN_19]
  · rw [g0_n (by decide), gN_29]
end Init
