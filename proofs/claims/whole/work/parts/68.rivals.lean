/-! What is rejected when one is accepted -/
def sh (M : MM) (n t o : Nat) : Prop := ∃ s, inS M n t s = true ∧ inS M n o s = true
theorem inS_iff {M : MM} {n t s : Nat} : inS M n t s = true ↔ ∃ i, i < nX (M 11) t ∧ out M n t i = s := by
  unfold inS
  rw [anyU_iff]
  simp only [decide_eq_true_eq]
/-- of the held: states, rejected and accepted ancestors, rivals -/
def RI (M : MM) (n h : Nat) : Prop :=
  (∀ k, k < h → M 13 (hdN M k) = nI 2 ∨ M 13 (hdN M k) = nI 3 ∨ M 13 (hdN M k) = nI 4) ∧
  (∀ k, k < h → ∀ i, i < nP (M 11) (hdN M k) → M 13 (par M n (hdN M k) i) = nI 4 → M 13 (hdN M k) = nI 4) ∧
  (∀ k, k < h → M 13 (hdN M k) = nI 3 → ∀ i, i < nP (M 11) (hdN M k) → M 13 (par M n (hdN M k) i) = nI 3) ∧
  (∀ k k', k < h → k' < h → M 13 (hdN M k) = nI 3 → hdN M k' ≠ hdN M k → sh M n (hdN M k) (hdN M k') → M 13 (hdN M k') = nI 4) ∧
  hdN M 0 = 0 ∧ M 13 0 = nI 3
section Riv
variable {M M' : MM} {n h t : Nat}
theorem ne23 : (nI 2 : Int32) ≠ nI 3 := by decide
theorem ne24 : (nI 2 : Int32) ≠ nI 4 := by decide
theorem ne34 : (nI 3 : Int32) ≠ nI 4 := by decide
theorem rvl_iff {o : Nat} : rvl M n t o = true ↔ o ≠ t ∧ sh M n t o := by
  unfold rvl
  rw [anyU_iff]
  simp only [Bool.and_eq_true, Bool.not_eq_true', decide_eq_false_iff_not]
  constructor
  · rintro ⟨i, hi, h1, h2⟩
    exact ⟨h1, _, inS_iff.mpr ⟨i, hi, rfl⟩, h2⟩
  · rintro ⟨h1, s, h2, h3⟩
    obtain ⟨i, hi, rfl⟩ := inS_iff.mp h2
    exact ⟨i, hi, h1, h3⟩
/-- goL by its places: what stands at a held one is decided when it is reached -/
theorem goL_out : ∀ k a, (∀ j, 1 ≤ j → j < k → hdN M j ≠ a) → goL M n t k a = false
  | 0, a, _ => rfl
  | k + 1, a, ha => by
    simp only [goL]
    split
    · rfl
    · next hk =>
      dsimp only
      rw [if_neg (show ¬ a = hdN M k from fun q => ha k (by omega) (by omega) q.symm)]
      exact goL_out k a (fun j h1 h2 => ha j h1 (by omega))
theorem goL_keep (hO : ODR M n h) {j : Nat} : ∀ k, j < k → k ≤ h → goL M n t k (hdN M j) = goL M n t (j + 1) (hdN M j)
  | 0, hj, _ => by omega
  | k + 1, hj, hk => by
    by_cases e : j = k
    · subst e; rfl
    · have h1 := goL_keep (j := j) hO k (by omega) (by omega)
      rw [← h1]
      conv => lhs; unfold goL
      rw [if_neg (show ¬ k = 0 by omega), if_neg (fun q => e (hO.1 j k (by omega) (by omega) q))]
theorem goL_rec (hO : ODR M n h) {j : Nat} (hj : j < h) (h1 : 1 ≤ j) : goL M n t h (hdN M j) = (rvl M n t (hdN M j) || anyU (fun i => goL M n t h (par M n (hdN M j) i)) (nP (M 11) (hdN M j))) := by
  rw [goL_keep hO h hj (Nat.le_refl _)]
  conv => lhs; unfold goL
  rw [if_neg (show ¬ j = 0 by omega), if_pos rfl]
  congr 1
  apply anyU_congr
  intro i hi
  obtain ⟨p, hp, e⟩ := hO.2 j hj i hi
  rw [e, goL_keep hO j hp (by omega), goL_keep hO h (by omega) (Nat.le_refl _)]
theorem goL_0 (hO : ODR M n h) (h1 : 1 ≤ h) : goL M n t h (hdN M 0) = false := goL_out h _ (fun j a b q => by have := hO.1 j 0 (by omega) (by omega) q; omega)
/-- t, open, with accepted parents, is accepted: what goes is open or rejected -/
theorem go_no3 (hO : ODR M n h) (hR : RI M n h) {k : Nat} (hk : k < h) (ht : M 13 (hdN M k) = nI 2) (hp : ∀ i, i < nP (M 11) (hdN M k) → M 13 (par M n (hdN M k) i) = nI 3) : ∀ j, j < h → goL M n (hdN M k) h (hdN M j) = true → j ≠ k ∧ M 13 (hdN M j) ≠ nI 3 := by
  intro j
  induction j using Nat.strongRecOn with
  | _ j ih =>
    intro hj hg
    by_cases j0 : j = 0
    · subst j0
      rw [goL_0 hO (by omega)] at hg
      cases hg
    · rw [goL_rec hO hj (by omega), Bool.or_eq_true, anyU_iff] at hg
      rcases hg with hg | ⟨i, hi, hg⟩
      · obtain ⟨h1, h2⟩ := rvl_iff.mp hg
        refine ⟨fun q => h1 (by rw [q]), fun q => ?_⟩
        obtain ⟨s, hs1, hs2⟩ := h2
        have := hR.2.2.2.1 j k hj hk q (fun q => h1 q.symm) ⟨s, hs2, hs1⟩
        rw [ht] at this
        exact ne24 this
      · obtain ⟨p, hpj, e⟩ := hO.2 j hj i hi
        rw [e] at hg
        obtain ⟨q1, q2⟩ := ih p hpj (by omega) hg
        constructor
        · intro q
          subst q
          have := hp i hi
          rw [e] at this
          exact q2 this
        · intro q
          have := hR.2.2.1 j hj q i hi
          rw [e] at this
          exact q2 this
/-- the states behind the loop -/
theorem rrL_13 {go : Nat → Bool} (hO : ODR M n h) : ∀ k, k ≤ h → ∀ u, rrL M n h go k 13 u = if anyU (fun j => decide (1 ≤ j) && decide (hdN M j = u)) k && (go u && decide (M 13 u = nI 2)) then nI 4 else M 13 u
  | 0, _, u => rfl
  | k + 1, hk, u => by
    have ih := rrL_13 (go := go) hO k (by omega)
    by_cases k0 : k = 0
    · subst k0
      simp only [rrL, if_true]
      rw [if_neg]
      simp [anyU]
    · simp only [rrL]
      rw [if_neg k0]
      have eS : anyU (fun j => decide (1 ≤ j) && decide (hdN M j = u)) (k + 1) = (anyU (fun j => decide (1 ≤ j) && decide (hdN M j = u)) k || decide (hdN M k = u)) := by
        simp only [anyU]
        rw [decide_eq_true (show 1 ≤ k by omega), Bool.true_and]
      rw [eS]
      have hnew : anyU (fun j => decide (1 ≤ j) && decide (hdN M j = hdN M k)) k = false := anyU_no.mpr (fun j hj => by
        rw [decide_eq_false (show ¬ hdN M j = hdN M k from fun q => by have := hO.1 j k (by omega) (by omega) q; omega), Bool.and_false])
      have e13 : rrL M n h go k 13 (hdN M k) = M 13 (hdN M k) := by rw [ih, hnew, Bool.false_and]; rfl
      split
      · next c =>
        rw [e13, Bool.and_eq_true] at c
        have : rej (rrL M n h go k) n h (hdN M k) 13 = upd (rrL M n h go k 13) (hdN M k) (nI 4) := rejL_13 _
        rw [this]
        by_cases e : u = hdN M k
        · subst e
          rw [pk_us, if_pos]
          rw [decide_eq_true rfl, Bool.or_true, Bool.true_and, c.1, c.2]; rfl
        · rw [pk_un e, ih u, decide_eq_false (show ¬ hdN M k = u from fun q => e q.symm), Bool.or_false]
      · next c =>
        rw [e13] at c
        rw [ih u]
        by_cases e : u = hdN M k
        · subst e
          rw [hnew, Bool.false_and, decide_eq_true rfl, Bool.or_true, Bool.true_and]
          rw [if_neg (by decide), if_neg c]
        · rw [decide_eq_false (show ¬ hdN M k = u from fun q => e q.symm), Bool.or_false]
end Riv
