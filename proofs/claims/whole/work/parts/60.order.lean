/-! The order of holding: what ancestors are -/
def ODR (M : MM) (n h : Nat) : Prop := (∀ k k', k < h → k' < h → hdN M k = hdN M k' → k = k') ∧ (∀ k, k < h → ∀ i, i < nP (M 11) (hdN M k) → ∃ j, j < k ∧ par M n (hdN M k) i = hdN M j)
/-- t's parents are held, below K -/
def PHd (M : MM) (n t K : Nat) : Prop := ∀ i, i < nP (M 11) t → ∃ j, j < K ∧ par M n t i = hdN M j
def sing (b : Nat) : Nat → Bool := fun a => decide (a = b)
section Order
variable {M : MM} {n h : Nat}
theorem ancL_or : ∀ k (m1 m2 : Nat → Bool), ancL M n k (fun a => m1 a || m2 a) = fun a => ancL M n k m1 a || ancL M n k m2 a
  | 0, m1, m2 => rfl
  | k + 1, m1, m2 => by
    simp only [ancL]
    cases h1 : m1 (hdN M k) <;> cases h2 : m2 (hdN M k)
    · simp only [Bool.or_self, Bool.false_eq_true, if_false]
      exact ancL_or k m1 m2
    · simp only [Bool.false_or, Bool.false_eq_true, if_false, if_true]
      rw [← ancL_or k]
      congr 1
      funext a
      rw [Bool.or_assoc]
    · simp only [Bool.true_or, Bool.false_eq_true, if_false, if_true]
      rw [← ancL_or k]
      congr 1
      funext a
      cases m1 a <;> cases m2 a <;> simp
    · simp only [Bool.or_self, if_true]
      rw [← ancL_or k]
      congr 1
      funext a
      cases m1 a <;> cases m2 a <;> cases pset M n (hdN M k) a <;> rfl
theorem ancL_skip {K : Nat} {m : Nat → Bool} : ∀ k, K ≤ k → (∀ j, K ≤ j → j < k → m (hdN M j) = false) → ancL M n k m = ancL M n K m
  | 0, hK, _ => by rw [show K = 0 by omega]
  | k + 1, hK, hm => by
    by_cases e : K = k + 1
    · rw [e]
    · simp only [ancL]
      rw [hm k (by omega) (by omega)]
      simp only [Bool.false_eq_true, if_false]
      exact ancL_skip k (by omega) (fun j h1 h2 => hm j h1 (by omega))
theorem ancL_far {m : Nat → Bool} {k : Nat} (hm : ∀ j, j < k → m (hdN M j) = false) : ancL M n k m = m := ancL_skip k (Nat.zero_le _) (fun j _ h => hm j h)
theorem pset_iff {t a : Nat} : pset M n t a = true ↔ ∃ i, i < nP (M 11) t ∧ par M n t i = a := by
  unfold pset
  rw [anyU_iff]
  exact ⟨fun ⟨i, h1, h2⟩ => ⟨i, h1, of_decide_eq_true h2⟩, fun ⟨i, h1, h2⟩ => ⟨i, h1, decide_eq_true h2⟩⟩
theorem pset_far (hO : ODR M n h) {j i : Nat} (hj : j < h) (hi : j ≤ i) (hi2 : i < h) : pset M n (hdN M j) (hdN M i) = false := by
  cases hp : pset M n (hdN M j) (hdN M i) with
  | false => rfl
  | true =>
    obtain ⟨x, hx, e⟩ := pset_iff.mp hp
    obtain ⟨j', hj', e2⟩ := hO.2 j hj x hx
    have := hO.1 i j' hi2 (by omega) (by rw [← e, e2])
    omega
theorem ancL_sing (hO : ODR M n h) {j : Nat} (hj : j < h) (a : Nat) : ancL M n h (sing (hdN M j)) a = (decide (a = hdN M j) || anc M n h (hdN M j) a) := by
  have hs : ∀ i, i < h → i ≠ j → sing (hdN M j) (hdN M i) = false := fun i hi hne => decide_eq_false (fun e => hne (hO.1 i j hi hj e))
  rw [ancL_skip (K := j + 1) h (by omega) (fun i h1 h2 => hs i h2 (by omega))]
  simp only [ancL]
  rw [show sing (hdN M j) (hdN M j) = true from decide_eq_true rfl]
  simp only [if_true]
  rw [ancL_or, ancL_far (m := sing (hdN M j)) (fun i hi => hs i (by omega) (by omega))]
  unfold anc
  rw [ancL_skip (K := j) (m := pset M n (hdN M j)) h (by omega) (fun i h1 h2 => pset_far hO hj h1 h2)]
  rfl
theorem ancL_no {k a : Nat} : ancL M n k (fun _ => false) a = false := by rw [ancL_far (fun _ _ => rfl)]
theorem ancL_any {f : Nat → Nat} {k a : Nat} : ∀ c, ancL M n k (fun a => anyU (fun i => decide (a = f i)) c) a = anyU (fun i => ancL M n k (sing (f i)) a) c
  | 0 => ancL_no
  | c + 1 => by
    simp only [anyU]
    rw [ancL_or]
    show (ancL M n k (fun a => anyU (fun i => decide (a = f i)) c) a || ancL M n k (sing (f c)) a) = _
    rw [ancL_any c]
theorem anc_rec (hO : ODR M n h) {t K : Nat} (hK : K ≤ h) (hp : PHd M n t K) (a : Nat) : anc M n h t a = anyU (fun i => decide (par M n t i = a) || anc M n h (par M n t i) a) (nP (M 11) t) := by
  have e : pset M n t = fun a => anyU (fun i => decide (a = par M n t i)) (nP (M 11) t) := by
    funext a
    unfold pset
    exact anyU_congr (fun i _ => decide_eq_decide.mpr ⟨fun e => e.symm, fun e => e.symm⟩)
  unfold anc
  rw [e, ancL_any]
  refine anyU_congr (fun i hi => ?_)
  obtain ⟨j, hj, e2⟩ := hp i hi
  rw [e2, ancL_sing hO (by omega)]
  congr 1
  exact decide_eq_decide.mpr ⟨fun e => e.symm, fun e => e.symm⟩
theorem ODR.phd (hO : ODR M n h) {k : Nat} (hk : k < h) : PHd M n (hdN M k) k := hO.2 k hk
/-- the ancestors of a held one are held, before it -/
theorem anc_lt (hO : ODR M n h) : ∀ k, k < h → ∀ a, anc M n h (hdN M k) a = true → ∃ j, j < k ∧ a = hdN M j := by
  intro k
  induction k using Nat.strongRecOn with
  | _ k ih =>
    intro hk a ha
    rw [anc_rec hO (K := k) (by omega) (hO.phd hk)] at ha
    obtain ⟨i, hi, h2⟩ := anyU_iff.mp ha
    obtain ⟨j, hj, e⟩ := hO.2 k hk i hi
    rw [e] at h2
    rcases Bool.or_eq_true_iff.mp h2 with h3 | h3
    · exact ⟨j, hj, (of_decide_eq_true h3).symm⟩
    · obtain ⟨j', h4, h5⟩ := ih j hj (by omega) a h3
      exact ⟨j', by omega, h5⟩
theorem anc_lt2 (hO : ODR M n h) {t K : Nat} (hK : K ≤ h) (hp : PHd M n t K) {a : Nat} (ha : anc M n h t a = true) : ∃ j, j < K ∧ a = hdN M j := by
  rw [anc_rec hO hK hp] at ha
  obtain ⟨i, hi, h2⟩ := anyU_iff.mp ha
  obtain ⟨j, hj, e⟩ := hp i hi
  rw [e] at h2
  rcases Bool.or_eq_true_iff.mp h2 with h3 | h3
  · exact ⟨j, hj, (of_decide_eq_true h3).symm⟩
  · obtain ⟨j', h4, h5⟩ := anc_lt hO j (by omega) a h3
    exact ⟨j', by omega, h5⟩
/-- descendants -/
theorem des_iff (hO : ODR M n h) {t : Nat} : ∀ k, k ≤ h → ∀ d, desL M n t k d = true ↔ d = t ∨ ∃ j, j < k ∧ hdN M j = d ∧ anc M n h (hdN M j) t = true
  | 0, _, d => by
    simp only [desL, decide_eq_true_eq]
    exact ⟨fun e => Or.inl e, fun e => e.elim id (fun ⟨j, hj, _⟩ => absurd hj (by omega))⟩
  | k + 1, hk, d => by
    have ih := des_iff hO (t := t) k (by omega)
    have hany : anyU (fun i => desL M n t k (par M n (hdN M k) i)) (nP (M 11) (hdN M k)) = anc M n h (hdN M k) t := by
      rw [anc_rec hO (K := k) (by omega) (hO.phd (by omega))]
      refine anyU_congr (fun i hi => ?_)
      obtain ⟨j, hj, e⟩ := hO.2 k (by omega) i hi
      rw [e]
      rw [Bool.eq_iff_iff, ih, Bool.or_eq_true, decide_eq_true_eq]
      refine ⟨fun q => q.elim Or.inl (fun ⟨j', h1, h2, h3⟩ => Or.inr ?_), fun q => q.elim Or.inl (fun h3 => Or.inr ⟨j, hj, rfl, h3⟩)⟩
      rw [← h2]
      exact h3
    simp only [desL, hany]
    cases ha : anc M n h (hdN M k) t with
    | false =>
      simp only [Bool.false_eq_true, if_false]
      rw [ih]
      refine ⟨fun q => q.elim Or.inl (fun ⟨j, h1, h2⟩ => Or.inr ⟨j, by omega, h2⟩), fun q => q.elim Or.inl (fun ⟨j, h1, h2, h3⟩ => Or.inr ⟨j, ?_, h2, h3⟩)⟩
      by_cases e : j = k
      · rw [e, ha] at h3; cases h3
      · omega
    | true =>
      simp only [if_true, Bool.or_eq_true, decide_eq_true_eq]
      rw [ih]
      constructor
      · rintro ((q | ⟨j, h1, h2⟩) | q)
        · exact Or.inl q
        · exact Or.inr ⟨j, by omega, h2⟩
        · exact Or.inr ⟨k, by omega, q.symm, ha⟩
      · rintro (q | ⟨j, h1, h2, h3⟩)
        · exact Or.inl (Or.inl q)
        · by_cases e : j = k
          · exact Or.inr (by rw [← h2, e])
          · exact Or.inl (Or.inr ⟨j, by omega, h2, h3⟩)
/-- is it held -/
def hdB (M : MM) (h t : Nat) : Bool := anyU (fun k => decide (hdN M k = t)) h
theorem hdB_iff {t : Nat} : hdB M h t = true ↔ ∃ k, k < h ∧ hdN M k = t := by
  unfold hdB
  rw [anyU_iff]
  exact ⟨fun ⟨i, h1, h2⟩ => ⟨i, h1, of_decide_eq_true h2⟩, fun ⟨i, h1, h2⟩ => ⟨i, h1, decide_eq_true h2⟩⟩
theorem desL_eq (hO : ODR M n h) {t d : Nat} : desL M n t h d = (decide (d = t) || (hdB M h d && anc M n h d t)) := by
  rw [Bool.eq_iff_iff, des_iff hO h (Nat.le_refl _), Bool.or_eq_true, decide_eq_true_eq, Bool.and_eq_true, hdB_iff]
  refine ⟨fun q => q.elim Or.inl (fun ⟨j, h1, h2, h3⟩ => Or.inr ⟨⟨j, h1, h2⟩, by rw [← h2]; exact h3⟩), fun q => q.elim Or.inl (fun ⟨⟨j, h1, h2⟩, h3⟩ => Or.inr ⟨j, h1, h2, by rw [h2]; exact h3⟩)⟩
theorem conf_eq (hO : ODR M n h) {t : Nat} : conf M n h t = cntU (fun d => (decide (d = t) || (hdB M h d && anc M n h d t)) && chitB M d) n := by
  unfold conf
  exact cntU_congr (fun d _ => by rw [desL_eq hO])
/-- strong: liked, and its parents strong -/
theorem stg_rec (hO : ODR M n h) {k : Nat} (hk : k < h) (hn : ∀ k, k < h → hdN M k < n) : stg M n h (hdN M k) = (liked M n (hdN M k) && allU (fun i => stg M n h (par M n (hdN M k) i)) (nP (M 11) (hdN M k))) := by
  unfold stg
  congr 1
  rw [Bool.eq_iff_iff, allU_iff, allU_iff]
  constructor
  · intro q i hi
    obtain ⟨j, hj, e⟩ := hO.2 k hk i hi
    rw [Bool.and_eq_true, allU_iff]
    refine ⟨?_, fun a ha => ?_⟩
    · have h1 := q (par M n (hdN M k) i) (by rw [e]; exact hn j (by omega))
      rw [anc_rec hO (K := k) (by omega) (hO.phd hk), anyU_iff.mpr ⟨i, hi, by rw [decide_eq_true rfl]; rfl⟩] at h1
      simpa using h1
    · have h1 := q a ha
      cases h2 : anc M n h (par M n (hdN M k) i) a with
      | false => rfl
      | true =>
        rw [anc_rec hO (K := k) (by omega) (hO.phd hk), anyU_iff.mpr ⟨i, hi, by rw [h2, Bool.or_true]⟩] at h1
        simpa using h1
  · intro q a ha
    cases h2 : anc M n h (hdN M k) a with
    | false => rfl
    | true =>
      rw [anc_rec hO (K := k) (by omega) (hO.phd hk)] at h2
      obtain ⟨i, hi, h3⟩ := anyU_iff.mp h2
      have h4 := q i hi
      rw [Bool.and_eq_true, allU_iff] at h4
      rcases Bool.or_eq_true_iff.mp h3 with h5 | h5
      · rw [← of_decide_eq_true h5, h4.1]; rfl
      · have := h4.2 a ha
        rw [h5] at this
        simpa using this
/-- ancestors hang on the held ones before alone -/
theorem anc_same {M' : MM} {n' h' : Nat} (hO : ODR M n h) (hO' : ODR M' n' h') (hh : h ≤ h') (h1 : ∀ k, k < h → hdN M' k = hdN M k) (h2 : ∀ k, k < h → nP (M' 11) (hdN M k) = nP (M 11) (hdN M k)) (h3 : ∀ k, k < h → ∀ i, i < nP (M 11) (hdN M k) → par M' n' (hdN M k) i = par M n (hdN M k) i) : ∀ k, k < h → ∀ a, anc M' n' h' (hdN M k) a = anc M n h (hdN M k) a := by
  intro k
  induction k using Nat.strongRecOn with
  | _ k ih =>
    intro hk a
    have e1 := hO'.phd (k := k) (by omega)
    rw [h1 k hk] at e1
    rw [anc_rec hO' (K := k) (by omega) e1, anc_rec hO (K := k) (by omega) (hO.phd hk), h2 k hk]
    refine anyU_congr (fun i hi => ?_)
    obtain ⟨j, hj, e⟩ := hO.2 k hk i hi
    rw [h3 k hk i hi, e, ih j hj (by omega)]
end Order
