/-! One is accepted: what the reference's marks and the class's order of looking have in common -/
theorem Sy.goL {M M' : MM} {n t : Nat} (e : Sy M M') : goL M' n t = goL M n t := by
  funext k
  induction k with
  | zero => rfl
  | succ k ih => simp only [_root_.Jvm.Pilot.CSnowNodeLaw_law_r5193_5b532e.goL, e.hd, e.pr, e.2.1, ih, rvl, e.ins, e.ou]
theorem ODR.sy {M M' : MM} {n h : Nat} (hO : ODR M n h) (e : Sy M M') : ODR M' n h := by
  unfold ODR
  rw [e.hd, e.pr, e.2.1]
  exact hO
theorem Sy.sh {M M' : MM} {n t o : Nat} (e : Sy M M') : sh M' n t o = sh M n t o := by simp only [_root_.Jvm.Pilot.CSnowNodeLaw_law_r5193_5b532e.sh, e.ins]
theorem lastU_congr {f f' : Nat → Bool} : ∀ n, (∀ i, i < n → f i = f' i) → lastU f n = lastU f' n
  | 0, _ => rfl
  | n + 1, e => by simp only [lastU, e n (by omega), lastU_congr n (fun i hi => e i (by omega))]
theorem lastU_one {f : Nat → Bool} {k : Nat} (hk : f k = true) : ∀ n, k < n → (∀ i, i < n → f i = true → i = k) → lastU f n = some k
  | 0, h, _ => by omega
  | n + 1, h, e => by
    by_cases q : f n = true
    · rw [lastU_t q, e n (by omega) q]
    · have hkn : k ≠ n := fun e2 => q (by rw [← e2]; exact hk)
      rw [lastU_f (by simpa using q)]
      exact lastU_one hk n (by omega) (fun i hi h2 => e i (by omega) h2)
section AccP
variable {M : MM} {n h a : Nat}
/-- accepted, and noted so -/
def acM (M : MM) (t a : Nat) : MM := um (um M 13 t (nI 3)) 18 a (nI t)
theorem acM_sy {t : Nat} : Sy M (acM M t a) := (um_sy (by decide)).tr (um_sy (by decide))
theorem acM_13 {t u : Nat} : acM M t a 13 u = if u = t then nI 3 else M 13 u := by
  unfold acM
  rw [um_n (by decide)]
  by_cases e : u = t
  · subst e; rw [um_s, if_pos rfl]
  · rw [um_sn e, if_neg e]
theorem acc1_eq {t : Nat} : acc1 M n h t a = rrL (acM M t a) n h (goL M n t h) h := by
  show rr (acM M t a) n h t = _
  unfold rr
  rw [acM_sy.goL]
theorem par_hd (hO : ODR M n h) {j i : Nat} (hj : j < h) (hi : i < nP (M 11) (hdN M j)) : ∃ p, p < j ∧ par M n (hdN M j) i = hdN M p := hO.2 j hj i hi
/-- the states while the rivals are looked at -/
theorem acS (hO : ODR M n h) {t : Nat} {go : Nat → Bool} {k : Nat} (hk : k ≤ h) (u : Nat) : rrL (acM M t a) n h go k 13 u = if anyU (fun j => decide (1 ≤ j) && decide (hdN M j = u)) k && (go u && decide ((if u = t then nI 3 else M 13 u) = nI 2)) then nI 4 else (if u = t then nI 3 else M 13 u) := by
  rw [rrL_13 (hO.sy acM_sy) k hk u, acM_13, acM_sy.hd]
theorem acc_step (hO : ODR M n h) (hR : RI M n h) {k j : Nat} (hk : k < h) (ht : M 13 (hdN M k) = nI 2) (hp : ∀ i, i < nP (M 11) (hdN M k) → M 13 (par M n (hdN M k) i) = nI 3) (hj : j < h) :
    (rrL (acM M (hdN M k) a) n h (goL M n (hdN M k) h) j 13 (hdN M j) = nI 2 ∧ (sh M n (hdN M j) (hdN M k) ∨ ∃ i, i < nP (M 11) (hdN M j) ∧ rrL (acM M (hdN M k) a) n h (goL M n (hdN M k) h) j 13 (par M n (hdN M j) i) = nI 4)) ↔ (1 ≤ j ∧ goL M n (hdN M k) h (hdN M j) = true ∧ rrL (acM M (hdN M k) a) n h (goL M n (hdN M k) h) j 13 (hdN M j) = nI 2) := by
  have g3 := go_no3 hO hR hk ht hp
  have fresh : anyU (fun i => decide (1 ≤ i) && decide (hdN M i = hdN M j)) j = false := anyU_no.mpr (fun i hi => by
    rw [decide_eq_false (show ¬ hdN M i = hdN M j from fun q => by have := hO.1 i j (by omega) hj q; omega), Bool.and_false])
  have e1 : rrL (acM M (hdN M k) a) n h (goL M n (hdN M k) h) j 13 (hdN M j) = if hdN M j = hdN M k then nI 3 else M 13 (hdN M j) := by rw [acS hO (by omega), fresh, Bool.false_and]; rfl
  have tk : hdN M 0 ≠ hdN M k := fun q => by rw [← q, hR.2.2.2.2.1, hR.2.2.2.2.2] at ht; exact ne23 ht.symm
  constructor
  · rintro ⟨h1, h2⟩
    rw [e1] at h1 ⊢
    have hne : hdN M j ≠ hdN M k := fun q => by rw [if_pos q] at h1; exact ne23 h1.symm
    rw [if_neg hne] at h1 ⊢
    have j0 : 1 ≤ j := by
      by_cases q : j = 0
      · subst q; rw [hR.2.2.2.2.1, hR.2.2.2.2.2] at h1; exact absurd h1.symm ne23
      · omega
    refine ⟨j0, ?_, h1⟩
    rw [goL_rec hO hj j0, Bool.or_eq_true, anyU_iff]
    rcases h2 with ⟨s, s1, s2⟩ | ⟨i, hi, h2⟩
    · exact Or.inl (rvl_iff.mpr ⟨hne, s, s2, s1⟩)
    · right
      refine ⟨i, hi, ?_⟩
      obtain ⟨p, hpj, e⟩ := par_hd hO hj hi
      rw [acS hO (by omega)] at h2
      generalize hx : (if par M n (hdN M j) i = hdN M k then nI 3 else M 13 (par M n (hdN M j) i)) = x at h2
      split at h2
      · next c =>
        simp only [Bool.and_eq_true] at c
        exact c.2.1
      · next c =>
        exfalso
        rw [h2] at hx
        split at hx
        · exact ne34 hx
        · have := hR.2.1 j hj i hi hx
          rw [h1] at this
          exact ne24 this
  · rintro ⟨h1, h2, h3⟩
    refine ⟨h3, ?_⟩
    rw [goL_rec hO hj h1, Bool.or_eq_true, anyU_iff] at h2
    rcases h2 with h2 | ⟨i, hi, h2⟩
    · obtain ⟨-, s, s1, s2⟩ := rvl_iff.mp h2
      exact Or.inl ⟨s, s2, s1⟩
    · right
      refine ⟨i, hi, ?_⟩
      obtain ⟨p, hpj, e⟩ := par_hd hO hj hi
      rw [e] at h2 ⊢
      obtain ⟨q1, q2⟩ := g3 p (by omega) h2
      have hpk : hdN M p ≠ hdN M k := fun q => q1 (hO.1 p k (by omega) hk q)
      have p1 : 1 ≤ p := by
        by_cases q : p = 0
        · subst q; rw [goL_0 hO (by omega)] at h2; cases h2
        · omega
      have ap : anyU (fun i => decide (1 ≤ i) && decide (hdN M i = hdN M p)) j = true := anyU_t (i := p) hpj (by rw [decide_eq_true p1, decide_eq_true rfl]; rfl)
      rw [acS hO (by omega), ap, h2, if_neg hpk]
      rcases hR.1 p (by omega) with q | q | q
      · rw [decide_eq_true q]; rfl
      · exact absurd q q2
      · rw [q]; rfl
/-- behind an acceptance -/
theorem accS (hO : ODR M n h) (h1 : 1 ≤ h) {t : Nat} {j : Nat} (hj : j < h) : acc1 M n h t a 13 (hdN M j) = if goL M n t h (hdN M j) && decide ((if hdN M j = t then nI 3 else M 13 (hdN M j)) = nI 2) then nI 4 else (if hdN M j = t then nI 3 else M 13 (hdN M j)) := by
  rw [acc1_eq, acS hO (Nat.le_refl _)]
  by_cases j0 : j = 0
  · subst j0
    rw [goL_0 hO h1, Bool.false_and, Bool.and_false]
  · rw [show anyU (fun i => decide (1 ≤ i) && decide (hdN M i = hdN M j)) h = true from anyU_t (i := j) hj (by rw [decide_eq_true (show 1 ≤ j by omega), decide_eq_true rfl]; rfl), Bool.true_and]
theorem acc1_sy {t : Nat} : Sy M (acc1 M n h t a) := acM_sy.tr rr_sq.sy
theorem RI.acc (hO : ODR M n h) (hR : RI M n h) {k : Nat} (hk : k < h) (ht : M 13 (hdN M k) = nI 2) (hp : ∀ i, i < nP (M 11) (hdN M k) → M 13 (par M n (hdN M k) i) = nI 3) : RI (acc1 M n h (hdN M k) a) n h := by
  have g3 := go_no3 hO hR hk ht hp
  have e : Sy M (acc1 M n h (hdN M k) a) := acc1_sy
  have aS : ∀ j, j < h → acc1 M n h (hdN M k) a 13 (hdN M j) = if goL M n (hdN M k) h (hdN M j) && decide ((if hdN M j = hdN M k then nI 3 else M 13 (hdN M j)) = nI 2) then nI 4 else (if hdN M j = hdN M k then nI 3 else M 13 (hdN M j)) := fun j hj => accS hO (by omega) hj
  have kk : ∀ j, j < h → hdN M j = hdN M k → j = k := fun j hj q => hO.1 j k hj hk q
  have go4 : ∀ j, j < h → goL M n (hdN M k) h (hdN M j) = true → acc1 M n h (hdN M k) a 13 (hdN M j) = nI 4 := fun j hj q => by
    obtain ⟨q1, q2⟩ := g3 j hj q
    rw [aS j hj, q, if_neg (fun q => q1 (kk j hj q)), Bool.true_and]
    rcases hR.1 j hj with c | c | c
    · rw [decide_eq_true c]; rfl
    · exact absurd c q2
    · rw [c]; rfl
  have no : ∀ j, j < h → goL M n (hdN M k) h (hdN M j) ≠ true → acc1 M n h (hdN M k) a 13 (hdN M j) = if hdN M j = hdN M k then nI 3 else M 13 (hdN M j) := fun j hj q => by
    rw [aS j hj, show goL M n (hdN M k) h (hdN M j) = false by simpa using q, Bool.false_and]; rfl
  have st4 : ∀ j, j < h → M 13 (hdN M j) = nI 4 → acc1 M n h (hdN M k) a 13 (hdN M j) = nI 4 := fun j hj q => by
    have hne : hdN M j ≠ hdN M k := fun e => by rw [e, ht] at q; exact ne24 q
    by_cases c : goL M n (hdN M k) h (hdN M j) = true
    · exact go4 j hj c
    · rw [no j hj c, if_neg hne]; exact q
  have ac3 : ∀ j, j < h → (j = k ∨ M 13 (hdN M j) = nI 3) → acc1 M n h (hdN M k) a 13 (hdN M j) = nI 3 := fun j hj q => by
    have c : goL M n (hdN M k) h (hdN M j) ≠ true := fun c => by
      obtain ⟨q1, q2⟩ := g3 j hj c
      exact q.elim q1 q2
    rw [no j hj c]
    rcases q with rfl | q
    · rw [if_pos rfl]
    · split
      · rfl
      · exact q
  have is3 : ∀ j, j < h → acc1 M n h (hdN M k) a 13 (hdN M j) = nI 3 → j = k ∨ M 13 (hdN M j) = nI 3 := fun j hj q => by
    by_cases c : goL M n (hdN M k) h (hdN M j) = true
    · rw [go4 j hj c] at q; exact absurd q.symm ne34
    · rw [no j hj c] at q
      split at q
      · next e => exact Or.inl (kk j hj e)
      · exact Or.inr q
  refine ⟨?_, ?_, ?_, ?_, ?_, ?_⟩
  · intro j hj
    rw [e.hd, aS j hj]
    generalize hx : (if hdN M j = hdN M k then nI 3 else M 13 (hdN M j)) = x
    split
    · exact Or.inr (Or.inr rfl)
    · rw [← hx]
      split
      · exact Or.inr (Or.inl rfl)
      · exact hR.1 j hj
  · intro j hj i hi
    rw [e.hd, e.2.1] at hi
    rw [e.hd, e.pr]
    obtain ⟨p, hpj, ep⟩ := par_hd hO hj hi
    rw [ep]
    intro q
    by_cases c : goL M n (hdN M k) h (hdN M p) = true
    · have j1 : 1 ≤ j := by omega
      refine go4 j hj ?_
      rw [goL_rec hO hj j1, Bool.or_eq_true, anyU_iff]
      exact Or.inr ⟨i, hi, by rw [ep]; exact c⟩
    · rw [no p (by omega) c] at q
      split at q
      · exact absurd q ne34
      · exact st4 j hj (hR.2.1 j hj i hi (by rw [ep]; exact q))
  · intro j hj q i hi
    rw [e.hd] at q
    rw [e.hd, e.2.1] at hi
    rw [e.hd, e.pr]
    obtain ⟨p, hpj, ep⟩ := par_hd hO hj hi
    rw [ep]
    refine ac3 p (by omega) (Or.inr ?_)
    rcases is3 j hj q with rfl | q
    · have := hp i hi; rwa [ep] at this
    · have := hR.2.2.1 j hj q i hi; rwa [ep] at this
  · intro j j' hj hj' q hne hs
    rw [e.hd] at q hne hs ⊢
    rw [e.sh] at hs
    rcases is3 j hj q with rfl | q
    · have j1 : 1 ≤ j' := by
        by_cases c : j' = 0
        · subst c
          obtain ⟨s, -, s2⟩ := hs
          rw [hR.2.2.2.2.1] at s2
          obtain ⟨i, hi, -⟩ := inS_iff.mp s2
          simp [nX] at hi
        · omega
      refine go4 j' hj' ?_
      rw [goL_rec hO hj' j1, Bool.or_eq_true]
      exact Or.inl (rvl_iff.mpr ⟨hne, hs⟩)
    · exact st4 j' hj' (hR.2.2.2.1 j j' hj hj' q hne hs)
  · rw [e.hd]; exact hR.2.2.2.2.1
  · have := ac3 0 (by omega) (Or.inr (by rw [hR.2.2.2.2.1]; exact hR.2.2.2.2.2))
    rwa [hR.2.2.2.2.1] at this
theorem acc_acO (hO : ODR M n h) (hR : RI M n h) {k : Nat} (hk : k < h) (ht : M 13 (hdN M k) = nI 2) (hp : ∀ i, i < nP (M 11) (hdN M k) → M 13 (par M n (hdN M k) i) = nI 3) (s : Nat) : acO (acc1 M n h (hdN M k) a) n h s = if inS M n (hdN M k) s then some (hdN M k) else acO M n h s := by
  have e : Sy M (acc1 M n h (hdN M k) a) := acc1_sy
  have hR' := hR.acc (a := a) hO hk ht hp
  have g3 := go_no3 hO hR hk ht hp
  have aS : ∀ j, j < h → (acc1 M n h (hdN M k) a 13 (hdN M j) = nI 3 ↔ (j = k ∨ M 13 (hdN M j) = nI 3)) := fun j hj => by
    rw [accS hO (by omega) hj]
    have kk : hdN M j = hdN M k ↔ j = k := ⟨fun q => hO.1 j k hj hk q, fun q => by rw [q]⟩
    by_cases c : goL M n (hdN M k) h (hdN M j) = true
    · obtain ⟨q1, q2⟩ := g3 j hj c
      rw [c, if_neg (fun q => q1 (kk.mp q)), Bool.true_and]
      constructor
      · intro q
        split at q
        · exact absurd q.symm ne34
        · exact Or.inr q
      · intro q; exact absurd q (fun q => q.elim q1 q2)
    · rw [show goL M n (hdN M k) h (hdN M j) = false by simpa using c, Bool.false_and, if_neg (by decide)]
      by_cases q : hdN M j = hdN M k
      · rw [if_pos q]; exact ⟨fun _ => Or.inl (kk.mp q), fun _ => rfl⟩
      · rw [if_neg q]; exact ⟨Or.inr, fun q2 => q2.elim (fun q3 => absurd (kk.mpr q3) q) id⟩
  unfold acO
  rw [e.hd, e.ins]
  by_cases c : inS M n (hdN M k) s = true
  · rw [if_pos c]
    have : lastU (fun j => decide (acc1 M n h (hdN M k) a 13 (hdN M j) = nI 3) && inS M n (hdN M j) s) h = some k := by
      refine lastU_one (by rw [decide_eq_true ((aS k hk).mpr (Or.inl rfl)), c]; rfl) h hk (fun i hi q => ?_)
      simp only [Bool.and_eq_true, decide_eq_true_eq] at q
      by_cases c2 : hdN M i = hdN M k
      · exact hO.1 i k hi hk c2
      · exfalso
        have := hR'.2.2.2.1 i k hi hk (by rw [e.hd]; exact q.1) (by rw [e.hd]; exact fun x => c2 x.symm) (by rw [e.hd, e.sh]; exact ⟨s, q.2, c⟩)
        rw [e.hd, (aS k hk).mpr (Or.inl rfl)] at this
        exact ne34 this
    rw [this]
    rfl
  · rw [if_neg c]
    congr 1
    refine lastU_congr h (fun j hj => ?_)
    by_cases q : j = k
    · subst q; rw [show inS M n (hdN M j) s = false by simpa using c, Bool.and_false, Bool.and_false]
    · have := aS j hj
      by_cases q2 : M 13 (hdN M j) = nI 3
      · rw [decide_eq_true q2, decide_eq_true (this.mpr (Or.inr q2))]
      · rw [decide_eq_false q2, decide_eq_false (fun x => (this.mp x).elim q q2)]
end AccP
