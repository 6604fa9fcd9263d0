/-! The class: a poll more -/
section PollAdd
variable {g : GG} {S S1 : hS} {po n k p pp t : Nat} {T Pp : Nat → Nat} {F : MM} {X : Int64} {Ls : List Nat} {v : Int32} {wt : Nat → Nat}
theorem sm27_at {f : Nat → Int32} {i : Nat} : ∀ m, sm27 f wt X p m i = if 10 * p ≤ i ∧ i < 10 * p + m then nI (smp wt X (i - 10 * p)) else f i
  | 0 => by rw [if_neg (by omega)]; rfl
  | m + 1 => by
    show upd (sm27 f wt X p m) (10 * p + m) (nI (smp wt X m)) i = _
    by_cases e : i = 10 * p + m
    · subst e
      rw [pk_us, if_pos (by omega), show 10 * p + m - 10 * p = m by omega]
    · rw [pk_un e, sm27_at m]
      by_cases e2 : 10 * p ≤ i ∧ i < 10 * p + m
      · rw [if_pos e2, if_pos (by omega)]
      · rw [if_neg e2, if_neg (by omega)]
theorem sm28_at {f : Nat → Int32} {i : Nat} : ∀ m, sm28 f p m i = if 10 * p ≤ i ∧ i < 10 * p + m then nI 0 else f i
  | 0 => by rw [if_neg (by omega)]; rfl
  | m + 1 => by
    show upd (sm28 f p m) (10 * p + m) (nI 0) i = _
    by_cases e : i = 10 * p + m
    · subst e
      rw [pk_us, if_pos (by omega)]
    · rw [pk_un e, sm28_at m]
      by_cases e2 : 10 * p ≤ i ∧ i < 10 * p + m
      · rw [if_pos e2, if_pos (by omega)]
      · rw [if_neg e2, if_neg (by omega)]
theorem hvw (hw : ∀ p, p < 20 → F 6 p = nI (wt p)) (hw2 : ∀ p, wt p ≤ 1000) : hvy (F 6) = cntU (fun p => decide (0 < wt p)) 20 := by
  unfold hvy
  refine cntU_congr (fun i hi => ?_)
  rw [hw i hi]
  have h2 := hw2 i
  by_cases c : 0 < wt i
  · rw [decide_eq_true c]
    exact decide_eq_true (nI_lt c (by omega))
  · rw [decide_eq_false c, show wt i = 0 by omega]
    rfl
theorem polF_25 : polF F wt X v t k 25 = upd (F 25) (fst6 (F 25)) v := by simp only [polF, um]; rw [uk_n (by decide), uk_n (by decide), uk_n (by decide), uk_s]
theorem polF_26 : polF F wt X v t k 26 = upd (F 26) (fst6 (F 25)) (nI t) := by simp only [polF, um]; rw [uk_n (by decide), uk_n (by decide), uk_s, uk_n (by decide)]
theorem polF_27 : polF F wt X v t k 27 = sm27 (F 27) wt X (fst6 (F 25)) k := by simp only [polF]; rw [uk_n (by decide), uk_s]
theorem polF_28 : polF F wt X v t k 28 = sm28 (F 28) (fst6 (F 25)) k := by simp only [polF]; rw [uk_s]
theorem fst6_free (h : opn (F 25) ≠ 6) : fst6 (F 25) < 6 ∧ F 25 (fst6 (F 25)) < 0 := by
  obtain ⟨h1, h2, -⟩ := fstU_some (fst6_some h)
  exact ⟨h1, of_decide_eq_true h2⟩
/-- an old poll, when another is laid down at a free place -/
theorem PL.pol {q : Nat} (hP : PL S T F k pp q) (hk : k ≤ 10) (hne : q ≠ fst6 (F 25)) : PL S T (polF F wt X v t k) k pp q := by
  obtain ⟨c1, c2, c3, c4, c5, c6, c7⟩ := hP
  have e8 : ∀ i, i < k → sm28 (F 28) (fst6 (F 25)) k (10 * q + i) = F 28 (10 * q + i) := fun i hi => by rw [sm28_at, if_neg (by omega)]
  have es : ∀ u, sdn (sm28 (F 28) (fst6 (F 25)) k) q k u = sdn (F 28) q k u := fun u => by
    unfold sdn
    exact cntU_congr (fun i hi => by rw [e8 i hi])
  refine ⟨c1, ?_, ?_, fun i hi => ?_, fun i hi => ?_, ?_, ?_⟩
  · rw [polF_25, pk_un hne]; exact c2
  · rw [polF_26, pk_un hne]; exact c3
  · rw [polF_27, sm27_at, if_neg (by omega)]; exact c4 i hi
  · rw [polF_28, e8 i hi]; exact c5 i hi
  · rw [polF_28, es]; exact c6
  · rw [polF_28, es]; exact c7
/-- the new one -/
theorem PL.fresh (hpo : PO S pp (rA S 602 pp) (rA S 603 pp) k) (h0 : sI S 600 pp = v) (ht : t < 140) (h1 : sR S 601 pp = some (T t)) (hs : ∀ i, i < k → aI S 39 (rA S 602 pp) i = nI (smp wt X i)) (hz : ∀ i, i < k → aI S 91 (rA S 603 pp) i = 0) (h4 : sI S 604 pp = nI 0) (h5 : sI S 605 pp = nI 0) : PL S T (polF F wt X v t k) k pp (fst6 (F 25)) := by
  have e8 : ∀ i, i < k → sm28 (F 28) (fst6 (F 25)) k (10 * fst6 (F 25) + i) = nI 0 := fun i hi => by rw [sm28_at, if_pos (by omega)]
  have es : ∀ u, u ≠ 0 → sdn (sm28 (F 28) (fst6 (F 25)) k) (fst6 (F 25)) k u = 0 := fun u hu => by
    unfold sdn
    rw [cntU_congr (h := fun _ => false) (fun i hi => by rw [e8 i hi]; exact decide_eq_false (fun e => hu e.symm))]
    exact cnt_z (fun _ => rfl) k
  refine ⟨hpo, ?_, ⟨t, ht, h1, by rw [polF_26, pk_us]⟩, fun i hi => ?_, fun i hi => ?_, ?_, ?_⟩
  · rw [polF_25, pk_us]; exact h0
  · rw [polF_27, sm27_at, if_pos (by omega), show 10 * fst6 (F 25) + i - 10 * fst6 (F 25) = i by omega]; exact hs i hi
  · rw [polF_28, e8 i hi, hz i hi]; rfl
  · rw [polF_28, es _ (by decide)]; exact h4
  · rw [polF_28, es _ (by decide)]; exact h5
end PollAdd
