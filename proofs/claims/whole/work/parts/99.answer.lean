/-! The class: an answer is recorded -/
section AnswerC
variable {l : Launch} {g : GG} {S S1 S' : hS} {po x pe tp dg go ch n h a k p pp t mi j : Nat} {T O Pp : Nat → Nat} {M F : MM} {G : Nat → Int32} {X : Int64} {L Ls : List Nat} {w : Bool}
theorem sdn_s {f : Nat → Int32} {v u : Int32} (hj : j < k) (h0 : f (10 * p + j) = 0) (hu : u ≠ 0) : sdn (upd f (10 * p + j) v) p k u = sdn f p k u + (if v = u then 1 else 0) := by
  unfold sdn
  have q := cntU_upd (f := fun i => decide (f (10 * p + i) = u)) (f' := fun i => decide (upd f (10 * p + j) v (10 * p + i) = u)) (t := j) (fun i hi => by
    show decide (upd f (10 * p + j) v (10 * p + i) = u) = _
    rw [pk_un (show 10 * p + i ≠ 10 * p + j by omega)]) k hj
  have e1 : decide (f (10 * p + j) = u) = false := decide_eq_false (fun e => hu (by rw [← e]; exact h0))
  rw [e1, pk_us, if_neg (by decide), Nat.add_zero] at q
  rw [q]
  by_cases c : v = u
  · rw [decide_eq_true c, if_pos rfl, if_pos c]
  · rw [decide_eq_false c, if_neg (by decide), if_neg c]
theorem sdn_o {f : Nat → Int32} {v u : Int32} {p' : Nat} (hj : j < k) (hk : k ≤ 10) (hp : p' ≠ p) : sdn (upd f (10 * p + j) v) p' k u = sdn f p' k u := by
  unfold sdn
  refine cntU_congr (fun i hi => ?_)
  rw [pk_un (show 10 * p' + i ≠ 10 * p + j by omega)]
theorem anF_28 : anF F p j w 28 = upd (F 28) (10 * p + j) (anV w) := by
  unfold anF
  simp only [um, uk_s]
/-- f is the count that grows -/
theorem CPl.rcd {f : Nat} (hP : CPl g S po T F k Ls Pp) (hm : p ∈ Ls) (hj : j < k) (hk : k ≤ 10) (hsd : F 28 (10 * p + j) = 0) (hf : f = if w then 604 else 605) : CPl g (setI (putI S 91 (rA S 603 (Pp p)) (upd (aI S 91 (rA S 603 (Pp p))) j (nI 1))) f (Pp p) (sI S f (Pp p) + nI 1)) po T (anF F p j w) k Ls Pp := by
  obtain ⟨h1, h2, h3, h4⟩ := hP
  have hf2 : f = 604 ∨ f = 605 := by cases w <;> simp at hf <;> omega
  have e5 : anF F p j w 25 = F 25 := anF_n (by decide)
  have e6 : anF F p j w 26 = F 26 := anF_n (by decide)
  have e7 : anF F p j w 27 = F 27 := anF_n (by decide)
  refine ⟨by rw [e5]; exact h1, ?_, fun q hq => ?_, h4⟩
  · obtain ⟨c1, e, c2, c3, c4⟩ := h2
    exact ⟨(sI_n (Or.inl (by omega))).trans c1, e, c2, c3, c4⟩
  · obtain ⟨c1, c2, c3, c4, c5, c6, c7⟩ := h3 q hq
    have hv : nI 1 = bi (!decide (anV w = 0)) := by cases w <;> decide
    refine ⟨c1, ?_, by rw [e6]; exact c3, fun i hi => ?_, fun i hi => ?_, ?_, ?_⟩
    · rw [sI_n (Or.inl (by omega)), e5]; exact c2
    · rw [e7]
      show aI (putI S 91 _ _) 39 (rA S 602 (Pp q)) i = _
      rw [aI_pn (Or.inl (by decide))]; exact c4 i hi
    · show aI (putI S 91 (rA S 603 (Pp p)) _) 91 (rA S 603 (Pp q)) i = _
      rw [anF_28]
      by_cases c : q = p
      · subst c
        rw [aI_ps]
        by_cases c8 : i = j
        · subst c8
          rw [pk_us, pk_us]
          exact hv
        · rw [pk_un c8, pk_un (show 10 * q + i ≠ 10 * q + j by omega)]
          exact c5 i hi
      · rw [aI_pn (Or.inr (fun e => c (h4 q hq p hm (Or.inr e))))]
        rw [pk_un (show 10 * q + i ≠ 10 * p + j by omega)]
        exact c5 i hi
    · rw [anF_28]
      by_cases c : q = p
      · subst c
        rw [sdn_s hj hsd (by decide)]
        cases w with
        | true =>
          have ef : f = 604 := by simpa using hf
          subst ef
          rw [sI_s, show (if anV true = nI 1 then 1 else 0) = 1 from rfl]
          show sI S 604 (Pp q) + nI 1 = _
          rw [c6]
          exact nI_1 _
        | false =>
          have ef : f = 605 := by simpa using hf
          subst ef
          rw [sI_n (Or.inl (by decide)), show (if anV false = nI 1 then 1 else 0) = 0 from rfl]
          exact c6
      · rw [sI_n (Or.inr (fun e => c (h4 q hq p hm (Or.inl e)))), sdn_o hj hk c]
        exact c6
    · rw [anF_28]
      by_cases c : q = p
      · subst c
        rw [sdn_s hj hsd (by decide)]
        cases w with
        | true =>
          have ef : f = 604 := by simpa using hf
          subst ef
          rw [sI_n (Or.inl (by decide)), show (if anV true = nI 2 then 1 else 0) = 0 from rfl]
          exact c7
        | false =>
          have ef : f = 605 := by simpa using hf
          subst ef
          rw [sI_s, show (if anV false = nI 2 then 1 else 0) = 1 from rfl]
          show sI S 605 (Pp q) + nI 1 = _
          rw [c7]
          exact nI_1 _
      · rw [sI_n (Or.inr (fun e => c (h4 q hq p hm (Or.inl e)))), sdn_o hj hk c]
        exact c7
theorem cx_record (hP : CPl g S po T F k Ls Pp) (hm : p ∈ Ls) (hj : j < k) (hk : k ≤ 10) (hsd : F 28 (10 * p + j) = 0) : Sp l g mX5_record 0 0 [vr (some (Pp p)), vi (nI j), vi (bi w)] S (fun r S' => r = none ∧ CPl g S' po T (anF F p j w) k Ls Pp ∧ Cf po [5] S S') := by
  refine (cl_record (hP.2.2.1 p hm).1 hj hk).mono ?_
  rintro r S' ⟨rfl, rfl⟩
  refine ⟨rfl, ?_, ?_⟩
  · cases w with
    | true => exact hP.rcd hm hj hk hsd rfl
    | false => exact hP.rcd hm hj hk hsd rfl
  · cases w
    · exact (Ag.pi (fun z => z (by decide))).tr (Ag.si (fun z => z (by rw [kf_5 (by omega) (by omega)]; decide)))
    · exact (Ag.pi (fun z => z (by decide))).tr (Ag.si (fun z => z (by rw [kf_5 (by omega) (by omega)]; decide)))
end AnswerC
