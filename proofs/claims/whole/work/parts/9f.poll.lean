/-! The class: poll -/
section PollC
variable {l : Launch} {g : GG} {S S1 S' : hS} {po x pe tp dg go ch n h a k p pp t mi : Nat} {T O Pp : Nat → Nat} {M F : MM} {G : Nat → Int32} {X : Int64} {L Ls : List Nat} {v : Int32} {wt : Nat → Nat}
theorem cpl_add (hP : CPl g S po T F k Ls Pp) (hk : k ≤ 10) (hop : opn (F 25) ≠ 6) (hv : ¬ v < 0) (hAg : Ag (fun f _ => 600 ≤ f ∧ f < 700) (fun f _ => 600 ≤ f ∧ f < 700) (fun r _ => r = 39 ∨ r = 91) S S1) (hpp : sK S pp = 0) (hda : sK S (rA S1 603 pp) = 0) (hnew : PL S1 T (polF F wt X v t k) k pp (fst6 (F 25))) (hL : LA g S1 po 107 (Ls.length + 1) (va_up (fun i => Pp (Ls.getD i 0)) Ls.length pp)) : CPl g S1 po T (polF F wt X v t k) k (Ls ++ [fst6 (F 25)]) (va_up Pp (fst6 (F 25)) pp) := by
  obtain ⟨hp6, hneg⟩ := fst6_free hop
  obtain ⟨⟨h1, h2, h3⟩, h4, h5, h6⟩ := hP
  have hnot : fst6 (F 25) ∉ Ls := fun hm => (h1 _ hp6).mp hm hneg
  have hne : ∀ q ∈ Ls, q ≠ fst6 (F 25) := fun q hq e => hnot (by rw [← e]; exact hq)
  have hag : ∀ q ∈ Ls, PL S1 T F k (Pp q) q ∧ rA S1 603 (Pp q) = rA S 603 (Pp q) := fun q hq => (h5 q hq).ag hAg (fun f f1 f2 y => ⟨⟨f1, f2⟩, f1, f2⟩) (fun y => ⟨Or.inl rfl, Or.inr rfl⟩)
  have sep : ∀ q ∈ Ls, ¬ (Pp q = pp ∨ rA S1 603 (Pp q) = rA S1 603 pp) := fun q hq e => by
    rcases e with e | e
    · have := (h5 q hq).1.1
      rw [e, hpp] at this
      cases this
    · have := (h5 q hq).1.2.2.2.2.1
      rw [← (hag q hq).2, e, hda] at this
      cases this
  refine ⟨⟨fun q hq => ?_, ?_, fun q hq => ?_⟩, ?_, fun q hq => ?_, fun q hq q' hq' e => ?_⟩
  · rw [polF_25]
    by_cases c : q = fst6 (F 25)
    · rw [c, pk_us]
      exact ⟨fun _ => hv, fun _ => List.mem_append_right _ (List.mem_singleton.mpr rfl)⟩
    · rw [pk_un c, ← h1 q hq]
      exact ⟨fun z => (List.mem_append.mp z).elim id (fun z => absurd (List.mem_singleton.mp z) c), fun z => List.mem_append_left _ z⟩
  · refine List.nodup_append.mpr ⟨h2, by simp, fun a ha b hb => ?_⟩
    rw [List.mem_singleton.mp hb]
    exact hne a ha
  · rcases List.mem_append.mp hq with z | z
    · exact h3 q z
    · rw [List.mem_singleton.mp z]; exact hp6
  · rw [List.length_append]
    refine hL.cg (fun i hi => ?_)
    show va_up Pp (fst6 (F 25)) pp ((Ls ++ [fst6 (F 25)]).getD i 0) = _
    by_cases c : i < Ls.length
    · have e1 : (Ls ++ [fst6 (F 25)]).getD i 0 = Ls.getD i 0 := by
        rw [List.getD_eq_getElem?_getD, List.getD_eq_getElem?_getD, List.getElem?_append_left c]
      rw [e1, va_up_ne _ _ (hne _ (gd_mem c)), va_up_ne _ _ (by omega)]
    · have ei : i = Ls.length := by have : i < Ls.length + 1 := hi; omega
      subst ei
      have e1 : (Ls ++ [fst6 (F 25)]).getD Ls.length 0 = fst6 (F 25) := by
        rw [List.getD_eq_getElem?_getD, List.getElem?_append_right (Nat.le_refl _), Nat.sub_self]
        rfl
      rw [e1, va_up_self, va_up_self]
  · rcases List.mem_append.mp hq with z | z
    · rw [va_up_ne _ _ (hne q z)]
      exact (hag q z).1.pol hk (hne q z)
    · rw [List.mem_singleton.mp z, va_up_self]
      exact hnew
  · rcases List.mem_append.mp hq with z | z <;> rcases List.mem_append.mp hq' with z' | z'
    · rw [va_up_ne _ _ (hne q z), va_up_ne _ _ (hne q' z'), (hag q z).2, (hag q' z').2] at e
      exact h6 q z q' z' e
    · rw [va_up_ne _ _ (hne q z), List.mem_singleton.mp z', va_up_self] at e
      exact absurd e (sep q z)
    · rw [va_up_ne _ _ (hne q' z'), List.mem_singleton.mp z, va_up_self] at e
      exact absurd (e.imp Eq.symm Eq.symm) (sep q' z')
    · rw [List.mem_singleton.mp z, List.mem_singleton.mp z']
end PollC
