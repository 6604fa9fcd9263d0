/-! The class: its choices -/
/-- the choice j lies at co -/
def CHO (S : hS) (F : MM) (G : Nat → Int32) (co j : Nat) : Prop := CO S co (rA S 101 co) (rA S 102 co) ∧ (sI S 100 co = G 3 ∧ sI S 103 co = F 32 j ∧ sI S 104 co = F 33 j ∧ sI S 105 co = (if F 32 j = nI 1 then G 4 else G 5) ∧ sI S 106 co = F 34 j ∧ sI S 107 co = F 37 j ∧ sI S 108 co = F 35 j ∧ sI S 109 co = vts (F 38) j 8 ∧ sI S 110 co = F 36 j) ∧ (∀ c, c < 8 → aI S 41 (rA S 101 co) c = F 38 (8 * j + c)) ∧ ∀ c, c < 8 → aI S 44 (rA S 102 co) c = F 39 (8 * j + c)
def CCh (S : hS) (ch : Nat) (F : MM) (G : Nat → Int32) : Prop := (sK S ch = 100 ∧ sN S ch = 8) ∧ (∀ j, j < 8 → (aR S 100 ch j = none ∧ dlt (nI 0) (F 33 j) = false) ∨ ∃ co, aR S 100 ch j = some co ∧ dlt (nI 0) (F 33 j) = true ∧ CHO S F G co j) ∧ ∀ i j co co', i < 8 → j < 8 → aR S 100 ch i = some co → aR S 100 ch j = some co' → co = co' ∨ rA S 101 co = rA S 101 co' ∨ rA S 102 co = rA S 102 co' → i = j
section ChoiceC
variable {l : Launch} {g : GG} {S S1 S' : hS} {po x pe tp dg go ch n h a k co j : Nat} {F : MM} {G : Nat → Int32} {L : List Nat}
theorem CHO.kp (hP : CHO S F G co j) (hc : Cf po L S S1) (hL : 6 ∉ L) : CHO S1 F G co j ∧ rA S1 101 co = rA S 101 co ∧ rA S1 102 co = rA S 102 co := by
  obtain ⟨⟨a0, a1, a2, ⟨a3, a4⟩, a5, a6⟩, ⟨b0, b1, b2, b3, b4, b5, b6, b7, b8⟩, c1, c2⟩ := hP
  have hx : sK S co ≠ 0 := by rw [a0]; decide
  have hv : sK S (rA S 101 co) ≠ 0 := by rw [a3]; decide
  have hw : sK S (rA S 102 co) ≠ 0 := by rw [a5]; decide
  have hr : ∀ f, 100 ≤ f → f < 200 → sR S1 f co = sR S f co := fun f f1 f2 => hc.r hx (by rw [kf_6 f1 f2]; exact hL)
  have hi : ∀ f, 100 ≤ f → f < 200 → sI S1 f co = sI S f co := fun f f1 f2 => hc.i hx (by rw [kf_6 f1 f2]; exact hL)
  have e1 := rA_eq (S := S) (S1 := S1) (hr 101 (by omega) (by omega))
  have e2 := rA_eq (S := S) (S1 := S1) (hr 102 (by omega) (by omega))
  refine ⟨⟨⟨by rw [hc.k hx]; exact a0, by rw [hr 101 (by omega) (by omega), e1]; exact a1, by rw [hr 102 (by omega) (by omega), e2]; exact a2, ⟨by rw [e1, hc.k hv]; exact a3, by rw [e1, hc.n hv]; exact a4⟩, by rw [e2, hc.k hw]; exact a5, by rw [e2, hc.n hw]; exact a6⟩, ⟨?_, ?_, ?_, ?_, ?_, ?_, ?_, ?_, ?_⟩, fun c hc2 => ?_, fun c hc2 => ?_⟩, e1, e2⟩
  · rw [hi 100 (by omega) (by omega)]; exact b0
  · rw [hi 103 (by omega) (by omega)]; exact b1
  · rw [hi 104 (by omega) (by omega)]; exact b2
  · rw [hi 105 (by omega) (by omega)]; exact b3
  · rw [hi 106 (by omega) (by omega)]; exact b4
  · rw [hi 107 (by omega) (by omega)]; exact b5
  · rw [hi 108 (by omega) (by omega)]; exact b6
  · rw [hi 109 (by omega) (by omega)]; exact b7
  · rw [hi 110 (by omega) (by omega)]; exact b8
  · rw [e1, hc.ai hv (show ka 41 ∉ L from hL)]; exact c1 c hc2
  · rw [e2, hc.ai hw (show ka 44 ∉ L from hL)]; exact c2 c hc2
theorem CCh.kp (hP : CCh S ch F G) (hc : Cf po L S S1) (hL : 6 ∉ L) : CCh S1 ch F G := by
  obtain ⟨⟨h1, h2⟩, h3, h4⟩ := hP
  have hx : sK S ch ≠ 0 := by rw [h1]; decide
  have ea : aR S1 100 ch = aR S 100 ch := hc.ar hx (show ka 100 ∉ L from hL)
  refine ⟨⟨by rw [hc.k hx]; exact h1, by rw [hc.n hx]; exact h2⟩, fun j hj => ?_, fun i j co co' hi hj q1 q2 q3 => ?_⟩
  · rcases h3 j hj with q | ⟨co, q1, q2, q3⟩
    · exact Or.inl (by rw [ea]; exact q)
    · exact Or.inr ⟨co, by rw [ea]; exact q1, q2, (q3.kp hc hL).1⟩
  · rw [ea] at q1 q2
    have g1 : CHO S F G co i := by
      rcases h3 i hi with q | ⟨c, p1, p2, p3⟩
      · rw [q.1] at q1; cases q1
      · rw [p1] at q1; cases q1; exact p3
    have g2 : CHO S F G co' j := by
      rcases h3 j hj with q | ⟨c, p1, p2, p3⟩
      · rw [q.1] at q2; cases q2
      · rw [p1] at q2; cases q2; exact p3
    rw [(g1.kp hc hL).2.1, (g1.kp hc hL).2.2, (g2.kp hc hL).2.1, (g2.kp hc hL).2.2] at q3
    exact h4 i j co co' hi hj q1 q2 q3
end ChoiceC
