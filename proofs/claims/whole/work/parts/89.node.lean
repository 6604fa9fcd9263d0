/-! The class itself: what its parts are made of (0 the node, 1 peers, 2 tape, 3 digest, 4 graph, 5 open polls, 6 choices, 7 the reference), frames by parts -/
def kf (po f x : Nat) : Nat := if f < 3 then (if x = po then 5 else 4) else if f < 100 then 9 else if f < 200 then 6 else if f < 300 then 3 else if f < 500 then 4 else if f < 600 then 1 else if f < 700 then 5 else if f < 800 then 9 else if f < 900 then 2 else if f < 1000 then 4 else if f < 1100 then 0 else 7
def ka (r : Nat) : Nat := if r = 30 then 1 else if r = 21 then 2 else if r = 31 ∨ r = 32 then 3 else if r = 39 ∨ r = 91 ∨ r = 107 then 5 else if r = 41 ∨ r = 44 ∨ r = 100 then 6 else if r = 22 ∨ r = 33 ∨ r = 34 ∨ r = 35 ∨ r = 38 ∨ (80 ≤ r ∧ r < 85) ∨ 101 ≤ r then 4 else 7
/-- all but the parts of L is as it was -/
abbrev Cf (po : Nat) (L : List Nat) (S S' : hS) : Prop := Ag (fun f x => kf po f x ∉ L) (fun f x => kf po f x ∉ L) (fun r _ => ka r ∉ L) S S'
section Node
variable {l : Launch} {g : GG} {S S1 S' : hS} {po x pe tp dg go ch n h a : Nat} {T O : Nat → Nat} {M F : MM} {G : Nat → Int32} {X : Int64} {L L' : List Nat}
theorem kf_g {f x : Nat} (hh : kf po f x ≠ 4) : oP po f x := by
  unfold kf at hh
  unfold oP
  (repeat' split at hh) <;> omega
theorem ka_g {r x : Nat} (hh : ka r ≠ 4) : oA r x := by
  unfold ka at hh
  unfold oA
  (repeat' split at hh) <;> omega
theorem kf_gi {f x : Nat} (hh : iP po f x) : kf po f x = 4 := by
  unfold iP at hh
  unfold kf
  (repeat' split) <;> omega
theorem ka_gi {r x : Nat} (hh : iA r x) : ka r = 4 := by
  unfold iA at hh
  unfold ka
  (repeat' split) <;> omega
theorem Cf.gr (h : GrF po S S1) : Cf po [4] S S1 := h.mo (fun f x q => kf_g (by simpa using q)) (fun f x q => kf_g (by simpa using q)) (fun f x q => ka_g (by simpa using q))
theorem Cf.up (h : Cf po L S S1) (hL : ∀ c ∈ L, c ∈ L') : Cf po L' S S1 := h.mo (fun f x q z => q (hL _ z)) (fun f x q z => q (hL _ z)) (fun f x q z => q (hL _ z))
theorem Cf.gi (h : Cf po L S S1) (hL : 4 ∉ L) : GiF po S S1 := h.mo (fun f x q => by rw [kf_gi q]; exact hL) (fun f x q => by rw [kf_gi q]; exact hL) (fun f x q => by rw [ka_gi (x := x) q]; exact hL)
/-- the node -/
def NB (S : hS) (x pe tp dg go po ch : Nat) (G : Nat → Int32) : Prop := (sK S x = 11 ∧ sI S 1000 x = G 2 ∧ sI S 1001 x = G 3 ∧ sI S 1002 x = G 4 ∧ sI S 1003 x = G 5) ∧ (sR S 1004 x = some pe ∧ sR S 1005 x = some tp ∧ sR S 1006 x = some dg ∧ sR S 1007 x = some go ∧ sR S 1008 x = some po ∧ sR S 1009 x = some ch) ∧ sI S 1010 x = G 29 ∧ sI S 1011 x = G 30
def CPe (S : hS) (pe : Nat) (F : MM) (X : Int64) : Prop := ∃ wa, PE S pe wa ∧ (∀ p, p < 20 → aI S 30 wa p = F 6 p) ∧ sJ S 501 pe = X
def CTp (S : hS) (tp : Nat) (F : MM) (G : Nat → Int32) : Prop := ∃ ba tl, TP S tp ba ∧ sI S 801 tp = nI tl ∧ tl ≤ 128 ∧ G 8 = nI tl ∧ (∀ i, i < tl → ∃ b, b < 256 ∧ aI S 21 ba i = b8 b ∧ F 7 i = nI b) ∧ ∀ i, i < 128 → fB (aI S 21 ba i)
def CDg (S : hS) (dg : Nat) : Prop := ∃ wa ta, DG S dg wa ta
def CGr (g : GG) (S : hS) (po go : Nat) (T O : Nat → Nat) (M : MM) (G : Nat → Int32) (n h a : Nat) : Prop := CG g S po go T O M n h a ∧ sI S 300 go = G 4 ∧ sI S 301 go = G 5
theorem kf_0 {f x : Nat} (h1 : 1000 ≤ f) (h2 : f < 1100) : kf po f x = 0 := by unfold kf; (repeat' split) <;> omega
theorem kf_1 {f x : Nat} (h1 : 500 ≤ f) (h2 : f < 600) : kf po f x = 1 := by unfold kf; (repeat' split) <;> omega
theorem kf_2 {f x : Nat} (h1 : 800 ≤ f) (h2 : f < 900) : kf po f x = 2 := by unfold kf; (repeat' split) <;> omega
theorem kf_3 {f x : Nat} (h1 : 200 ≤ f) (h2 : f < 300) : kf po f x = 3 := by unfold kf; (repeat' split) <;> omega
theorem kf_4 {f x : Nat} (h1 : 300 ≤ f) (h2 : f < 500) : kf po f x = 4 := by unfold kf; (repeat' split) <;> omega
theorem kf_5 {f x : Nat} (h1 : 600 ≤ f) (h2 : f < 700) : kf po f x = 5 := by unfold kf; (repeat' split) <;> omega
theorem kf_6 {f x : Nat} (h1 : 100 ≤ f) (h2 : f < 200) : kf po f x = 6 := by unfold kf; (repeat' split) <;> omega
theorem kf_7 {f x : Nat} (h1 : 1100 ≤ f) : kf po f x = 7 := by unfold kf; (repeat' split) <;> omega
theorem NB.kp (hN : NB S x pe tp dg go po ch G) (hc : Cf po L S S1) (hL : 0 ∉ L) : NB S1 x pe tp dg go po ch G := by
  obtain ⟨⟨a0, a1, a2, a3, a4⟩, ⟨b0, b1, b2, b3, b4, b5⟩, c1, c2⟩ := hN
  have hx : sK S x ≠ 0 := by rw [a0]; decide
  have hi : ∀ f, 1000 ≤ f → f < 1100 → sI S1 f x = sI S f x := fun f h1 h2 => hc.i hx (by rw [kf_0 h1 h2]; exact hL)
  have hr : ∀ f, 1000 ≤ f → f < 1100 → sR S1 f x = sR S f x := fun f h1 h2 => hc.r hx (by rw [kf_0 h1 h2]; exact hL)
  refine ⟨⟨?_, ?_, ?_, ?_, ?_⟩, ⟨?_, ?_, ?_, ?_, ?_, ?_⟩, ?_, ?_⟩ <;> first | (rw [hc.k hx]; assumption) | (rw [hi _ (by omega) (by omega)]; assumption) | (rw [hr _ (by omega) (by omega)]; assumption)
theorem CPe.kp (hP : CPe S pe F X) (hc : Cf po L S S1) (hL : 1 ∉ L) : CPe S1 pe F X := by
  obtain ⟨wa, ⟨a0, a1, a2, a3⟩, b, c⟩ := hP
  have hx : sK S pe ≠ 0 := by rw [a0]; decide
  have hw : sK S wa ≠ 0 := by rw [a2]; decide
  refine ⟨wa, ⟨by rw [hc.k hx]; exact a0, by rw [hc.r hx (by rw [kf_1 (by omega) (by omega)]; exact hL)]; exact a1, by rw [hc.k hw]; exact a2, by rw [hc.n hw]; exact a3⟩, fun p hp => ?_, ?_⟩
  · rw [hc.ai hw (show ka 30 ∉ L from hL)]; exact b p hp
  · rw [hc.j hx (by rw [kf_1 (by omega) (by omega)]; exact hL)]; exact c
theorem CTp.kp (hP : CTp S tp F G) (hc : Cf po L S S1) (hL : 2 ∉ L) : CTp S1 tp F G := by
  obtain ⟨ba, tl, ⟨a0, a1, a2, a3⟩, b1, b2, b3, b4, b5⟩ := hP
  have hx : sK S tp ≠ 0 := by rw [a0]; decide
  have hw : sK S ba ≠ 0 := by rw [a2]; decide
  refine ⟨ba, tl, ⟨by rw [hc.k hx]; exact a0, by rw [hc.r hx (by rw [kf_2 (by omega) (by omega)]; exact hL)]; exact a1, by rw [hc.k hw]; exact a2, by rw [hc.n hw]; exact a3⟩, ?_, b2, b3, fun i hi => ?_, fun i hi => ?_⟩
  · rw [hc.i hx (by rw [kf_2 (by omega) (by omega)]; exact hL)]; exact b1
  · rw [hc.ai hw (show ka 21 ∉ L from hL)]; exact b4 i hi
  · rw [hc.ai hw (show ka 21 ∉ L from hL)]; exact b5 i hi
theorem CDg.kp (hP : CDg S dg) (hc : Cf po L S S1) (hL : 3 ∉ L) : CDg S1 dg := by
  obtain ⟨wa, ta, a0, a1, a2, ⟨a3, a4⟩, a5, a6⟩ := hP
  have hx : sK S dg ≠ 0 := by rw [a0]; decide
  have hw : sK S wa ≠ 0 := by rw [a3]; decide
  have ht : sK S ta ≠ 0 := by rw [a5]; decide
  exact ⟨wa, ta, by rw [hc.k hx]; exact a0, by rw [hc.r hx (by rw [kf_3 (by omega) (by omega)]; exact hL)]; exact a1, by rw [hc.r hx (by rw [kf_3 (by omega) (by omega)]; exact hL)]; exact a2, ⟨by rw [hc.k hw]; exact a3, by rw [hc.n hw]; exact a4⟩, by rw [hc.k ht]; exact a5, by rw [hc.n ht]; exact a6⟩
theorem CGr.kp (hP : CGr g S po go T O M G n h a) (hG : GV M n h) (hc : Cf po L S S1) (hL : 4 ∉ L) : CGr g S1 po go T O M G n h a := by
  obtain ⟨h1, h2, h3⟩ := hP
  have hx : sK S go ≠ 0 := by rw [h1.pG.gk]; decide
  exact ⟨h1.keep hG.hn (hc.gi hL), by rw [hc.i hx (by rw [kf_4 (by omega) (by omega)]; exact hL)]; exact h2, by rw [hc.i hx (by rw [kf_4 (by omega) (by omega)]; exact hL)]; exact h3⟩
/-- the reference: what lies in its part stays -/
theorem MX.kp {mo : Nat} (hX : MX S mo M F G X n h) (hc : Cf po L S S1) (hL : 7 ∉ L) : MX S1 mo M F G X n h := by
  obtain ⟨⟨⟨a0, a1⟩, b1, b2, b3, b4⟩, c1, c2, c3⟩ := hX
  have hx : sK S mo ≠ 0 := by rw [a0]; decide
  have hr : ∀ k, sR S1 (1100 + k) mo = sR S (1100 + k) mo := fun k => hc.r hx (by rw [kf_7 (by omega)]; exact hL)
  have hi : ∀ k, sI S1 (1100 + k) mo = sI S (1100 + k) mo := fun k => hc.i hx (by rw [kf_7 (by omega)]; exact hL)
  have hm : ∀ k, ma S1 mo k = ma S mo k := fun k => by unfold ma; rw [hr k]
  have hkd : ∀ k ∈ mks, ka (mkd k) = 7 ∧ mkd k ≠ 0 := by decide
  have hmm : ∀ k n, (k, n) ∈ marrs → k ∈ mks := fun k n q => List.mem_map.mpr ⟨(k, n), q, rfl⟩
  have hnz : ∀ k ∈ mks, sK S (ma S mo k) ≠ 0 := fun k hk => by
    obtain ⟨q, hq, e⟩ := List.mem_map.mp hk
    obtain ⟨k', n'⟩ := q
    cases e
    rw [(a1 k' n' hq).2.1]
    exact (hkd k' hk).2
  have hI : ∀ k ∈ mks, mI S1 mo k = mI S mo k := fun k hk => by
    show aI S1 (mkd k) (ma S1 mo k) = aI S (mkd k) (ma S mo k)
    rw [hm k]
    exact hc.ai (hnz k hk) (by rw [(hkd k hk).1]; exact hL)
  refine ⟨⟨⟨by rw [hc.k hx]; exact a0, fun k n' hk => ?_⟩, by rw [hi 9]; exact b1, by rw [hi 17]; exact b2, fun k hk => ?_, b4⟩, fun k hk => ?_, ?_, ?_⟩
  · obtain ⟨q1, q2, q3⟩ := a1 k n' hk
    have hz := hnz k (hmm k n' hk)
    exact ⟨by rw [hr k, hm k]; exact q1, by rw [hm k, hc.k hz]; exact q2, by rw [hm k, hc.n hz]; exact q3⟩
  · rw [hI k ((by decide : ∀ k ∈ gk, k ∈ mks) k hk)]; exact b3 k hk
  · rw [hI k ((by decide : ∀ k ∈ ek, k ∈ mks) k hk)]; exact c1 k hk
  · funext k
    show sI S1 (1100 + k) mo = G k
    rw [hi k, ← c2]
    rfl
  · rw [hc.j hx (by rw [kf_7 (by omega)]; exact hL)]; exact c3
/-- and what the reference does leaves the class alone -/
theorem Rf.cf {mo : Nat} (h : Rf S S1 mo) : Cf po [7] S S1 := by
  obtain ⟨F, G, X, rfl⟩ := h
  intro y _
  refine ⟨rfl, rfl, fun f hf => ⟨?_, ?_⟩, fun f _ => rfl, fun r hr => ⟨?_, rfl, rfl⟩⟩
  · show (if 1100 ≤ f ∧ y = mo then G (f - 1100) else sI S f y) = _
    rw [if_neg (fun q => hf (by rw [kf_7 q.1]; decide))]
  · show (if f = 1101 ∧ y = mo then X else sJ S f y) = _
    rw [if_neg (fun q => hf (by rw [kf_7 (by omega)]; decide))]
  · show (match rk r with
      | some k => if y = ma S mo k then F k else aI S r y
      | none => aI S r y) = aI S r y
    cases e : rk r with
    | none => rfl
    | some k =>
      obtain ⟨e1, e2⟩ := mkd_rk e
      exact absurd (by rw [← e1, (show ∀ k ∈ mks, ka (mkd k) = 7 by decide) k e2]; decide) hr
theorem Fdg.cf (h : Fdg S S1) : Cf po [3] S S1 := fun y hy => by
  obtain ⟨a1, a2, a3, a4, a5, a6, a7, a8⟩ := h y hy
  exact ⟨a1, a5, fun f _ => ⟨a2 f, a4 f⟩, fun f _ => a3 f, fun r hr => ⟨a6 r (fun e => hr (by rw [e]; decide)) (fun e => hr (by rw [e]; decide)), a7 r, a8 r⟩⟩
theorem cx_weigh {p w : Int32} (hN : NB S x pe tp dg go po ch G) (hP : CPe S pe F X) : Sp l g mX9_weigh 0 0 [vr (some x), vi p, vi w] S (fun r S' => ∃ q : Bool, (q = true ↔ ((¬ p < 0 ∧ ¬ nI 20 ≤ p) ∧ ¬ w < 0 ∧ ¬ nI 1000 < w)) ∧ r = some (vi (bi q)) ∧ CPe S' pe (if q then um F 6 p.toNatClampNeg w else F) X ∧ Cf po [1] S S') := by
  obtain ⟨wa, hPE, hw, hX⟩ := hP
  refine Sp.start (own := RX9) [(0, vr (some x)), (1, vi p), (2, vi w)] (by decide +kernel) rfl rfl (Nat.le_of_ble_eq_true rfl) ?_
  intro J C
  refine r_aload_n (pc := 0) C dX9_weigh_0 rfl ?_
  refine r_getR (pc := 1) C dX9_weigh_1 fx_RX9_27 hN.1.1 hN.2.1.1 ?_
  refine r_iload_n (pc := 4) C dX9_weigh_4 rfl ?_
  refine r_iload_n (pc := 5) C dX9_weigh_5 rfl ?_
  refine r_callV (pc := 6) C (cl_weigh hPE) iX4_changeWeight ml_RX9_73 dX9_weigh_6 (ci := 5) rfl rfl hPE.1 rfl (by decide) rfl (by simp [cv, Value.category, va_rf]) (by omega) (by omega) (fun r6 S6 h6 => ?_)
  obtain ⟨q, hq, rfl, rfl⟩ := h6
  dsimp only [Option.toList, List.cons_append, List.nil_append]
  refine r_zret (pc := 9) C dX9_weigh_9 rfl (bi_01 q) (by omega) (by omega) ?_
  refine ⟨q, hq, rfl, ?_, ?_⟩
  · cases q
    · exact ⟨wa, hPE, hw, hX⟩
    · refine ⟨wa, hPE, fun i hi => ?_, hX⟩
      show aI (putI S 30 wa _) 30 wa i = _
      rw [aI_ps]
      show upd (aI S 30 wa) p.toNatClampNeg w i = um F 6 p.toNatClampNeg w 6 i
      simp only [um, uk_s, upd]
      split
      · rfl
      · exact hw i hi
  · cases q
    · exact Ag.rf
    · exact Ag.pi (fun z => z (by decide))
end Node
