/-! The class: a new graph -/
def EL (g : GG) (S : hS) (a : Nat) : Prop := sK S a = 1 ∧ sI S 2 a = nI 0 ∧ sR S 1 a = some (gT g 0)
/-- a new graph, its lists as they lie -/
def GB (g : GG) (S : hS) (go : Nat) (b1 b2 : Int32) (k1 k2 k3 mi t ra pa oa qa sa na : Nat) (O L : Nat → Nat) : Prop :=
  (sK S go = 4 ∧ sI S 300 go = b1 ∧ sI S 301 go = b2) ∧ (sR S 302 go = some k1 ∧ sR S 303 go = some k2 ∧ sR S 304 go = some k3 ∧ sR S 305 go = some mi) ∧ (sK S mi = 38 ∧ sN S mi = 560) ∧ (k1 ≠ k2 ∧ k1 ≠ k3 ∧ k2 ≠ k3) ∧ (∀ i, i < 8 → k1 ≠ L i ∧ k2 ≠ L i ∧ k3 ≠ L i) ∧ GNS g S t ra pa oa qa sa na O L
/-- all but the object go and the lists' own fields and arrays stands -/
abbrev GF (go : Nat) (S S' : hS) : Prop := Ag (fun f x => x ≠ go ∧ 3 ≤ f) (fun f x => x ≠ go ∧ 3 ≤ f) (fun r _ => r < 104) S S'
section GraphN
variable {l : Launch} {g : GG} {S S1 S2 S' : hS} {go mi q a b κ : Nat} {b1 b2 : Int32} {k1 k2 k3 t ra pa oa qa sa na : Nat} {O L : Nat → Nat}
theorem EL.la {f : Nat → Nat} (h : EL g S a) : LA g S a κ 0 f := ⟨h.2.1, gT g 0, h.1, h.2.2, Or.inl ⟨rfl, rfl⟩⟩
theorem EL.fx (h : EL g S a) (hF : Fx S S1) : EL g S1 a := by
  obtain ⟨a1, a2, a3, -⟩ := hF a (by rw [h.1]; decide)
  exact ⟨by rw [a1]; exact h.1, by rw [a2]; exact h.2.1, by rw [a3]; exact h.2.2⟩
theorem EL.sr {f : Nat} {v : Option Nat} (h : EL g S a) (hne : a ≠ b) : EL g (setR S f b v) a := ⟨h.1, h.2.1, by rw [sR_n (Or.inr hne)]; exact h.2.2⟩
theorem EL.au (h : EL g S a) (hA : Au S S1 b κ) (hne : a ≠ b) : EL g S1 a := ⟨by rw [hA.1 a (by rw [h.1]; decide)]; exact h.1, by rw [hA.2.2.1 2 a (fun q => hne q.1)]; exact h.2.1, by rw [hA.2.2.2.1 1 a (fun q => hne q.1)]; exact h.2.2⟩
/-- a new list -/
theorem al_new (hq : sK S q = 0) (e : S1 = setR (setI (newO S q 1) 0 q (nI 0)) 1 q (some (gT g 0))) : Fx S S1 ∧ EL g S1 q := by
  subst e
  refine ⟨(Fx.no hq).z hq ((Fz.si Fz.rf).sr), sK_nos, ?_, sR_s⟩
  show sI (setI (newO S q 1) 0 q (nI 0)) 2 q = nI 0
  rw [sI_n (Or.inl (by decide))]
  exact sI_nos
theorem gf_au (hκ : 104 ≤ κ) (h : Au S S1 b κ) : GF go S S1 := Au.ag h ⟨fun q => by omega, fun q => by omega⟩ (fun q => by omega) (fun x q => by omega)
theorem ON.au {oo lo : Nat} {am : Int32} (h : ON g S oo lo am) (hA : Au S S1 b κ) (hne : lo ≠ b) : ON g S1 oo lo am := by
  obtain ⟨h1, h2, h3, ⟨h4, h5, h6, h7⟩, h8, h9, h10⟩ := h
  have ko : sK S oo ≠ 0 := by rw [h1]; decide
  refine ⟨by rw [hA.1 _ ko]; exact h1, by rw [hA.2.2.1 _ _ (by omega)]; exact h2, by rw [hA.2.2.2.1 _ _ (by omega)]; exact h3, ⟨by rw [hA.2.2.2.1 _ _ (by omega)]; exact h4, by rw [hA.2.2.2.1 _ _ (by omega)]; exact h5, by rw [hA.2.2.2.1 _ _ (by omega)]; exact h6, by rw [hA.2.2.1 _ _ (by omega)]; exact h7⟩, by rw [hA.1 _ (by rw [h8]; decide)]; exact h8, by rw [hA.2.2.1 _ _ (fun q => hne q.1)]; exact h9, by rw [hA.2.2.2.1 _ _ (fun q => hne q.1)]; exact h10⟩
theorem GB.au (h : GB g S go b1 b2 k1 k2 k3 mi t ra pa oa qa sa na O L) (hA : Au S S1 b κ) (hκ : 104 ≤ κ) (hL : ∀ i, i < 8 → L i ≠ b) : GB g S1 go b1 b2 k1 k2 k3 mi t ra pa oa qa sa na O L := by
  obtain ⟨⟨a1, a2, a3⟩, ⟨c1, c2, c3, c4⟩, ⟨m1, m2⟩, d1, d2, ⟨⟨t1, t2⟩, ⟨u1, u2, u3⟩, ⟨v1, v2, v3, v4, v5⟩, ⟨w1, w2, w3, w4⟩, x1, ⟨y1, y2, y3⟩, ⟨z1, z2, z3⟩, ⟨p1, p2, p3, p4⟩, ⟨i1, i2, i3, i4, i5⟩, j1⟩⟩ := h
  have fI : ∀ f x, 3 ≤ f → sI S1 f x = sI S f x := fun f x q => hA.2.2.1 f x (by omega)
  have fR : ∀ f x, 3 ≤ f → sR S1 f x = sR S f x := fun f x q => hA.2.2.2.1 f x (by omega)
  have kz : ∀ x κ', sK S x = κ' → κ' ≠ 0 → sK S1 x = κ' := fun x κ' q1 q2 => by rw [hA.1 x (by rw [q1]; exact q2)]; exact q1
  have nz : ∀ x κ' N, sK S x = κ' → κ' ≠ 0 → sN S x = N → sN S1 x = N := fun x κ' N q1 q2 q3 => by rw [hA.2.2.2.2.2.1 x (by rw [q1]; exact q2)]; exact q3
  refine ⟨⟨kz _ _ a1 (by decide), by rw [fI _ _ (by omega)]; exact a2, by rw [fI _ _ (by omega)]; exact a3⟩, ⟨by rw [fR _ _ (by omega)]; exact c1, by rw [fR _ _ (by omega)]; exact c2, by rw [fR _ _ (by omega)]; exact c3, by rw [fR _ _ (by omega)]; exact c4⟩, ⟨kz _ _ m1 (by decide), nz _ _ _ m1 (by decide) m2⟩, d1, d2, ⟨kz _ _ t1 (by decide), by rw [fI _ _ (by omega)]; exact t2⟩, ⟨by rw [fR _ _ (by omega)]; exact u1, kz _ _ u2 (by decide), nz _ _ _ u2 (by decide) u3⟩, ⟨by rw [fR _ _ (by omega)]; exact v1, by rw [fR _ _ (by omega)]; exact v2, by rw [fR _ _ (by omega)]; exact v3, kz _ _ v4 (by decide), nz _ _ _ v4 (by decide) v5⟩, ⟨by rw [fR _ _ (by omega)]; exact w1, kz _ _ w2 (by decide), nz _ _ _ w2 (by decide) w3, fun i hi => ?_⟩, fun i hi => (x1 i hi).au hA (hL i hi), ⟨by rw [fR _ _ (by omega)]; exact y1, kz _ _ y2 (by decide), nz _ _ _ y2 (by decide) y3⟩, ⟨by rw [fR _ _ (by omega)]; exact z1, kz _ _ z2 (by decide), nz _ _ _ z2 (by decide) z3⟩, ⟨by rw [fR _ _ (by omega)]; exact p1, kz _ _ p2 (by decide), nz _ _ _ p2 (by decide) p3, ?_⟩, ⟨by rw [fI _ _ (by omega)]; exact i1, by rw [fI _ _ (by omega)]; exact i2, by rw [fI _ _ (by omega)]; exact i3, by rw [fI _ _ (by omega)]; exact i4, by rw [fI _ _ (by omega)]; exact i5⟩, j1⟩
  · rw [hA.2.2.2.2.2.2.2.2 101 oa (by rw [w2]; decide) (by omega)]; exact w4 i hi
  · rw [hA.2.2.2.2.2.2.2.1 80 na (by rw [p2]; decide)]; exact p4
theorem oV_0 {s : Nat} (h : oV M0 1 s) : s < 8 := by
  obtain ⟨t, i, h1, h2, h3⟩ := h
  have : t = 0 := by omega
  subst this
  exact h3.symm ▸ h2
theorem lV_0 {j : Nat} (h : lV M0 1 j) : j = 0 ∨ j = 1 ∨ j = 2 ∨ j = 3 ∨ ∃ s, s < 8 ∧ j = 4 + s := by
  rcases h with h | ⟨h1, h2⟩
  · omega
  · exact Or.inr (Or.inr (Or.inr (Or.inr ⟨j - 4, oV_0 h2, by omega⟩)))
theorem m22_0 {s : Nat} (h : s < 8) : M0 22 s = -1 := by show (if s < 564 then _ else _) = _; rw [if_pos (by omega)]
theorem m23_0 {s : Nat} (h : s < 8) : M0 23 s = -1 := by show (if s < 564 then _ else _) = _; rw [if_pos (by omega)]
theorem rA_some {f x y : Nat} (h : sR S f x = some y) : rA S f x = y := by unfold rA; rw [h]; rfl
theorem GB.cr {po : Nat} (h : GB g S go b1 b2 k1 k2 k3 mi t ra pa oa qa sa na O L) (h1 : LA g S k1 104 1 (fun _ => t)) (h2 : LA g S k2 105 1 (fun _ => t)) (h3 : LA g S k3 106 1 (fun _ => t)) (hpo : sK S po = 0) : CG g S po go (fun _ => t) O M0 1 1 1 := by
  obtain ⟨⟨a1, a2, a3⟩, ⟨c1, c2, c3, c4⟩, ⟨m1, m2⟩, d1, d2, ⟨⟨t1, t2⟩, ⟨u1, u2, u3⟩, ⟨v1, v2, v3, v4, v5⟩, ⟨w1, w2, w3, w4⟩, x1, ⟨y1, y2, y3⟩, ⟨z1, z2, z3⟩, ⟨p1, p2, p3, p4⟩, ⟨i1, i2, i3, i4, i5⟩, j1⟩⟩ := h
  have l0 : lad S po go O 0 = k1 := rA_some c1
  have l1 : lad S po go O 1 = k2 := rA_some c2
  have l2 : lad S po go O 2 = k3 := rA_some c3
  have l3 : lad S po go O 3 = po := rfl
  have l4 : ∀ s, s < 8 → lad S po go O (4 + s) = L s := fun s hs => by rw [lad4]; exact rA_some (x1 s hs).2.2.1
  have np : ∀ y, sK S y ≠ 0 → y ≠ po := fun y hy => ne_kq hpo hy
  have n1 : k1 ≠ po := np _ (by rw [h1.k]; decide)
  have n2 : k2 ≠ po := np _ (by rw [h2.k]; decide)
  have n3 : k3 ≠ po := np _ (by rw [h3.k]; decide)
  have n4 : ∀ i, i < 8 → L i ≠ po := fun i hi => np _ (by rw [(x1 i hi).2.2.2.2.1]; decide)
  refine ⟨⟨⟨a1, by rw [rA_some c1]; exact c1, by rw [rA_some c2]; exact c2, by rw [rA_some c3]; exact c3, by rw [rA_some c4]; exact c4, by rw [rA_some c4]; exact m1, by rw [rA_some c4]; exact m2⟩, fun u hu => ?_, fun u i hu hi => ?_, fun u u' hu hu' _ => by omega, fun s s' hs hs' e => (j1 s s' (oV_0 hs) (oV_0 hs')).1 e, fun j j' hj hj' e => ?_⟩, fun u hu => ?_, ⟨fun k hk => ?_, fun u hu e => ?_⟩, fun s hs => ?_, ⟨?_, ?_, ?_, fun s hs => ?_⟩, fun k hk => ?_, fun k hk j hj => ?_, fun u hu e => ?_⟩
  · have : u = 0 := by omega
    subst this
    refine ⟨⟨t1, t2⟩, ⟨⟨by rw [rA_some u1]; exact u1, by rw [rA_some u1]; exact u2, by rw [rA_some u1]; exact u3⟩, fun i hi => absurd hi (Nat.not_lt_zero _)⟩, ⟨by rw [rA_some v1]; exact v1, by rw [rA_some v1, v4]; decide, by rw [rA_some v1]; exact v5, fun i hi => absurd hi (Nat.not_lt_zero _)⟩, ⟨by rw [rA_some v2]; exact v2, by rw [rA_some v2, v4]; decide, by rw [rA_some v2]; exact v5, fun i hi => absurd hi (Nat.not_lt_zero _)⟩, ⟨by rw [rA_some v3]; exact v3, by rw [rA_some v3, v4]; decide, by rw [rA_some v3]; exact v5, fun i hi => absurd hi (Nat.not_lt_zero _)⟩, ⟨⟨by rw [rA_some w1]; exact w1, by rw [rA_some w1]; exact w2, by rw [rA_some w1]; exact w3⟩, fun i hi => ?_⟩, ⟨by rw [rA_some y1]; exact y1, by rw [rA_some y1]; exact y2, by rw [rA_some y1]; exact y3⟩, ⟨by rw [rA_some z1]; exact z1, by rw [rA_some z1]; exact z2, by rw [rA_some z1]; exact z3⟩, ⟨by rw [rA_some p1]; exact p1, by rw [rA_some p1]; exact p2, by rw [rA_some p1]; exact p3⟩⟩
    rw [rA_some w1]; exact w4 i hi
  · have : u = 0 := by omega
    subst this
    obtain ⟨q1, q2, q3, -⟩ := x1 i hi
    exact ⟨q1, q2, by show sR S 401 (O i) = some (rA S 401 (O i)); rw [rA_some q3]; exact q3⟩
  · rcases lV_0 hj with rfl | rfl | rfl | rfl | ⟨s, hs, rfl⟩ <;> rcases lV_0 hj' with rfl | rfl | rfl | rfl | ⟨s', hs', rfl⟩ <;> first
      | rfl
      | (rw [l0, l1] at e; exact absurd e d1.1)
      | (rw [l1, l0] at e; exact absurd e.symm d1.1)
      | (rw [l0, l2] at e; exact absurd e d1.2.1)
      | (rw [l2, l0] at e; exact absurd e.symm d1.2.1)
      | (rw [l1, l2] at e; exact absurd e d1.2.2)
      | (rw [l2, l1] at e; exact absurd e.symm d1.2.2)
      | (rw [l0, l3] at e; exact absurd e n1)
      | (rw [l3, l0] at e; exact absurd e.symm n1)
      | (rw [l1, l3] at e; exact absurd e n2)
      | (rw [l3, l1] at e; exact absurd e.symm n2)
      | (rw [l2, l3] at e; exact absurd e n3)
      | (rw [l3, l2] at e; exact absurd e.symm n3)
      | (rw [l4 s hs, l4 s' hs'] at e; rw [(j1 s s' hs hs').2 e])
      | (rw [l0, l4 s' hs'] at e; exact absurd e (d2 s' hs').1)
      | (rw [l4 s hs, l0] at e; exact absurd e.symm (d2 s hs).1)
      | (rw [l1, l4 s' hs'] at e; exact absurd e (d2 s' hs').2.1)
      | (rw [l4 s hs, l1] at e; exact absurd e.symm (d2 s hs).2.1)
      | (rw [l2, l4 s' hs'] at e; exact absurd e (d2 s' hs').2.2)
      | (rw [l4 s hs, l2] at e; exact absurd e.symm (d2 s hs).2.2)
      | (rw [l3, l4 s' hs'] at e; exact absurd e.symm (n4 s' hs'))
      | (rw [l4 s hs, l3] at e; exact absurd e (n4 s hs))
  · have : u = 0 := by omega
    subst this
    exact ⟨i2, i3, i4, i5⟩
  · have : k = 0 := by omega
    subst this
    exact i1
  · have : u = 0 := by omega
    subst this
    exact absurd e (by decide)
  · have hs8 := oV_0 hs
    obtain ⟨q1, q2, q3, ⟨q4, q5, q6, q7⟩, -⟩ := x1 s hs8
    have ac0 : acO M0 1 1 s = none := by unfold acO; rfl
    refine ⟨?_, ?_, ?_, q7⟩
    · rw [q4, show favN M0 s = none from by unfold favN; rw [m22_0 hs8, if_pos (by decide)]]; rfl
    · rw [q5, show latN M0 s = none from by unfold latN; rw [m23_0 hs8, if_pos (by decide)]]; rfl
    · rw [q6, ac0]; rfl
  · rw [l0]; exact h1
  · rw [l1]; exact h2
  · rw [l2]; exact h3
  · have hs8 := oV_0 hs
    rw [l4 s hs8]
    obtain ⟨-, -, -, -, q1, q2, q3⟩ := x1 s hs8
    have e0 : mem M0 1 1 s = [] := by unfold mem; rfl
    rw [e0]
    exact EL.la ⟨q1, q2, q3⟩
  · exact ⟨fun i hi => absurd hi (by have : k = 0 := by omega
                                     subst this
                                     exact Nat.not_lt_zero _), fun i hi => absurd hi (by have : k = 0 := by omega
                                                                                         subst this
                                                                                         exact Nat.not_lt_zero _)⟩
  · have : k = 0 := by omega
    subst this
    rw [show rA S 908 ((fun _ => t) (hdN M0 0)) = na from rA_some p1, p4]
    have e0 : abt (fun _ => (0 : Int64)) j = false := by unfold abt; exact bt_zero
    rw [e0]
    by_cases ej : j < 1
    · have : j = 0 := by omega
      subst this
      rfl
    · rw [decide_eq_false ej]; rfl
  · have : u = 0 := by omega
    subst this
    exact absurd e (by decide)
theorem cg_ginit {mi' : Nat} (hM : MIR g mi') (hk : sK S go = 4) : Sp l g mX2_init 30 976 [vr (some go), vi b1, vi b2] S (fun r S' => r = none ∧ ∃ T O, (∀ po, sK S' po = 0 → CG g S' po go T O M0 1 1 1) ∧ sI S' 300 go = b1 ∧ sI S' 301 go = b2 ∧ GF go S S') := by
  refine Sp.start (own := RX2) [(0, vr (some go)), (1, vi b1), (2, vi b2)] (by decide +kernel) rfl rfl (Nat.le_of_ble_eq_true rfl) ?_
  intro J C
  have P2 : ∀ (S1 : hS) (k1 k2 k3 mi t ra pa oa qa sa na : Nat) (O L : Nat → Nat), GB g S1 go b1 b2 k1 k2 k3 mi t ra pa oa qa sa na O L → EL g S1 k1 → EL g S1 k2 → EL g S1 k3 → GF go S S1 → J 60 [(0, vr (some go)), (3, vr (some t))] [] S1 27 676 := by
    intro S1 k1 k2 k3 mi t ra pa oa qa sa na O L hB e1 e2 e3 hF
    have hv : ∀ S2, sK S2 t = 10 → ∃ ci, (ci = 9 ∨ ci = 6) ∧ sK S2 t = ci + 1 := fun S2 q => ⟨9, Or.inl rfl, q⟩
    refine r_aload_n (pc := 60) C dX2_init_60 rfl ?_
    refine r_getR (pc := 61) C dX2_init_61 fx_RX2_21 hB.1.1 hB.2.1.1 ?_
    refine r_aload_n (pc := 64) C dX2_init_64 rfl ?_
    refine r_callV (pc := 65) C (ct_add (κ := 104) (N := 0) (f := fun _ => t) (by omega) (by omega) hM e1.la (fun i hi => absurd hi (Nat.not_lt_zero _)) (hv _ hB.2.2.2.2.2.1.1)) iJx4a65c_add_9ea2d ml_RX2_39 dX2_init_65 (ci := 0) rfl rfl e1.1 rfl (by decide) rfl (by simp [cv, Value.category, va_rf]) (by omega) (by omega) (fun r65 S65 h65 => ?_)
    obtain ⟨rfl, hL1, hA1⟩ := h65
    dsimp only [Option.toList, List.cons_append, List.nil_append]
    have hB1 := hB.au hA1 (by omega) (fun i hi => (hB.2.2.2.2.1 i hi).1.symm)
    have f2 := e2.au hA1 hB.2.2.2.1.1.symm
    have f3 := e3.au hA1 hB.2.2.2.1.2.1.symm
    refine r_pop (pc := 68) C dX2_init_68 rfl ?_
    refine r_aload_n (pc := 69) C dX2_init_69 rfl ?_
    refine r_getR (pc := 70) C dX2_init_70 fx_RX2_25 hB1.1.1 hB1.2.1.2.1 ?_
    refine r_aload_n (pc := 73) C dX2_init_73 rfl ?_
    refine r_callV (pc := 74) C (ct_add (κ := 105) (N := 0) (f := fun _ => t) (by omega) (by omega) hM f2.la (fun i hi => absurd hi (Nat.not_lt_zero _)) (hv _ hB1.2.2.2.2.2.1.1)) iJx4a65c_add_9ea2d ml_RX2_39 dX2_init_74 (ci := 0) rfl rfl f2.1 rfl (by decide) rfl (by simp [cv, Value.category, va_rf]) (by omega) (by omega) (fun r74 S74 h74 => ?_)
    obtain ⟨rfl, hL2, hA2⟩ := h74
    dsimp only [Option.toList, List.cons_append, List.nil_append]
    have hB2 := hB1.au hA2 (by omega) (fun i hi => (hB.2.2.2.2.1 i hi).2.1.symm)
    have g3 := f3.au hA2 hB.2.2.2.1.2.2.symm
    refine r_pop (pc := 77) C dX2_init_77 rfl ?_
    refine r_aload_n (pc := 78) C dX2_init_78 rfl ?_
    refine r_getR (pc := 79) C dX2_init_79 fx_RX2_28 hB2.1.1 hB2.2.1.2.2.1 ?_
    refine r_aload_n (pc := 82) C dX2_init_82 rfl ?_
    refine r_callV (pc := 83) C (ct_add (κ := 106) (N := 0) (f := fun _ => t) (by omega) (by omega) hM g3.la (fun i hi => absurd hi (Nat.not_lt_zero _)) (hv _ hB2.2.2.2.2.2.1.1)) iJx4a65c_add_9ea2d ml_RX2_39 dX2_init_83 (ci := 0) rfl rfl g3.1 rfl (by decide) rfl (by simp [cv, Value.category, va_rf]) (by omega) (by omega) (fun r83 S83 h83 => ?_)
    obtain ⟨rfl, hL3, hA3⟩ := h83
    dsimp only [Option.toList, List.cons_append, List.nil_append]
    have hB3 := hB2.au hA3 (by omega) (fun i hi => (hB.2.2.2.2.1 i hi).2.2.symm)
    refine r_pop (pc := 86) C dX2_init_86 rfl ?_
    refine r_ret (pc := 87) C dX2_init_87 rfl (by omega) (by omega) ?_
    have uf : va_up (fun _ => t) 0 t = fun _ => t := by funext y; unfold va_up; split <;> rfl
    have hL1' := (hL1.au (by omega) hA2 hB.2.2.2.1.1 (by omega)).au (by omega) hA3 hB.2.2.2.1.2.1 (by omega)
    have hL2' := hL2.au (by omega) hA3 hB.2.2.2.1.2.2 (by omega)
    rw [uf] at hL1' hL2' hL3
    refine ⟨rfl, fun _ => t, O, fun po hpo => hB3.cr hL1' hL2' hL3 hpo, hB3.1.2.1, hB3.1.2.2, ((hF.tr (gf_au (by omega) hA1)).tr (gf_au (by omega) hA2)).tr (gf_au (by omega) hA3)⟩
  refine r_aload_n (pc := 0) C dX2_init_0 rfl ?_
  refine r_oinit (pc := 1) C dX2_init_1 ml_RX2_3 (by decide) (by decide) ?_
  refine r_aload_n (pc := 4) C dX2_init_4 rfl ?_
  refine r_iload_n (pc := 5) C dX2_init_5 rfl ?_
  refine r_putI (pc := 6) C dX2_init_6 fx_RX2_9 (fq_3_0 _ rfl rfl) hk ?_
  refine r_aload_n (pc := 9) C dX2_init_9 rfl ?_
  refine r_iload_n (pc := 10) C dX2_init_10 rfl ?_
  refine r_putI (pc := 11) C dX2_init_11 fx_RX2_15 (fq_3_1 _ rfl rfl) hk ?_
  have s0 : sI (setI (setI S 300 go b1) 301 go b2) 300 go = b1 ∧ sI (setI (setI S 300 go b1) 301 go b2) 301 go = b2 := ⟨by rw [sI_n (Or.inl (by decide))]; exact sI_s, sI_s⟩
  have F0 : GF go S (setI (setI S 300 go b1) 301 go b2) := (Ag.si (fun q => q.1 rfl)).tr (Ag.si (fun q => q.1 rfl))
  have K0 : sK (setI (setI S 300 go b1) 301 go b2) go = 4 := hk
  have Z0 : ∀ y, sK (setI (setI S 300 go b1) 301 go b2) y = sK S y := fun _ => rfl
  generalize setI (setI S 300 go b1) 301 go b2 = S0 at s0 F0 K0 Z0 ⊢
  refine r_aload_n (pc := 14) C dX2_init_14 rfl ?_
  refine r_new (pc := 15) C dX2_init_15 (ci := 0) (n := 3) rfl kl_RX2_18 rfl (by omega) (by omega) (fun q15 hq15 => ?_)
  refine r_dup (pc := 18) C dX2_init_18 rfl ?_
  refine r_callI (pc := 19) C (ct_alinit (sK_nos (S := S0) (q := q15) (k := 1))) iJx4a65c_init_da8c8 ml_RX2_20 dX2_init_19 rfl (by decide) rfl (by simp [cv, Value.category, va_rf]) (by omega) (by omega) (fun r19 S19 h19 => ?_)
  obtain ⟨rfl, e19⟩ := h19
  dsimp only [Option.toList, List.cons_append, List.nil_append]
  obtain ⟨X1, E1⟩ := al_new hq15 e19
  have n1 : go ≠ q15 := ne_kq hq15 (by rw [K0]; decide)
  have G1 := X1 go (by rw [K0]; decide)
  clear e19
  refine r_putR (pc := 22) C dX2_init_22 fx_RX2_21 (fq_3_2 _ rfl rfl) (G1.1.trans K0) ?_
  have F1 : GF go S (setR S19 302 go (some q15)) := (F0.tr X1.ag).tr (Ag.sr (fun q => q.1 rfl))
  have E1' : EL g (setR S19 302 go (some q15)) q15 := E1.sr n1.symm
  have K1 : sK (setR S19 302 go (some q15)) go = 4 ∧ sI (setR S19 302 go (some q15)) 300 go = b1 ∧ sI (setR S19 302 go (some q15)) 301 go = b2 ∧ sR (setR S19 302 go (some q15)) 302 go = some q15 := ⟨G1.1.trans K0, (G1.2.1 300).trans s0.1, (G1.2.1 301).trans s0.2, sR_s⟩
  generalize setR S19 302 go (some q15) = S1 at F1 E1' K1 ⊢
  refine r_aload_n (pc := 25) C dX2_init_25 rfl ?_
  refine r_new (pc := 26) C dX2_init_26 (ci := 0) (n := 3) rfl kl_RX2_18 rfl (by omega) (by omega) (fun q26 hq26 => ?_)
  refine r_dup (pc := 29) C dX2_init_29 rfl ?_
  refine r_callI (pc := 30) C (ct_alinit (sK_nos (S := S1) (q := q26) (k := 1))) iJx4a65c_init_da8c8 ml_RX2_20 dX2_init_30 rfl (by decide) rfl (by simp [cv, Value.category, va_rf]) (by omega) (by omega) (fun r30 S30 h30 => ?_)
  obtain ⟨rfl, e30⟩ := h30
  dsimp only [Option.toList, List.cons_append, List.nil_append]
  obtain ⟨X2, E2⟩ := al_new hq26 e30
  have n2 : go ≠ q26 := ne_kq hq26 (by rw [K1.1]; decide)
  have m12 : q15 ≠ q26 := ne_kq hq26 (by rw [E1'.1]; decide)
  have G2 := X2 go (by rw [K1.1]; decide)
  clear e30
  refine r_putR (pc := 33) C dX2_init_33 fx_RX2_25 (fq_3_3 _ rfl rfl) (G2.1.trans K1.1) ?_
  have F2 : GF go S (setR S30 303 go (some q26)) := (F1.tr X2.ag).tr (Ag.sr (fun q => q.1 rfl))
  have E1b : EL g (setR S30 303 go (some q26)) q15 := (E1'.fx X2).sr n1.symm
  have E2' : EL g (setR S30 303 go (some q26)) q26 := E2.sr n2.symm
  have K2 : sK (setR S30 303 go (some q26)) go = 4 ∧ sI (setR S30 303 go (some q26)) 300 go = b1 ∧ sI (setR S30 303 go (some q26)) 301 go = b2 ∧ sR (setR S30 303 go (some q26)) 302 go = some q15 ∧ sR (setR S30 303 go (some q26)) 303 go = some q26 := ⟨G2.1.trans K1.1, (G2.2.1 300).trans K1.2.1, (G2.2.1 301).trans K1.2.2.1, by rw [sR_n (Or.inl (by decide))]; exact (G2.2.2.1 302).trans K1.2.2.2, sR_s⟩
  generalize setR S30 303 go (some q26) = S2 at F2 E1b E2' K2 ⊢
  refine r_aload_n (pc := 36) C dX2_init_36 rfl ?_
  refine r_new (pc := 37) C dX2_init_37 (ci := 0) (n := 3) rfl kl_RX2_18 rfl (by omega) (by omega) (fun q37 hq37 => ?_)
  refine r_dup (pc := 40) C dX2_init_40 rfl ?_
  refine r_callI (pc := 41) C (ct_alinit (sK_nos (S := S2) (q := q37) (k := 1))) iJx4a65c_init_da8c8 ml_RX2_20 dX2_init_41 rfl (by decide) rfl (by simp [cv, Value.category, va_rf]) (by omega) (by omega) (fun r41 S41 h41 => ?_)
  obtain ⟨rfl, e41⟩ := h41
  dsimp only [Option.toList, List.cons_append, List.nil_append]
  obtain ⟨X3, E3⟩ := al_new hq37 e41
  have n3 : go ≠ q37 := ne_kq hq37 (by rw [K2.1]; decide)
  have m13 : q15 ≠ q37 := ne_kq hq37 (by rw [E1b.1]; decide)
  have m23 : q26 ≠ q37 := ne_kq hq37 (by rw [E2'.1]; decide)
  have G3 := X3 go (by rw [K2.1]; decide)
  clear e41
  refine r_putR (pc := 44) C dX2_init_44 fx_RX2_28 (fq_3_4 _ rfl rfl) (G3.1.trans K2.1) ?_
  have F3 : GF go S (setR S41 304 go (some q37)) := (F2.tr X3.ag).tr (Ag.sr (fun q => q.1 rfl))
  have E1c : EL g (setR S41 304 go (some q37)) q15 := (E1b.fx X3).sr n1.symm
  have E2c : EL g (setR S41 304 go (some q37)) q26 := (E2'.fx X3).sr n2.symm
  have E3' : EL g (setR S41 304 go (some q37)) q37 := E3.sr n3.symm
  have K3 : sK (setR S41 304 go (some q37)) go = 4 ∧ sI (setR S41 304 go (some q37)) 300 go = b1 ∧ sI (setR S41 304 go (some q37)) 301 go = b2 ∧ sR (setR S41 304 go (some q37)) 302 go = some q15 ∧ sR (setR S41 304 go (some q37)) 303 go = some q26 ∧ sR (setR S41 304 go (some q37)) 304 go = some q37 := ⟨G3.1.trans K2.1, (G3.2.1 300).trans K2.2.1, (G3.2.1 301).trans K2.2.2.1, by rw [sR_n (Or.inl (by decide))]; exact (G3.2.2.1 302).trans K2.2.2.2.1, by rw [sR_n (Or.inl (by decide))]; exact (G3.2.2.1 303).trans K2.2.2.2.2, sR_s⟩
  generalize setR S41 304 go (some q37) = S3 at F3 E1c E2c E3' K3 ⊢
  refine r_aload_n (pc := 47) C dX2_init_47 rfl ?_
  refine r_sipush (pc := 48) C (nI 560) dX2_init_48 rfl ?_
  refine r_newa (pc := 51) C 38 dX2_init_51 rfl (by decide) (wd_at 53 (by decide +kernel) rfl) (nI_pos (by omega)) (nI_clamp (by omega)) (by omega) (by omega) (by omega) (fun q51 hq51 => ?_)
  have X4 : Fx S3 (newA S3 q51 38 560) := Fx.na hq51
  have n4 : go ≠ q51 := ne_kq hq51 (by rw [K3.1]; decide)
  have G4 := X4 go (by rw [K3.1]; decide)
  refine r_putR (pc := 53) C dX2_init_53 fx_RX2_31 (fq_3_5 _ rfl rfl) (G4.1.trans K3.1) ?_
  have F4 : GF go S (setR (newA S3 q51 38 560) 305 go (some q51)) := (F3.tr X4.ag).tr (Ag.sr (fun q => q.1 rfl))
  have E1d : EL g (setR (newA S3 q51 38 560) 305 go (some q51)) q15 := (E1c.fx X4).sr n1.symm
  have E2d : EL g (setR (newA S3 q51 38 560) 305 go (some q51)) q26 := (E2c.fx X4).sr n2.symm
  have E3d : EL g (setR (newA S3 q51 38 560) 305 go (some q51)) q37 := (E3'.fx X4).sr n3.symm
  have M4 : sK (setR (newA S3 q51 38 560) 305 go (some q51)) q51 = 38 ∧ sN (setR (newA S3 q51 38 560) 305 go (some q51)) q51 = 560 := ⟨sK_nas (n := 560), sN_nas (k := 38)⟩
  have K4 : sK (setR (newA S3 q51 38 560) 305 go (some q51)) go = 4 ∧ sI (setR (newA S3 q51 38 560) 305 go (some q51)) 300 go = b1 ∧ sI (setR (newA S3 q51 38 560) 305 go (some q51)) 301 go = b2 ∧ sR (setR (newA S3 q51 38 560) 305 go (some q51)) 302 go = some q15 ∧ sR (setR (newA S3 q51 38 560) 305 go (some q51)) 303 go = some q26 ∧ sR (setR (newA S3 q51 38 560) 305 go (some q51)) 304 go = some q37 ∧ sR (setR (newA S3 q51 38 560) 305 go (some q51)) 305 go = some q51 := ⟨G4.1.trans K3.1, (G4.2.1 300).trans K3.2.1, (G4.2.1 301).trans K3.2.2.1, by rw [sR_n (Or.inl (by decide))]; exact (G4.2.2.1 302).trans K3.2.2.2.1, by rw [sR_n (Or.inl (by decide))]; exact (G4.2.2.1 303).trans K3.2.2.2.2.1, by rw [sR_n (Or.inl (by decide))]; exact (G4.2.2.1 304).trans K3.2.2.2.2.2, sR_s⟩
  generalize setR (newA S3 q51 38 560) 305 go (some q51) = S4 at F4 E1d E2d E3d M4 K4 ⊢
  refine r_callS (pc := 56) C (cg_genesis) iX2_makeGenesis ml_RX2_35 dX2_init_56 rfl (by decide) rfl (by simp [cv, Value.category, va_rf]) (by omega) (by omega) (fun r56 S56 h56 => ?_)
  obtain ⟨t, ra, pa, oa, qa, sa, na, O, L, rfl, hG, X5, zt, zO⟩ := h56
  dsimp only [Option.toList, List.cons_append, List.nil_append]
  refine r_astore_n (pc := 59) C dX2_init_59 (by decide) rfl ?_
  have G5 := X5 go (by rw [K4.1]; decide)
  have Q5 := X5 q51 (by rw [M4.1]; decide)
  refine r_widen C (k2 := 27) (n2 := 676) (by omega) (by omega) ?_
  refine r_lv C [(0, vr (some go)), (3, vr (some t))] rfl (P2 S56 q15 q26 q37 q51 t ra pa oa qa sa na O L ⟨⟨G5.1.trans K4.1, (G5.2.1 300).trans K4.2.1, (G5.2.1 301).trans K4.2.2.1⟩, ⟨(G5.2.2.1 302).trans K4.2.2.2.1, (G5.2.2.1 303).trans K4.2.2.2.2.1, (G5.2.2.1 304).trans K4.2.2.2.2.2.1, (G5.2.2.1 305).trans K4.2.2.2.2.2.2⟩, ⟨Q5.1.trans M4.1, Q5.2.2.2.2.1.trans M4.2⟩, ⟨m12, m13, m23⟩, fun i hi => ⟨ne_kq (zO i hi).2 (by rw [E1d.1]; decide), ne_kq (zO i hi).2 (by rw [E2d.1]; decide), ne_kq (zO i hi).2 (by rw [E3d.1]; decide)⟩, hG⟩ (E1d.fx X5) (E2d.fx X5) (E3d.fx X5) (F4.tr X5.ag))
end GraphN
