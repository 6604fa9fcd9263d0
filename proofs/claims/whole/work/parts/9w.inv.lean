/-! What the law's loop carries -/
def CB (g : GG) (S : hS) (x pe tp dg go po ch : Nat) (T O : Nat → Nat) (M F : MM) (G : Nat → Int32) (X : Int64) (n h a k : Nat) (Ls : List Nat) (Pp : Nat → Nat) : Prop := NB S x pe tp dg go po ch G ∧ CPe S pe F X ∧ CTp S tp F G ∧ CDg S dg ∧ CGr g S po go T O M G n h a ∧ CPl g S po T F k Ls Pp ∧ CCh S ch F G
def OU (S : hS) (ou : Nat) : Prop := sK S ou = 81 ∧ sN S ou = 1
def PVt (F : MM) : Prop := ∃ tb : Nat → Nat, (∀ i, tb i < 256) ∧ ∀ i, i < 128 → F 7 i = nI (tb i)
def PVw (F : MM) : Prop := ∃ wt : Nat → Nat, (∀ p, p < 20 → F 6 p = nI (wt p)) ∧ ∀ p, wt p ≤ 1000
def PVg (G : Nat → Int32) (a k al tn c : Nat) : Prop := G 2 = nI k ∧ k ≤ 10 ∧ G 3 = nI al ∧ k < 2 * al ∧ al ≤ k ∧ G 8 = nI tn ∧ tn ≤ 128 ∧ G 19 = nI a ∧ ∃ np, G 29 = nI np ∧ np ≤ c
def PV (M F : MM) (G : Nat → Int32) (n h a k al tn c : Nat) : Prop :=
  (PI M n h a ∧ FRS M n ∧ n ≤ c + 1 ∧ c ≤ 64) ∧ (AB M F n h ∧ CPd M n) ∧ (Nu F ∧ NX F (G 29) ∧ Ds F k ∧ YS F k al) ∧ (CH F ∧ VI F k) ∧ (PVt F ∧ PVw F) ∧ PVg G a k al tn c ∧ F 41 = rdT ∧ F 42 = stT
def INV (g : GG) (S : hS) (x mo ou c : Nat) : Prop := ∃ pe tp dg go po ch T O M F G X n h a k al tn Ls Pp, CB g S x pe tp dg go po ch T O M F G X n h a k Ls Pp ∧ MX S mo M F G X n h ∧ OU S ou ∧ PV M F G n h a k al tn c
/-- what a call of the class and then of the reference give -/
def Two (l : Launch) (g : GG) (mo : Nat) (d1 d2 : MD) (mc ms : Nat) (A1 A2 : List AV) (S : hS) (Q : hS → Prop) : Prop := Sp l g d1 mc ms A1 S (fun r S1 => ∃ v, r = some (vi v) ∧ sK S1 mo = 12 ∧ Sp l g d2 0 0 A2 S1 (fun r2 S2 => r2 = some (vi v) ∧ Q S2))
def HS (l : Launch) (g : GG) (dm : MD) (Am : List AV) (mo ou : Nat) (R : Int32 → Prop) (Q : hS → Prop) (r : Option AV) (S1 : hS) : Prop := ∃ kk : Nat, kk < 3 ∧ r = some (vi (nI kk)) ∧ sK S1 mo = 12 ∧ Sp l g dm 0 0 Am S1 (fun r2 S2 => ∃ b, r2 = some (vi b) ∧ R b ∧ sK S2 mo = 12 ∧ Sp l g mX10_thrown 0 0 [vr (some mo)] S2 (fun r3 S3 => r3 = some (vi (nI kk)) ∧ (kk = 0 → aJ S3 81 ou 0 = b.toInt64) ∧ Q S3))
section Inv
variable {l : Launch} {g : GG} {S S1 S2 S' : hS} {x pe tp dg go po ch mo ou n h h' a k al tn c c' mi : Nat} {T O Pp : Nat → Nat} {M F M' F' : MM} {G G' : Nat → Int32} {X X' : Int64} {Ls L : List Nat} {v : Int32}
theorem SpH.mono {d : MD} {hh : HT} {mc ms : Nat} {av : List AV} {P Q : Option AV → hS → Prop} (h : SpH l g d hh mc ms av S P) (hq : ∀ r S', P r S' → Q r S') : SpH l g d hh mc ms av S Q := by
  intro p e a1 a2 a3 s m args below h1 h2 h3 h4
  obtain ⟨n, o, b1, b2, b3, ⟨r, S', c1, c2, c3, c4⟩, b5⟩ := h p e a1 a2 a3 s m args below h1 h2 h3 h4
  exact ⟨n, o, b1, b2, b3, ⟨r, S', c1, hq r S' c2, c3, c4⟩, b5⟩
theorem OU.kp (h : OU S ou) (hc : Cf po L S S1) : OU S1 ou := by
  have hx : sK S ou ≠ 0 := by rw [h.1]; decide
  exact ⟨by rw [hc.k hx]; exact h.1, by rw [hc.n hx]; exact h.2⟩
theorem CB.kp (h : CB g S x pe tp dg go po ch T O M F G X n h' a k Ls Pp) (hG : GV M n h') (hc : Cf po [7] S S1) : CB g S1 x pe tp dg go po ch T O M F G X n h' a k Ls Pp := by
  obtain ⟨a1, a2, a3, a4, a5, a6, a7⟩ := h
  exact ⟨a1.kp hc (by decide), a2.kp hc (by decide), a3.kp hc (by decide), a4.kp hc (by decide), a5.kp hG hc (by decide), a6.kp hc (by decide), a7.kp hc (by decide)⟩
/-- the law's own array is written -/
theorem CB.out {f : Nat → Int64} (h : CB g S x pe tp dg go po ch T O M F G X n h' a k Ls Pp) (hG : GV M n h') : CB g (putJ S 81 ou f) x pe tp dg go po ch T O M F G X n h' a k Ls Pp := by
  obtain ⟨a1, a2, a3, a4, ⟨a5, a8, a9⟩, a6, a7⟩ := h
  have hc : Cf po [4] S (putJ S 81 ou f) := Ag.pj (fun z => z (by decide))
  exact ⟨a1.kp hc (by decide), a2.kp hc (by decide), a3.kp hc (by decide), a4.kp hc (by decide), ⟨a5.keep hG.hn (Ag.pj (by unfold iA; omega)), a8, a9⟩, a6.kp hc (by decide), a7.kp hc (by decide)⟩
theorem INV.mk' (hB : CB g S1 x pe tp dg go po ch T O M F G X n h a k Ls Pp) (hO : OU S1 ou) (hX : MX S2 mo M F G X n h) (hR : Rf S1 S2 mo) (hV : PV M F G n h a k al tn c) : INV g S2 x mo ou c :=
  ⟨pe, tp, dg, go, po, ch, T, O, M, F, G, X, n, h, a, k, al, tn, Ls, Pp, hB.kp hV.1.1.1.1 hR.cf, hX, hO.kp (po := po) hR.cf, hV⟩
theorem PV.up (hV : PV M F G n h a k al tn c) (hc : c < 64) : PV M F (upd G 0 v) n h a k al tn (c + 1) := by
  obtain ⟨⟨p1, p2, p3, p4⟩, q, r, s, t, ⟨g1, g2, g3, g4, g5, g6, g7, g8, np, g9, g10⟩, f⟩ := hV
  exact ⟨⟨p1, p2, by omega, by omega⟩, q, r, s, t, ⟨g1, g2, g3, g4, g5, g6, g7, g8, np, g9, by omega⟩, f⟩
theorem CB.g0 (h : CB g S x pe tp dg go po ch T O M F G X n h' a k Ls Pp) : CB g S x pe tp dg go po ch T O M F (upd G 0 v) X n h' a k Ls Pp := h
/-- nothing but what was thrown has changed -/
theorem INV.same (hB : CB g S1 x pe tp dg go po ch T O M F G X n h a k Ls Pp) (hO : OU S1 ou) (hX : MX S2 mo M F (upd G 0 v) X n h) (hR : Rf S1 S2 mo) (hV : PV M F G n h a k al tn c) (hc : c < 64) : INV g S2 x mo ou (c + 1) := INV.mk' hB.g0 hO hX hR (hV.up hc)
theorem PI.hq (hP : PI M n h a) : Hq M n h := fun t ht q => by
  rw [hP.hv ht] at q
  obtain ⟨k, hk, rfl⟩ := hdB_iff.mp q
  refine ⟨(hP.1.1.2.2.2 k hk).2, fun b hb z => ?_⟩
  obtain ⟨j, hj, rfl⟩ := anc_lt hP.1.2.1 k hk b z
  exact (hP.1.1.2.2.2 j (by omega)).2
theorem PI.a65 (hP : PI M n h a) (hn : n ≤ 65) : a ≤ 65 := by have := hP.1.2.2.2.2.2.2; have := @c3_le M n; omega
theorem MX.km (hX : MX S mo M F G X n h) : sK S mo = 12 := hX.1.1.1
/-- after a throw -/
theorem hs_throw {dm : MD} {Am : List AV} {kk : Nat} {v : Int32} {R : Int32 → Prop} {P : hS → Prop} (hr : R v) (hk : 1 ≤ kk) (hk2 : kk < 3) (hs : ∀ S1, P S1 → sK S1 mo = 12 ∧ Sp l g dm 0 0 Am S1 (fun r S2 => r = some (vi v) ∧ ∃ M F G X n h, MX S2 mo M F G X n h ∧ G 0 = nI kk ∧ INV g S2 x mo ou c)) : ∀ r S1, (r = some (vi (nI kk)) ∧ P S1) → HS l g dm Am mo ou R (fun S3 => INV g S3 x mo ou c) r S1 := by
  rintro r S1 ⟨rfl, hP⟩
  refine ⟨kk, hk2, rfl, (hs S1 hP).1, (hs S1 hP).2.mono ?_⟩
  rintro r2 S2 ⟨rfl, M, F, G, X, n, h, hX, h0, hI⟩
  refine ⟨v, rfl, hr, hX.km, (cm_thrown hX).mono ?_⟩
  rintro r3 S3 ⟨rfl, rfl⟩
  exact ⟨by rw [h0], fun e => by omega, hI⟩
theorem vpL_s {f : Nat → Int64} {j : Nat} {v : Int64} : vp_updL f j v j = v := by simp [vp_updL]
/-- after an answer -/
theorem hs_ret {dm : MD} {Am : List AV} {v : Int32} {w : Int64} {R : Int32 → Prop} {P : hS → Prop} (hr : R v) (ew : w = v.toInt64) (ko : ∀ S1, P S1 → OU S1 ou) (hs : ∀ S1, P S1 → sK (putJ S1 81 ou (vp_updL (aJ S1 81 ou) 0 w)) mo = 12 ∧ Sp l g dm 0 0 Am (putJ S1 81 ou (vp_updL (aJ S1 81 ou) 0 w)) (fun r S2 => r = some (vi v) ∧ Rf (putJ S1 81 ou (vp_updL (aJ S1 81 ou) 0 w)) S2 mo ∧ ∃ M F G X n h, MX S2 mo M F G X n h ∧ G 0 = nI 0 ∧ INV g S2 x mo ou c)) : ∀ r S1, (r = some (vi (nI 0)) ∧ ∃ Sa, P Sa ∧ S1 = putJ Sa 81 ou (vp_updL (aJ Sa 81 ou) 0 w)) → HS l g dm Am mo ou R (fun S3 => INV g S3 x mo ou c) r S1 := by
  rintro r S1 ⟨rfl, Sa, hP, rfl⟩
  refine ⟨0, by omega, rfl, (hs Sa hP).1, (hs Sa hP).2.mono ?_⟩
  rintro r2 S2 ⟨rfl, hR, M, F, G, X, n, h, hX, h0, hI⟩
  refine ⟨v, rfl, hr, hX.km, (cm_thrown hX).mono ?_⟩
  rintro r3 S3 ⟨rfl, rfl⟩
  refine ⟨by rw [h0], fun _ => ?_, hI⟩
  have hk : sK (putJ Sa 81 ou (vp_updL (aJ Sa 81 ou) 0 w)) ou ≠ 0 := by rw [show sK (putJ Sa 81 ou (vp_updL (aJ Sa 81 ou) 0 w)) ou = sK Sa ou from rfl, (ko Sa hP).1]; decide
  have hc : Cf 0 [7] (putJ Sa 81 ou (vp_updL (aJ Sa 81 ou) 0 w)) S3 := hR.cf
  rw [hc.aj hk (show ka 81 ∉ [7] by decide), aJ_ps, vpL_s, ew]
end Inv
