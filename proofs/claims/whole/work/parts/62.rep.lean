/-! The class: the graph as it lies in the heap -/
/-- what is read alike in S': fields P, references R, elements A, of all that stands in S -/
def Ag (P R A : Nat → Nat → Prop) (S S' : hS) : Prop := ∀ x, sK S x ≠ 0 → sK S' x = sK S x ∧ sN S' x = sN S x ∧ (∀ f, P f x → sI S' f x = sI S f x ∧ sJ S' f x = sJ S f x) ∧ (∀ f, R f x → sR S' f x = sR S f x) ∧ (∀ r, A r x → aI S' r x = aI S r x ∧ aJ S' r x = aJ S r x ∧ aR S' r x = aR S r x)
section Ag
variable {P R A P' R' A' : Nat → Nat → Prop} {S S1 S2 : hS} {q : Nat}
theorem Ag.rf : Ag P R A S S := fun _ _ => ⟨rfl, rfl, fun _ _ => ⟨rfl, rfl⟩, fun _ _ => rfl, fun _ _ => ⟨rfl, rfl, rfl⟩⟩
theorem Ag.k (h : Ag P R A S S1) {x : Nat} (hx : sK S x ≠ 0) : sK S1 x = sK S x := (h x hx).1
theorem Ag.n (h : Ag P R A S S1) {x : Nat} (hx : sK S x ≠ 0) : sN S1 x = sN S x := (h x hx).2.1
theorem Ag.i (h : Ag P R A S S1) {x f : Nat} (hx : sK S x ≠ 0) (hf : P f x) : sI S1 f x = sI S f x := ((h x hx).2.2.1 f hf).1
theorem Ag.j (h : Ag P R A S S1) {x f : Nat} (hx : sK S x ≠ 0) (hf : P f x) : sJ S1 f x = sJ S f x := ((h x hx).2.2.1 f hf).2
theorem Ag.r (h : Ag P R A S S1) {x f : Nat} (hx : sK S x ≠ 0) (hf : R f x) : sR S1 f x = sR S f x := (h x hx).2.2.2.1 f hf
theorem Ag.ai (h : Ag P R A S S1) {x r : Nat} (hx : sK S x ≠ 0) (hf : A r x) : aI S1 r x = aI S r x := ((h x hx).2.2.2.2 r hf).1
theorem Ag.aj (h : Ag P R A S S1) {x r : Nat} (hx : sK S x ≠ 0) (hf : A r x) : aJ S1 r x = aJ S r x := ((h x hx).2.2.2.2 r hf).2.1
theorem Ag.ar (h : Ag P R A S S1) {x r : Nat} (hx : sK S x ≠ 0) (hf : A r x) : aR S1 r x = aR S r x := ((h x hx).2.2.2.2 r hf).2.2
theorem Ag.tr (h1 : Ag P R A S S1) (h2 : Ag P R A S1 S2) : Ag P R A S S2 := fun x hx => by
  have hx1 : sK S1 x ≠ 0 := by rw [h1.k hx]; exact hx
  exact ⟨(h2.k hx1).trans (h1.k hx), (h2.n hx1).trans (h1.n hx), fun f hf => ⟨(h2.i hx1 hf).trans (h1.i hx hf), (h2.j hx1 hf).trans (h1.j hx hf)⟩, fun f hf => (h2.r hx1 hf).trans (h1.r hx hf), fun r hf => ⟨(h2.ai hx1 hf).trans (h1.ai hx hf), (h2.aj hx1 hf).trans (h1.aj hx hf), (h2.ar hx1 hf).trans (h1.ar hx hf)⟩⟩
theorem Ag.mo (h : Ag P R A S S1) (h1 : ∀ f x, P' f x → P f x) (h2 : ∀ f x, R' f x → R f x) (h3 : ∀ f x, A' f x → A f x) : Ag P' R' A' S S1 := fun x hx => ⟨h.k hx, h.n hx, fun f hf => ⟨h.i hx (h1 f x hf), h.j hx (h1 f x hf)⟩, fun f hf => h.r hx (h2 f x hf), fun r hf => ⟨h.ai hx (h3 r x hf), h.aj hx (h3 r x hf), h.ar hx (h3 r x hf)⟩⟩
theorem sJ_n {k b f x : Nat} {v : Int64} (h : f ≠ k ∨ x ≠ b) : sJ (setJ S k b v) f x = sJ S f x := by
  simp only [sJ, setJ, u2]
  by_cases e : f = k
  · rw [if_pos e, if_neg (h.elim (fun q => absurd e q) id)]
  · rw [if_neg e]
theorem aJ_ps {k b : Nat} {F : Nat → Int64} : aJ (putJ S k b F) k b = F := by simp [aJ, putJ, u2r]
theorem aJ_pn {k b r x : Nat} {F : Nat → Int64} (h : r ≠ k ∨ x ≠ b) : aJ (putJ S k b F) r x = aJ S r x := by
  simp only [aJ, putJ, u2r]
  by_cases e : r = k
  · rw [if_pos e, if_neg (h.elim (fun q => absurd e q) id)]
  · rw [if_neg e]
theorem ne_or {A : Nat → Nat → Prop} {k b f x : Nat} (hp : ¬ A k b) (hf : A f x) : f ≠ k ∨ x ≠ b := by
  by_cases e : f = k
  · right; intro e2; subst e; subst e2; exact hp hf
  · exact Or.inl e
theorem Ag.si {k b : Nat} {v : Int32} (hp : ¬ P k b) : Ag P R A S (setI S k b v) := fun x _ => ⟨rfl, rfl, fun f hf => ⟨sI_n (ne_or hp hf), rfl⟩, fun _ _ => rfl, fun _ _ => ⟨rfl, rfl, rfl⟩⟩
theorem Ag.sj {k b : Nat} {v : Int64} (hp : ¬ P k b) : Ag P R A S (setJ S k b v) := fun x _ => ⟨rfl, rfl, fun f hf => ⟨rfl, sJ_n (ne_or hp hf)⟩, fun _ _ => rfl, fun _ _ => ⟨rfl, rfl, rfl⟩⟩
theorem Ag.sr {k b : Nat} {v : Option Nat} (hp : ¬ R k b) : Ag P R A S (setR S k b v) := fun x _ => ⟨rfl, rfl, fun f hf => ⟨rfl, rfl⟩, fun f hf => sR_n (ne_or hp hf), fun _ _ => ⟨rfl, rfl, rfl⟩⟩
theorem Ag.pi {k b : Nat} {F : Nat → Int32} (hp : ¬ A k b) : Ag P R A S (putI S k b F) := fun x _ => ⟨rfl, rfl, fun f hf => ⟨rfl, rfl⟩, fun f hf => rfl, fun r hf => ⟨aI_pn (ne_or hp hf), rfl, rfl⟩⟩
theorem Ag.pj {k b : Nat} {F : Nat → Int64} (hp : ¬ A k b) : Ag P R A S (putJ S k b F) := fun x _ => ⟨rfl, rfl, fun f hf => ⟨rfl, rfl⟩, fun f hf => rfl, fun r hf => ⟨rfl, aJ_pn (ne_or hp hf), rfl⟩⟩
theorem Ag.pr {k b : Nat} {F : Nat → Option Nat} (hp : ¬ A k b) : Ag P R A S (putR S k b F) := fun x _ => ⟨rfl, rfl, fun f hf => ⟨rfl, rfl⟩, fun f hf => rfl, fun r hf => ⟨rfl, rfl, aR_pn (ne_or hp hf)⟩⟩
theorem Fx.ag (h : Fx S S1) : Ag P R A S S1 := fun x hx => by
  obtain ⟨a1, a2, a3, a4, a5, a6, a7, a8⟩ := h x hx
  exact ⟨a1, a5, fun f _ => ⟨a2 f, a4 f⟩, fun f _ => a3 f, fun r _ => ⟨a6 r, a7 r, a8 r⟩⟩
theorem FE.ag {E : List Nat} (h : FE E S S1) (hk : ∀ x ∈ E, sK S x ≠ 0 → sK S1 x = sK S x ∧ sN S1 x = sN S x) (h1 : ∀ x ∈ E, ∀ f, ¬ P f x ∧ ¬ R f x ∧ ¬ A f x) : Ag P R A S S1 := fun x hx => by
  by_cases e : x ∈ E
  · exact ⟨(hk x e hx).1, (hk x e hx).2, fun f hf => absurd hf (h1 x e f).1, fun f hf => absurd hf (h1 x e f).2.1, fun r hf => absurd hf (h1 x e r).2.2⟩
  · obtain ⟨a1, a2, a3, a4, a5, a6, a7, a8⟩ := h x hx e
    exact ⟨a1, a5, fun f _ => ⟨a2 f, a4 f⟩, fun f _ => a3 f, fun r _ => ⟨a6 r, a7 r, a8 r⟩⟩
theorem Au.ag {a κ : Nat} (h : Au S S1 a κ) (h1 : ¬ P 0 a ∧ ¬ P 2 a) (h2 : ¬ R 1 a) (h3 : ∀ x, ¬ A κ x) : Ag P R A S S1 := fun x hx => by
  obtain ⟨a1, a2, a3, a4, a5, a6, a7, a8, a9⟩ := h
  refine ⟨a1 x hx, a6 x hx, fun f hf => ⟨a3 f x ?_, a5 f x⟩, fun f hf => a4 f x ?_, fun r hf => ⟨a7 r x hx, a8 r x hx, a9 r x hx ?_⟩⟩
  · rintro ⟨rfl, rfl | rfl⟩
    · exact h1.1 hf
    · exact h1.2 hf
  · rintro ⟨rfl, rfl⟩
    exact h2 hf
  · rintro rfl
    exact h3 x hf
theorem Ag.fresh (h : Ag P R A S S1) (hq : sK S1 q = 0) : sK S q = 0 := by
  by_cases e : sK S q = 0
  · exact e
  · have := h.k e
    rw [hq] at this
    exact absurd this.symm e
end Ag
/-- outside the graph: what its methods leave alone; inside: what it is made of. po is the list of open polls -/
def oP (po f x : Nat) : Prop := (f < 3 → x = po) ∧ (f < 400 ∨ 500 ≤ f) ∧ (f < 900 ∨ 1000 ≤ f)
def oA (r _x : Nat) : Prop := (r < 80 ∧ r ≠ 38) ∨ (85 ≤ r ∧ r < 101) ∨ r = 107
def iP (po f x : Nat) : Prop := (f < 3 ∧ x ≠ po) ∨ (300 ≤ f ∧ f < 500) ∨ (900 ≤ f ∧ f < 914)
def iA (r _x : Nat) : Prop := r = 22 ∨ r = 33 ∨ r = 34 ∨ r = 35 ∨ r = 80 ∨ (101 ≤ r ∧ r ≠ 107)
abbrev GrF (po : Nat) (S S' : hS) : Prop := Ag (oP po) (oP po) oA S S'
abbrev GiF (po : Nat) (S S' : hS) : Prop := Ag (iP po) (iP po) iA S S'
def AR (S : hS) (f x κ N : Nat) : Prop := sR S f x = some (rA S f x) ∧ sK S (rA S f x) = κ ∧ sN S (rA S f x) = N
def IR (S : hS) (f x κ N : Nat) (v : Nat → Int32) : Prop := sR S f x = some (rA S f x) ∧ 20 ≤ sK S (rA S f x) ∧ sN S (rA S f x) = N ∧ ∀ i, i < N → sK S (rA S f x) = κ ∧ aI S κ (rA S f x) i = v i
/-- what of a transaction never changes -/
def TS (S : hS) (T O : Nat → Nat) (M : MM) (t : Nat) : Prop :=
  (sK S (T t) = 10 ∧ sI S 900 (T t) = M 10 t) ∧
  (AR S 901 (T t) 22 (szN M t) ∧ ∀ i, i < szN M t → aI S 22 (rA S 901 (T t)) i &&& nI 255 = nI (rN (M 11) t i)) ∧
  IR S 902 (T t) 33 (nP (M 11) t) (pid (M 11) t) ∧ IR S 903 (T t) 34 (nX (M 11) t) (xid (M 11) t) ∧ IR S 904 (T t) 35 (nX (M 11) t) (fun i => nI (xix (M 11) t i)) ∧
  (AR S 905 (T t) 101 (nO (M 11) t) ∧ ∀ i, i < nO (M 11) t → aR S 101 (rA S 905 (T t)) i = some (O (onum t i))) ∧
  AR S 906 (T t) 103 (nP (M 11) t) ∧ AR S 907 (T t) 102 (nX (M 11) t) ∧ AR S 908 (T t) 80 3
def oV (M : MM) (n s : Nat) : Prop := ∃ t i, t < n ∧ i < nO (M 11) t ∧ s = onum t i
/-- the lists: 0 known, 1 held, 2 accepted, 3 open polls, 4 + s the members of the set s -/
def lad (S : hS) (po go : Nat) (O : Nat → Nat) (j : Nat) : Nat := if j = 0 then rA S 302 go else if j = 1 then rA S 303 go else if j = 2 then rA S 304 go else if j = 3 then po else rA S 401 (O (j - 4))
def lV (M : MM) (n j : Nat) : Prop := j < 4 ∨ (4 ≤ j ∧ oV M n (j - 4))
def GS (S : hS) (po go : Nat) (T O : Nat → Nat) (M : MM) (n : Nat) : Prop :=
  (sK S go = 4 ∧ sR S 302 go = some (rA S 302 go) ∧ sR S 303 go = some (rA S 303 go) ∧ sR S 304 go = some (rA S 304 go) ∧ AR S 305 go 38 560) ∧
  (∀ t, t < n → TS S T O M t) ∧
  (∀ t i, t < n → i < nO (M 11) t → sK S (O (onum t i)) = 5 ∧ sI S 400 (O (onum t i)) = amt (M 11) t i ∧ sR S 401 (O (onum t i)) = some (rA S 401 (O (onum t i)))) ∧
  (∀ t u, t < n → u < n → T t = T u ∨ rA S 906 (T t) = rA S 906 (T u) ∨ rA S 907 (T t) = rA S 907 (T u) ∨ rA S 908 (T t) = rA S 908 (T u) → t = u) ∧
  (∀ s s', oV M n s → oV M n s' → O s = O s' → s = s') ∧
  (∀ j j', lV M n j → lV M n j' → lad S po go O j = lad S po go O j' → j = j')
def TD (S : hS) (T : Nat → Nat) (n : Nat) (st cf ch pd : Nat → Int32) : Prop := ∀ t, t < n → sI S 910 (T t) = st t ∧ sI S 911 (T t) = cf t ∧ sI S 912 (T t) = ch t ∧ sI S 913 (T t) = pd t
def HN (S : hS) (T : Nat → Nat) (M : MM) (n h : Nat) : Prop := (∀ k, k < h → sI S 909 (T (hdN M k)) = nI k) ∧ ∀ t, t < n → hdB M h t = false → sI S 909 (T t) = -1
def OD (S : hS) (T O : Nat → Nat) (M : MM) (n : Nat) (fv lt ac : Nat → Option Nat) (rn : Nat → Int32) : Prop := ∀ s, oV M n s → sR S 402 (O s) = (fv s).map T ∧ sR S 403 (O s) = (lt s).map T ∧ sR S 404 (O s) = (ac s).map T ∧ sI S 405 (O s) = rn s
def LD (g : GG) (S : hS) (po go : Nat) (T O : Nat → Nat) (M : MM) (n h a : Nat) (mL : Nat → List Nat) : Prop :=
  LA g S (lad S po go O 0) 104 n T ∧ LA g S (lad S po go O 1) 105 h (fun k => T (hdN M k)) ∧ LA g S (lad S po go O 2) 106 a (fun i => T (acN M i)) ∧ ∀ s, oV M n s → LA g S (lad S po go O (4 + s)) (108 + s) (mL s).length (fun i => T ((mL s).getD i 0))
def ED (S : hS) (T O : Nat → Nat) (M : MM) (n h : Nat) : Prop := ∀ k, k < h → (∀ i, i < nP (M 11) (hdN M k) → aR S 103 (rA S 906 (T (hdN M k))) i = some (T (par M n (hdN M k) i))) ∧ (∀ i, i < nX (M 11) (hdN M k) → aR S 102 (rA S 907 (T (hdN M k))) i = some (O (out M n (hdN M k) i)))
/-- bit j of three words -/
def abt (w : Nat → Int64) (j : Nat) : Bool := bt (w (j / 64)) (j % 64)
def AN (S : hS) (T : Nat → Nat) (M : MM) (n h : Nat) : Prop := (∀ k, k < h → ∀ j, j < 192 → abt (aJ S 80 (rA S 908 (T (hdN M k)))) j = (decide (j < h) && anc M n h (hdN M k) (hdN M j))) ∧ (∀ t, t < n → M 13 t = nI 1 → ∀ i, i < 3 → aJ S 80 (rA S 908 (T t)) i = 0)
/-- the members of a set, in the order of holding -/
def mem (M : MM) (n h s : Nat) : List Nat := ((List.range h).map (hdN M)).filter (fun t => inS M n t s)
/-- THE GRAPH: T, O are where transactions and outputs lie; cf confidences, ao accepted ones, mL members as the heap has them -/
def CR (g : GG) (S : hS) (po go : Nat) (T O : Nat → Nat) (M : MM) (n h a : Nat) (cf : Nat → Int32) (ao : Nat → Option Nat) (mL : Nat → List Nat) : Prop :=
  GS S po go T O M n ∧ TD S T n (M 13) cf (M 14) (M 15) ∧ HN S T M n h ∧ OD S T O M n (favN M) (latN M) ao (M 24) ∧ LD g S po go T O M n h a mL ∧ ED S T O M n h ∧ AN S T M n h
section RepAg
variable {P R A : Nat → Nat → Prop} {g : GG} {S S1 : hS} {po go n h a : Nat} {T O : Nat → Nat} {M : MM} {cf : Nat → Int32} {ao : Nat → Option Nat} {mL : Nat → List Nat}
theorem rA_eq {f x : Nat} (h : sR S1 f x = sR S f x) : rA S1 f x = rA S f x := by simp only [rA, h]
theorem AR.ag {f x κ N : Nat} (hA : AR S f x κ N) (h : Ag P R A S S1) (hx : sK S x ≠ 0) (hr : R f x) (hκ : κ ≠ 0) : AR S1 f x κ N ∧ rA S1 f x = rA S f x := by
  have e := h.r hx hr
  have e2 := rA_eq (S := S) (S1 := S1) e
  obtain ⟨h1, h2, h3⟩ := hA
  have hne : sK S (rA S f x) ≠ 0 := by rw [h2]; exact hκ
  refine ⟨⟨by rw [e2, e]; exact h1, ?_, ?_⟩, e2⟩
  · rw [e2, h.k hne]; exact h2
  · rw [e2, h.n hne]; exact h3
theorem IR.ag {f x κ N : Nat} {v : Nat → Int32} (hA : IR S f x κ N v) (h : Ag P R A S S1) (hx : sK S x ≠ 0) (hr : R f x) (ha : ∀ y, A κ y) : IR S1 f x κ N v := by
  have e := h.r hx hr
  have e2 := rA_eq (S := S) (S1 := S1) e
  obtain ⟨h1, h2, h3, h4⟩ := hA
  have hne : sK S (rA S f x) ≠ 0 := by omega
  refine ⟨by rw [e2, e]; exact h1, ?_, ?_, ?_⟩
  · rw [e2, h.k hne]; exact h2
  · rw [e2, h.n hne]; exact h3
  · intro i hi
    rw [e2, h.k hne, h.ai hne (ha _)]
    exact h4 i hi
theorem TS.ag {t : Nat} (hT : TS S T O M t) (h : Ag P R A S S1) (hp : ∀ x, P 900 x) (hr : ∀ f x, 901 ≤ f → f ≤ 908 → R f x) (ha : ∀ x, A 22 x ∧ A 33 x ∧ A 34 x ∧ A 35 x ∧ A 101 x) : TS S1 T O M t ∧ ∀ f, 901 ≤ f → f ≤ 908 → rA S1 f (T t) = rA S f (T t) := by
  obtain ⟨⟨h1, h2⟩, ⟨h3, h4⟩, h5, h6, h7, ⟨h8, h9⟩, h10, h11, h12⟩ := hT
  have hx : sK S (T t) ≠ 0 := by omega
  have r := fun f h1 h2 => hr f (T t) h1 h2
  have q3 := h3.ag h hx (r 901 (by omega) (by omega)) (by omega)
  have q8 := h8.ag h hx (r 905 (by omega) (by omega)) (by omega)
  refine ⟨⟨⟨by rw [h.k hx]; exact h1, by rw [h.i hx (hp _)]; exact h2⟩, ⟨q3.1, ?_⟩, h5.ag h hx (r 902 (by omega) (by omega)) (fun y => (ha y).2.1), h6.ag h hx (r 903 (by omega) (by omega)) (fun y => (ha y).2.2.1), h7.ag h hx (r 904 (by omega) (by omega)) (fun y => (ha y).2.2.2.1), ⟨q8.1, ?_⟩, (h10.ag h hx (r 906 (by omega) (by omega)) (by omega)).1, (h11.ag h hx (r 907 (by omega) (by omega)) (by omega)).1, (h12.ag h hx (r 908 (by omega) (by omega)) (by omega)).1⟩, fun f a b => rA_eq (h.r hx (r f a b))⟩
  · intro i hi
    rw [q3.2, h.ai (by rw [h3.2.1]; omega) (ha _).1]
    exact h4 i hi
  · intro i hi
    rw [q8.2, h.ar (by rw [h8.2.1]; omega) (ha _).2.2.2.2]
    exact h9 i hi
theorem GS.gk (hG : GS S po go T O M n) : sK S go = 4 := hG.1.1
theorem GS.t (hG : GS S po go T O M n) {t : Nat} (ht : t < n) : TS S T O M t := hG.2.1 t ht
theorem GS.tk (hG : GS S po go T O M n) {t : Nat} (ht : t < n) : sK S (T t) = 10 := (hG.t ht).1.1
theorem GS.id (hG : GS S po go T O M n) {t : Nat} (ht : t < n) : sI S 900 (T t) = M 10 t := (hG.t ht).1.2
theorem GS.o (hG : GS S po go T O M n) {s : Nat} (hs : oV M n s) : sK S (O s) = 5 ∧ sR S 401 (O s) = some (rA S 401 (O s)) := by
  obtain ⟨t, i, ht, hi, rfl⟩ := hs
  have := hG.2.2.1 t i ht hi
  exact ⟨this.1, this.2.2⟩
theorem GS.am (hG : GS S po go T O M n) {t i : Nat} (ht : t < n) (hi : i < nO (M 11) t) : sI S 400 (O (onum t i)) = amt (M 11) t i := (hG.2.2.1 t i ht hi).2.1
theorem GS.tinj (hG : GS S po go T O M n) {t u : Nat} (ht : t < n) (hu : u < n) (e : T t = T u) : t = u := hG.2.2.2.1 t u ht hu (Or.inl e)
theorem GS.inj6 (hG : GS S po go T O M n) {t u : Nat} (ht : t < n) (hu : u < n) (e : rA S 906 (T t) = rA S 906 (T u)) : t = u := hG.2.2.2.1 t u ht hu (Or.inr (Or.inl e))
theorem GS.inj7 (hG : GS S po go T O M n) {t u : Nat} (ht : t < n) (hu : u < n) (e : rA S 907 (T t) = rA S 907 (T u)) : t = u := hG.2.2.2.1 t u ht hu (Or.inr (Or.inr (Or.inl e)))
theorem GS.inj8 (hG : GS S po go T O M n) {t u : Nat} (ht : t < n) (hu : u < n) (e : rA S 908 (T t) = rA S 908 (T u)) : t = u := hG.2.2.2.1 t u ht hu (Or.inr (Or.inr (Or.inr e)))
theorem GS.oinj (hG : GS S po go T O M n) {s u : Nat} (hs : oV M n s) (hu : oV M n u) (e : O s = O u) : s = u := hG.2.2.2.2.1 s u hs hu e
theorem GS.linj (hG : GS S po go T O M n) {j u : Nat} (hs : lV M n j) (hu : lV M n u) (e : lad S po go O j = lad S po go O u) : j = u := hG.2.2.2.2.2 j u hs hu e
theorem lV4 {s : Nat} (h : oV M n s) : lV M n (4 + s) := Or.inr ⟨by omega, by rw [Nat.add_sub_cancel_left]; exact h⟩
theorem lad4 {s : Nat} : lad S po go O (4 + s) = rA S 401 (O s) := by
  unfold lad
  rw [if_neg (by omega), if_neg (by omega), if_neg (by omega), if_neg (by omega), Nat.add_sub_cancel_left]
theorem GS.ladE (hG : GS S po go T O M n) (e : ∀ f x, (300 ≤ f ∧ f < 306) ∨ f = 401 → sK S x ≠ 0 → sR S1 f x = sR S f x) {j : Nat} (hj : lV M n j) : lad S1 po go O j = lad S po go O j := by
  have hg : sK S go ≠ 0 := by rw [hG.gk]; omega
  rcases hj with hj | ⟨h4, hj⟩
  · have : j = 0 ∨ j = 1 ∨ j = 2 ∨ j = 3 := by omega
    rcases this with rfl | rfl | rfl | rfl
    · exact rA_eq (e 302 go (by omega) hg)
    · exact rA_eq (e 303 go (by omega) hg)
    · exact rA_eq (e 304 go (by omega) hg)
    · rfl
  · obtain ⟨s, rfl⟩ : ∃ s, j = 4 + s := ⟨j - 4, by omega⟩
    rw [Nat.add_sub_cancel_left] at hj
    rw [lad4, lad4]
    exact rA_eq (e 401 (O s) (by omega) (by rw [(hG.o hj).1]; omega))
theorem GS.ag (hG : GS S po go T O M n) (h : Ag P R A S S1) (hp : ∀ x, P 900 x ∧ P 400 x) (hr : ∀ f x, (901 ≤ f ∧ f ≤ 908) ∨ (300 ≤ f ∧ f < 306) ∨ f = 401 → R f x) (ha : ∀ x, A 22 x ∧ A 33 x ∧ A 34 x ∧ A 35 x ∧ A 101 x) : GS S1 po go T O M n := by
  have hg : sK S go ≠ 0 := by rw [hG.gk]; omega
  have tt : ∀ t, t < n → TS S1 T O M t ∧ ∀ f, 901 ≤ f → f ≤ 908 → rA S1 f (T t) = rA S f (T t) := fun t ht => (hG.t ht).ag h (fun x => (hp x).1) (fun f x a b => hr f x (Or.inl ⟨a, b⟩)) ha
  have hl : ∀ j, lV M n j → lad S1 po go O j = lad S po go O j := fun j hj => hG.ladE (fun f x hf hx => h.r hx (hr f x (Or.inr hf))) hj
  refine ⟨⟨by rw [h.k hg]; exact hG.gk, ?_, ?_, ?_, (hG.1.2.2.2.2.ag h hg (hr _ _ (by omega)) (by omega)).1⟩, fun t ht => (tt t ht).1, ?_, ?_, hG.2.2.2.2.1, ?_⟩
  · have e := h.r hg (hr 302 go (by omega)); rw [rA_eq e, e]; exact hG.1.2.1
  · have e := h.r hg (hr 303 go (by omega)); rw [rA_eq e, e]; exact hG.1.2.2.1
  · have e := h.r hg (hr 304 go (by omega)); rw [rA_eq e, e]; exact hG.1.2.2.2.1
  · intro t i ht hi
    obtain ⟨o1, o2, o3⟩ := hG.2.2.1 t i ht hi
    have ho : sK S (O (onum t i)) ≠ 0 := by rw [o1]; omega
    have e := h.r ho (hr 401 _ (by omega))
    exact ⟨by rw [h.k ho]; exact o1, by rw [h.i ho (hp _).2]; exact o2, by rw [rA_eq e, e]; exact o3⟩
  · intro t u ht hu
    rw [(tt t ht).2 906 (by omega) (by omega), (tt t ht).2 907 (by omega) (by omega), (tt t ht).2 908 (by omega) (by omega), (tt u hu).2 906 (by omega) (by omega), (tt u hu).2 907 (by omega) (by omega), (tt u hu).2 908 (by omega) (by omega)]
    exact hG.2.2.2.1 t u ht hu
  · intro j j' hj hj'
    rw [hl j hj, hl j' hj']
    exact hG.2.2.2.2.2 j j' hj hj'
theorem TD.ag {st cf ch pd : Nat → Int32} (hG : GS S po go T O M n) (hT : TD S T n st cf ch pd) (h : Ag P R A S S1) (hp : ∀ f x, 910 ≤ f → f ≤ 913 → P f x) : TD S1 T n st cf ch pd := fun t ht => by
  have hx : sK S (T t) ≠ 0 := by rw [hG.tk ht]; omega
  rw [h.i hx (hp 910 _ (by omega) (by omega)), h.i hx (hp 911 _ (by omega) (by omega)), h.i hx (hp 912 _ (by omega) (by omega)), h.i hx (hp 913 _ (by omega) (by omega))]
  exact hT t ht
theorem HN.ag (hG : GS S po go T O M n) (hh : ∀ k, k < h → hdN M k < n) (hH : HN S T M n h) (hg : Ag P R A S S1) (hp : ∀ x, P 909 x) : HN S1 T M n h := by
  have hx : ∀ t, t < n → sK S (T t) ≠ 0 := fun t ht => by rw [hG.tk ht]; omega
  exact ⟨fun k hk => by rw [hg.i (hx _ (hh k hk)) (hp _)]; exact hH.1 k hk, fun t ht e => by rw [hg.i (hx _ ht) (hp _)]; exact hH.2 t ht e⟩
theorem OD.ag {fv lt ac : Nat → Option Nat} {rn : Nat → Int32} (hG : GS S po go T O M n) (hO : OD S T O M n fv lt ac rn) (h : Ag P R A S S1) (hp : ∀ x, P 405 x) (hr : ∀ x, R 402 x ∧ R 403 x ∧ R 404 x) : OD S1 T O M n fv lt ac rn := fun s hs => by
  have hx : sK S (O s) ≠ 0 := by rw [(hG.o hs).1]; omega
  rw [h.i hx (hp _), h.r hx (hr _).1, h.r hx (hr _).2.1, h.r hx (hr _).2.2]
  exact hO s hs
theorem LA.ag {b κ N : Nat} {f : Nat → Nat} (hκ : 104 ≤ κ) (hL : LA g S b κ N f) (h : Ag P R A S S1) (hp : P 2 b) (hr : R 1 b) (ha : ∀ x, A κ x) : LA g S1 b κ N f := by
  obtain ⟨h1, e, h2, h3, h4⟩ := hL
  have hb : sK S b ≠ 0 := by omega
  refine ⟨by rw [h.i hb hp]; exact h1, e, by rw [h.k hb]; exact h2, by rw [h.r hb hr]; exact h3, ?_⟩
  rcases h4 with h4 | ⟨h5, h6, h7, h8, h9⟩
  · exact Or.inl h4
  · have hne : sK S e ≠ 0 := by omega
    rw [h.k hne, h.n hne, h.ar hne (ha _)]
    exact Or.inr ⟨h5, h6, h7, h8, h9⟩
theorem LA.cg {b κ N : Nat} {f f' : Nat → Nat} (hL : LA g S b κ N f) (e : ∀ i, i < N → f' i = f i) : LA g S b κ N f' := by
  obtain ⟨h1, x, h2, h3, h4⟩ := hL
  refine ⟨h1, x, h2, h3, ?_⟩
  rcases h4 with h4 | ⟨h5, h6, h7, h8, h9⟩
  · exact Or.inl h4
  · exact Or.inr ⟨h5, h6, h7, h8, fun i hi => by rw [e i hi]; exact h9 i hi⟩
theorem LD.ag (hG : GS S po go T O M n) (hL : LD g S po go T O M n h a mL) (hg : Ag P R A S S1) (hl : ∀ f x, (300 ≤ f ∧ f < 306) ∨ f = 401 → R f x) (hp : ∀ x, x ≠ po → P 2 x ∧ R 1 x) (ha : ∀ r x, 104 ≤ r → r ≠ 107 → A r x) : LD g S1 po go T O M n h a mL := by
  have ll : ∀ j, lV M n j → lad S1 po go O j = lad S po go O j := fun j hj => hG.ladE (fun f x hf hx => hg.r hx (hl f x hf)) hj
  have np : ∀ j, lV M n j → j ≠ 3 → lad S po go O j ≠ po := fun j hj h3 e => h3 (hG.linj hj (Or.inl (by omega)) (by rw [e]; rfl))
  have v : ∀ j, j < 4 → lV M n j := fun j hj => Or.inl hj
  refine ⟨?_, ?_, ?_, fun s hs => ?_⟩
  · rw [ll 0 (v 0 (by omega))]; exact hL.1.ag (by omega) hg (hp _ (np 0 (v 0 (by omega)) (by omega))).1 (hp _ (np 0 (v 0 (by omega)) (by omega))).2 (fun x => ha _ x (by omega) (by omega))
  · rw [ll 1 (v 1 (by omega))]; exact hL.2.1.ag (by omega) hg (hp _ (np 1 (v 1 (by omega)) (by omega))).1 (hp _ (np 1 (v 1 (by omega)) (by omega))).2 (fun x => ha _ x (by omega) (by omega))
  · rw [ll 2 (v 2 (by omega))]; exact hL.2.2.1.ag (by omega) hg (hp _ (np 2 (v 2 (by omega)) (by omega))).1 (hp _ (np 2 (v 2 (by omega)) (by omega))).2 (fun x => ha _ x (by omega) (by omega))
  · rw [ll _ (lV4 hs)]; exact (hL.2.2.2 s hs).ag (by omega) hg (hp _ (np _ (lV4 hs) (by omega))).1 (hp _ (np _ (lV4 hs) (by omega))).2 (fun x => ha _ x (by omega) (by omega))
theorem ED.ag (hG : GS S po go T O M n) (hh : ∀ k, k < h → hdN M k < n) (hE : ED S T O M n h) (hg : Ag P R A S S1) (hr : ∀ x, R 906 x ∧ R 907 x) (ha : ∀ x, A 103 x ∧ A 102 x) : ED S1 T O M n h := fun k hk => by
  have ht := hG.t (hh k hk)
  have hx : sK S (T (hdN M k)) ≠ 0 := by rw [ht.1.1]; omega
  rw [rA_eq (hg.r hx (hr _).1), rA_eq (hg.r hx (hr _).2), hg.ar (by rw [ht.2.2.2.2.2.2.1.2.1]; omega) (ha _).1, hg.ar (by rw [ht.2.2.2.2.2.2.2.1.2.1]; omega) (ha _).2]
  exact hE k hk
theorem AN.ag (hG : GS S po go T O M n) (hh : ∀ k, k < h → hdN M k < n) (hA : AN S T M n h) (hg : Ag P R A S S1) (hr : ∀ x, R 908 x) (ha : ∀ x, A 80 x) : AN S1 T M n h := by
  have e : ∀ t, t < n → aJ S1 80 (rA S1 908 (T t)) = aJ S 80 (rA S 908 (T t)) := fun t ht => by
    have h8 := (hG.t ht).2.2.2.2.2.2.2.2
    rw [rA_eq (hg.r (by rw [hG.tk ht]; omega) (hr _)), hg.aj (by rw [h8.2.1]; omega) (ha _)]
  exact ⟨fun k hk => by rw [e _ (hh k hk)]; exact hA.1 k hk, fun t ht => by rw [e t ht]; exact hA.2 t ht⟩
theorem CR.keep (hC : CR g S po go T O M n h a cf ao mL) (hh : ∀ k, k < h → hdN M k < n) (hg : GiF po S S1) : CR g S1 po go T O M n h a cf ao mL := by
  obtain ⟨c1, c2, c3, c4, c5, c6, c7⟩ := hC
  have iPf : ∀ f x, (300 ≤ f ∧ f < 500) ∨ (900 ≤ f ∧ f < 914) → iP po f x := fun f x q => Or.inr q
  exact ⟨c1.ag hg (fun x => ⟨iPf _ _ (by omega), iPf _ _ (by omega)⟩) (fun f x q => iPf _ _ (by omega)) (fun x => by simp [iA]), c2.ag c1 hg (fun f x q1 q2 => iPf _ _ (by omega)), c3.ag c1 hh hg (fun x => iPf _ _ (by omega)), c4.ag c1 hg (fun x => iPf _ _ (by omega)) (fun x => ⟨iPf _ _ (by omega), iPf _ _ (by omega), iPf _ _ (by omega)⟩), c5.ag c1 hg (fun f x q => iPf _ _ (by omega)) (fun x q => ⟨Or.inl ⟨by omega, q⟩, Or.inl ⟨by omega, q⟩⟩) (fun r x q1 q2 => by unfold iA; omega), c6.ag c1 hh hg (fun x => ⟨iPf _ _ (by omega), iPf _ _ (by omega)⟩) (fun x => by simp [iA]), c7.ag c1 hh hg (fun x => iPf _ _ (by omega)) (fun x => by simp [iA])⟩
end RepAg
