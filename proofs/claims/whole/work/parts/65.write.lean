/-! The class: what one writing changes of the graph -/
def Sy (M M' : MM) : Prop := M' 10 = M 10 ∧ M' 11 = M 11 ∧ M' 12 = M 12 ∧ M' 16 = M 16
theorem Sy.rf {M : MM} : Sy M M := ⟨rfl, rfl, rfl, rfl⟩
theorem um_sy {M : MM} {k i : Nat} {v : Int32} (h : k ≠ 10 ∧ k ≠ 11 ∧ k ≠ 12 ∧ k ≠ 16) : Sy M (um M k i v) := ⟨um_n h.1.symm, um_n h.2.1.symm, um_n h.2.2.1.symm, um_n h.2.2.2.symm⟩
theorem Sy.tr {M M1 M2 : MM} (h1 : Sy M M1) (h2 : Sy M1 M2) : Sy M M2 := ⟨h2.1.trans h1.1, h2.2.1.trans h1.2.1, h2.2.2.1.trans h1.2.2.1, h2.2.2.2.trans h1.2.2.2⟩
section SyM
variable {g : GG} {S : hS} {po go n h a : Nat} {T O : Nat → Nat} {M M' : MM} {mL : Nat → List Nat}
theorem Sy.hd (e : Sy M M') : hdN M' = hdN M := by funext k; simp only [hdN, e.2.2.2]
theorem Sy.pr (e : Sy M M') : par M' n = par M n := by funext t i; simp only [par, e.1, e.2.1]
theorem Sy.ou (e : Sy M M') : out M' n = out M n := by funext t i; simp only [out, src, e.1, e.2.1]
theorem Sy.ov (e : Sy M M') : oV M' n = oV M n := by funext s; simp only [oV, e.2.1]
theorem Sy.lv (e : Sy M M') : lV M' n = lV M n := by funext s; simp only [lV, e.ov]
theorem Sy.ins (e : Sy M M') : inS M' n = inS M n := by funext t s; simp only [inS, e.ou, e.2.1]
theorem Sy.ps (e : Sy M M') : pset M' n = pset M n := by funext t s; simp only [pset, e.pr, e.2.1]
theorem Sy.anL (e : Sy M M') : ancL M' n = ancL M n := by
  funext k
  induction k with
  | zero => rfl
  | succ k ih => funext m; simp only [ancL, e.hd, e.ps, ih]
theorem Sy.an (e : Sy M M') : anc M' n h = anc M n h := by funext t; simp only [anc, e.anL, e.ps]
theorem Sy.hb (e : Sy M M') : hdB M' h = hdB M h := by funext t; simp only [hdB, e.hd]
theorem Sy.deL {t : Nat} (e : Sy M M') : desL M' n t = desL M n t := by
  funext k
  induction k with
  | zero => rfl
  | succ k ih => simp only [desL, e.hd, e.pr, e.2.1, ih]
theorem Sy.cf (e : Sy M M') (e14 : M' 14 = M 14) : conf M' n h = conf M n h := by funext t; simp only [conf, e.deL, chitB, e14]
theorem Sy.mb (e : Sy M M') : mbs M' n h = mbs M n h := by funext s; simp only [mbs, e.hd, e.ins]
theorem Sy.me (e : Sy M M') : mem M' n h = mem M n h := by funext s; simp only [mem, e.hd, e.ins]
theorem Sy.sm (e : Sy M M') : Sm M M' := ⟨e.1, e.2.1, e.2.2.2⟩
theorem Sy.szn (e : Sy M M') : szN M' = szN M := by funext t; simp only [szN, e.2.2.1]
theorem GS.m (hG : GS S po go T O M n) (e : Sy M M') : GS S po go T O M' n := by
  obtain ⟨c1, c2, c3, c4, c5, c6⟩ := hG
  refine ⟨c1, fun t ht => ?_, fun t i ht hi => ?_, c4, ?_, ?_⟩
  · have := c2 t ht
    simp only [TS, e.szn, e.1, e.2.1] at this ⊢
    exact this
  · rw [e.2.1] at hi ⊢
    exact c3 t i ht hi
  · rw [e.ov]; exact c5
  · rw [e.lv]; exact c6
theorem HN.m (hH : HN S T M n h) (e : Sy M M') : HN S T M' n h := by
  simp only [HN, e.hd, e.hb] at hH ⊢
  exact hH
theorem OD.m {fv lt ac : Nat → Option Nat} {rn : Nat → Int32} (hH : OD S T O M n fv lt ac rn) (e : Sy M M') : OD S T O M' n fv lt ac rn := by
  simp only [OD, e.ov] at hH ⊢
  exact hH
theorem LD.m (hH : LD g S po go T O M n h a mL) (e : Sy M M') (e18 : M' 18 = M 18) : LD g S po go T O M' n h a mL := by
  simp only [LD, e.ov, e.hd, acN, e18] at hH ⊢
  exact hH
theorem ED.m (hH : ED S T O M n h) (e : Sy M M') : ED S T O M' n h := by
  simp only [ED, e.hd, e.pr, e.ou, e.2.1] at hH ⊢
  exact hH
theorem AN.m (hH : AN S T M n h) (e : Sy M M') (hw : ∀ t, t < n → M' 13 t = nI 1 → M 13 t = nI 1) : AN S T M' n h := by
  refine ⟨?_, fun t ht h1 => hH.2 t ht (hw t ht h1)⟩
  rw [e.hd, e.an]
  exact hH.1
end SyM
section Writes
variable {P R A : Nat → Nat → Prop} {g : GG} {S S1 : hS} {po go n h a t s : Nat} {T O : Nat → Nat} {M M' : MM} {cf cf' : Nat → Int32} {ao ao' : Nat → Option Nat} {mL : Nat → List Nat} {v : Int32} {o : Option Nat}
theorem CR.w1 (hC : CR g S po go T O M n h a cf ao mL) (hh : ∀ k, k < h → hdN M k < n) (hg : Ag P R A S S1) (e : Sy M M') (e18 : M' 18 = M 18) (hw : ∀ t, t < n → M' 13 t = nI 1 → M 13 t = nI 1)
    (hp : ∀ f x, f = 2 ∨ f = 900 ∨ f = 400 ∨ f = 909 → P f x) (hr : ∀ f x, f = 1 ∨ (901 ≤ f ∧ f ≤ 908) ∨ (300 ≤ f ∧ f < 306) ∨ f = 401 → R f x) (ha : ∀ r x, A r x)
    (t' : TD S1 T n (M' 13) cf' (M' 14) (M' 15)) (o' : OD S1 T O M n (favN M') (latN M') ao' (M' 24)) : CR g S1 po go T O M' n h a cf' ao' mL := by
  obtain ⟨c1, c2, c3, c4, c5, c6, c7⟩ := hC
  exact ⟨(c1.ag hg (fun x => ⟨hp _ _ (by omega), hp _ _ (by omega)⟩) (fun f x q => hr f x (by omega)) (fun x => ⟨ha _ _, ha _ _, ha _ _, ha _ _, ha _ _⟩)).m e, t', (c3.ag c1 hh hg (fun x => hp _ _ (by omega))).m e, o'.m e, (c5.ag c1 hg (fun f x q => hr f x (by omega)) (fun x _ => ⟨hp _ _ (by omega), hr _ _ (by omega)⟩) (fun r x _ _ => ha r x)).m e e18, (c6.ag c1 hh hg (fun x => ⟨hr _ _ (by omega), hr _ _ (by omega)⟩) (fun x => ⟨ha _ _, ha _ _⟩)).m e, (c7.ag c1 hh hg (fun x => hr _ _ (by omega)) (fun x => ha _ _)).m e hw⟩
theorem CR.pG (hC : CR g S po go T O M n h a cf ao mL) : GS S po go T O M n := hC.1
theorem CR.pT (hC : CR g S po go T O M n h a cf ao mL) : TD S T n (M 13) cf (M 14) (M 15) := hC.2.1
theorem CR.pH (hC : CR g S po go T O M n h a cf ao mL) : HN S T M n h := hC.2.2.1
theorem CR.pO (hC : CR g S po go T O M n h a cf ao mL) : OD S T O M n (favN M) (latN M) ao (M 24) := hC.2.2.2.1
theorem CR.pL (hC : CR g S po go T O M n h a cf ao mL) : LD g S po go T O M n h a mL := hC.2.2.2.2.1
theorem CR.pE (hC : CR g S po go T O M n h a cf ao mL) : ED S T O M n h := hC.2.2.2.2.2.1
theorem CR.pA (hC : CR g S po go T O M n h a cf ao mL) : AN S T M n h := hC.2.2.2.2.2.2
theorem CR.st (hC : CR g S po go T O M n h a cf ao mL) (hh : ∀ k, k < h → hdN M k < n) (ht : t < n) (hv : v ≠ nI 1) : CR g (setI S 910 (T t) v) po go T O (um M 13 t v) n h a cf ao mL := by
  have hg : Ag (fun f _ => f ≠ 910) (fun _ _ => True) (fun _ _ => True) S (setI S 910 (T t) v) := Ag.si (fun q => q rfl)
  refine hC.w1 hh hg (um_sy (by decide)) (um_n (by decide)) ?_ (fun f x q => by omega) (fun _ _ _ => trivial) (fun _ _ => trivial) (fun u hu => ?_) ?_
  · intro u hu q
    by_cases e : u = t
    · subst e; rw [um_s] at q; exact absurd q hv
    · rwa [um_sn e] at q
  · obtain ⟨c1, c2, c3, c4⟩ := hC.pT u hu
    refine ⟨?_, by rw [sI_n (Or.inl (by decide))]; exact c2, by rw [sI_n (Or.inl (by decide)), um_n (by decide)]; exact c3, by rw [sI_n (Or.inl (by decide)), um_n (by decide)]; exact c4⟩
    by_cases e : u = t
    · subst e; rw [sI_s, um_s]
    · rw [sI_n (Or.inr (fun q => e (hC.pG.tinj hu ht q))), um_sn e]; exact c1
  · exact hC.pO.ag hC.pG hg (fun x => by decide) (fun x => ⟨trivial, trivial, trivial⟩)
theorem CR.cfs (hC : CR g S po go T O M n h a cf ao mL) (hh : ∀ k, k < h → hdN M k < n) (ht : t < n) : CR g (setI S 911 (T t) v) po go T O M n h a (upd cf t v) ao mL := by
  have hg : Ag (fun f _ => f ≠ 911) (fun _ _ => True) (fun _ _ => True) S (setI S 911 (T t) v) := Ag.si (fun q => q rfl)
  refine hC.w1 hh hg Sy.rf rfl (fun _ _ q => q) (fun f x q => by omega) (fun _ _ _ => trivial) (fun _ _ => trivial) (fun u hu => ?_) ?_
  · obtain ⟨c1, c2, c3, c4⟩ := hC.pT u hu
    refine ⟨by rw [sI_n (Or.inl (by decide))]; exact c1, ?_, by rw [sI_n (Or.inl (by decide))]; exact c3, by rw [sI_n (Or.inl (by decide))]; exact c4⟩
    by_cases e : u = t
    · subst e; rw [sI_s, pk_us]
    · rw [sI_n (Or.inr (fun q => e (hC.pG.tinj hu ht q))), pk_un e]; exact c2
  · exact hC.pO.ag hC.pG hg (fun x => by decide) (fun x => ⟨trivial, trivial, trivial⟩)
theorem CR.chs (hC : CR g S po go T O M n h a cf ao mL) (hh : ∀ k, k < h → hdN M k < n) (ht : t < n) : CR g (setI S 912 (T t) v) po go T O (um M 14 t v) n h a cf ao mL := by
  have hg : Ag (fun f _ => f ≠ 912) (fun _ _ => True) (fun _ _ => True) S (setI S 912 (T t) v) := Ag.si (fun q => q rfl)
  refine hC.w1 hh hg (um_sy (by decide)) (um_n (by decide)) (fun _ _ q => q) (fun f x q => by omega) (fun _ _ _ => trivial) (fun _ _ => trivial) (fun u hu => ?_) ?_
  · obtain ⟨c1, c2, c3, c4⟩ := hC.pT u hu
    refine ⟨by rw [sI_n (Or.inl (by decide)), um_n (by decide)]; exact c1, by rw [sI_n (Or.inl (by decide))]; exact c2, ?_, by rw [sI_n (Or.inl (by decide)), um_n (by decide)]; exact c4⟩
    by_cases e : u = t
    · subst e; rw [sI_s, um_s]
    · rw [sI_n (Or.inr (fun q => e (hC.pG.tinj hu ht q))), um_sn e]; exact c3
  · exact hC.pO.ag hC.pG hg (fun x => by decide) (fun x => ⟨trivial, trivial, trivial⟩)
theorem CR.pds (hC : CR g S po go T O M n h a cf ao mL) (hh : ∀ k, k < h → hdN M k < n) (ht : t < n) : CR g (setI S 913 (T t) v) po go T O (um M 15 t v) n h a cf ao mL := by
  have hg : Ag (fun f _ => f ≠ 913) (fun _ _ => True) (fun _ _ => True) S (setI S 913 (T t) v) := Ag.si (fun q => q rfl)
  refine hC.w1 hh hg (um_sy (by decide)) (um_n (by decide)) (fun _ _ q => q) (fun f x q => by omega) (fun _ _ _ => trivial) (fun _ _ => trivial) (fun u hu => ?_) ?_
  · obtain ⟨c1, c2, c3, c4⟩ := hC.pT u hu
    refine ⟨by rw [sI_n (Or.inl (by decide)), um_n (by decide)]; exact c1, by rw [sI_n (Or.inl (by decide))]; exact c2, by rw [sI_n (Or.inl (by decide)), um_n (by decide)]; exact c3, ?_⟩
    by_cases e : u = t
    · subst e; rw [sI_s, um_s]
    · rw [sI_n (Or.inr (fun q => e (hC.pG.tinj hu ht q))), um_sn e]; exact c4
  · exact hC.pO.ag hC.pG hg (fun x => by decide) (fun x => ⟨trivial, trivial, trivial⟩)
theorem favN_um {M : MM} {s u : Nat} {o : Option Nat} (ho : ∀ w, o = some w → w < 1000) : favN (um M 22 s (oI o)) u = if u = s then o else favN M u := by
  by_cases e : u = s
  · subst e; rw [if_pos rfl]; exact favN_oI um_s ho
  · rw [if_neg e]; simp only [favN, um_sn e]
theorem latN_um {M : MM} {s u t : Nat} (ht : t < 1000) : latN (um M 23 s (nI t)) u = if u = s then some t else latN M u := by
  by_cases e : u = s
  · subst e; rw [if_pos rfl]; unfold latN; rw [um_s, if_neg (nI_pos (by omega)), nI_clamp (by omega)]
  · rw [if_neg e]; simp only [latN, um_sn e]
theorem CR.fvs (hC : CR g S po go T O M n h a cf ao mL) (hh : ∀ k, k < h → hdN M k < n) (hs : oV M n s) (ho : ∀ w, o = some w → w < 1000) : CR g (setR S 402 (O s) (o.map T)) po go T O (um M 22 s (oI o)) n h a cf ao mL := by
  have hg : Ag (fun _ _ => True) (fun f _ => f ≠ 402) (fun _ _ => True) S (setR S 402 (O s) (o.map T)) := Ag.sr (fun q => q rfl)
  refine hC.w1 hh hg (um_sy (by decide)) (um_n (by decide)) (fun _ _ q => q) (fun _ _ _ => trivial) (fun f x q => by omega) (fun _ _ => trivial) (hC.pT.ag hC.pG hg (fun _ _ _ _ => trivial)) (fun u hu => ?_)
  obtain ⟨c1, c2, c3, c4⟩ := hC.pO u hu
  rw [favN_um ho]
  refine ⟨?_, by rw [sR_n (Or.inl (by decide))]; exact c2, by rw [sR_n (Or.inl (by decide))]; exact c3, c4⟩
  by_cases e : u = s
  · subst e; rw [sR_s, if_pos rfl]
  · rw [sR_n (Or.inr (fun q => e (hC.pG.oinj hu hs q))), if_neg e]; exact c1
theorem CR.lts (hC : CR g S po go T O M n h a cf ao mL) (hh : ∀ k, k < h → hdN M k < n) (hs : oV M n s) (ht : t < 1000) : CR g (setR S 403 (O s) (some (T t))) po go T O (um M 23 s (nI t)) n h a cf ao mL := by
  have hg : Ag (fun _ _ => True) (fun f _ => f ≠ 403) (fun _ _ => True) S (setR S 403 (O s) (some (T t))) := Ag.sr (fun q => q rfl)
  refine hC.w1 hh hg (um_sy (by decide)) (um_n (by decide)) (fun _ _ q => q) (fun _ _ _ => trivial) (fun f x q => by omega) (fun _ _ => trivial) (hC.pT.ag hC.pG hg (fun _ _ _ _ => trivial)) (fun u hu => ?_)
  obtain ⟨c1, c2, c3, c4⟩ := hC.pO u hu
  rw [latN_um ht]
  refine ⟨by rw [sR_n (Or.inl (by decide))]; exact c1, ?_, by rw [sR_n (Or.inl (by decide))]; exact c3, c4⟩
  by_cases e : u = s
  · subst e; rw [sR_s, if_pos rfl]; rfl
  · rw [sR_n (Or.inr (fun q => e (hC.pG.oinj hu hs q))), if_neg e]; exact c2
theorem CR.aos (hC : CR g S po go T O M n h a cf ao mL) (hh : ∀ k, k < h → hdN M k < n) (hs : oV M n s) : CR g (setR S 404 (O s) (some (T t))) po go T O M n h a cf (fun x => if x = s then some t else ao x) mL := by
  have hg : Ag (fun _ _ => True) (fun f _ => f ≠ 404) (fun _ _ => True) S (setR S 404 (O s) (some (T t))) := Ag.sr (fun q => q rfl)
  refine hC.w1 hh hg Sy.rf rfl (fun _ _ q => q) (fun _ _ _ => trivial) (fun f x q => by omega) (fun _ _ => trivial) (hC.pT.ag hC.pG hg (fun _ _ _ _ => trivial)) (fun u hu => ?_)
  obtain ⟨c1, c2, c3, c4⟩ := hC.pO u hu
  refine ⟨by rw [sR_n (Or.inl (by decide))]; exact c1, by rw [sR_n (Or.inl (by decide))]; exact c2, ?_, c4⟩
  by_cases e : u = s
  · subst e; rw [sR_s, if_pos rfl]; rfl
  · rw [sR_n (Or.inr (fun q => e (hC.pG.oinj hu hs q))), if_neg e]; exact c3
theorem CR.rns (hC : CR g S po go T O M n h a cf ao mL) (hh : ∀ k, k < h → hdN M k < n) (hs : oV M n s) : CR g (setI S 405 (O s) v) po go T O (um M 24 s v) n h a cf ao mL := by
  have hg : Ag (fun f _ => f ≠ 405) (fun _ _ => True) (fun _ _ => True) S (setI S 405 (O s) v) := Ag.si (fun q => q rfl)
  refine hC.w1 hh hg (um_sy (by decide)) (um_n (by decide)) (fun _ _ q => q) (fun f x q => by omega) (fun _ _ _ => trivial) (fun _ _ => trivial) (hC.pT.ag hC.pG hg (fun f x q1 q2 => by omega)) (fun u hu => ?_)
  obtain ⟨c1, c2, c3, c4⟩ := hC.pO u hu
  refine ⟨c1, c2, c3, ?_⟩
  by_cases e : u = s
  · subst e; rw [sI_s, um_s]
  · rw [sI_n (Or.inr (fun q => e (hC.pG.oinj hu hs q))), um_sn e]; exact c4
theorem CR.cfe (hC : CR g S po go T O M n h a cf ao mL) (e : ∀ u, u < n → cf' u = cf u) : CR g S po go T O M n h a cf' ao mL := ⟨hC.1, fun u hu => by rw [e u hu]; exact hC.pT u hu, hC.2.2⟩
theorem CR.aoe (hC : CR g S po go T O M n h a cf ao mL) (e : ∀ u, oV M n u → ao' u = ao u) : CR g S po go T O M n h a cf ao' mL := ⟨hC.1, hC.2.1, hC.2.2.1, fun u hu => by rw [e u hu]; exact hC.pO u hu, hC.2.2.2.2⟩
theorem CR.mLe {mL' : Nat → List Nat} (hC : CR g S po go T O M n h a cf ao mL) (e : ∀ u, oV M n u → mL' u = mL u) : CR g S po go T O M n h a cf ao mL' := ⟨hC.1, hC.2.1, hC.2.2.1, hC.pO, ⟨hC.pL.1, hC.pL.2.1, hC.pL.2.2.1, fun u hu => by rw [e u hu]; exact hC.pL.2.2.2 u hu⟩, hC.2.2.2.2.2⟩
/-- a member joins a set -/
theorem CR.mls (hC : CR g S po go T O M n h a cf ao mL) (hh : ∀ k, k < h → hdN M k < n) (hs : oV M n s) (hA : Au S S1 (rA S 401 (O s)) (108 + s)) (hL : LA g S1 (rA S 401 (O s)) (108 + s) ((mL s).length + 1) (va_up (fun i => T ((mL s).getD i 0)) (mL s).length (T t))) : CR g S1 po go T O M n h a cf ao (fun x => if x = s then mL s ++ [t] else mL x) ∧ GrF po S S1 := by
  obtain ⟨c1, c2, c3, c4, c5, c6, c7⟩ := hC
  have hne : ∀ j, lV M n j → j ≠ 4 + s → lad S po go O j ≠ rA S 401 (O s) := fun j hj h3 e => h3 (c1.linj hj (lV4 hs) (by rw [e, lad4]))
  have hg : Ag (fun f x => x = rA S 401 (O s) → f ≠ 0 ∧ f ≠ 2) (fun f x => x = rA S 401 (O s) → f ≠ 1) (fun r _ => r ≠ 108 + s) S S1 := Au.ag hA ⟨fun q => (q rfl).1 rfl, fun q => (q rfl).2 rfl⟩ (fun q => q rfl rfl) (fun x q => q rfl)
  have ll : ∀ j, lV M n j → lad S1 po go O j = lad S po go O j := fun j hj => c1.ladE (fun f x hf hx => hg.r hx (fun _ => by omega)) hj
  have v : ∀ j, j < 4 → lV M n j := fun j hj => Or.inl hj
  have lk : ∀ j κ N f, lV M n j → j ≠ 4 + s → 104 ≤ κ → κ ≠ 108 + s → LA g S (lad S po go O j) κ N f → LA g S1 (lad S1 po go O j) κ N f := fun j κ N f hj h3 h1 h2 q => by
    rw [ll j hj]
    exact q.ag h1 hg (fun q => absurd q (hne j hj h3)) (fun q => absurd q (hne j hj h3)) (fun x => h2)
  have hpo : po ≠ rA S 401 (O s) := hne 3 (v 3 (by omega)) (by omega)
  refine ⟨⟨c1.ag hg (fun x => ⟨fun _ => by omega, fun _ => by omega⟩) (fun f x q _ => by omega) (fun x => by omega), c2.ag c1 hg (fun f x q1 q2 _ => by omega), c3.ag c1 hh hg (fun x _ => by omega), c4.ag c1 hg (fun x _ => by omega) (fun x => ⟨fun _ => by omega, fun _ => by omega, fun _ => by omega⟩), ⟨lk 0 _ _ _ (v 0 (by omega)) (by omega) (by omega) (by omega) c5.1, lk 1 _ _ _ (v 1 (by omega)) (by omega) (by omega) (by omega) c5.2.1, lk 2 _ _ _ (v 2 (by omega)) (by omega) (by omega) (by omega) c5.2.2.1, fun u hu => ?_⟩, c6.ag c1 hh hg (fun x => ⟨fun _ => by omega, fun _ => by omega⟩) (fun x => by omega), c7.ag c1 hh hg (fun x _ => by omega) (fun x => by omega)⟩, ?_⟩
  · by_cases e : u = s
    · subst e
      rw [ll _ (lV4 hu), lad4]
      dsimp only
      rw [if_pos rfl, List.length_append]
      refine hL.cg (fun i hi => ?_)
      by_cases e2 : i = (mL u).length
      · subst e2
        rw [va_up_self]
        simp
      · have hi2 : i < (mL u).length := by omega
        rw [va_up_ne _ _ e2, List.getD_eq_getElem?_getD, List.getElem?_append_left hi2, ← List.getD_eq_getElem?_getD]
    · dsimp only
      rw [if_neg e]
      exact lk (4 + u) _ _ _ (lV4 hu) (by omega) (by omega) (by omega) (c5.2.2.2 u hu)
  · refine hg.mo (fun f x q e => ?_) (fun f x q e => ?_) (fun r x q => by unfold oA at q; omega)
    · by_cases f3 : f < 3
      · exact absurd ((q.1 f3).symm.trans e) hpo
      · omega
    · by_cases f3 : f < 3
      · exact absurd ((q.1 f3).symm.trans e) hpo
      · omega
end Writes
