/-! What every call keeps: polls and choices -/
def YS (F : MM) (k al : Nat) : Prop := ∀ p, p < 6 → ¬ F 25 p < 0 → sdn (F 28) p k (nI 1) < al
def NX (F : MM) (v : Int32) : Prop := ∀ p, p < 6 → ¬ F 25 p < 0 → F 25 p < v
section KeepF
variable {M F F' : MM} {G : Nat → Int32} {n h a t p j c k al : Nat} {X : Int64} {wt : Nat → Nat} {v y : Int32} {w : Bool}
theorem dD_mem {i : Nat} : ∀ j, i < j → dD wt X j (smp wt X i) = true
  | 0, q => absurd q (by omega)
  | j + 1, q => by
    show (dD wt X j (smp wt X i) || decide (smp wt X i = smp wt X j)) = true
    by_cases e : i = j
    · subst e; rw [decide_eq_true rfl, Bool.or_true]
    · rw [dD_mem j (by omega), Bool.true_or]
theorem smp_lt {i : Nat} (hk : k ≤ cntU (fun p => decide (0 < wt p)) 20) (hi : i < k) : smp wt X i < 20 ∧ dD wt X i (smp wt X i) = false := dP_lt (dD_pos hk hi)
theorem smp_inj {i i' : Nat} (hk : k ≤ cntU (fun p => decide (0 < wt p)) 20) (hi : i < k) (hi' : i' < k) (e : smp wt X i = smp wt X i') : i = i' := by
  rcases Nat.lt_trichotomy i i' with q | q | q
  · have := (smp_lt (X := X) hk hi').2; rw [← e, dD_mem i' q] at this; cases this
  · exact q
  · have := (smp_lt (X := X) hk hi).2; rw [e, dD_mem i q] at this; cases this
/-- one more poll -/
theorem Nu.pol (hu : Nu F) (hx : NX F v) (hop : opn (F 25) ≠ 6) : Nu (polF F wt X v t k) := by
  obtain ⟨h1, h2⟩ := fst6_free hop
  intro p p' hp hp' ho e
  rw [polF_25] at ho e
  by_cases c1 : p = fst6 (F 25)
  · by_cases c2 : p' = fst6 (F 25)
    · rw [c1, c2]
    · rw [c1, pk_us, pk_un c2] at e
      by_cases o2 : F 25 p' < 0
      · rw [c1, pk_us, e] at ho; exact absurd o2 ho
      · have := hx p' hp' o2; rw [← e] at this; exact absurd this (Int32.not_lt.mpr (Int32.le_refl _))
  · rw [pk_un c1] at ho e
    by_cases c2 : p' = fst6 (F 25)
    · rw [c2, pk_us] at e
      have := hx p hp ho; rw [e] at this; exact absurd this (Int32.not_lt.mpr (Int32.le_refl _))
    · rw [pk_un c2] at e
      exact hu p p' hp hp' ho e
theorem NX.pol (hx : NX F v) (hv : v < v + nI 1) : NX (polF F wt X v t k) (v + nI 1) := by
  intro p hp ho
  rw [polF_25] at ho ⊢
  by_cases c1 : p = fst6 (F 25)
  · rw [c1, pk_us]; exact hv
  · rw [pk_un c1] at ho ⊢; exact Int32.lt_trans (hx p hp ho) hv
theorem Ds.pol (hD : Ds F k) (hk10 : k ≤ 10) (hk : k ≤ cntU (fun p => decide (0 < wt p)) 20) : Ds (polF F wt X v t k) k := by
  intro p hp ho i j hi hj e
  rw [polF_25] at ho
  rw [polF_27, sm27_at, sm27_at] at e
  by_cases c1 : p = fst6 (F 25)
  · subst c1
    rw [if_pos (by omega), if_pos (by omega), show 10 * fst6 (F 25) + i - 10 * fst6 (F 25) = i by omega, show 10 * fst6 (F 25) + j - 10 * fst6 (F 25) = j by omega] at e
    exact smp_inj hk hi hj (nI_inj' e (by have := (smp_lt (X := X) hk hi).1; omega) (by have := (smp_lt (X := X) hk hj).1; omega))
  · rw [pk_un c1] at ho
    rw [if_neg (by omega), if_neg (by omega)] at e
    exact hD p hp ho i j hi hj e
theorem YS.pol (hY : YS F k al) (hk10 : k ≤ 10) (hal : 1 ≤ al) : YS (polF F wt X v t k) k al := by
  intro p hp ho
  rw [polF_25] at ho
  rw [polF_28]
  by_cases c1 : p = fst6 (F 25)
  · have : sdn (sm28 (F 28) (fst6 (F 25)) k) p k (nI 1) = 0 := by
      unfold sdn
      rw [cntU_congr (h := fun _ => false) (fun i hi => by rw [sm28_at, if_pos (by omega)]; decide)]
      exact cnt_z (fun _ => rfl) k
    rw [this]; omega
  · rw [pk_un c1] at ho
    have : sdn (sm28 (F 28) (fst6 (F 25)) k) p k (nI 1) = sdn (F 28) p k (nI 1) := by
      unfold sdn
      exact cntU_congr (fun i hi => by rw [sm28_at, if_neg (by omega)])
    rw [this]; exact hY p hp ho
theorem AB.pol (hA : AB M F n h) (hC : CPd M n) (hG : GV M n h) (hab : abo M h = some t) (hop : opn (F 25) ≠ 6) : AB (um M 15 t (nI 1)) (polF F wt X v t k) n h := by
  obtain ⟨f1, f2⟩ := fst6_free hop
  obtain ⟨ht, i, hi, hit, h13, h15⟩ := abo_lt hG hab
  have hn := hG.1
  have e : Sy M (um M 15 t (nI 1)) := um_sy (by decide)
  have ch : ∀ u, chitB (um M 15 t (nI 1)) u = chitB M u := fun u => by unfold chitB; rw [um_n (by decide)]
  have old : ∀ q, q < 6 → q ≠ fst6 (F 25) → ¬ polF F wt X v t k 25 q < 0 → ¬ F 25 q < 0 := fun q _ hne z => by rw [polF_25, pk_un hne] at z; exact z
  refine ⟨fun q hq z => ?_, fun q q' hq hq' z z' e26 => ?_⟩
  · by_cases c : q = fst6 (F 25)
    · subst c
      exact ⟨t, ht, by rw [polF_26, pk_us], by rw [e.hb]; exact hdB_iff.mpr ⟨i, hi, hit⟩, by rw [ch]; exact hC t ht h15, by rw [um_s]; decide⟩
    · obtain ⟨u, a1, a2, a3, a4, a5⟩ := hA.1 q hq (old q hq c z)
      have hne : u ≠ t := fun x => by rw [x] at a5; exact a5 h15
      exact ⟨u, a1, by rw [polF_26, pk_un c]; exact a2, by rw [e.hb]; exact a3, by rw [ch]; exact a4, by rw [um_sn hne]; exact a5⟩
  · rw [polF_26] at e26
    have sep : ∀ q, q < 6 → q ≠ fst6 (F 25) → ¬ polF F wt X v t k 25 q < 0 → F 26 q ≠ nI t := fun q hq c z x => by
      obtain ⟨u, a1, a2, a3, a4, a5⟩ := hA.1 q hq (old q hq c z)
      rw [a2] at x
      rw [nI_inj' x (by omega) (by omega)] at a5
      exact a5 h15
    by_cases c : q = fst6 (F 25)
    · by_cases c' : q' = fst6 (F 25)
      · rw [c, c']
      · rw [c, pk_us, pk_un c'] at e26; exact absurd e26.symm (sep q' hq' c' z')
    · by_cases c' : q' = fst6 (F 25)
      · rw [c', pk_us, pk_un c] at e26; exact absurd e26 (sep q hq c z)
      · rw [pk_un c, pk_un c'] at e26
        exact hA.2 q q' hq hq' (old q hq c z) (old q' hq' c' z') e26
theorem CPd.pol (hC : CPd M n) : CPd (um M 15 t (nI 1)) n := fun u hu q => by
  unfold chitB
  rw [um_n (by decide)]
  by_cases c : u = t
  · subst c; rw [um_s] at q; exact absurd q (by decide)
  · rw [um_sn c] at q; exact hC u hu q
/-- a poll is closed -/
def Clz (F F' : MM) (p : Nat) : Prop := (∀ q, q ≠ p → F' 25 q = F 25 q) ∧ F' 25 p < 0 ∧ F' 26 = F 26 ∧ F' 27 = F 27 ∧ ∀ q i, q ≠ p → i < 10 → F' 28 (10 * q + i) = F 28 (10 * q + i)
theorem Clz.op (hc : Clz F F' p) {q : Nat} (z : ¬ F' 25 q < 0) : q ≠ p ∧ ¬ F 25 q < 0 := by
  have hne : q ≠ p := fun e => by rw [e] at z; exact z hc.2.1
  exact ⟨hne, by rw [← hc.1 q hne]; exact z⟩
theorem Nu.clz (hu : Nu F) (hc : Clz F F' p) : Nu F' := fun q q' hq hq' z e => by
  obtain ⟨n1, o1⟩ := hc.op z
  obtain ⟨n2, -⟩ := hc.op (q := q') (by rw [← e]; exact z)
  rw [hc.1 q n1, hc.1 q' n2] at e
  exact hu q q' hq hq' o1 e
theorem NX.clz (hx : NX F v) (hc : Clz F F' p) : NX F' v := fun q hq z => by
  obtain ⟨n1, o1⟩ := hc.op z
  rw [hc.1 q n1]; exact hx q hq o1
theorem Ds.clz (hD : Ds F k) (hc : Clz F F' p) : Ds F' k := fun q hq z => by
  obtain ⟨n1, o1⟩ := hc.op z
  rw [hc.2.2.2.1]; exact hD q hq o1
theorem YS.clz (hY : YS F k al) (hk : k ≤ 10) (hc : Clz F F' p) : YS F' k al := fun q hq z => by
  obtain ⟨n1, o1⟩ := hc.op z
  have : sdn (F' 28) q k (nI 1) = sdn (F 28) q k (nI 1) := by
    unfold sdn
    exact cntU_congr (fun i hi => by rw [hc.2.2.2.2 q i n1 (by omega)])
  rw [this]; exact hY q hq o1
theorem clz_ex : Clz F (um F 25 p (-1)) p := ⟨fun q hq => um_sn hq, by rw [um_s]; decide, um_n (by decide), um_n (by decide), fun q i _ _ => by rw [um_n (by decide)]⟩
theorem clz_an (hj : j < 10) : Clz F (um (anF F p j w) 25 p (-1)) p := by
  refine ⟨fun q hq => ?_, by rw [um_s]; decide, ?_, ?_, fun q i hq hi => ?_⟩
  · rw [um_sn hq, anF_n (by decide)]
  · rw [um_n (by decide), anF_n (by decide)]
  · rw [um_n (by decide), anF_n (by decide)]
  · rw [um_n (by decide)]; unfold anF; rw [um_sn (by omega)]
theorem anJ_lt (hj : anJ F k (some p) y = some j) : j < k := (lastU_lt hj).1
theorem YS.an (hY : YS F k al) (hk : k ≤ 10) (hj : j < k) (hp : p < 6) (ho : ¬ F 25 p < 0) (hsd : F 28 (10 * p + j) = 0) (hE : anE F p j w k al = false) : YS (anF F p j w) k al := by
  unfold anE at hE
  rw [Bool.or_eq_false_iff] at hE
  have hW := hE.1
  unfold anW at hW
  intro q hq z
  rw [anF_n (by decide)] at z
  by_cases c : q = p
  · subst c
    have h1 := an_le (w := w) hj hsd (hY q hq z)
    have h2 := of_decide_eq_false hW
    omega
  · have : sdn (anF F p j w 28) q k (nI 1) = sdn (F 28) q k (nI 1) := by
      show sdn (um F 28 (10 * p + j) (anV w) 28) q k (nI 1) = _
      simp only [um, uk_s]
      exact sdn_o hj hk c
    rw [this]; exact hY q hq z
/-! choices -/
theorem CH.put (hH : CH F) (h33 : F' 33 j = nI k) (hk : k ≤ 8) (h34 : OK6 (F' 34 j)) (ho : ∀ i, i < 8 → i ≠ j → F' 33 i = F 33 i ∧ F' 34 i = F 34 i) : CH F' := by
  intro i hi
  by_cases c : i = j
  · subst c
    refine ⟨?_, h34.cho⟩
    unfold coN
    rw [h33, nI_clamp (by omega)]
    exact ⟨rfl, hk⟩
  · have := hH i hi
    unfold coN clO at this ⊢
    rw [(ho i hi c).1, (ho i hi c).2]
    exact this
theorem CH.beg {r : Int32} (hH : CH F) (hk : k ≤ 8) : CH (begF F j r (nI k)) := hH.put begF_33 hk (Or.inl begF_34) (fun i _ hne => ⟨begF_o (by omega) hne, begF_o (by omega) hne⟩)
theorem VI.beg {r : Int32} {kk : Nat} (hV : VI F k) : VI (begF F j r (nI kk)) k := by
  intro i hi
  by_cases ci : i = j
  · subst ci
    refine ⟨fun _ => 0, fun c hc => by rw [begF_38, zr8_i hc], by show 0 + 0 + 0 + 0 + 0 + 0 + 0 + 0 + 0 ≤ k; omega, fun _ _ _ => rfl⟩
  · obtain ⟨v, h1, h2, h3⟩ := hV i hi
    refine ⟨v, fun c hc => by rw [begF_38, zr8_o (by omega)]; exact h1 c hc, h2, fun c hc => h3 c ?_⟩
    unfold coN at hc ⊢
    rw [begF_o (by omega) ci] at hc
    exact hc
theorem CH.meet (hH : CH F) (hj : j < 8) (hc : c < 8) : CH (um F 34 j (if F 34 j < 0 then nI c else F 34 j)) := by
  refine hH.put (k := coN F j) (by rw [um_n (by decide)]; exact (hH j hj).1.1) (hH j hj).1.2 ?_ (fun i _ hne => ⟨by rw [um_n (by decide)], um_sn hne⟩)
  rw [um_s]
  split
  · exact Or.inr ⟨c, hc, rfl⟩
  · exact hH.ok6 hj
theorem vts_sv {f : Nat → Int32} {u : Nat → Nat} : ∀ m, (∀ c, c < m → f (8 * j + c) = nI (u c)) → vts f j m = nI (sv u m)
  | 0, _ => rfl
  | m + 1, q => by
    show vts f j m + f (8 * j + m) = nI (sv u m + u m)
    rw [vts_sv m (fun c hc => q c (by omega)), q m (by omega), nI_add]
theorem sv_upd {u : Nat → Nat} {z : Nat} : ∀ m, sv (fun i => if i = c then u c + z else u i) m = sv u m + (if c < m then z else 0)
  | 0 => by rw [if_neg (by omega)]; rfl
  | m + 1 => by
    show sv (fun i => if i = c then u c + z else u i) m + (if m = c then u c + z else u m) = sv u m + u m + _
    rw [sv_upd m]
    by_cases e : m = c
    · subst e; rw [if_neg (by omega), if_pos rfl, if_pos (by omega)]; omega
    · rw [if_neg e]
      by_cases q : c < m
      · rw [if_pos q, if_pos (by omega)]; omega
      · rw [if_neg q, if_neg (by omega)]; omega
theorem VI.votes (hV : VI F k) (hH : CH F) (hk : k ≤ 10) (hj : j < 8) (hc : c < coN F j) (hkG : G 2 = nI k) (hy : ¬ y < nI 1) (hno : ¬ G 2 - vts (F 38) j 8 < y) : VI (um F 38 (8 * j + c) (F 38 (8 * j + c) + y)) k := by
  have hc8 : c < 8 := by have := (hH j hj).1.2; omega
  intro i hi
  by_cases e : i = j
  · subst e
    obtain ⟨u, h1, h2, h3⟩ := hV i hi
    obtain ⟨z, hz, rfl⟩ := nI_of (x := y) (fun q => hy (Int32.lt_trans q (by decide)))
    have hzk : z ≤ k - sv u 8 := by
      rw [hkG, vts_sv 8 h1, pk_sub h2] at hno
      have := Int32.not_lt.mp hno
      exact (nI_leI hz (by omega)).mp this
    refine ⟨fun x => if x = c then u c + z else u x, fun x hx => ?_, by rw [sv_upd, if_pos hc8]; omega, fun x hx hx8 => ?_⟩
    · by_cases q : x = c
      · subst q; rw [um_s, h1 x hx, nI_add]; exact congrArg nI (if_pos rfl).symm
      · rw [um_sn (by omega), h1 x hx]; exact congrArg nI (if_neg q).symm
    · have hx' : coN F i ≤ x := by unfold coN at hx ⊢; rw [um_n (by decide)] at hx; exact hx
      exact (if_neg (by omega)).trans (h3 x hx' hx8)
  · obtain ⟨u, h1, h2, h3⟩ := hV i hi
    exact ⟨u, fun x hx => by rw [um_sn (by omega)]; exact h1 x hx, h2, fun x hx => h3 x (by unfold coN at hx ⊢; rw [um_n (by decide)] at hx; exact hx)⟩
theorem rnd_ok {wn : Option Nat} {b1 b2 : Int32} (hH : CH F) (hV : VI F k) (hj : j < 8) (hw : ∀ u, wn = some u → u < 8) : CH (rnF F j wn b1 b2) ∧ VI (rnF F j wn b1 b2) k ∧ ∀ q, (q < 32 ∨ 39 < q) → rnF F j wn b1 b2 q = F q := by
  obtain ⟨-, -, -, ⟨r32, r33, r36, r38⟩, ro, r39, r34, rk⟩ : MidOK (uk F 38 (zr8 (F 38) j 8)) (ru2 (uk F 38 (zr8 (F 38) j 8)) j wn) j _ _ _ := mid_ok (A := fun q => if q = 3 then F 32 j else if q = 6 then F 34 j else if q = 7 then F 37 j else if q = 8 then F 35 j else nI 0) (W := fun c => F 39 (8 * j + c)) (w := wn) rfl ⟨rfl, rfl, rfl, rfl⟩ (fun c _ => rfl) (hH.ok6 hj) hw
  have R33 : rnF F j wn b1 b2 33 = F 33 := by rw [rnF_k (by decide), r33]; rfl
  have R38 : rnF F j wn b1 b2 38 = zr8 (F 38) j 8 := by rw [rnF_k (by decide), r38, uk_s]
  refine ⟨hH.put (k := coN F j) (by rw [R33]; exact (hH j hj).1.1) (hH j hj).1.2 (by rw [rnF_k (by decide)]; exact r34) (fun i _ hne => ⟨by rw [R33], by rw [rnF_k (by decide), ro 34 i hne (by decide), uk_n (by decide)]⟩), fun i hi => ?_, fun q hq => ?_⟩
  · by_cases c : i = j
    · subst c
      exact ⟨fun _ => 0, fun c hc => by rw [R38, zr8_i hc], by show 0 + 0 + 0 + 0 + 0 + 0 + 0 + 0 + 0 ≤ k; omega, fun _ _ _ => rfl⟩
    · obtain ⟨v, h1, h2, h3⟩ := hV i hi
      exact ⟨v, fun c hc => by rw [R38, zr8_o (by omega)]; exact h1 c hc, h2, fun c hc => h3 c (by unfold coN at hc ⊢; rw [R33] at hc; exact hc)⟩
  · rw [rnF_k (by omega), rk q hq, uk_n (by omega)]
end KeepF
