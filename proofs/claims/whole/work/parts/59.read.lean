/-! The class: a row is read -/
theorem isT_iff {tb : Nat → Nat} {m : Nat} : isT tb m = true ↔ fewB (tb 0) = true ∧ tP tb < m ∧ lo1 tb (tb 0) = true ∧ fewB (tb (tP tb)) = true ∧ tQ tb < m ∧ lo2 tb (tb (tP tb)) = true ∧ fewB (tb (tQ tb)) = true ∧ m = tQ tb + 1 + 4 * tb (tQ tb) ∧ lo3 tb (tb (tQ tb)) = true := by
  simp only [isT, Bool.and_eq_true, decide_eq_true_eq, and_assoc]
theorem few_b {x : Nat} (h : fewB x = true) : 1 ≤ x ∧ x ≤ 4 := by
  simp only [fewB, Bool.and_eq_true, decide_eq_true_eq] at h
  omega
theorem lo_s {f : Nat → Bool} {j : Nat} : allU f (j + 1) = true ↔ allU f j = true ∧ f j = true := by
  simp only [allU, Bool.and_eq_true]
/-- what a row's transaction is made of -/
def RT (g : GG) (S : hS) (t : Nat) (id : Int32) (ra pa ia xa oa qa sa na : Nat) (tb : Nat → Nat) (O L : Nat → Nat) : Prop :=
  TI S t id ra pa ia xa oa qa sa na (tb 0) (tb (tP tb)) ∧
  (sK S pa = 33 ∧ sN S pa = tb 0 ∧ ∀ i, i < tb 0 → aI S 33 pa i = f4 tb (1 + 4 * i)) ∧
  (sK S ia = 34 ∧ sN S ia = tb (tP tb) ∧ ∀ i, i < tb (tP tb) → aI S 34 ia i = f4 tb (tP tb + 1 + 5 * i)) ∧
  (sK S xa = 35 ∧ sN S xa = tb (tP tb) ∧ ∀ i, i < tb (tP tb) → aI S 35 xa i = nI (tb (tP tb + 5 + 5 * i))) ∧
  (sK S oa = 101 ∧ sN S oa = tb (tQ tb) ∧ ∀ i, i < tb (tQ tb) → aR S 101 oa i = some (O i) ∧ ON g S (O i) (L i) (f4 tb (tQ tb + 1 + 4 * i))) ∧
  (∀ i j, i < tb (tQ tb) → j < tb (tQ tb) → (O i = O j → i = j) ∧ (L i = L j → i = j))
section Wrap
variable {l : Launch} {g : GG} {S : hS} {ro ra m i : Nat} {tb : Nat → Nat} {ok : Bool}
theorem cw_few (hR : RD S ro ra m tb) (hb : ∀ i, tb i < 256) (hi : i ≤ m) (h1 : sI S 701 ro = nI i) (h2 : sI S 702 ro = bi ok) : Sp l g mX6_nextFew 0 0 [vr (some ro)] S (fun r S' => ∃ k i2 ok2, r = some (vi (nI k)) ∧ S' = rput S ro (nI i2) (bi ok2) ∧ i2 ≤ m ∧ k ≤ 4 ∧ (ok2 = true ↔ ok = true ∧ i < m ∧ fewB (tb i) = true) ∧ (ok2 = true → k = tb i ∧ i2 = i + 1)) := by
  have q := cl_nextFew (l := l) (g := g) (i := i) (ok := ok) hR hb hi
  rw [rp_id h1 h2] at q
  exact q
theorem cw_id (hR : RD S ro ra m tb) (hb : ∀ i, tb i < 256) (hi : i ≤ m) (h1 : sI S 701 ro = nI i) (h2 : sI S 702 ro = bi ok) : Sp l g mX6_nextId 0 0 [vr (some ro)] S (fun r S' => ∃ v i2 ok2, r = some (vi v) ∧ S' = rput S ro (nI i2) (bi ok2) ∧ i2 ≤ m ∧ (ok2 = true ↔ ok = true ∧ i + 4 ≤ m ∧ tb i < 128) ∧ (ok2 = true → v = f4 tb i ∧ i2 = i + 4)) := by
  have q := cl_nextId (l := l) (g := g) (i := i) (ok := ok) hR hb hi
  rw [rp_id h1 h2] at q
  exact q
theorem cw_am (hR : RD S ro ra m tb) (hb : ∀ i, tb i < 256) (hi : i ≤ m) (h1 : sI S 701 ro = nI i) (h2 : sI S 702 ro = bi ok) : Sp l g mX6_nextAmount 0 0 [vr (some ro)] S (fun r S' => ∃ v i2 ok2, r = some (vi v) ∧ S' = rput S ro (nI i2) (bi ok2) ∧ i2 ≤ m ∧ (ok2 = true ↔ ok = true ∧ i + 4 ≤ m ∧ okA (f4 tb i) = true) ∧ (ok2 = true → v = f4 tb i ∧ i2 = i + 4)) := by
  have q := cl_nextAmount (l := l) (g := g) (i := i) (ok := ok) hR hb hi
  rw [rp_id h1 h2] at q
  exact q
theorem cw_by (hR : RD S ro ra m tb) (hi : i ≤ m) (h1 : sI S 701 ro = nI i) (h2 : sI S 702 ro = bi ok) : Sp l g mX6_nextByte 0 0 [vr (some ro)] S (fun r S' => ∃ v i2 ok2, r = some (vi v) ∧ S' = rput S ro (nI i2) (bi ok2) ∧ i2 ≤ m ∧ (ok2 = true ↔ ok = true ∧ i < m) ∧ (ok2 = true → v = nI (tb i) ∧ i2 = i + 1)) := by
  have q := cl_nextByte (l := l) (g := g) (i := i) (ok := ok) hR hi
  rw [rp_id h1 h2] at q
  refine q.mono (fun r S' h => ?_)
  rcases h with ⟨a, b, c⟩ | ⟨a, b, c⟩
  · exact ⟨_, i + 1, ok, b, c, by omega, ⟨fun h => ⟨h, a⟩, fun h => h.1⟩, fun _ => ⟨rfl, rfl⟩⟩
  · exact ⟨_, i, false, b, c, hi, ⟨fun h => (by cases h), fun h => absurd h.2 (by omega)⟩, fun h => (by cases h)⟩
end Wrap
/-- where the reading stands: its place, whether all fits so far -/
def RS (S S1 : hS) (ro ra m : Nat) (tb : Nat → Nat) (i2 : Nat) (ok2 : Bool) : Prop := RD S1 ro ra m tb ∧ sI S1 701 ro = nI i2 ∧ sI S1 702 ro = bi ok2 ∧ i2 ≤ m ∧ Fx S S1 ∧ sK S ro = 0
theorem RS.rp {S S1 : hS} {ro ra m i2 i3 : Nat} {tb : Nat → Nat} {ok2 ok3 : Bool} (h : RS S S1 ro ra m tb i2 ok2) (hi : i3 ≤ m) : RS S (rput S1 ro (nI i3) (bi ok3)) ro ra m tb i3 ok3 := ⟨h.1.rp, rp_a, rp_f, hi, h.2.2.2.2.1.z h.2.2.2.2.2 ((Fz.si Fz.rf).si), h.2.2.2.2.2⟩
section Read
variable {l : Launch} {g : GG} {S : hS}
/-- all as it was but the digest's words -/
def Fdg (S S' : hS) : Prop := ∀ a, sK S a ≠ 0 → sK S' a = sK S a ∧ (∀ f, sI S' f a = sI S f a) ∧ (∀ f, sR S' f a = sR S f a) ∧ (∀ f, sJ S' f a = sJ S f a) ∧ sN S' a = sN S a ∧ (∀ r, r ≠ 31 → r ≠ 32 → aI S' r a = aI S r a) ∧ (∀ r, aJ S' r a = aJ S r a) ∧ (∀ r, aR S' r a = aR S r a)
theorem ON.fe {E : List Nat} {S1 S2 : hS} {oo lo : Nat} {am : Int32} (h : ON g S1 oo lo am) (hf : FE E S1 S2) (h1 : oo ∉ E) (h2 : lo ∉ E) : ON g S2 oo lo am := by
  obtain ⟨a1, a2, a3, ⟨a4, a5, a6, a7⟩, a8, a9, a10⟩ := h
  obtain ⟨b1, b2, b3, -⟩ := hf oo (by omega) h1
  obtain ⟨c1, c2, c3, -⟩ := hf lo (by omega) h2
  exact ⟨b1.trans a1, (b2 _).trans a2, (b3 _).trans a3, ⟨(b3 _).trans a4, (b3 _).trans a5, (b3 _).trans a6, (b2 _).trans a7⟩, c1.trans a8, (c2 _).trans a9, (c3 _).trans a10⟩
theorem RD.fe {E : List Nat} {S1 S2 : hS} {ro ra m : Nat} {tb : Nat → Nat} (h : RD S1 ro ra m tb) (hf : FE E S1 S2) (h1 : ra ∉ E) (hk : sK S2 ro = 8) (hr : sR S2 700 ro = some ra) : RD S2 ro ra m tb := by
  obtain ⟨a1, a2, a3, a4, a5, a6⟩ := h
  obtain ⟨c1, c2, c3, c4, c5, c6, c7, c8⟩ := hf ra (by omega) h1
  exact ⟨hk, hr, c1.trans a3, c5.trans a4, fun i hi => by rw [c6]; exact a5 i hi, a6⟩
/-- after a step on what is new -/
theorem RS.fe {S S1 S2 : hS} {ro ra m i2 : Nat} {tb : Nat → Nat} {ok2 : Bool} {E : List Nat} (h : RS S S1 ro ra m tb i2 ok2) (hf : FE E S1 S2) (hE : ∀ q ∈ E, sK S q = 0) (hro : ro ∉ E) (hra : sK S ra ≠ 0) : RS S S2 ro ra m tb i2 ok2 := by
  obtain ⟨h1, h2, h3, h4, h5, h6⟩ := h
  obtain ⟨a1, a2, a3, -⟩ := hf ro (by rw [h1.1]; omega) hro
  exact ⟨h1.fe hf (fun q => hra (hE _ q)) (a1.trans h1.1) ((a3 _).trans h1.2.1), (a2 _).trans h2, (a2 _).trans h3, h4, fun a ha => by
    obtain ⟨c1, c2, c3, c4, c5, c6, c7, c8⟩ := h5 a ha
    obtain ⟨b1, b2, b3, b4, b5, b6, b7, b8⟩ := hf a (by rw [c1]; exact ha) (fun q => ha (hE _ q))
    exact ⟨b1.trans c1, fun f => (b2 f).trans (c2 f), fun f => (b3 f).trans (c3 f), fun f => (b4 f).trans (c4 f), b5.trans c5, fun f => (b6 f).trans (c6 f), fun f => (b7 f).trans (c7 f), fun f => (b8 f).trans (c8 f)⟩, h6⟩
/-- the first part: the reader, the parents -/
theorem rd_ro {ra m : Nat} {tb : Nat → Nat} {q : Nat} (hq : sK S q = 0) (hk : sK S ra = 22) (hm : sN S ra = m) (hm2 : m ≤ 128) (ht : ∀ i, i < m → aI S 22 ra i &&& nI 255 = nI (tb i)) : RD (setI (setI (setR (newO S q 8) 700 q (some ra)) 701 q (nI 0)) 702 q (nI 1)) q ra m tb := by
  have hne : ra ≠ q := ne_kq hq (by omega)
  exact ⟨sK_nos, sR_s, (sK_no hne).trans hk, hm, ht, hm2⟩
theorem cl_rdinit {ro ra : Nat} (hk : sK S ro = 8) : Sp l g mX6_init 0 0 [vr (some ro), vr (some ra)] S (fun r S' => r = none ∧ S' = setI (setI (setR S 700 ro (some ra)) 701 ro (nI 0)) 702 ro (nI 1)) := by
  refine Sp.start (own := RX6) [(0, vr (some ro)), (1, vr (some ra))] (by decide +kernel) rfl rfl (Nat.le_of_ble_eq_true rfl) ?_
  intro J C
  refine r_aload_n (pc := 0) C dX6_init_0 rfl ?_
  refine r_oinit (pc := 1) C dX6_init_1 ml_RX6_1 (by decide) (by decide) ?_
  refine r_aload_n (pc := 4) C dX6_init_4 rfl ?_
  refine r_aload_n (pc := 5) C dX6_init_5 rfl ?_
  refine r_putR (pc := 6) C dX6_init_6 fx_RX6_7 (fq_7_0 _ rfl rfl) hk ?_
  refine r_aload_n (pc := 9) C dX6_init_9 rfl ?_
  refine r_iconst (pc := 10) C (nI 0) dX6_init_10 rfl ?_
  refine r_putI (pc := 11) C dX6_init_11 fx_RX6_13 (fp_7_1 _) hk ?_
  refine r_aload_n (pc := 14) C dX6_init_14 rfl ?_
  refine r_iconst (pc := 15) C (nI 1) dX6_init_15 rfl ?_
  refine r_putI (pc := 16) C dX6_init_16 fx_RX6_17 (fp_7_2 _ (Or.inr rfl)) hk ?_
  refine r_ret (pc := 19) C dX6_init_19 rfl (by omega) (by omega) ?_
  exact ⟨rfl, rfl⟩
theorem Fdg.b {S S1 S2 S3 : hS} {q : Nat} (h1 : Fx S S1) (h2 : Fdg S1 S2) (hq : sK S q = 0) (h3 : Fz S2 S3 q) : Fdg S S3 := fun a ha => by
  obtain ⟨a1, a2, a3, a4, a5, a6, a7, a8⟩ := h1 a ha
  have e1 : sK S1 a ≠ 0 := by rw [a1]; exact ha
  obtain ⟨b1, b2, b3, b4, b5, b6, b7, b8⟩ := h2 a e1
  obtain ⟨c1, c2, c3, c4, c5, c6, c7, c8⟩ := h3 a (by rw [b1]; exact e1) (fun e => ha (by rw [e]; exact hq))
  exact ⟨(c1.trans b1).trans a1, fun f => ((c2 f).trans (b2 f)).trans (a2 f), fun f => ((c3 f).trans (b3 f)).trans (a3 f), fun f => ((c4 f).trans (b4 f)).trans (a4 f), (c5.trans b5).trans a5, fun r r1 r2 => ((c6 r).trans (b6 r r1 r2)).trans (a6 r), fun f => ((c7 f).trans (b7 f)).trans (a7 f), fun f => ((c8 f).trans (b8 f)).trans (a8 f)⟩
theorem cl_read {ra dg wa ta m : Nat} {tb : Nat → Nat} (hk : sK S ra = 22) (hn : sN S ra = m) (h1 : 1 ≤ m) (hm : m ≤ 128) (htb : ∀ i, i < m → aI S 22 ra i &&& nI 255 = nI (tb i)) (hb : ∀ i, tb i < 256) (hD : DG S dg wa ta) : Sp l g mX6_readTransaction 20 100 [vr (some ra), vr (some dg)] S (fun r S' => (isT tb m = false ∧ r = some (vr none) ∧ Fx S S') ∨ (isT tb m = true ∧ ∃ t pa ia xa oa qa sa na O L, r = some (vr (some t)) ∧ RT g S' t (idv tb stT rdT m) ra pa ia xa oa qa sa na tb O L ∧ Fdg S S' ∧ DG S' dg wa ta ∧ (sK S t = 0 ∧ sK S pa = 0 ∧ sK S ia = 0 ∧ sK S xa = 0 ∧ sK S oa = 0 ∧ sK S qa = 0 ∧ sK S sa = 0 ∧ sK S na = 0) ∧ ∀ i, i < tb (tQ tb) → sK S (O i) = 0 ∧ sK S (L i) = 0)) := by
  generalize hb0 : isT tb m = tt
  refine Sp.start (own := RX6) [(0, vr (some ra)), (1, vr (some dg))] (by decide +kernel) rfl rfl (Nat.le_of_ble_eq_true rfl) ?_
  intro J C
  -- the end: the transaction is made
  have P4 : ∀ (ro pa ia xa oa : Nat) (O L : Nat → Nat) (i2 : Nat) (ok2 : Bool) (S1 : hS), RD S1 ro ra m tb → sI S1 701 ro = nI i2 → sI S1 702 ro = bi ok2 → i2 ≤ m → Fx S S1 → (sK S pa = 0 ∧ sK S ia = 0 ∧ sK S xa = 0 ∧ sK S oa = 0) → (∃ p x o, sK S1 pa = 33 ∧ sN S1 pa = p ∧ p ≤ 4 ∧ sK S1 ia = 34 ∧ sN S1 ia = x ∧ x ≤ 4 ∧ sK S1 xa = 35 ∧ sN S1 xa = x ∧ sK S1 oa = 101 ∧ sN S1 oa = o ∧
      (ok2 = true → p = tb 0 ∧ x = tb (tP tb) ∧ o = tb (tQ tb) ∧ (∀ i, i < p → aI S1 33 pa i = f4 tb (1 + 4 * i)) ∧ (∀ i, i < x → aI S1 34 ia i = f4 tb (tP tb + 1 + 5 * i) ∧ aI S1 35 xa i = nI (tb (tP tb + 5 + 5 * i))) ∧ (∀ i, i < o → aR S1 101 oa i = some (O i) ∧ ON g S1 (O i) (L i) (f4 tb (tQ tb + 1 + 4 * i)) ∧ sK S (O i) = 0 ∧ sK S (L i) = 0) ∧ (∀ i j, i < o → j < o → (O i = O j → i = j) ∧ (L i = L j → i = j)) ∧ (i2 = m → tt = true))) →
      (tt = true → ok2 = true ∧ i2 = m) → J 132 [(0, vr (some ra)), (1, vr (some dg)), (2, vr (some ro)), (3, vr (some pa)), (4, vr (some ia)), (5, vr (some xa)), (6, vr (some oa))] [] S1 13 55 := by
    intro ro pa ia xa oa O L i2 ok2 S1 hR hI hF hi2 hfx hfr hst hcomp
    obtain ⟨p, x, o, k33, n33, p4, k34, n34, x4, k35, n35, k101, n101, hok⟩ := hst
    have kro : sK S1 ro = 7 + 1 := hR.1
    have kra : sK S1 ra = 22 := hR.2.2.1
    have nra : sN S1 ra = m := hR.2.2.2.1
    have hm55 : tt = true → m ≤ 55 := fun h => by
      rw [← hb0] at h
      have h2 := isT_iff.mp h
      have e1 := few_b h2.1
      have e2 := few_b h2.2.2.2.1
      have e3 := few_b h2.2.2.2.2.2.2.1
      have e4 := h2.2.2.2.2.2.2.2.1
      have e5 : tP tb = 1 + 4 * tb 0 := rfl
      have e6 : tQ tb = tP tb + 1 + 5 * tb (tP tb) := rfl
      omega
    have hD1 : DG S1 dg wa ta := by
      obtain ⟨d1, d2, d3, ⟨d4, d5⟩, d6, d7⟩ := hD
      have f1 := hfx dg (by omega)
      have f2 := hfx wa (by omega)
      have f3 := hfx ta (by omega)
      exact ⟨f1.1.trans d1, (f1.2.2.1 _).trans d2, (f1.2.2.1 _).trans d3, ⟨f2.1.trans d4, f2.2.2.2.2.1.trans d5⟩, f3.1.trans d6, f3.2.2.2.2.1.trans d7⟩
    refine r_aload_n (pc := 132) C dX6_readTransaction_132 rfl ?_
    refine r_getI (pc := 133) C dX6_readTransaction_133 fx_RX6_17 kro ?_
    rw [hF]
    refine r_if_eq (pc := 136) (tgt := 148) C dX6_readTransaction_136 (by decide) (fun c136 => ?_) (fun c136 => ?_)
    · rw [bi_0] at c136
      have hno : tt = false := by cases htt : tt with | false => rfl | true => have := (hcomp htt).1; rw [c136] at this; cases this
      refine r_null (pc := 148) C dX6_readTransaction_148 ?_
      refine r_aret (pc := 149) C dX6_readTransaction_149 rfl (Or.inl ⟨_, rfl⟩) (by omega) (by omega) ?_
      exact Or.inl ⟨hno, rfl, hfx⟩
    · rw [bi_0] at c136
      have hk2 := ts_nf c136
      refine r_aload_n (pc := 139) C dX6_readTransaction_139 rfl ?_
      refine r_getI (pc := 140) C dX6_readTransaction_140 fx_RX6_13 kro ?_
      rw [hI]
      refine r_aload_n (pc := 143) C dX6_readTransaction_143 rfl ?_
      refine r_alen (pc := 144) C dX6_readTransaction_144 kra (by first | decide | omega) ?_
      rw [nra]
      refine r_icmp_eq (pc := 145) (tgt := 150) C dX6_readTransaction_145 (by decide) (fun c145 => ?_) (fun c145 => ?_)
      · have him : i2 = m := (nI_eq (by omega) (by omega)).mp c145
        have htt := (hok hk2).2.2.2.2.2.2.2 him
        have hm55' := hm55 htt
        obtain ⟨rfl, rfl, rfl, o1, o2, o3, o4, -⟩ := hok hk2
        refine r_new (pc := 150) C dX6_readTransaction_150 (ci := 9) (n := 16) rfl kl_RX6_42 rfl (by omega) (by omega) (fun q150 hq150 => ?_)
        have z150 : sK S q150 = 0 := hfx.fresh hq150
        have f2 : Fx S1 (newO S1 q150 10) := Fx.no hq150
        have kt2 : sK (newO S1 q150 10) q150 = 10 := sK_nos
        have hD2 : DG (newO S1 q150 10) dg wa ta := by
          obtain ⟨d1, d2, d3, ⟨d4, d5⟩, d6, d7⟩ := hD1
          have f4 := f2 dg (by omega)
          have f5 := f2 wa (by omega)
          have f6 := f2 ta (by omega)
          exact ⟨f4.1.trans d1, (f4.2.2.1 _).trans d2, (f4.2.2.1 _).trans d3, ⟨f5.1.trans d4, f5.2.2.2.2.1.trans d5⟩, f6.1.trans d6, f6.2.2.2.2.1.trans d7⟩
        have nwt : wa ≠ q150 ∧ ta ≠ q150 := ⟨ne_kq hq150 (by rw [hD1.2.2.2.1.1]; omega), ne_kq hq150 (by rw [hD1.2.2.2.2.1]; omega)⟩
        have hra2 := f2 ra (by omega)
        generalize newO S1 q150 10 = S2 at f2 kt2 hD2 hra2 ⊢
        refine r_dup (pc := 153) C dX6_readTransaction_153 rfl ?_
        refine r_aload_n (pc := 154) C dX6_readTransaction_154 rfl ?_
        refine r_aload_n (pc := 155) C dX6_readTransaction_155 rfl ?_
        refine r_callV (pc := 156) C (cl_idOf (ro := ra) (m := m) (tb := tb) hD2 (hra2.1.trans kra) hm55' (hra2.2.2.2.2.1.trans nra) (fun i hi => by rw [hra2.2.2.2.2.2.1]; exact hR.2.2.2.2.1 i hi)) iX1_idOf ml_RX6_44 dX6_readTransaction_156 (ci := 2) rfl rfl hD2.1 rfl (by decide) rfl (by simp [cv, Value.category, va_rf]) (by omega) (by omega) (fun r156 S156 h156 => ?_)
        obtain ⟨rfl, A3, B3, e156⟩ := h156
        dsimp only [Option.toList, List.cons_append, List.nil_append]
        have f3 : FE [wa, ta] S2 S156 := by rw [e156]; exact (FE.pi (by simp)).tr (FE.pi (by simp))
        have f3d : Fdg S2 S156 := by
          rw [e156]
          exact fun a _ => ⟨rfl, fun _ => rfl, fun _ => rfl, fun _ => rfl, rfl, fun r r1 r2 => (aI_pn (Or.inl r2)).trans (aI_pn (Or.inl r1)), fun _ => rfl, fun _ => rfl⟩
        have hD3 : DG S156 dg wa ta := by rw [e156]; exact hD2
        have k3 : ∀ y, sK S156 y = sK S2 y := fun y => by rw [e156]; rfl
        have hn3 : ∀ y, sN S156 y = sN S2 y := fun y => by rw [e156]; rfl
        clear e156
        refine r_aload_n (pc := 159) C dX6_readTransaction_159 rfl ?_
        refine r_aload_n (pc := 160) C dX6_readTransaction_160 rfl ?_
        refine r_aload (pc := 161) C dX6_readTransaction_161 rfl ?_
        refine r_aload (pc := 163) C dX6_readTransaction_163 rfl ?_
        refine r_aload (pc := 165) C dX6_readTransaction_165 rfl ?_
        refine r_callI (pc := 167) C (cl_trinit (p := tb 0) (x := tb (tP tb)) (kp := 33) (kx := 34) (by rw [k3]; exact kt2) (by rw [k3, (f2 pa (by omega)).1]; exact k33) (by omega) (by rw [hn3, (f2 pa (by omega)).2.2.2.2.1]; exact n33) (by rw [k3, (f2 ia (by omega)).1]; exact k34) (by omega) (by rw [hn3, (f2 ia (by omega)).2.2.2.2.1]; exact n34) p4 x4) iX8_init ml_RX6_50 dX6_readTransaction_167 rfl (by decide) rfl (by simp [cv, Value.category, va_rf]) (by omega) (by omega) (fun r167 S167 h167 => ?_)
        obtain ⟨rfl, qa, sa, na, ⟨z1, z2, z3⟩, hTI, hFz⟩ := h167
        dsimp only [Option.toList, List.cons_append, List.nil_append]
        refine r_aret (pc := 170) C dX6_readTransaction_170 rfl (Or.inl ⟨_, rfl⟩) (by omega) (by omega) ?_
        have zz : ∀ y, sK S156 y = 0 → sK S y = 0 := fun y hy => hfx.fresh (f2.fresh (by rw [← k3]; exact hy))
        have g1 : FE [wa, ta, q150] S1 S167 := (Fx.fe f2).tr ((f3.sub (fun q hq => Or.inl (by simp only [List.mem_cons, List.not_mem_nil, or_false] at hq ⊢; omega))).tr (hFz.fe (by simp)))
        have nw : ∀ y, sK S1 y ≠ 0 → sK S1 y ≠ 31 → sK S1 y ≠ 32 → y ∉ [wa, ta, q150] := fun y h1 h2 h3 h4 => by
          simp only [List.mem_cons, List.not_mem_nil, or_false] at h4
          rcases h4 with e | e | e
          · rw [e, hD1.2.2.2.1.1] at h2; exact h2 rfl
          · rw [e, hD1.2.2.2.2.1] at h3; exact h3 rfl
          · rw [e] at h1; exact h1 hq150
        have gp := g1 pa (by omega) (nw pa (by omega) (by omega) (by omega))
        have gi := g1 ia (by omega) (nw ia (by omega) (by omega) (by omega))
        have gx := g1 xa (by omega) (nw xa (by omega) (by omega) (by omega))
        have go := g1 oa (by omega) (nw oa (by omega) (by omega) (by omega))
        refine Or.inr ⟨htt, q150, pa, ia, xa, oa, qa, sa, na, O, L, rfl, ⟨hTI, ⟨gp.1.trans k33, gp.2.2.2.2.1.trans n33, fun i hi => by rw [gp.2.2.2.2.2.1]; exact o1 i hi⟩, ⟨gi.1.trans k34, gi.2.2.2.2.1.trans n34, fun i hi => by rw [gi.2.2.2.2.2.1]; exact (o2 i hi).1⟩, ⟨gx.1.trans k35, gx.2.2.2.2.1.trans n35, fun i hi => by rw [gx.2.2.2.2.2.1]; exact (o2 i hi).2⟩, ⟨go.1.trans k101, go.2.2.2.2.1.trans n101, fun i hi => ?_⟩, o4⟩, ?_, ?_, ⟨z150, hfr.1, hfr.2.1, hfr.2.2.1, hfr.2.2.2, zz _ z1, zz _ z2, zz _ z3⟩, fun i hi => ⟨(o3 i hi).2.2.1, (o3 i hi).2.2.2⟩⟩
        · obtain ⟨p1, p2, -, -⟩ := o3 i hi
          exact ⟨by rw [go.2.2.2.2.2.2.2]; exact p1, p2.fe g1 (nw _ (by rw [p2.1]; omega) (by rw [p2.1]; omega) (by rw [p2.1]; omega)) (nw _ (by rw [p2.2.2.2.2.1]; omega) (by rw [p2.2.2.2.2.1]; omega) (by rw [p2.2.2.2.2.1]; omega))⟩
        · exact Fdg.b (hfx.tr f2) f3d z150 hFz
        · obtain ⟨d1, d2, d3, ⟨d4, d5⟩, d6, d7⟩ := hD3
          have hq : ∀ y, sK S156 y ≠ 0 → y ≠ q150 → _ := fun y a b => hFz y a b
          have f4 := hFz dg (by omega) (fun e => by rw [e, k3, kt2] at d1; cases d1)
          have f5 := hFz wa (by omega) nwt.1
          have f6 := hFz ta (by omega) nwt.2
          exact ⟨f4.1.trans d1, (f4.2.2.1 _).trans d2, (f4.2.2.1 _).trans d3, ⟨f5.1.trans d4, f5.2.2.2.2.1.trans d5⟩, f6.1.trans d6, f6.2.2.2.2.1.trans d7⟩
      · have hno : tt = false := by cases htt : tt with | false => rfl | true => exact absurd (by rw [(hcomp htt).2]) c145
        refine r_null (pc := 148) C dX6_readTransaction_148 ?_
        refine r_aret (pc := 149) C dX6_readTransaction_149 rfl (Or.inl ⟨_, rfl⟩) (by omega) (by omega) ?_
        exact Or.inl ⟨hno, rfl, hfx⟩
  have isT4 : tt = true → fewB (tb 0) = true ∧ tP tb < m ∧ lo1 tb (tb 0) = true ∧ fewB (tb (tP tb)) = true ∧ tQ tb < m ∧ lo2 tb (tb (tP tb)) = true ∧ fewB (tb (tQ tb)) = true ∧ m = tQ tb + 1 + 4 * tb (tQ tb) ∧ lo3 tb (tb (tQ tb)) = true := fun h => isT_iff.mp (by rw [hb0]; exact h)
  have hra0 : sK S ra ≠ 0 := by omega
  -- the outputs
  have P3 : ∀ (ro pa ia xa oa : Nat) (p x o : Nat), o ≤ 4 → (sK S pa = 0 ∧ sK S ia = 0 ∧ sK S xa = 0 ∧ sK S oa = 0) → p ≤ 4 → x ≤ 4 → ∀ (j : Nat) (S1 : hS), j ≤ o → (∃ (i2 : Nat) (ok2 : Bool) (O L : Nat → Nat), RS S S1 ro ra m tb i2 ok2 ∧ (sK S1 pa = 33 ∧ sN S1 pa = p) ∧ (sK S1 ia = 34 ∧ sN S1 ia = x) ∧ (sK S1 xa = 35 ∧ sN S1 xa = x) ∧ (sK S1 oa = 101 ∧ sN S1 oa = o) ∧
      (ok2 = true → (fewB (tb 0) = true ∧ tP tb < m ∧ lo1 tb (tb 0) = true ∧ fewB (tb (tP tb)) = true ∧ tQ tb < m ∧ lo2 tb (tb (tP tb)) = true ∧ fewB (tb (tQ tb)) = true) ∧ (p = tb 0 ∧ x = tb (tP tb) ∧ o = tb (tQ tb)) ∧ i2 = tQ tb + 1 + 4 * j ∧ lo3 tb j = true ∧ (∀ i, i < p → aI S1 33 pa i = f4 tb (1 + 4 * i)) ∧ (∀ i, i < x → aI S1 34 ia i = f4 tb (tP tb + 1 + 5 * i) ∧ aI S1 35 xa i = nI (tb (tP tb + 5 + 5 * i))) ∧ (∀ i, i < j → aR S1 101 oa i = some (O i) ∧ ON g S1 (O i) (L i) (f4 tb (tQ tb + 1 + 4 * i)) ∧ sK S (O i) = 0 ∧ sK S (L i) = 0) ∧ (∀ i i', i < j → i' < j → (O i = O i' → i = i') ∧ (L i = L i' → i = i'))) ∧ (tt = true → ok2 = true)) →
      J 102 [(0, vr (some ra)), (1, vr (some dg)), (2, vr (some ro)), (3, vr (some pa)), (4, vr (some ia)), (5, vr (some xa)), (6, vr (some oa)), (7, vi (nI j))] [] S1 (5 + 2 * j) (19 + 9 * j) := by
    intro ro pa ia xa oa p x o ho hfr hp4 hx4
    refine up_loop _ _ _ ?_ ?_
    · intro S1 hS
      obtain ⟨i2, ok2, O, L, hRS, ⟨k33, n33⟩, ⟨k34, n34⟩, ⟨k35, n35⟩, ⟨k101, n101⟩, hok, hco⟩ := hS
      refine r_iload (pc := 102) C dX6_readTransaction_102 rfl ?_
      refine r_aload (pc := 104) C dX6_readTransaction_104 rfl ?_
      refine r_alen (pc := 106) C dX6_readTransaction_106 k101 (by first | decide | omega) ?_
      rw [n101]
      refine r_icmp_ge (pc := 107) (tgt := 132) C dX6_readTransaction_107 (by decide) (fun c107 => ?_) (fun c107 => ?_)
      · refine r_widen C (k2 := 13) (n2 := 55) (by omega) (by omega) ?_
        refine r_lv C [(0, vr (some ra)), (1, vr (some dg)), (2, vr (some ro)), (3, vr (some pa)), (4, vr (some ia)), (5, vr (some xa)), (6, vr (some oa))] rfl (P4 ro pa ia xa oa O L i2 ok2 S1 hRS.1 hRS.2.1 hRS.2.2.1 hRS.2.2.2.1 hRS.2.2.2.2.1 hfr ⟨p, x, o, k33, n33, hp4, k34, n34, hx4, k35, n35, k101, n101, fun h => ?_⟩ (fun h => ?_))
        · obtain ⟨q1, q2, q3, q4, q5, q6, q7, q8⟩ := hok h
          refine ⟨q2.1, q2.2.1, q2.2.2, q5, q6, q7, q8, fun e => ?_⟩
          rw [← hb0, isT_iff]
          rw [q2.2.2] at q3 q4
          exact ⟨q1.1, q1.2.1, q1.2.2.1, q1.2.2.2.1, q1.2.2.2.2.1, q1.2.2.2.2.2.1, q1.2.2.2.2.2.2, by omega, q4⟩
        · have h2 := hco h
          obtain ⟨q1, q2, q3, q4, q5, q6, q7, q8⟩ := hok h2
          have h3 := (isT4 h).2.2.2.2.2.2.2.1
          exact ⟨h2, by rw [q2.2.2] at q3; omega⟩
      · exact absurd (Int32.le_refl _) c107
    · intro j S1 hj hS ih
      obtain ⟨i2, ok2, O, L, hRS, ⟨k33, n33⟩, ⟨k34, n34⟩, ⟨k35, n35⟩, ⟨k101, n101⟩, hok, hco⟩ := hS
      refine r_iload (pc := 102) C dX6_readTransaction_102 rfl ?_
      refine r_aload (pc := 104) C dX6_readTransaction_104 rfl ?_
      refine r_alen (pc := 106) C dX6_readTransaction_106 k101 (by first | decide | omega) ?_
      rw [n101]
      refine r_icmp_ge (pc := 107) (tgt := 132) C dX6_readTransaction_107 (by decide) (fun c107 => ?_) (fun c107 => ?_)
      · exact absurd c107 (nI_ge hj (by omega))
      · refine r_aload (pc := 110) C dX6_readTransaction_110 rfl ?_
        refine r_iload (pc := 112) C dX6_readTransaction_112 rfl ?_
        refine r_new (pc := 114) C dX6_readTransaction_114 (ci := 4) (n := 6) rfl kl_RX6_34 rfl (by omega) (by omega) (fun q114 hq114 => ?_)
        have z0 : sK S q114 = 0 := hRS.2.2.2.2.1.fresh hq114
        have nro : ro ≠ q114 := ne_kq hq114 (by rw [hRS.1.1]; omega)
        have f2 : Fx S1 (newO S1 q114 5) := Fx.no hq114
        have hRS2 : RS S (newO S1 q114 5) ro ra m tb i2 ok2 := hRS.fe (Fx.fe (E := []) f2) (by simp) (by simp) hra0
        have kq2 : sK (newO S1 q114 5) q114 = 5 := sK_nos
        generalize newO S1 q114 5 = S2 at f2 hRS2 kq2 ⊢
        refine r_dup (pc := 117) C dX6_readTransaction_117 rfl ?_
        refine r_aload_n (pc := 118) C dX6_readTransaction_118 rfl ?_
        refine r_callV (pc := 119) C (cw_am hRS2.1 hb hRS2.2.2.2.1 hRS2.2.1 hRS2.2.2.1) iX6_nextAmount ml_RX6_36 dX6_readTransaction_119 (ci := 7) rfl rfl hRS2.1.1 rfl (by decide) rfl (by simp [cv, Value.category, va_rf]) (by omega) (by omega) (fun r119 S119 h119 => ?_)
        obtain ⟨v, i3, ok3, rfl, e119, hi3, hk3, hv3⟩ := h119
        dsimp only [Option.toList, List.cons_append, List.nil_append]
        have hRS3 : RS S S119 ro ra m tb i3 ok3 := by rw [e119]; exact hRS2.rp hi3
        have f3 : FE [ro] S2 S119 := by rw [e119]; exact FE.rp (by simp)
        have k3 : ∀ y, sK S119 y = sK S2 y := fun y => by rw [e119]; rfl
        clear e119
        refine r_callI (pc := 122) C (cl_outinit (am := v) (by rw [k3]; exact kq2)) iX3_init ml_RX6_39 dX6_readTransaction_122 rfl (by decide) rfl (by simp [cv, Value.category, va_rf]) (by omega) (by omega) (fun r122 S122 h122 => ?_)
        obtain ⟨rfl, lo, hlo, hON, hFz⟩ := h122
        dsimp only [Option.toList, List.cons_append, List.nil_append]
        have zlo2 : sK S2 lo = 0 := by rw [← k3]; exact hlo
        have zlo1 : sK S1 lo = 0 := f2.fresh zlo2
        have zlo : sK S lo = 0 := hRS.2.2.2.2.1.fresh zlo1
        have f4 : FE [ro, q114] S2 S122 := (f3.sub (fun q h => Or.inl (by simp only [List.mem_cons, List.not_mem_nil, or_false] at h ⊢; exact Or.inl h))).tr (hFz.fe (by simp))
        have n6 : oa ∉ [ro, q114] := by
          simp only [List.mem_cons, List.not_mem_nil, or_false, not_or]
          exact ⟨fun e => by rw [e, hRS.1.1] at k101; omega, ne_kq hq114 (by omega)⟩
        have go := f4 oa (by rw [(f2 oa (by omega)).1]; omega) n6
        have g1 := f2 oa (by omega)
        refine r_aast (pc := 125) C dX6_readTransaction_125 (go.1.trans (g1.1.trans k101)) (by omega) (ci := 4) rfl rfl hON.1 (go.2.2.2.2.1.trans (g1.2.2.2.2.1.trans n101)) (vp_in_nI hj (by omega)) (nI_clamp (by omega)) ?_
        have f5 : FE [ro, oa] S1 (putR S122 101 oa (va_up (aR S122 101 oa) j (some q114))) := ((((Fx.fe f2).tr (f3.sub (fun q h => Or.inl (by simp only [List.mem_cons, List.not_mem_nil, or_false] at h ⊢; exact Or.inl h)))).z hq114 hFz)).tr (FE.pr (by simp))
        have hRS5 : RS S (putR S122 101 oa (va_up (aR S122 101 oa) j (some q114))) ro ra m tb i3 ok3 := hRS3.fe (E := [q114, oa]) ((hFz.fe (by simp)).tr (FE.pr (by simp))) (fun q h => by simp only [List.mem_cons, List.not_mem_nil, or_false] at h; rcases h with e | e <;> rw [e]; exact z0; exact hfr.2.2.2) (by simp only [List.mem_cons, List.not_mem_nil, or_false, not_or]; exact ⟨nro, fun e => by rw [← e, hRS.1.1] at k101; omega⟩) hra0
        have hoa5 : aR (putR S122 101 oa (va_up (aR S122 101 oa) j (some q114))) 101 oa = va_up (aR S1 101 oa) j (some q114) := by rw [aR_ps, go.2.2.2.2.2.2.2, g1.2.2.2.2.2.2.2]
        have hON5 : ON g (putR S122 101 oa (va_up (aR S122 101 oa) j (some q114))) q114 lo v := hON.fe (E := [oa]) (FE.pr (by simp)) (by simp only [List.mem_cons, List.not_mem_nil, or_false]; exact fun e => (ne_kq hq114 (show sK S1 oa ≠ 0 by omega)) e.symm) (by simp only [List.mem_cons, List.not_mem_nil, or_false]; exact fun e => (ne_kq zlo1 (show sK S1 oa ≠ 0 by omega)) e.symm)
        have koa5 : sK (putR S122 101 oa (va_up (aR S122 101 oa) j (some q114))) oa = 101 ∧ sN (putR S122 101 oa (va_up (aR S122 101 oa) j (some q114))) oa = o := ⟨go.1.trans (g1.1.trans k101), go.2.2.2.2.1.trans (g1.2.2.2.2.1.trans n101)⟩
        generalize putR S122 101 oa (va_up (aR S122 101 oa) j (some q114)) = S5 at f5 hRS5 hoa5 hON5 koa5 ⊢
        refine r_iinc (pc := 126) C _ dX6_readTransaction_126 rfl (nI_1 _) (by decide) rfl ?_
        refine r_goto (pc := 129) (tgt := 102) C dX6_readTransaction_129 (by decide) ?_
        have nw : ∀ y, sK S1 y ≠ 0 → sK S1 y ≠ 8 → sK S1 y ≠ 101 → y ∉ [ro, oa] := fun y h1 h2 h3 h4 => by
          simp only [List.mem_cons, List.not_mem_nil, or_false] at h4
          rcases h4 with e | e
          · rw [e, hRS.1.1] at h2; exact h2 rfl
          · rw [e, k101] at h3; exact h3 rfl
        have gp := f5 pa (by omega) (nw pa (by omega) (by omega) (by omega))
        have gi := f5 ia (by omega) (nw ia (by omega) (by omega) (by omega))
        have gx := f5 xa (by omega) (nw xa (by omega) (by omega) (by omega))
        refine r_widen C (k2 := 5 + 2 * (j + 1)) (n2 := 19 + 9 * (j + 1)) (by omega) (by omega) ?_
        refine r_lv C [(0, vr (some ra)), (1, vr (some dg)), (2, vr (some ro)), (3, vr (some pa)), (4, vr (some ia)), (5, vr (some xa)), (6, vr (some oa)), (7, vi (nI (j + 1)))] rfl (ih _ ⟨i3, ok3, va_up O j q114, va_up L j lo, hRS5, ⟨gp.1.trans k33, gp.2.2.2.2.1.trans n33⟩, ⟨gi.1.trans k34, gi.2.2.2.2.1.trans n34⟩, ⟨gx.1.trans k35, gx.2.2.2.2.1.trans n35⟩, koa5, fun h => ?_, fun h => ?_⟩)
        · have h2 := hk3.mp h
          obtain ⟨hv, hi3e⟩ := hv3 h
          obtain ⟨q1, q2, q3, q4, q5, q6, q7, q8⟩ := hok h2.1
          refine ⟨q1, q2, by omega, lo_s.mpr ⟨q4, by rw [← q3]; exact h2.2.2⟩, fun i hi => by rw [gp.2.2.2.2.2.1]; exact q5 i hi, fun i hi => by rw [gi.2.2.2.2.2.1, gx.2.2.2.2.2.1]; exact q6 i hi, fun i hi => ?_, fun i i' hi hi' => ?_⟩
          · by_cases e : i = j
            · subst e
              rw [hoa5, va_up_self, va_up_self, va_up_self]
              exact ⟨rfl, by rw [← q3, ← hv]; exact hON5, z0, zlo⟩
            · obtain ⟨p1, p2, p3, p4⟩ := q7 i (by omega)
              rw [hoa5, va_up_ne _ _ e, va_up_ne _ _ e, va_up_ne _ _ e]
              exact ⟨p1, p2.fe f5 (nw _ (by rw [p2.1]; omega) (by rw [p2.1]; omega) (by rw [p2.1]; omega)) (nw _ (by rw [p2.2.2.2.2.1]; omega) (by rw [p2.2.2.2.2.1]; omega) (by rw [p2.2.2.2.2.1]; omega)), p3, p4⟩
          · have nO : ∀ i, i < j → O i ≠ q114 ∧ L i ≠ lo := fun i hi => ⟨ne_kq hq114 (by rw [(q7 i hi).2.1.1]; omega), ne_kq zlo1 (by rw [(q7 i hi).2.1.2.2.2.2.1]; omega)⟩
            by_cases e : i = j
            · subst e
              by_cases e' : i' = i
              · exact ⟨fun _ => e'.symm, fun _ => e'.symm⟩
              · rw [va_up_self, va_up_self, va_up_ne _ _ e', va_up_ne _ _ e']
                have n7 := nO i' (by omega)
                exact ⟨fun e => absurd e.symm n7.1, fun e => absurd e.symm n7.2⟩
            · by_cases e' : i' = j
              · subst e'
                rw [va_up_self, va_up_self, va_up_ne _ _ e, va_up_ne _ _ e]
                have n7 := nO i (by omega)
                exact ⟨fun e => absurd e n7.1, fun e => absurd e n7.2⟩
              · rw [va_up_ne _ _ e, va_up_ne _ _ e, va_up_ne _ _ e', va_up_ne _ _ e']
                exact q8 i i' (by omega) (by omega)
        · have h2 := hco h
          obtain ⟨q1, q2, q3, q4, q5, q6, q7, q8⟩ := hok h2
          have h3 := isT4 h
          refine hk3.mpr ⟨h2, ?_, ?_⟩
          · have := h3.2.2.2.2.2.2.2.1; rw [q2.2.2] at hj; omega
          · rw [q3]
            rw [q2.2.2] at hj
            exact allU_iff.mp h3.2.2.2.2.2.2.2.2 j hj
  -- the inputs
  have P2 : ∀ (ro pa ia xa : Nat) (p x : Nat), x ≤ 4 → (sK S pa = 0 ∧ sK S ia = 0 ∧ sK S xa = 0) → p ≤ 4 → ∀ (j : Nat) (S1 : hS), j ≤ x → (∃ (i2 : Nat) (ok2 : Bool), RS S S1 ro ra m tb i2 ok2 ∧ (sK S1 pa = 33 ∧ sN S1 pa = p) ∧ (sK S1 ia = 34 ∧ sN S1 ia = x) ∧ (sK S1 xa = 35 ∧ sN S1 xa = x) ∧
      (ok2 = true → (fewB (tb 0) = true ∧ tP tb < m ∧ lo1 tb (tb 0) = true ∧ fewB (tb (tP tb)) = true) ∧ (p = tb 0 ∧ x = tb (tP tb)) ∧ i2 = tP tb + 1 + 5 * j ∧ lo2 tb j = true ∧ (∀ i, i < p → aI S1 33 pa i = f4 tb (1 + 4 * i)) ∧ (∀ i, i < j → aI S1 34 ia i = f4 tb (tP tb + 1 + 5 * i) ∧ aI S1 35 xa i = nI (tb (tP tb + 5 + 5 * i)))) ∧ (tt = true → ok2 = true)) →
      J 58 [(0, vr (some ra)), (1, vr (some dg)), (2, vr (some ro)), (3, vr (some pa)), (4, vr (some ia)), (5, vr (some xa)), (6, vi (nI j))] [] S1 4 15 := by
    intro ro pa ia xa p x hx4 hfr hp4
    refine up_loop _ _ _ ?_ ?_
    · intro S1 hS
      obtain ⟨i2, ok2, hRS, ⟨k33, n33⟩, ⟨k34, n34⟩, ⟨k35, n35⟩, hok, hco⟩ := hS
      refine r_iload (pc := 58) C dX6_readTransaction_58 rfl ?_
      refine r_aload (pc := 60) C dX6_readTransaction_60 rfl ?_
      refine r_alen (pc := 62) C dX6_readTransaction_62 k34 (by first | decide | omega) ?_
      rw [n34]
      refine r_icmp_ge (pc := 63) (tgt := 90) C dX6_readTransaction_63 (by decide) (fun c63 => ?_) (fun c63 => ?_)
      · refine r_aload_n (pc := 90) C dX6_readTransaction_90 rfl ?_
        refine r_callV (pc := 91) C (cw_few hRS.1 hb hRS.2.2.2.1 hRS.2.1 hRS.2.2.1) iX6_nextFew ml_RX6_24 dX6_readTransaction_91 (ci := 7) rfl rfl hRS.1.1 rfl (by decide) rfl (by simp [cv, Value.category, va_rf]) (by omega) (by omega) (fun r91 S91 h91 => ?_)
        obtain ⟨o, i3, ok3, rfl, e91, hi3, ho4, hk3, hv3⟩ := h91
        dsimp only [Option.toList, List.cons_append, List.nil_append]
        have hRS3 : RS S S91 ro ra m tb i3 ok3 := by rw [e91]; exact hRS.rp hi3
        have f3 : FE [ro] S1 S91 := by rw [e91]; exact FE.rp (by simp)
        clear e91
        refine r_newr (pc := 94) C 101 dX6_readTransaction_94 rfl (by decide) kl_RX6_34 (List.mem_append_right _ (List.mem_of_getElem? (i := 119) (by decide +kernel))) (nI_pos (by omega)) (nI_clamp (by omega)) (by omega) (by omega) (by omega) (fun q94 hq94 => ?_)
        have z0 : sK S q94 = 0 := hRS3.2.2.2.2.1.fresh hq94
        have f4 : Fx S91 (newA S91 q94 101 o) := Fx.na hq94
        have hRS4 : RS S (newA S91 q94 101 o) ro ra m tb i3 ok3 := hRS3.fe (Fx.fe (E := []) f4) (by simp) (by simp) hra0
        have k4 : sK (newA S91 q94 101 o) q94 = 101 ∧ sN (newA S91 q94 101 o) q94 = o := ⟨sK_nas, sN_nas⟩
        have f5 : FE [ro] S1 (newA S91 q94 101 o) := f3.tr (Fx.fe f4)
        generalize newA S91 q94 101 o = S4 at f4 hRS4 k4 f5 ⊢
        refine r_astore (pc := 97) C dX6_readTransaction_97 (by decide) rfl ?_
        refine r_iconst (pc := 99) C (nI 0) dX6_readTransaction_99 rfl ?_
        refine r_istore (pc := 100) C dX6_readTransaction_100 (by decide) rfl ?_
        have nw : ∀ y, sK S1 y ≠ 0 → sK S1 y ≠ 8 → y ∉ [ro] := fun y h1 h2 h4 => by
          simp only [List.mem_cons, List.not_mem_nil, or_false] at h4
          rw [h4, hRS.1.1] at h2; exact h2 rfl
        have gp := f5 pa (by omega) (nw pa (by omega) (by omega))
        have gi := f5 ia (by omega) (nw ia (by omega) (by omega))
        have gx := f5 xa (by omega) (nw xa (by omega) (by omega))
        refine r_widen C (k2 := 5 + 2 * 0) (n2 := 19 + 9 * 0) (by omega) (by omega) ?_
        refine r_lv C [(0, vr (some ra)), (1, vr (some dg)), (2, vr (some ro)), (3, vr (some pa)), (4, vr (some ia)), (5, vr (some xa)), (6, vr (some q94)), (7, vi (nI 0))] rfl (P3 ro pa ia xa q94 p x o ho4 ⟨hfr.1, hfr.2.1, hfr.2.2, z0⟩ hp4 hx4 0 _ (by omega) ⟨i3, ok3, fun _ => 0, fun _ => 0, hRS4, ⟨gp.1.trans k33, gp.2.2.2.2.1.trans n33⟩, ⟨gi.1.trans k34, gi.2.2.2.2.1.trans n34⟩, ⟨gx.1.trans k35, gx.2.2.2.2.1.trans n35⟩, k4, fun h => ?_, fun h => ?_⟩)
        · have h2 := hk3.mp h
          obtain ⟨hv, hi3e⟩ := hv3 h
          obtain ⟨q1, q2, q3, q4, q5, q6⟩ := hok h2.1
          have eQ : i2 = tQ tb := by rw [q3, q2.2]; rfl
          rw [eQ] at h2 hv hi3e
          rw [q2.2] at q4
          exact ⟨⟨q1.1, q1.2.1, q1.2.2.1, q1.2.2.2, h2.2.1, q4, h2.2.2⟩, ⟨q2.1, q2.2, hv⟩, by omega, rfl, fun i hi => by rw [gp.2.2.2.2.2.1]; exact q5 i hi, fun i hi => by rw [gi.2.2.2.2.2.1, gx.2.2.2.2.2.1]; exact q6 i hi, fun i hi => absurd hi (by omega), fun i i' hi => absurd hi (by omega)⟩
        · have h2 := hco h
          obtain ⟨q1, q2, q3, q4, q5, q6⟩ := hok h2
          have h3 := isT4 h
          have eQ : i2 = tQ tb := by rw [q3, q2.2]; rfl
          refine hk3.mpr ⟨h2, ?_, ?_⟩
          · rw [eQ]; exact h3.2.2.2.2.1
          · rw [eQ]; exact h3.2.2.2.2.2.2.1
      · exact absurd (Int32.le_refl _) c63
    · intro j S1 hj hS ih
      obtain ⟨i2, ok2, hRS, ⟨k33, n33⟩, ⟨k34, n34⟩, ⟨k35, n35⟩, hok, hco⟩ := hS
      have nri : ro ≠ ia ∧ ro ≠ xa := ⟨fun e => by rw [← e, hRS.1.1] at k34; omega, fun e => by rw [← e, hRS.1.1] at k35; omega⟩
      refine r_iload (pc := 58) C dX6_readTransaction_58 rfl ?_
      refine r_aload (pc := 60) C dX6_readTransaction_60 rfl ?_
      refine r_alen (pc := 62) C dX6_readTransaction_62 k34 (by first | decide | omega) ?_
      rw [n34]
      refine r_icmp_ge (pc := 63) (tgt := 90) C dX6_readTransaction_63 (by decide) (fun c63 => ?_) (fun c63 => ?_)
      · exact absurd c63 (nI_ge hj (by omega))
      · refine r_aload (pc := 66) C dX6_readTransaction_66 rfl ?_
        refine r_iload (pc := 68) C dX6_readTransaction_68 rfl ?_
        refine r_aload_n (pc := 70) C dX6_readTransaction_70 rfl ?_
        refine r_callV (pc := 71) C (cw_id hRS.1 hb hRS.2.2.2.1 hRS.2.1 hRS.2.2.1) iX6_nextId ml_RX6_28 dX6_readTransaction_71 (ci := 7) rfl rfl hRS.1.1 rfl (by decide) rfl (by simp [cv, Value.category, va_rf]) (by omega) (by omega) (fun r71 S71 h71 => ?_)
        obtain ⟨v, i3, ok3, rfl, e71, hi3, hk3, hv3⟩ := h71
        dsimp only [Option.toList, List.cons_append, List.nil_append]
        have hRS3 : RS S S71 ro ra m tb i3 ok3 := by rw [e71]; exact hRS.rp hi3
        have f3 : FE [ro, ia, xa] S1 S71 := by rw [e71]; exact FE.rp (by simp)
        have k3 : ∀ y, sK S71 y = sK S1 y := fun y => by rw [e71]; rfl
        have n3 : ∀ y, sN S71 y = sN S1 y := fun y => by rw [e71]; rfl
        have a3 : ∀ r y, aI S71 r y = aI S1 r y := fun r y => by rw [e71]; rfl
        clear e71
        refine r_iast (pc := 74) C dX6_readTransaction_74 (show sK S71 ia = 34 by rw [k3]; exact k34) (by decide) (show sN S71 ia = x by rw [n3]; exact n34) (by first | assumption | exact vp_in_nI (by omega) (by omega)) (by first | exact nI_clamp (by omega) | rfl) ?_
        rw [a3]
        have hRS4 : RS S (putI S71 34 ia (upd (aI S1 34 ia) j v)) ro ra m tb i3 ok3 := hRS3.fe (E := [ia]) (FE.pi (by simp)) (fun q h => by simp only [List.mem_cons, List.not_mem_nil, or_false] at h; rw [h]; exact hfr.2.1) (by simp only [List.mem_cons, List.not_mem_nil, or_false]; exact nri.1) hra0
        have f4 : FE [ro, ia, xa] S1 (putI S71 34 ia (upd (aI S1 34 ia) j v)) := f3.tr (FE.pi (by simp))
        have k4 : ∀ y, sK (putI S71 34 ia (upd (aI S1 34 ia) j v)) y = sK S1 y := fun y => k3 y
        have n4 : ∀ y, sN (putI S71 34 ia (upd (aI S1 34 ia) j v)) y = sN S1 y := fun y => n3 y
        have a4 : aI (putI S71 34 ia (upd (aI S1 34 ia) j v)) 34 ia = upd (aI S1 34 ia) j v := aI_ps
        have b4 : aI (putI S71 34 ia (upd (aI S1 34 ia) j v)) 35 xa = aI S1 35 xa := by rw [aI_pn (Or.inl (by decide)), a3]
        generalize putI S71 34 ia (upd (aI S1 34 ia) j v) = S4 at hRS4 f4 k4 n4 a4 b4 ⊢
        refine r_aload (pc := 75) C dX6_readTransaction_75 rfl ?_
        refine r_iload (pc := 77) C dX6_readTransaction_77 rfl ?_
        refine r_aload_n (pc := 79) C dX6_readTransaction_79 rfl ?_
        refine r_callV (pc := 80) C (cw_by hRS4.1 hRS4.2.2.2.1 hRS4.2.1 hRS4.2.2.1) iX6_nextByte ml_RX6_31 dX6_readTransaction_80 (ci := 7) rfl rfl hRS4.1.1 rfl (by decide) rfl (by simp [cv, Value.category, va_rf]) (by omega) (by omega) (fun r80 S80 h80 => ?_)
        obtain ⟨w, i5, ok5, rfl, e80, hi5, hk5, hv5⟩ := h80
        dsimp only [Option.toList, List.cons_append, List.nil_append]
        have hRS5 : RS S S80 ro ra m tb i5 ok5 := by rw [e80]; exact hRS4.rp hi5
        have f5 : FE [ro, ia, xa] S1 S80 := by rw [e80]; exact f4.tr (FE.rp (by simp))
        have k5 : ∀ y, sK S80 y = sK S1 y := fun y => by rw [e80]; exact k4 y
        have n5 : ∀ y, sN S80 y = sN S1 y := fun y => by rw [e80]; exact n4 y
        have a5 : aI S80 34 ia = upd (aI S1 34 ia) j v := by rw [e80]; exact a4
        have b5 : aI S80 35 xa = aI S1 35 xa := by rw [e80]; exact b4
        clear e80
        refine r_iast (pc := 83) C dX6_readTransaction_83 (show sK S80 xa = 35 by rw [k5]; exact k35) (by decide) (show sN S80 xa = x by rw [n5]; exact n35) (by first | assumption | exact vp_in_nI (by omega) (by omega)) (by first | exact nI_clamp (by omega) | rfl) ?_
        rw [b5]
        have hRS6 : RS S (putI S80 35 xa (upd (aI S1 35 xa) j w)) ro ra m tb i5 ok5 := hRS5.fe (E := [xa]) (FE.pi (by simp)) (fun q h => by simp only [List.mem_cons, List.not_mem_nil, or_false] at h; rw [h]; exact hfr.2.2) (by simp only [List.mem_cons, List.not_mem_nil, or_false]; exact nri.2) hra0
        have f6 : FE [ro, ia, xa] S1 (putI S80 35 xa (upd (aI S1 35 xa) j w)) := f5.tr (FE.pi (by simp))
        have k6 : ∀ y, sK (putI S80 35 xa (upd (aI S1 35 xa) j w)) y = sK S1 y := fun y => k5 y
        have n6 : ∀ y, sN (putI S80 35 xa (upd (aI S1 35 xa) j w)) y = sN S1 y := fun y => n5 y
        have a6 : aI (putI S80 35 xa (upd (aI S1 35 xa) j w)) 34 ia = upd (aI S1 34 ia) j v := by rw [aI_pn (Or.inl (by decide))]; exact a5
        have b6 : aI (putI S80 35 xa (upd (aI S1 35 xa) j w)) 35 xa = upd (aI S1 35 xa) j w := aI_ps
        generalize putI S80 35 xa (upd (aI S1 35 xa) j w) = S6 at hRS6 f6 k6 n6 a6 b6 ⊢
        refine r_iinc (pc := 84) C _ dX6_readTransaction_84 rfl (nI_1 _) (by decide) rfl ?_
        refine r_goto (pc := 87) (tgt := 58) C dX6_readTransaction_87 (by decide) ?_
        have gp := f6 pa (by omega) (by simp only [List.mem_cons, List.not_mem_nil, or_false, not_or]; exact ⟨fun e => by rw [e, hRS.1.1] at k33; omega, fun e => by rw [e, k34] at k33; omega, fun e => by rw [e, k35] at k33; omega⟩)
        refine r_lv C [(0, vr (some ra)), (1, vr (some dg)), (2, vr (some ro)), (3, vr (some pa)), (4, vr (some ia)), (5, vr (some xa)), (6, vi (nI (j + 1)))] rfl (ih _ ⟨i5, ok5, hRS6, ⟨(k6 _).trans k33, (n6 _).trans n33⟩, ⟨(k6 _).trans k34, (n6 _).trans n34⟩, ⟨(k6 _).trans k35, (n6 _).trans n35⟩, fun h => ?_, fun h => ?_⟩)
        · have h5 := hk5.mp h
          have h3 := hk3.mp h5.1
          obtain ⟨hw, hi5e⟩ := hv5 h
          obtain ⟨hv, hi3e⟩ := hv3 h5.1
          obtain ⟨q1, q2, q3, q4, q5, q6⟩ := hok h3.1
          refine ⟨q1, q2, by omega, lo_s.mpr ⟨q4, decide_eq_true (by rw [← q3]; exact h3.2.2)⟩, fun i hi => by rw [gp.2.2.2.2.2.1]; exact q5 i hi, fun i hi => ?_⟩
          rw [a6, b6]
          by_cases e : i = j
          · subst e
            rw [pk_us, pk_us]
            exact ⟨by rw [hv, q3], by rw [hw, hi3e, q3]; congr 2; omega⟩
          · rw [pk_un e, pk_un e]
            exact q6 i (by omega)
        · have h2 := hco h
          obtain ⟨q1, q2, q3, q4, q5, q6⟩ := hok h2
          have h3 := isT4 h
          have hQ : tQ tb = tP tb + 1 + 5 * tb (tP tb) := rfl
          rw [q2.2] at hj
          have h4 : ok3 = true := hk3.mpr ⟨h2, by omega, by rw [q3]; exact of_decide_eq_true (allU_iff.mp h3.2.2.2.2.2.1 j hj)⟩
          exact hk5.mpr ⟨h4, by have := (hv3 h4).2; omega⟩
  -- the parents
  have P1 : ∀ (ro pa : Nat) (p : Nat), p ≤ 4 → sK S pa = 0 → ∀ (j : Nat) (S1 : hS), j ≤ p → (∃ (i2 : Nat) (ok2 : Bool), RS S S1 ro ra m tb i2 ok2 ∧ (sK S1 pa = 33 ∧ sN S1 pa = p) ∧
      (ok2 = true → fewB (tb 0) = true ∧ p = tb 0 ∧ i2 = 1 + 4 * j ∧ lo1 tb j = true ∧ (∀ i, i < j → aI S1 33 pa i = f4 tb (1 + 4 * i))) ∧ (tt = true → ok2 = true)) →
      J 19 [(0, vr (some ra)), (1, vr (some dg)), (2, vr (some ro)), (3, vr (some pa)), (4, vi (nI j))] [] S1 2 7 := by
    intro ro pa p hp4 hfr
    refine up_loop _ _ _ ?_ ?_
    · intro S1 hS
      obtain ⟨i2, ok2, hRS, ⟨k33, n33⟩, hok, hco⟩ := hS
      refine r_iload (pc := 19) C dX6_readTransaction_19 rfl ?_
      refine r_aload_n (pc := 21) C dX6_readTransaction_21 rfl ?_
      refine r_alen (pc := 22) C dX6_readTransaction_22 k33 (by first | decide | omega) ?_
      rw [n33]
      refine r_icmp_ge (pc := 23) (tgt := 40) C dX6_readTransaction_23 (by decide) (fun c23 => ?_) (fun c23 => ?_)
      · refine r_aload_n (pc := 40) C dX6_readTransaction_40 rfl ?_
        refine r_callV (pc := 41) C (cw_few hRS.1 hb hRS.2.2.2.1 hRS.2.1 hRS.2.2.1) iX6_nextFew ml_RX6_24 dX6_readTransaction_41 (ci := 7) rfl rfl hRS.1.1 rfl (by decide) rfl (by simp [cv, Value.category, va_rf]) (by omega) (by omega) (fun r41 S41 h41 => ?_)
        obtain ⟨x, i3, ok3, rfl, e41, hi3, hx4, hk3, hv3⟩ := h41
        dsimp only [Option.toList, List.cons_append, List.nil_append]
        have hRS3 : RS S S41 ro ra m tb i3 ok3 := by rw [e41]; exact hRS.rp hi3
        have f3 : FE [ro] S1 S41 := by rw [e41]; exact FE.rp (by simp)
        clear e41
        refine r_newa (pc := 44) C 34 dX6_readTransaction_44 rfl (by decide) (wd_at 53 (by decide +kernel) rfl) (nI_pos (by omega)) (nI_clamp (by omega)) (by omega) (by omega) (by omega) (fun q44 hq44 => ?_)
        have z44 : sK S q44 = 0 := hRS3.2.2.2.2.1.fresh hq44
        have f4 : Fx S41 (newA S41 q44 34 x) := Fx.na hq44
        have hRS4 : RS S (newA S41 q44 34 x) ro ra m tb i3 ok3 := hRS3.fe (Fx.fe (E := []) f4) (by simp) (by simp) hra0
        have k4 : sK (newA S41 q44 34 x) q44 = 34 ∧ sN (newA S41 q44 34 x) q44 = x := ⟨sK_nas, sN_nas⟩
        have f5 : FE [ro] S1 (newA S41 q44 34 x) := f3.tr (Fx.fe f4)
        generalize newA S41 q44 34 x = S4 at f4 hRS4 k4 f5 ⊢
        refine r_astore (pc := 46) C dX6_readTransaction_46 (by decide) rfl ?_
        refine r_aload (pc := 48) C dX6_readTransaction_48 rfl ?_
        refine r_alen (pc := 50) C dX6_readTransaction_50 k4.1 (by first | decide | omega) ?_
        rw [k4.2]
        refine r_newa (pc := 51) C 35 dX6_readTransaction_51 rfl (by decide) (wd_at 53 (by decide +kernel) rfl) (nI_pos (by omega)) (nI_clamp (by omega)) (by omega) (by omega) (by omega) (fun q51 hq51 => ?_)
        have z51 : sK S q51 = 0 := hRS4.2.2.2.2.1.fresh hq51
        have f6 : Fx S4 (newA S4 q51 35 x) := Fx.na hq51
        have hRS6 : RS S (newA S4 q51 35 x) ro ra m tb i3 ok3 := hRS4.fe (Fx.fe (E := []) f6) (by simp) (by simp) hra0
        have k6 : sK (newA S4 q51 35 x) q51 = 35 ∧ sN (newA S4 q51 35 x) q51 = x := ⟨sK_nas, sN_nas⟩
        have k6i := f6 q44 (by rw [k4.1]; omega)
        have f7 : FE [ro] S1 (newA S4 q51 35 x) := f5.tr (Fx.fe f6)
        generalize newA S4 q51 35 x = S6 at f6 hRS6 k6 k6i f7 ⊢
        refine r_astore (pc := 53) C dX6_readTransaction_53 (by decide) rfl ?_
        refine r_iconst (pc := 55) C (nI 0) dX6_readTransaction_55 rfl ?_
        refine r_istore (pc := 56) C dX6_readTransaction_56 (by decide) rfl ?_
        have gp := f7 pa (by omega) (by simp only [List.mem_cons, List.not_mem_nil, or_false]; exact fun e => by rw [e, hRS.1.1] at k33; omega)
        refine r_widen C (k2 := 4) (n2 := 15) (by omega) (by omega) ?_
        refine r_lv C [(0, vr (some ra)), (1, vr (some dg)), (2, vr (some ro)), (3, vr (some pa)), (4, vr (some q44)), (5, vr (some q51)), (6, vi (nI 0))] rfl (P2 ro pa q44 q51 p x hx4 ⟨hfr, z44, z51⟩ hp4 0 _ (by omega) ⟨i3, ok3, hRS6, ⟨gp.1.trans k33, gp.2.2.2.2.1.trans n33⟩, ⟨k6i.1.trans k4.1, k6i.2.2.2.2.1.trans k4.2⟩, k6, fun h => ?_, fun h => ?_⟩)
        · have h2 := hk3.mp h
          obtain ⟨hv, hi3e⟩ := hv3 h
          obtain ⟨q1, q2, q3, q4, q5⟩ := hok h2.1
          have eP : i2 = tP tb := by rw [q3, q2]; rfl
          rw [eP] at h2 hv hi3e
          rw [q2] at q4
          exact ⟨⟨q1, h2.2.1, q4, h2.2.2⟩, ⟨q2, hv⟩, by omega, rfl, fun i hi => by rw [gp.2.2.2.2.2.1]; exact q5 i hi, fun i hi => absurd hi (by omega)⟩
        · have h2 := hco h
          obtain ⟨q1, q2, q3, q4, q5⟩ := hok h2
          have h3 := isT4 h
          have eP : i2 = tP tb := by rw [q3, q2]; rfl
          refine hk3.mpr ⟨h2, ?_, ?_⟩
          · rw [eP]; exact h3.2.1
          · rw [eP]; exact h3.2.2.2.1
      · exact absurd (Int32.le_refl _) c23
    · intro j S1 hj hS ih
      obtain ⟨i2, ok2, hRS, ⟨k33, n33⟩, hok, hco⟩ := hS
      refine r_iload (pc := 19) C dX6_readTransaction_19 rfl ?_
      refine r_aload_n (pc := 21) C dX6_readTransaction_21 rfl ?_
      refine r_alen (pc := 22) C dX6_readTransaction_22 k33 (by first | decide | omega) ?_
      rw [n33]
      refine r_icmp_ge (pc := 23) (tgt := 40) C dX6_readTransaction_23 (by decide) (fun c23 => ?_) (fun c23 => ?_)
      · exact absurd c23 (nI_ge hj (by omega))
      · refine r_aload_n (pc := 26) C dX6_readTransaction_26 rfl ?_
        refine r_iload (pc := 27) C dX6_readTransaction_27 rfl ?_
        refine r_aload_n (pc := 29) C dX6_readTransaction_29 rfl ?_
        refine r_callV (pc := 30) C (cw_id hRS.1 hb hRS.2.2.2.1 hRS.2.1 hRS.2.2.1) iX6_nextId ml_RX6_28 dX6_readTransaction_30 (ci := 7) rfl rfl hRS.1.1 rfl (by decide) rfl (by simp [cv, Value.category, va_rf]) (by omega) (by omega) (fun r30 S30 h30 => ?_)
        obtain ⟨v, i3, ok3, rfl, e30, hi3, hk3, hv3⟩ := h30
        dsimp only [Option.toList, List.cons_append, List.nil_append]
        have hRS3 : RS S S30 ro ra m tb i3 ok3 := by rw [e30]; exact hRS.rp hi3
        have k3 : ∀ y, sK S30 y = sK S1 y := fun y => by rw [e30]; rfl
        have n3 : ∀ y, sN S30 y = sN S1 y := fun y => by rw [e30]; rfl
        have a3 : ∀ r y, aI S30 r y = aI S1 r y := fun r y => by rw [e30]; rfl
        clear e30
        refine r_iast (pc := 33) C dX6_readTransaction_33 (show sK S30 pa = 33 by rw [k3]; exact k33) (by decide) (show sN S30 pa = p by rw [n3]; exact n33) (by first | assumption | exact vp_in_nI (by omega) (by omega)) (by first | exact nI_clamp (by omega) | rfl) ?_
        rw [a3]
        have hRS4 : RS S (putI S30 33 pa (upd (aI S1 33 pa) j v)) ro ra m tb i3 ok3 := hRS3.fe (E := [pa]) (FE.pi (by simp)) (fun q h => by simp only [List.mem_cons, List.not_mem_nil, or_false] at h; rw [h]; exact hfr) (by simp only [List.mem_cons, List.not_mem_nil, or_false]; exact fun e => by rw [← e, hRS.1.1] at k33; omega) hra0
        have k4 : sK (putI S30 33 pa (upd (aI S1 33 pa) j v)) pa = 33 ∧ sN (putI S30 33 pa (upd (aI S1 33 pa) j v)) pa = p := ⟨(k3 _).trans k33, (n3 _).trans n33⟩
        have a4 : aI (putI S30 33 pa (upd (aI S1 33 pa) j v)) 33 pa = upd (aI S1 33 pa) j v := aI_ps
        generalize putI S30 33 pa (upd (aI S1 33 pa) j v) = S4 at hRS4 k4 a4 ⊢
        refine r_iinc (pc := 34) C _ dX6_readTransaction_34 rfl (nI_1 _) (by decide) rfl ?_
        refine r_goto (pc := 37) (tgt := 19) C dX6_readTransaction_37 (by decide) ?_
        refine r_lv C [(0, vr (some ra)), (1, vr (some dg)), (2, vr (some ro)), (3, vr (some pa)), (4, vi (nI (j + 1)))] rfl (ih _ ⟨i3, ok3, hRS4, k4, fun h => ?_, fun h => ?_⟩)
        · have h3 := hk3.mp h
          obtain ⟨hv, hi3e⟩ := hv3 h
          obtain ⟨q1, q2, q3, q4, q5⟩ := hok h3.1
          refine ⟨q1, q2, by omega, lo_s.mpr ⟨q4, decide_eq_true (by rw [← q3]; exact h3.2.2)⟩, fun i hi => ?_⟩
          rw [a4]
          by_cases e : i = j
          · subst e; rw [pk_us, hv, q3]
          · rw [pk_un e]; exact q5 i (by omega)
        · have h2 := hco h
          obtain ⟨q1, q2, q3, q4, q5⟩ := hok h2
          have h3 := isT4 h
          have hQ : tP tb = 1 + 4 * tb 0 := rfl
          rw [q2] at hj
          exact hk3.mpr ⟨h2, by omega, by rw [q3]; exact of_decide_eq_true (allU_iff.mp h3.2.2.1 j hj)⟩
  refine r_new (pc := 0) C dX6_readTransaction_0 (ci := 7) (n := 3) rfl kl_RX6_8 rfl (by omega) (by omega) (fun q0 hq0 => ?_)
  have z0 : sK S q0 = 0 := hq0
  refine r_dup (pc := 3) C dX6_readTransaction_3 rfl ?_
  refine r_aload_n (pc := 4) C dX6_readTransaction_4 rfl ?_
  refine r_callI (pc := 5) C (cl_rdinit (ra := ra) (show sK (newO S q0 8) q0 = 8 from sK_nos)) iX6_init ml_RX6_21 dX6_readTransaction_5 rfl (by decide) rfl (by simp [cv, Value.category, va_rf]) (by omega) (by omega) (fun r5 S5 h5 => ?_)
  obtain ⟨rfl, e5⟩ := h5
  dsimp only [Option.toList, List.cons_append, List.nil_append]
  have hRS : RS S S5 q0 ra m tb 0 true := by rw [e5]; exact ⟨rd_ro z0 hk hn hm htb, by rw [sI_n (Or.inl (by decide)), sI_s], sI_s, by omega, (Fx.no z0).z z0 (((Fz.sr Fz.rf).si).si), z0⟩
  clear e5
  refine r_astore_n (pc := 8) C dX6_readTransaction_8 (by decide) rfl ?_
  refine r_aload_n (pc := 9) C dX6_readTransaction_9 rfl ?_
  refine r_callV (pc := 10) C (cw_few hRS.1 hb hRS.2.2.2.1 hRS.2.1 hRS.2.2.1) iX6_nextFew ml_RX6_24 dX6_readTransaction_10 (ci := 7) rfl rfl hRS.1.1 rfl (by decide) rfl (by simp [cv, Value.category, va_rf]) (by omega) (by omega) (fun r10 S10 h10 => ?_)
  obtain ⟨p, i3, ok3, rfl, e10, hi3, hp4, hk3, hv3⟩ := h10
  dsimp only [Option.toList, List.cons_append, List.nil_append]
  have hRS3 : RS S S10 q0 ra m tb i3 ok3 := by rw [e10]; exact hRS.rp hi3
  clear e10
  refine r_newa (pc := 13) C 33 dX6_readTransaction_13 rfl (by decide) (wd_at 53 (by decide +kernel) rfl) (nI_pos (by omega)) (nI_clamp (by omega)) (by omega) (by omega) (by omega) (fun q13 hq13 => ?_)
  have z13 : sK S q13 = 0 := hRS3.2.2.2.2.1.fresh hq13
  have hRS4 : RS S (newA S10 q13 33 p) q0 ra m tb i3 ok3 := hRS3.fe (Fx.fe (E := []) (Fx.na hq13)) (by simp) (by simp) hra0
  have k4 : sK (newA S10 q13 33 p) q13 = 33 ∧ sN (newA S10 q13 33 p) q13 = p := ⟨sK_nas, sN_nas⟩
  generalize newA S10 q13 33 p = S4 at hRS4 k4 ⊢
  refine r_astore_n (pc := 15) C dX6_readTransaction_15 (by decide) rfl ?_
  refine r_iconst (pc := 16) C (nI 0) dX6_readTransaction_16 rfl ?_
  refine r_istore (pc := 17) C dX6_readTransaction_17 (by decide) rfl ?_
  refine r_widen C (k2 := 2) (n2 := 7) (by omega) (by omega) ?_
  refine r_lv C [(0, vr (some ra)), (1, vr (some dg)), (2, vr (some q0)), (3, vr (some q13)), (4, vi (nI 0))] rfl (P1 q0 q13 p hp4 z13 0 _ (by omega) ⟨i3, ok3, hRS4, k4, fun h => ?_, fun h => ?_⟩)
  · have h2 := hk3.mp h
    obtain ⟨hv, hi3e⟩ := hv3 h
    exact ⟨h2.2.2, hv, by omega, rfl, fun i hi => absurd hi (by omega)⟩
  · exact hk3.mpr ⟨rfl, by omega, (isT4 h).1⟩
end Read
