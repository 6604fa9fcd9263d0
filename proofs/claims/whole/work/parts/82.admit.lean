/-! The class: one more is known -/
def Tn (T : Nat → Nat) (n tt : Nat) : Nat → Nat := va_up T n tt
def On' (O : Nat → Nat) (n : Nat) (On : Nat → Nat) : Nat → Nat := fun s => if 4 + 4 * n ≤ s ∧ s < 8 + 4 * n then On (s - (4 + 4 * n)) else O s
section AdmC
variable {l : Launch} {g : GG} {S S1 Sb : hS} {po go n h a m mi : Nat} {T O : Nat → Nat} {M : MM} {id : Int32} {tb : Nat → Nat} {tt ra pa ia xa oa qa sa na : Nat} {On Ln : Nat → Nat}
theorem Tn_o {t : Nat} (ht : t < n) : Tn T n tt t = T t := va_up_ne _ _ (by omega)
theorem Tn_n : Tn T n tt n = tt := va_up_self _ _ _
theorem On_o {s : Nat} (hs : s < 4 + 4 * n) : On' O n On s = O s := if_neg (by omega)
theorem On_n {i : Nat} (hn : n ≠ 0) (hi : i < 4) : On' O n On (onum n i) = On i := by
  unfold On' onum
  rw [if_neg hn, if_pos (by omega), show 4 + 4 * n + i - (4 + 4 * n) = i by omega]
theorem oV_hi (hG : GV M n h) (hn : 1 ≤ n) {s : Nat} (hs : oV M n s) : s < 4 + 4 * n := by
  obtain ⟨t, i, ht, hi, rfl⟩ := hs
  have hR := (hG.2.2.1 t ht).2.2.2
  unfold onum
  by_cases e : t = 0
  · rw [if_pos e]; have := hR.1; omega
  · rw [if_neg e]; have := hR.2 e; omega
theorem Adm.ov (hA : Adm M n h a id m tb) {s : Nat} : oV (adm M n id m tb) (n + 1) s ↔ oV M n s ∨ ∃ i, i < tb (tQ tb) ∧ s = onum n i := by
  constructor
  · rintro ⟨t, i, ht, hi, rfl⟩
    by_cases e : t = n
    · subst e; rw [hA.new.2.2.2.1] at hi; exact Or.inr ⟨i, hi, rfl⟩
    · rw [(hA.row (show t < n by omega)).o] at hi; exact Or.inl ⟨t, i, by omega, hi, rfl⟩
  · rintro (⟨t, i, ht, hi, rfl⟩ | ⟨i, hi, rfl⟩)
    · exact ⟨t, i, by omega, by rw [(hA.row ht).o]; exact hi, rfl⟩
    · exact ⟨n, i, by omega, by rw [hA.new.2.2.2.1]; exact hi, rfl⟩
theorem isT_len (hT : isT tb m = true) : m = tQ tb + 1 + 4 * tb (tQ tb) ∧ 1 ≤ tb 0 ∧ tb 0 ≤ 4 ∧ 1 ≤ tb (tP tb) ∧ tb (tP tb) ≤ 4 ∧ 1 ≤ tb (tQ tb) ∧ tb (tQ tb) ≤ 4 := by
  obtain ⟨h1, h2, h3, h4, h5, h6, h7, h8, h9⟩ := isT_iff.mp hT
  have a1 := few_b h1
  have a2 := few_b h4
  have a3 := few_b h7
  exact ⟨h8, a1.1, a1.2, a2.1, a2.2, a3.1, a3.2⟩
theorem adm_r4 (hA : Adm M n h a id m tb) {i : Nat} (hi : i + 3 < m) : nI (r4 (adm M n id m tb 11) n i) = f4 tb i := by
  have r := adm_row (M := M) (n := n) (id := id) (m := m) hA.2.2.2.2.1
  unfold r4 f4
  rw [r i (by omega), r (i + 1) (by omega), r (i + 2) (by omega), r (i + 3) (by omega)]
/-- the transaction that was read, as the graph wants it -/
theorem adm_TS (hA : Adm M n h a id m tb) (hR : RT g S tt id ra pa ia xa oa qa sa na tb On Ln) (hr : sK S ra = 22 ∧ sN S ra = m ∧ ∀ i, i < m → aI S 22 ra i &&& nI 255 = nI (tb i)) : TS S (Tn T n tt) (On' O n On) (adm M n id m tb) n ∧ rA S 906 tt = qa ∧ rA S 907 tt = sa ∧ rA S 908 tt = na := by
  obtain ⟨⟨k1, k2, ⟨v1, v2, v3, v4, v5⟩, ⟨w1, w2, w3⟩, ⟨x1, x2, x3⟩, ⟨y1, y2, y3, y4⟩, z⟩, ⟨p1, p2, p3⟩, ⟨q1, q2, q3⟩, ⟨s1, s2, s3⟩, ⟨o1, o2, o3⟩, -⟩ := hR
  obtain ⟨n1, n2, n3, n4, n5, n6⟩ := hA.new
  have il := isT_len hA.2.2.2.2.2.2
  have rr := adm_row (M := M) (n := n) (id := id) (m := m) hA.2.2.2.2.1
  have e : ∀ f x y, sR S f x = some y → rA S f x = y := fun f x y q => by simp only [rA, q]; rfl
  have eTP : tP tb = 1 + 4 * tb 0 := rfl
  have eTQ : tQ tb = tP tb + 1 + 5 * tb (tP tb) := rfl
  have esz : szN (adm M n id m tb) n = m := by unfold szN; rw [adm_12, pk_us, nI_clamp (by have := hA.2.2.2.2.2.1; omega)]
  refine ⟨?_, e _ _ _ w1, e _ _ _ x1, e _ _ _ y1⟩
  unfold TS AR IR
  rw [Tn_n, n2, n3, n4, esz, e _ _ _ v1, e _ _ _ v2, e _ _ _ v3, e _ _ _ v4, e _ _ _ v5, e _ _ _ w1, e _ _ _ x1, e _ _ _ y1]
  refine ⟨⟨k1, by rw [adm_10, pk_us]; exact k2⟩, ⟨⟨v1, hr.1, hr.2.1⟩, fun i hi => by rw [rr i hi]; exact hr.2.2 i hi⟩, ⟨v2, by omega, p2, fun i hi => ⟨p1, ?_⟩⟩, ⟨v3, by omega, q2, fun i hi => ⟨q1, ?_⟩⟩, ⟨v4, by omega, s2, fun i hi => ⟨s1, ?_⟩⟩, ⟨⟨v5, o1, o2⟩, fun i hi => ?_⟩, ⟨w1, w2, w3⟩, ⟨x1, x2, x3⟩, ⟨y1, y2, y3⟩⟩
  · rw [p3 i hi]; unfold pid; rw [adm_r4 hA (by omega)]
  · rw [q3 i hi]; unfold xid; rw [n5, adm_r4 hA (by omega)]
  · rw [s3 i hi]
    show _ = nI (xix (adm M n id m tb 11) n i)
    unfold xix
    rw [n5, rr _ (by omega)]
  · rw [(o3 i hi).1, On_n hA.n0 (by omega)]
theorem TS.admT (hA : Adm M n h a id m tb) {t : Nat} (ht : t < n) (hT : TS S T O M t) : TS S (Tn T n tt) (On' O n On) (adm M n id m tb) t := by
  have hG := hA.1.1.1
  have r := hA.row ht
  have hR := hG.2.2.1 t ht
  have sz := hA.1.2.2.1 t ht
  have esz : szN (adm M n id m tb) t = szN M t := by unfold szN; rw [adm_12, pk_un (by omega)]
  have rn : ∀ i, i < 56 → rN (adm M n id m tb 11) t i = rN (M 11) t i := fun i hi => rN_congr (fun i hi => hA.g.rows _ (by omega)) hi
  obtain ⟨⟨h1, h2⟩, ⟨h3, h4⟩, h5, h6, h7, ⟨h8, h9⟩, h10, h11, h12⟩ := hT
  unfold TS AR IR
  rw [Tn_o ht, r.p, r.x, r.o, esz]
  refine ⟨⟨h1, by rw [adm_10, pk_un (by omega)]; exact h2⟩, ⟨h3, fun i hi => by rw [rn i (by omega)]; exact h4 i hi⟩, ⟨h5.1, h5.2.1, h5.2.2.1, fun i hi => ⟨(h5.2.2.2 i hi).1, by rw [r.pi i (by have := hR.2.1; omega)]; exact (h5.2.2.2 i hi).2⟩⟩, ⟨h6.1, h6.2.1, h6.2.2.1, fun i hi => ⟨(h6.2.2.2 i hi).1, by rw [r.xi i (by have := hR.2.2.1; omega)]; exact (h6.2.2.2 i hi).2⟩⟩, ⟨h7.1, h7.2.1, h7.2.2.1, fun i hi => ⟨(h7.2.2.2 i hi).1, by show _ = nI (xix (adm M n id m tb 11) t i); rw [r.xx i (by have := hR.2.2.1; omega)]; exact (h7.2.2.2 i hi).2⟩⟩, ⟨h8, fun i hi => by rw [On_o (oV_hi hG (by have := hA.n0; omega) ⟨t, i, ht, hi, rfl⟩)]; exact h9 i hi⟩, h10, h11, h12⟩
theorem CR.admC (hC : CG g S po go T O M n h a) (hA : Adm M n h a id m tb) (hR : RT g S tt id ra pa ia xa oa qa sa na tb On Ln) (hr : sK S ra = 22 ∧ sN S ra = m ∧ ∀ i, i < m → aI S 22 ra i &&& nI 255 = nI (tb i))
    (dT : ∀ u, u < n → T u ≠ tt ∧ rA S 906 (T u) ≠ qa ∧ rA S 907 (T u) ≠ sa ∧ rA S 908 (T u) ≠ na) (dO : ∀ i, i < tb (tQ tb) → (∀ s, oV M n s → O s ≠ On i) ∧ (∀ j, lV M n j → lad S po go O j ≠ Ln i))
    (hU : Au S S1 (rA S 302 go) 104) (hL : LA g S1 (rA S 302 go) 104 (n + 1) (Tn T n tt)) : CG g S1 po go (Tn T n tt) (On' O n On) (adm M n id m tb) (n + 1) h a ∧ GrF po S S1 := by
  have hG := hA.1.1.1
  have hn1 : 1 ≤ n := by have := hA.n0; omega
  have il := isT_len hA.2.2.2.2.2.2
  obtain ⟨c1, c2, c3, c4, c5, c6, c7⟩ := hC
  obtain ⟨tsn, e6, e7, e8⟩ := adm_TS (T := T) (O := O) hA hR hr
  obtain ⟨⟨k1, k2, kv, kw, kx, ky, ⟨z1, z2, z3, z4, z5⟩⟩, -, -, -, ⟨o1, o2, o3⟩, oj⟩ := hR
  have oV' := fun {s} => hA.ov (s := s)
  have hO' : ∀ s, oV M n s → On' O n On s = O s := fun s hs => On_o (oV_hi hG hn1 hs)
  have hOn : ∀ i, i < tb (tQ tb) → On' O n On (onum n i) = On i := fun i hi => On_n hA.n0 (by omega)
  have hon : ∀ i, onum n i = 4 + 4 * n + i := fun i => by unfold onum; rw [if_neg hA.n0]
  have e401 : ∀ i, i < tb (tQ tb) → rA S 401 (On i) = Ln i := fun i hi => by have := (o3 i hi).2.2.2.1; simp only [rA, this]; rfl
  -- the lists, as they stand in S
  have lad4' : ∀ s, oV M n s → lad S po go (On' O n On) (4 + s) = lad S po go O (4 + s) := fun s hs => by rw [lad4, lad4, hO' s hs]
  have ladn : ∀ i, i < tb (tQ tb) → lad S po go (On' O n On) (4 + onum n i) = Ln i := fun i hi => by rw [lad4, hOn i hi, e401 i hi]
  have lads : ∀ j, j < 4 → lad S po go (On' O n On) j = lad S po go O j := fun j hj => by
    unfold lad
    have : j = 0 ∨ j = 1 ∨ j = 2 ∨ j = 3 := by omega
    rcases this with rfl | rfl | rfl | rfl <;> rfl
  have lVc : ∀ j, lV (adm M n id m tb) (n + 1) j → (lV M n j ∧ lad S po go (On' O n On) j = lad S po go O j) ∨ ∃ i, i < tb (tQ tb) ∧ j = 4 + onum n i := by
    rintro j (hj | ⟨h4, hj⟩)
    · exact Or.inl ⟨Or.inl hj, lads j hj⟩
    · obtain ⟨s, rfl⟩ : ∃ s, j = 4 + s := ⟨j - 4, by omega⟩
      rw [Nat.add_sub_cancel_left] at hj
      rcases oV'.mp hj with q | ⟨i, hi, rfl⟩
      · exact Or.inl ⟨lV4 q, lad4' s q⟩
      · exact Or.inr ⟨i, hi, rfl⟩
  have d1 : GS S po go (Tn T n tt) (On' O n On) (adm M n id m tb) (n + 1) := by
    refine ⟨c1.1, fun t ht => ?_, fun t i ht hi => ?_, fun t u ht hu q => ?_, fun s s' hs hs' q => ?_, fun j j' hj hj' q => ?_⟩
    · by_cases e : t = n
      · subst e; exact tsn
      · exact (c1.t (show t < n by omega)).admT hA (by omega)
    · by_cases e : t = n
      · subst e
        rw [hA.new.2.2.2.1] at hi
        have := (o3 i hi).2
        rw [hOn i hi, e401 i hi]
        refine ⟨this.1, ?_, this.2.2.1⟩
        rw [this.2.1]
        unfold amt
        rw [if_neg hA.n0, hA.new.2.2.2.2.2, adm_r4 hA (by omega)]
      · have ht' : t < n := by omega
        rw [(hA.row ht').o] at hi
        rw [hO' _ ⟨t, i, ht', hi, rfl⟩, (hA.row ht').am i (fun q => by have := (hG.2.2.1 t ht').2.2.2.2 q; omega)]
        exact c1.2.2.1 t i ht' hi
    · by_cases et : t = n
      · by_cases eu : u = n
        · omega
        · rw [et, Tn_n, Tn_o (show u < n by omega), e6, e7, e8] at q
          have := dT u (by omega)
          rcases q with q | q | q | q
          · exact absurd q.symm this.1
          · exact absurd q.symm this.2.1
          · exact absurd q.symm this.2.2.1
          · exact absurd q.symm this.2.2.2
      · by_cases eu : u = n
        · rw [eu, Tn_n, Tn_o (show t < n by omega), e6, e7, e8] at q
          have := dT t (by omega)
          rcases q with q | q | q | q
          · exact absurd q this.1
          · exact absurd q this.2.1
          · exact absurd q this.2.2.1
          · exact absurd q this.2.2.2
        · rw [Tn_o (show t < n by omega), Tn_o (show u < n by omega)] at q
          exact c1.2.2.2.1 t u (by omega) (by omega) q
    · rcases oV'.mp hs with hs | ⟨i, hi, rfl⟩
      · rcases oV'.mp hs' with hs' | ⟨i', hi', rfl⟩
        · rw [hO' s hs, hO' s' hs'] at q; exact c1.oinj hs hs' q
        · rw [hO' s hs, hOn i' hi'] at q; exact absurd q ((dO i' hi').1 s hs)
      · rcases oV'.mp hs' with hs' | ⟨i', hi', rfl⟩
        · rw [hO' s' hs', hOn i hi] at q; exact absurd q.symm ((dO i hi).1 s' hs')
        · rw [hOn i hi, hOn i' hi'] at q; rw [(oj i i' hi hi').1 q]
    · rcases lVc j hj with ⟨l1, l2⟩ | ⟨i, hi, rfl⟩
      · rcases lVc j' hj' with ⟨m1, m2⟩ | ⟨i', hi', rfl⟩
        · rw [l2, m2] at q; exact c1.linj l1 m1 q
        · rw [l2, ladn i' hi'] at q; exact absurd q ((dO i' hi').2 j l1)
      · rcases lVc j' hj' with ⟨m1, m2⟩ | ⟨i', hi', rfl⟩
        · rw [m2, ladn i hi] at q; exact absurd q.symm ((dO i hi).2 j' m1)
        · rw [ladn i hi, ladn i' hi'] at q; rw [(oj i i' hi hi').2 q]
  have v : ∀ j, j < 4 → lV (adm M n id m tb) (n + 1) j := fun j hj => Or.inl hj
  obtain ⟨hg, ll, lk, gf⟩ := GS.lk (g := g) d1 (v 0 (by omega)) hU
  have kk : ∀ k, k ≠ 10 → k ≠ 11 → k ≠ 12 → k ≠ 13 → adm M n id m tb k = M k := fun k a b c d => adm_k a b c d
  have hn' : ∀ k, k < h → hdN (adm M n id m tb) k < n + 1 := fun k hk => by rw [adm_hd]; have := hG.hn k hk; omega
  have t2 : TD S (Tn T n tt) (n + 1) (adm M n id m tb 13) (fun u => nI (conf (adm M n id m tb) (n + 1) h u)) (adm M n id m tb 14) (adm M n id m tb 15) := fun u hu => by
    rw [kk 14 (by decide) (by decide) (by decide) (by decide), kk 15 (by decide) (by decide) (by decide) (by decide)]
    dsimp only
    rw [hA.conf, adm_13]
    by_cases e : u = n
    · subst e
      have fr := hA.2.1.1 u (Nat.le_refl _)
      rw [Tn_n, pk_us, fr.1, fr.2, hA.conf0]
      exact ⟨z2, z3, z4, z5⟩
    · rw [Tn_o (show u < n by omega), pk_un e]
      exact c2 u (by omega)
  have t3 : HN S (Tn T n tt) (adm M n id m tb) (n + 1) h := by
    refine ⟨fun k hk => ?_, fun u hu q => ?_⟩
    · rw [adm_hd, Tn_o (hG.hn k hk)]; exact c3.1 k hk
    · rw [adm_hb] at q
      by_cases e : u = n
      · subst e; rw [Tn_n]; exact z1
      · rw [Tn_o (show u < n by omega)]; exact c3.2 u (by omega) q
  have mp : ∀ o : Option Nat, (∀ w, o = some w → w < n) → o.map (Tn T n tt) = o.map T := fun o ho => by
    cases o with
    | none => rfl
    | some w => simp only [Option.map_some]; rw [Tn_o (ho w rfl)]
  have t4 : OD S (Tn T n tt) (On' O n On) (adm M n id m tb) (n + 1) (favN (adm M n id m tb)) (latN (adm M n id m tb)) (acO (adm M n id m tb) (n + 1) h) (adm M n id m tb 24) := fun s hs => by
    have ef : favN (adm M n id m tb) s = favN M s := by simp only [favN, kk 22 (by decide) (by decide) (by decide) (by decide)]
    have el : latN (adm M n id m tb) s = latN M s := by simp only [latN, kk 23 (by decide) (by decide) (by decide) (by decide)]
    rw [ef, el, hA.acO, kk 24 (by decide) (by decide) (by decide) (by decide)]
    rcases oV'.mp hs with hs | ⟨i, hi, rfl⟩
    · have s5 := hs.lt hG
      rw [hO' s hs, mp _ (hA.1.1.2.2.2.1 s s5).2, mp _ (hA.1.1.2.2.2.2.1 s s5).2, mp _ (fun w hw => acO_lt hG w hw)]
      exact c4 s hs
    · have := (o3 i hi).2.2.2.2
      have hlt : onum n i < 564 := by rw [hon]; have := hA.2.2.2.1; omega
      have fr := hA.2.1.2 (onum n i) (by rw [hon]; omega) hlt
      rw [hOn i hi, hA.acO0 (by rw [hon]; omega), fr.2.2]
      unfold favN latN
      rw [fr.1, fr.2.1, if_pos (by decide)]
      exact ⟨this.1.1, this.1.2.1, this.1.2.2.1, this.1.2.2.2⟩
  refine ⟨⟨d1.ag hg (fun x => ⟨fun _ => by omega, fun _ => by omega⟩) (fun f x q _ => by omega) (fun x => by omega), t2.ag d1 hg (fun f x q1 q2 _ => by omega), t3.ag d1 hn' hg (fun x _ => by omega), t4.ag d1 hg (fun x _ => by omega) (fun x => ⟨fun _ => by omega, fun _ => by omega, fun _ => by omega⟩), ⟨?_, ?_, ?_, fun s hs => ?_⟩, ED.ag d1 hn' (fun k hk => ?_) hg (fun x => ⟨fun _ => by omega, fun _ => by omega⟩) (fun x => by omega), AN.ag d1 hn' ⟨fun k hk j hj => ?_, fun u hu q i hi => ?_⟩ hg (fun x _ => by omega) (fun x => by omega)⟩, gf (by omega)⟩
  · rw [ll 0 (v 0 (by omega))]; exact hL
  · have q := lk 1 105 h (fun k => T (hdN M k)) (v 1 (by omega)) (by omega) rfl (by rw [lads 1 (by omega)]; exact c5.2.1)
    refine q.cg (fun i hi => ?_)
    rw [adm_hd, Tn_o (hG.hn i hi)]
  · have q := lk 2 106 a (fun i => T (acN M i)) (v 2 (by omega)) (by omega) rfl (by rw [lads 2 (by omega)]; exact c5.2.2.1)
    refine q.cg (fun i hi => ?_)
    have := (hA.1.1.2.2.2.2.2.1 i hi).2
    simp only [acN, kk 18 (by decide) (by decide) (by decide) (by decide)] at this ⊢
    rw [Tn_o this]
  · rw [hA.mem]
    rcases oV'.mp hs with hs' | ⟨i, hi, rfl⟩
    · have q := lk (4 + s) (108 + s) _ _ (lV4 hs) (by omega) (by omega) (by rw [lad4' s hs']; exact c5.2.2.2 s hs')
      refine q.cg (fun i hi => ?_)
      obtain ⟨⟨k, hk, e⟩, -⟩ := mem_in.mp (getD_mem hi)
      rw [← e, Tn_o (hG.hn k hk)]
    · rw [hA.mem0 (by rw [hon]; omega)]
      refine lk (4 + onum n i) (108 + onum n i) 0 _ (lV4 hs) (by omega) (by omega) ?_
      rw [ladn i hi]
      have := (o3 i hi).2.2.2.2.2
      exact ⟨this.2.1, gT g 0, this.1, this.2.2, Or.inl ⟨rfl, rfl⟩⟩
  · have hk' := hG.hn k hk
    rw [adm_hd, Tn_o hk', (hA.row hk').p, (hA.row hk').x]
    have := c6 k hk
    exact ⟨fun i hi => by rw [hA.pa hk hi, Tn_o ((hG.2.2.2 k hk).2.par_lt hi)]; exact this.1 i hi, fun i hi => by rw [hA.ou hk hi, hO' _ ((hG.2.2.2 k hk).2.oV hi)]; exact this.2 i hi⟩
  · rw [adm_hd, Tn_o (hG.hn k hk), hA.anc hk]
    exact c7.1 k hk j hj
  · by_cases e : u = n
    · subst e
      rw [Tn_n, e8, ky.2.2.2]
    · rw [adm_13, pk_un e] at q
      rw [Tn_o (show u < n by omega)]
      exact c7.2 u (by omega) q i hi
theorem cg_admit (hM : MIR g mi) (hC : CG g S po go T O M n h a) (hA : Adm M n h a id m tb) (hn : n ≤ 64) (hR : RT g S tt id ra pa ia xa oa qa sa na tb On Ln) (hr : sK S ra = 22 ∧ sN S ra = m ∧ ∀ i, i < m → aI S 22 ra i &&& nI 255 = nI (tb i))
    (dT : ∀ u, u < n → T u ≠ tt ∧ rA S 906 (T u) ≠ qa ∧ rA S 907 (T u) ≠ sa ∧ rA S 908 (T u) ≠ na) (dO : ∀ i, i < tb (tQ tb) → (∀ s, oV M n s → O s ≠ On i) ∧ (∀ j, lV M n j → lad S po go O j ≠ Ln i)) : Sp l g mX2_admit 706 70600 [vr (some go), vr (some tt)] S (fun r S' => r = none ∧ CG g S' po go (Tn T n tt) (On' O n On) (tak M n h id m tb).1 (n + 1) (tak M n h id m tb).2 a ∧ GrF po S S') := by
  have hL0 := hC.pL.l0
  refine Sp.start (own := RX2) [(0, vr (some go)), (1, vr (some tt))] (by decide +kernel) rfl rfl (Nat.le_of_ble_eq_true rfl) ?_
  intro J C
  have h1 : adm M n id m tb 13 n = nI 1 := by rw [adm_13, pk_us]
  refine r_aload_n (pc := 0) C dX2_admit_0 rfl ?_
  refine r_getR (pc := 1) C dX2_admit_1 fx_RX2_21 hC.pG.gk hC.pG.1.2.1 ?_
  refine r_aload_n (pc := 4) C dX2_admit_4 rfl ?_
  refine r_callV (pc := 5) C (ct_add (by omega) hn hM hL0 (fun i hi => ⟨9, Or.inl rfl, hC.pG.tk hi⟩) ⟨9, Or.inl rfl, hR.1.1⟩) iJx4a65c_add_9ea2d ml_RX2_39 dX2_admit_5 (ci := 0) rfl rfl hL0.k rfl (by decide) rfl (by simp [cv, Value.category, va_rf]) (by omega) (by omega) (fun r5 S5 h5 => ?_)
  obtain ⟨rfl, hL2, hAu⟩ := h5
  dsimp only [Option.toList, List.cons_append, List.nil_append]
  obtain ⟨hC2, hg2⟩ := hC.admC hA hR hr dT dO hAu hL2
  refine r_pop (pc := 8) C dX2_admit_8 rfl ?_
  refine r_aload_n (pc := 9) C dX2_admit_9 rfl ?_
  refine r_aload_n (pc := 10) C dX2_admit_10 rfl ?_
  rw [show some tt = some (Tn T n tt n) by rw [Tn_n]]
  refine r_callV (pc := 11) C (cg_lookAt hM hC2 hA.pi.1 (by omega) (show n < n + 1 by omega) h1) iX2_lookAt ml_RX2_71 dX2_admit_11 (ci := 3) rfl rfl hC2.pG.gk rfl (by decide) rfl (by simp [cv, Value.category, va_rf]) (by omega) (by omega) (fun r11 S11 h11 => ?_)
  obtain ⟨rfl, hC3, hg3⟩ := h11
  dsimp only [Option.toList, List.cons_append, List.nil_append]
  refine r_istore_n (pc := 14) C dX2_admit_14 (by decide) rfl ?_
  refine r_iconst (pc := 15) C (nI 0) dX2_admit_15 rfl ?_
  refine r_istore_n (pc := 16) C dX2_admit_16 (by decide) rfl ?_
  refine r_lv C [(0, vr (some go)), (1, vr (some (Tn T n tt n))), (2, vi (bi (goes (adm M n id m tb) (n + 1) n))), (3, vi (nI 0))] rfl (admit_loop (b := true) (x := Tn T n tt n) (S0 := S) hM C (by omega) 0 (_, (lok (adm M n id m tb) (n + 1) h n).1, (lok (adm M n id m tb) (n + 1) h n).2, goes (adm M n id m tb) (n + 1) n) (by omega) ⟨hC3, hA.pi.1.lok (by omega) h1, hg2.tr hg3, fun q => ?_, fun q => ?_⟩)
  · dsimp only at q ⊢
    unfold tak
    rw [if_pos q]
  · dsimp only at q ⊢
    unfold tak
    rw [if_neg (by rw [q]; decide), lok_stay q]
end AdmC
