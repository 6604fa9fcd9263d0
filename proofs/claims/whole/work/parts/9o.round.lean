/-! The class: round -/
section RoundC
variable {l : Launch} {g : GG} {S S1 S' : hS} {po x pe tp dg go ch n h a k co j al : Nat} {F F' R : MM} {G : Nat → Int32} {L : List Nat} {c col y : Int32} {A B V W W' : Nat → Int32} {w : Option Nat}
theorem sv_1 {v : Nat → Nat} {c : Nat} : ∀ m, c < m → v c ≤ sv v m
  | 0, q => absurd q (by omega)
  | m + 1, q => by
    show v c ≤ sv v m + v m
    by_cases e : c = m
    · subst e; omega
    · have := sv_1 (v := v) m (show c < m by omega); omega
theorem sv_2 {v : Nat → Nat} {c d : Nat} (hcd : c < d) : ∀ m, d < m → v c + v d ≤ sv v m
  | 0, q => absurd q (by omega)
  | m + 1, q => by
    show v c + v d ≤ sv v m + v m
    by_cases e : d = m
    · subst e; have := sv_1 (v := v) d hcd; omega
    · have := sv_2 (v := v) hcd m (by omega); omega
theorem fstU_congr {f f' : Nat → Bool} {n : Nat} (h : ∀ i, i < n → f i = f' i) : fstU f n = fstU f' n := by
  induction n with
  | zero => rfl
  | succ n ih => rw [fstU_up, fstU_up, ih (fun i hi => h i (by omega)), h n (by omega)]
/-- the first colour with enough votes is the last one -/
theorem win_eq (hV : VI F k) (hH : CH F) (hj : j < 8) (hk : k ≤ 10) (hal : G 3 = nI al) (h2 : k < 2 * al) (hal2 : al ≤ k) : fstU (fun c => !dlt (F 38 (8 * j + c)) (G 3)) (coN F j) = winW (F 38) j (G 3) 8 := by
  obtain ⟨v, h1, hs, hz⟩ := hV j hj
  have hcn := (hH j hj).1.2
  have vb : ∀ c, c < 8 → v c ≤ 10 := fun c hc => by have := sv_1 (v := v) 8 hc; omega
  have hp : ∀ c, c < 8 → ((!dlt (F 38 (8 * j + c)) (G 3)) = true ↔ al ≤ v c) := fun c hc => by
    have := vb c hc
    rw [h1 c hc, hal]
    by_cases q : al ≤ v c
    · rw [dlt_f (nI_le q (by omega))]; exact ⟨fun _ => q, fun _ => rfl⟩
    · rw [dlt_t (nI_lt (by omega) (by omega))]; exact ⟨(fun z => by cases z), fun z => absurd z q⟩
  have hlt : ∀ c, c < 8 → (!dlt (F 38 (8 * j + c)) (G 3)) = true → c < coN F j := fun c hc q => by
    have q1 := (hp c hc).mp q
    by_cases e : c < coN F j
    · exact e
    · have := hz c (by omega) hc; omega
  have huq : ∀ i j', i < 8 → j' < 8 → (!dlt (F 38 (8 * j + i)) (G 3)) = true → (!dlt (F 38 (8 * j + j')) (G 3)) = true → i = j' := fun i j' hi hj' q1 q2 => by
    have p1 := (hp i hi).mp q1
    have p2 := (hp j' hj').mp q2
    rcases Nat.lt_trichotomy i j' with z | z | z
    · have := sv_2 (v := v) z 8 hj'; omega
    · exact z
    · have := sv_2 (v := v) z 8 hi; omega
  unfold winW
  rw [← fstU_last (f := fun c => !dlt (F 38 (8 * j + c)) (G 3)) (k := 8) huq]
  cases e : fstU (fun c => !dlt (F 38 (8 * j + c)) (G 3)) (coN F j) with
  | some u => exact (fstU_le e hcn).symm
  | none =>
    refine (fstU_none.mpr (fun i hi => ?_)).symm
    cases q : (!dlt (F 38 (8 * j + i)) (G 3)) with
    | false => rfl
    | true => exact absurd ((fstU_none.mp e) i (hlt i hi q)) (by rw [q]; decide)
def OK6 (f : Int32) : Prop := f = -1 ∨ ∃ u, u < 8 ∧ f = nI u
theorem CH.ok6 (hH : CH F) (hj : j < 8) : OK6 (F 34 j) := by
  obtain ⟨h1, h2⟩ := (hH j hj).2
  cases e : clO F j with
  | none => exact Or.inl (by rw [h1, e]; rfl)
  | some u => exact Or.inr ⟨u, h2 u e, by rw [h1, e]; rfl⟩
theorem OK6.cho (h : OK6 (F 34 j)) : F 34 j = oI (clO F j) ∧ ∀ u, clO F j = some u → u < 8 := by
  unfold clO
  rcases h with h | ⟨u, hu, h⟩
  · rw [h, if_pos (by decide)]; exact ⟨rfl, fun u q => by cases q⟩
  · rw [h, if_neg (nI_pos (by omega)), nI_clamp (by omega)]; exact ⟨rfl, fun u' q => by cases q; exact hu⟩
theorem OK6.lt {f : Int32} (h : OK6 f) : dlt f (nI 0) = decide (f = -1) := by
  rcases h with rfl | ⟨u, hu, rfl⟩
  · rfl
  · rw [dlt_f (nI_le (by omega) (by omega)), decide_eq_false]
    intro q
    exact nI_pos (n := u) (by omega) (by rw [q]; decide)
/-- what a rule does to one choice, class and reference side by side -/
def MidOK (F R : MM) (j : Nat) (A B W' : Nat → Int32) : Prop := (B 0 = A 0 ∧ B 3 = A 3 ∧ B 4 = A 4 ∧ B 5 = A 5 ∧ B 9 = nI 0) ∧ (B 6 = R 34 j ∧ B 7 = R 37 j ∧ B 8 = R 35 j) ∧ (∀ c, c < 8 → W' c = R 39 (8 * j + c)) ∧ (R 32 = F 32 ∧ R 33 = F 33 ∧ R 36 = F 36 ∧ R 38 = F 38) ∧ (∀ k i, i ≠ j → k ≠ 39 → R k i = F k i) ∧ (∀ x, x < 8 * j ∨ 8 * j + 8 ≤ x → R 39 x = F 39 x) ∧ OK6 (R 34 j) ∧ ∀ k, (k < 32 ∨ 39 < k) → R k = F k
theorem mid_any (hA : A 6 = F 34 j ∧ A 7 = F 37 j ∧ A 8 = F 35 j ∧ A 9 = nI 0) (hW : ∀ c, c < 8 → W c = F 39 (8 * j + c)) (h6 : OK6 (F 34 j)) (hw : ∀ u, w = some u → u < 8) : MidOK F (slu F j w) j A (fAny A w) W := by
  obtain ⟨a6, a7, a8, a9⟩ := hA
  cases w with
  | none => exact ⟨⟨rfl, rfl, rfl, rfl, a9⟩, ⟨a6, a7, a8⟩, hW, ⟨rfl, rfl, rfl, rfl⟩, fun _ _ _ _ => rfl, fun _ _ => rfl, h6, fun _ _ => rfl⟩
  | some u =>
    have e34 : slu F j (some u) 34 j = nI u := by simp only [slu]; rw [um_n (by decide), um_s]
    have e35 : slu F j (some u) 35 j = F 35 j + nI 1 := by simp only [slu]; rw [um_s]
    refine ⟨⟨rfl, rfl, rfl, rfl, a9⟩, ⟨by rw [e34]; rfl, a7, ?_⟩, hW, ⟨rfl, rfl, rfl, rfl⟩, fun k i hi _ => ?_, fun _ _ => rfl, Or.inr ⟨u, hw u rfl, e34⟩, fun k hk => ?_⟩
    · rw [e35, ← a8]; rfl
    · simp only [slu]; rw [um_at hi, um_at hi]
    · simp only [slu]; rw [um_n (by omega), um_n (by omega)]
theorem mid_row (hA : A 6 = F 34 j ∧ A 7 = F 37 j ∧ A 8 = F 35 j ∧ A 9 = nI 0) (hW : ∀ c, c < 8 → W c = F 39 (8 * j + c)) (h6 : OK6 (F 34 j)) (hw : ∀ u, w = some u → u < 8) : MidOK F (fla F j w) j A (fRow A w) W := by
  obtain ⟨a6, a7, a8, a9⟩ := hA
  cases w with
  | none =>
    refine ⟨⟨rfl, rfl, rfl, rfl, a9⟩, ⟨a6, a7, ?_⟩, hW, ⟨rfl, rfl, rfl, rfl⟩, fun k i hi _ => ?_, fun _ _ => rfl, h6, fun k hk => ?_⟩
    · simp only [fla]; rw [um_s]; rfl
    · simp only [fla]; rw [um_at hi]
    · simp only [fla]; rw [um_n (by omega)]
  | some u =>
    have e34 : fla F j (some u) 34 j = nI u := by simp only [fla]; rw [um_s]
    have e35 : fla F j (some u) 35 j = if nI u = F 34 j then F 35 j + nI 1 else nI 1 := by simp only [fla]; rw [um_n (by decide), um_s]
    refine ⟨⟨rfl, rfl, rfl, rfl, a9⟩, ⟨by rw [e34]; rfl, a7, ?_⟩, hW, ⟨rfl, rfl, rfl, rfl⟩, fun k i hi _ => ?_, fun _ _ => rfl, Or.inr ⟨u, hw u rfl, e34⟩, fun k hk => ?_⟩
    · rw [e35, ← a8, ← a6]; rfl
    · simp only [fla]; rw [um_at hi, um_at hi]
    · simp only [fla]; rw [um_n (by omega), um_n (by omega)]
theorem mid_wei (hA : A 6 = F 34 j ∧ A 7 = F 37 j ∧ A 8 = F 35 j ∧ A 9 = nI 0) (hW : ∀ c, c < 8 → W c = F 39 (8 * j + c)) (h6 : OK6 (F 34 j)) (hw : ∀ u, w = some u → u < 8) : MidOK F (bal F j w) j A (fWei A W w).1 (fWei A W w).2 := by
  obtain ⟨a6, a7, a8, a9⟩ := hA
  cases w with
  | none =>
    refine ⟨⟨rfl, rfl, rfl, rfl, a9⟩, ⟨a6, ?_, ?_⟩, hW, ⟨rfl, rfl, rfl, rfl⟩, fun k i hi _ => ?_, fun _ _ => rfl, h6, fun k hk => ?_⟩
    · simp only [bal]; rw [um_s]; rfl
    · simp only [bal]; rw [um_n (by decide), um_s]; rfl
    · simp only [bal]; rw [um_at hi, um_at hi]
    · simp only [bal]; rw [um_n (by omega), um_n (by omega)]
  | some u =>
    have hu := hw u rfl
    have b39 : ∀ c, c < 8 → upd W u (W u + nI 1) c = ba1 F j u 39 (8 * j + c) := fun c hc => by
      simp only [ba1]
      by_cases e : c = u
      · subst e; rw [pk_us, um_s, hW c hc]
      · rw [pk_un e, um_sn (by omega), um_n (by decide), um_n (by decide), hW c hc]
    have b39o : ∀ x, x < 8 * j ∨ 8 * j + 8 ≤ x → ba1 F j u 39 x = F 39 x := fun x hx => by
      simp only [ba1]
      rw [um_sn (by omega), um_n (by decide), um_n (by decide)]
    have b34 : ba1 F j u 34 = F 34 := by simp only [ba1]; rw [um_n (by decide), um_n (by decide), um_n (by decide)]
    have b37 : ba1 F j u 37 j = nI u := by simp only [ba1]; rw [um_n (by decide), um_s]
    have b35 : ba1 F j u 35 j = if nI u = F 37 j then F 35 j + nI 1 else nI 1 := by simp only [ba1]; rw [um_n (by decide), um_n (by decide), um_s]
    have bo : ∀ k i, i ≠ j → k ≠ 39 → ba1 F j u k i = F k i := fun k i hi hk => by simp only [ba1]; rw [um_n hk, um_at hi, um_at hi]
    have bk : ∀ k, (k < 32 ∨ 39 < k) → ba1 F j u k = F k := fun k hk => by simp only [ba1]; rw [um_n (by omega), um_n (by omega), um_n (by omega)]
    have KE : ∀ A', A' 0 = A 0 → A' 3 = A 3 → A' 4 = A 4 → A' 5 = A 5 → A' 9 = A 9 → A' 6 = F 34 j → MidOK F (ba1 F j u) j A (upd (upd A' 8 (if nI u = A 7 then A 8 + nI 1 else nI 1)) 7 (nI u)) (upd W u (W u + nI 1)) := by
      intro A' h0 h3 h4 h5 h9 hh6
      exact ⟨⟨h0, h3, h4, h5, h9.trans a9⟩, ⟨by rw [b34]; exact hh6, by rw [b37]; rfl, by rw [b35, ← a7, ← a8]; rfl⟩, b39, ⟨rfl, rfl, rfl, rfl⟩, bo, b39o, by rw [b34]; exact h6, bk⟩
    have KS : MidOK F (um (ba1 F j u) 34 j (nI u)) j A (upd (upd (upd A 6 (nI u)) 8 (if nI u = A 7 then A 8 + nI 1 else nI 1)) 7 (nI u)) (upd W u (W u + nI 1)) := by
      refine ⟨⟨rfl, rfl, rfl, rfl, a9⟩, ⟨by rw [um_s]; rfl, by rw [um_n (by decide), b37]; rfl, by rw [um_n (by decide), b35, ← a7, ← a8]; rfl⟩, b39, ⟨rfl, rfl, rfl, rfl⟩, fun k i hi hk => by rw [um_at hi]; exact bo k i hi hk, b39o, Or.inr ⟨u, hu, um_s⟩, fun k hk => by rw [um_n (by omega)]; exact bk k hk⟩
    simp only [bal, fWei]
    rcases h6 with h6' | ⟨v, hv, h6'⟩
    · have ec : clO F j = none := by unfold clO; rw [h6', if_pos (by decide)]
      rw [ec, if_pos (Or.inl (a6.trans h6'))]
      exact KS
    · have ec : clO F j = some v := by unfold clO; rw [h6', if_neg (nI_pos (by omega)), nI_clamp (by omega)]
      have n6 : ¬ A 6 = -1 := fun q => by
        rw [a6, h6'] at q
        exact nI_pos (n := v) (by omega) (by rw [q]; decide)
      rw [ec]
      show MidOK F (if ba1 F j u 39 (8 * j + v) < ba1 F j u 39 (8 * j + u) then um (ba1 F j u) 34 j (nI u) else ba1 F j u) j A _ _
      have ei : (A 6).toNatClampNeg = v := by rw [a6, h6', nI_clamp (by omega)]
      rw [ei, b39 v hv, b39 u hu]
      by_cases q : ba1 F j u 39 (8 * j + v) < ba1 F j u 39 (8 * j + u)
      · rw [if_pos q, if_pos (Or.inr q)]; exact KS
      · rw [if_neg q, if_neg (fun z => z.elim n6 q)]; exact KE A rfl rfl rfl rfl rfl a6
theorem mid_ok (hA3 : A 3 = F 32 j) (hA : A 6 = F 34 j ∧ A 7 = F 37 j ∧ A 8 = F 35 j ∧ A 9 = nI 0) (hW : ∀ c, c < 8 → W c = F 39 (8 * j + c)) (h6 : OK6 (F 34 j)) (hw : ∀ u, w = some u → u < 8) : MidOK F (ru2 F j w) j A (fMid A W w).1 (fMid A W w).2 := by
  unfold ru2 fMid
  rw [hA3]
  split
  · exact mid_any hA hW h6 hw
  · split
    · exact mid_row hA hW h6 hw
    · exact mid_wei hA hW h6 hw
theorem rnF_k {b1 b2 : Int32} {k : Nat} (hk : k ≠ 36) : rnF F j w b1 b2 k = ru2 (uk F 38 (zr8 (F 38) j 8)) j w k := um_n hk
theorem zr8_i {f : Nat → Int32} {c : Nat} (hc : c < 8) : zr8 f j 8 (8 * j + c) = nI 0 := if_pos ⟨by omega, by omega⟩
theorem zr8_o {f : Nat → Int32} {x : Nat} (hx : x < 8 * j ∨ 8 * j + 8 ≤ x) : zr8 f j 8 x = f x := if_neg (by omega)
theorem vts_0 {f : Nat → Int32} : ∀ m, (∀ c, c < m → f (8 * j + c) = nI 0) → vts f j m = nI 0
  | 0, _ => rfl
  | m + 1, q => by
    show vts f j m + f (8 * j + m) = nI 0
    rw [vts_0 m (fun c hc => q c (by omega)), q m (by omega)]
    rfl
theorem cx_round (hN : NB S x pe tp dg go po ch G) (hP : CCh S ch F G) (hH : CH F) (hVI : VI F k) (hkk : k ≤ 10) (hal : G 3 = nI al) (h2 : k < 2 * al) (hal2 : al ≤ k) (hch : chN F c = some j) (hd : F 36 j = 0) : Sp l g mX9_round 0 0 [vr (some x), vi c] S (fun r S' => r = some (vi (bi (winW (F 38) j (G 3) 8).isSome)) ∧ CCh S' ch (rnF F j (winW (F 38) j (G 3) 8) (G 4) (G 5)) G ∧ Cf po [6] S S') := by
  obtain ⟨-, hj, co, hc2, hC⟩ := hP.at hch
  obtain ⟨b0, b1, b2, b3, b4, b5, b6, b7, b8⟩ := hC.2.1
  have hpos : dlt (nI 0) (F 33 j) = true := (chN_some hch).2.2
  obtain ⟨e33, hk8⟩ := (hH j hj).1
  have q := cl_endR (l := l) (g := g) (G := fun k => sI S (100 + k) co) (V := aI S 41 (rA S 101 co)) (W := aI S 44 (rA S 102 co)) (cs := coN F j) hC.1 (by rw [← e33]; exact b2) hk8 (by have := hH.ok6 hj; rw [← b4] at this; exact this)
  have ew : fstU (fun c => !dlt (aI S 41 (rA S 101 co) c) (sI S (100 + 0) co)) (coN F j) = winW (F 38) j (G 3) 8 := by
    show fstU (fun c => !dlt (aI S 41 (rA S 101 co) c) (sI S 100 co)) (coN F j) = winW (F 38) j (G 3) 8
    rw [← win_eq (k := k) hVI hH hj hkk hal h2 hal2, b0]
    exact fstU_congr (fun i hi => by rw [hC.2.2.1 i (by omega)])
  rw [cp_id, ew] at q
  have hw8 : ∀ u, winW (F 38) j (G 3) 8 = some u → u < 8 := fun u hu => (lastU_lt hu).1
  generalize winW (F 38) j (G 3) 8 = w at q hw8 ⊢
  have hm : MidOK (uk F 38 (zr8 (F 38) j 8)) (ru2 (uk F 38 (zr8 (F 38) j 8)) j w) j (upd (fun k => sI S (100 + k) co) 9 (nI 0)) _ _ := mid_ok (W := aI S 44 (rA S 102 co)) (w := w) b1 ⟨b4, b5, b6, rfl⟩ hC.2.2.2 (hH.ok6 hj) hw8
  refine Sp.start (own := RX9) [(0, vr (some x)), (1, vi c)] (by decide +kernel) rfl rfl (Nat.le_of_ble_eq_true rfl) ?_
  intro J C
  refine r_aload_n (pc := 0) C dX9_round_0 rfl ?_
  refine r_iload_n (pc := 1) C dX9_round_1 rfl ?_
  refine r_callV (pc := 2) C (cx_findCh hN hP) iX9_findChoice ml_RX9_306 dX9_round_2 (ci := 10) rfl rfl hN.1.1 rfl (by decide) rfl (by simp [cv, Value.category, va_rf]) (by omega) (by omega) (fun r2 S2 h2 => ?_)
  obtain ⟨rfl, e2⟩ := h2
  subst S2
  dsimp only [Option.toList, List.cons_append, List.nil_append]
  rw [hch, Option.bind_some, hc2]
  refine r_astore_n (pc := 5) C dX9_round_5 (by decide) rfl ?_
  refine r_aload_n (pc := 6) C dX9_round_6 rfl ?_
  refine r_ifnull (pc := 7) (tgt := 17) C dX9_round_7 (by decide) (fun c7 => ?_) (fun a7 c7 => ?_)
  · cases c7
  · cases c7
    refine r_aload_n (pc := 10) C dX9_round_10 rfl ?_
    refine r_getI (pc := 11) C dX9_round_11 fx_RX9_318 hC.1.1 ?_
    rw [b8]
    refine r_if_eq (pc := 14) (tgt := 28) C dX9_round_14 (by decide) (fun c14 => ?_) (fun c14 => ?_)
    · refine r_aload_n (pc := 28) C dX9_round_28 rfl ?_
      refine r_callV (pc := 29) C (q) iX0_endRound ml_RX9_333 dX9_round_29 (ci := 1) rfl rfl hC.1.1 rfl (by decide) rfl (by simp [cv, Value.category, va_rf]) (by omega) (by omega) (fun r29 S29 h29 => ?_)
      obtain ⟨rfl, e29⟩ := h29
      subst S29
      dsimp only [Option.toList, List.cons_append, List.nil_append]
      refine r_zret (pc := 32) C dX9_round_32 rfl (bi_01 _) (by omega) (by omega) ?_
      generalize fMid (upd (fun k => sI S (100 + k) co) 9 (nI 0)) (aI S 44 (rA S 102 co)) w = m at hm ⊢
      obtain ⟨⟨m0, m3, m4, m5, m9⟩, ⟨m6, m7, m8⟩, mW, ⟨r32, r33, r36, r38⟩, ro, r39, r34, -⟩ := hm
      have R32 : rnF F j w (G 4) (G 5) 32 = F 32 := by rw [rnF_k (by decide), r32]; rfl
      have R33 : rnF F j w (G 4) (G 5) 33 = F 33 := by rw [rnF_k (by decide), r33]; rfl
      have R38 : rnF F j w (G 4) (G 5) 38 = zr8 (F 38) j 8 := by rw [rnF_k (by decide), r38, uk_s]
      refine ⟨rfl, hP.ex.put hj hc2 hC.1 (fun i _ hne k g1 g2 => ?_) (fun i _ hne c hc => ⟨by rw [R38, zr8_o (by omega)], ?_⟩) (by rw [R33]; exact hpos) ⟨m0.trans b0, ?_, ?_, ?_, ?_, ?_, ?_, ?_, ?_⟩ (fun c hc => ?_) (fun c hc => ?_), cf_cput⟩
      · rw [show rnF F j w (G 4) (G 5) k i = ru2 (uk F 38 (zr8 (F 38) j 8)) j w k i from um_at hne, ro k i hne (by omega), uk_n (by omega)]
      · rw [rnF_k (by decide), r39 _ (by omega), uk_n (by decide)]
      · rw [R32]; exact m3.trans b1
      · rw [R33]; exact m4.trans b2
      · rw [R32]; exact m5.trans b3
      · rw [rnF_k (by decide)]; exact m6
      · rw [rnF_k (by decide)]; exact m7
      · rw [rnF_k (by decide)]; exact m8
      · rw [R38, vts_0 8 (fun c hc => zr8_i hc)]; exact m9
      · show bi (!decide (m.1 6 = -1) && !dlt (m.1 8) (m.1 5)) = um _ 36 j _ 36 j
        rw [um_s, m6, m8, m5, r34.lt, show upd (fun k => sI S (100 + k) co) 9 (nI 0) 5 = sI S 105 co from rfl, b3]
      · rw [R38, zr8_i hc]; exact if_pos hc
      · rw [rnF_k (by decide)]; exact mW c hc
    · exact absurd hd c14
end RoundC
