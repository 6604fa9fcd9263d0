/-! One more is known -/
/-- what is not used yet stands as it was made -/
def FRS (M : MM) (n : Nat) : Prop := (∀ t, n ≤ t → M 14 t = 0 ∧ M 15 t = 0) ∧ (∀ s, 4 + 4 * n ≤ s → s < 564 → M 22 s = -1 ∧ M 23 s = -1 ∧ M 24 s = 0)
def Hi (M M' : MM) (n : Nat) : Prop := ∀ s, 4 + 4 * n ≤ s → M' 22 s = M 22 s ∧ M' 23 s = M 23 s ∧ M' 24 s = M 24 s
theorem Hi.rf {M : MM} {n : Nat} : Hi M M n := fun _ _ => ⟨rfl, rfl, rfl⟩
theorem Hi.tr {M M1 M2 : MM} {n : Nat} (h1 : Hi M M1 n) (h2 : Hi M1 M2 n) : Hi M M2 n := fun s hs => ⟨(h2 s hs).1.trans (h1 s hs).1, (h2 s hs).2.1.trans (h1 s hs).2.1, (h2 s hs).2.2.trans (h1 s hs).2.2⟩
theorem um_hi {M : MM} {n k i : Nat} {v : Int32} (h : (k ≠ 22 ∧ k ≠ 23 ∧ k ≠ 24) ∨ i < 4 + 4 * n) : Hi M (um M k i v) n := fun s hs => by
  rcases h with h | h
  · rw [um_n (by omega), um_n (by omega), um_n (by omega)]; exact ⟨rfl, rfl, rfl⟩
  · have : s ≠ i := by omega
    have key : ∀ j, um M k i v j s = M j s := fun j => by
      by_cases e : j = k
      · subst e; exact um_sn this
      · rw [um_n e]
    exact ⟨key 22, key 23, key 24⟩
section HiP
variable {M : MM} {n h t : Nat}
theorem out_hi (hG : GV M n h) (hH : Ht M n t) {i : Nat} (hi : i < nX (M 11) t) : out M n t i < 4 + 4 * n := by
  have hs := hH.src_lt hi
  have hR := hG.2.2.1 _ hs
  have h2 := (hH.2.2 i hi).2
  have h3 := hR.2.2.2
  unfold out onum
  by_cases e : src M n t i = 0
  · rw [if_pos e]
    have := h3.1
    rw [e] at h2
    have : nO (M 11) 0 = 8 := rfl
    omega
  · rw [if_neg e]
    have := h3.2 e
    omega
theorem rejL_hi (ho : ∀ i, i < nX (M 11) t → out M n t i < 4 + 4 * n) : ∀ i, i ≤ nX (M 11) t → Hi M (rejL M n h t i) n
  | 0, _ => um_hi (Or.inl (by decide))
  | i + 1, hi => by
    have ih := rejL_hi ho i (by omega)
    simp only [rejL]
    split
    · exact (ih.tr (um_hi (Or.inr (ho i (by omega))))).tr (um_hi (Or.inr (ho i (by omega))))
    · exact ih
theorem spkL_hi {w : Bool} (ho : ∀ i, i < nX (M 11) t → out M n t i < 4 + 4 * n) : ∀ i, i ≤ nX (M 11) t → Hi M (spkL M n h t w i) n
  | 0, _ => Hi.rf
  | i + 1, hi => by
    have ih := spkL_hi (w := w) ho i (by omega)
    have hx := ho i (by omega)
    simp only [spkL]
    split
    · simp only [spk1]
      refine Hi.tr (Hi.tr (Hi.tr ih ?_) (um_hi (Or.inr hx))) (um_hi (Or.inr hx))
      split
      · exact um_hi (Or.inr hx)
      · exact Hi.rf
    · exact ih.tr (um_hi (Or.inr hx))
theorem joinL_hi (ho : ∀ i, i < nX (M 11) t → out M n t i < 4 + 4 * n) : ∀ i, i ≤ nX (M 11) t → Hi M (joinL M n h t i) n
  | 0, _ => Hi.rf
  | i + 1, hi => by
    have ih := joinL_hi ho i (by omega)
    simp only [joinL]
    split
    · exact (ih.tr (um_hi (Or.inr (ho i (by omega))))).tr (um_hi (Or.inr (ho i (by omega))))
    · exact ih
theorem rej_hi (hG : GV M n h) (hH : Ht M n t) : Hi M (rej M n h t) n := rejL_hi (fun _ hi => out_hi hG hH hi) _ (Nat.le_refl _)
theorem spk_hi {w : Bool} (hG : GV M n h) (hH : Ht M n t) : Hi M (spk M n h t w) n := spkL_hi (fun _ hi => out_hi hG hH hi) _ (Nat.le_refl _)
theorem spoL_hi {go : Nat → Bool} {w : Bool} (hG : GV M n h) : ∀ k, k ≤ h → Hi M (spoL M n h go w k) n
  | 0, _ => Hi.rf
  | k + 1, hk => by
    have ih := spoL_hi (go := go) (w := w) hG k (by omega)
    simp only [spoL]
    split
    · have sq := @spoL_sq M n h go w k
      exact ih.tr (spk_hi (hG.sq sq) ((hG.2.2.2 k (by omega)).2.sm sq.sy.sm))
    · exact ih
theorem rrL_hi {go : Nat → Bool} (hG : GV M n h) : ∀ k, k ≤ h → Hi M (rrL M n h go k) n
  | 0, _ => Hi.rf
  | k + 1, hk => by
    have ih := rrL_hi (go := go) hG k (by omega)
    simp only [rrL]
    split
    · exact Hi.rf
    · split
      · have sq := @rrL_sq M n h go k
        exact ih.tr (rej_hi (hG.sq sq) ((hG.2.2.2 k (by omega)).2.sm sq.sy.sm))
      · exact ih
theorem acc1_hi {a : Nat} (hG : GV M n h) : Hi M (acc1 M n h t a) n := by
  show Hi M (rr (acM M t a) n h t) n
  have h1 : Hi M (acM M t a) n := (um_hi (Or.inl (by decide))).tr (um_hi (Or.inl (by decide)))
  exact h1.tr (rrL_hi (hG.sm acM_sy.sm) _ (Nat.le_refl _))
theorem accL_hi {b1 b2 : Int32} {a : Nat} (hG : GV M n h) : ∀ k, k ≤ h → Hi M (accL M n h b1 b2 a k).1 n
  | 0, _ => Hi.rf
  | k + 1, hk => by
    have ih := accL_hi (b1 := b1) (b2 := b2) (a := a) hG k (by omega)
    simp only [accL]
    split
    · exact Hi.rf
    · split
      · exact ih.tr (acc1_hi (hG.sm (@accL_sy M n h a b1 b2 k).1.sm))
      · exact ih
theorem FRS.of {M' : MM} (hF : FRS M n) (h : Hi M M' n) (e14 : ∀ t, n ≤ t → M' 14 t = M 14 t) (e15 : ∀ t, n ≤ t → M' 15 t = M 15 t) : FRS M' n := ⟨fun t ht => by rw [e14 t ht, e15 t ht]; exact hF.1 t ht, fun s h1 h2 => by obtain ⟨a, b, c⟩ := h s h1; rw [a, b, c]; exact hF.2 s h1 h2⟩
theorem FRS.clo {w : Bool} {b1 b2 : Int32} {a : Nat} (hF : FRS M n) (hG : GV M n h) (ht : t < n) : FRS (clo M n h t w b1 b2 a).1 n := by
  unfold _root_.Jvm.Pilot.CSnowNodeLaw_law_r5193_5b532e.clo
  split
  · exact hF
  · have e : Sy M (chM M t w) := um_sy (by decide)
    have h1 : Hi M (chM M t w) n := um_hi (Or.inl (by decide))
    have hG1 := hG.sm e.sm
    have sq := @spoL_sq (chM M t w) n h (goC (chM M t w) n h t) w h
    have hG2 := hG1.sq sq
    obtain ⟨a1, a2, a3⟩ := @accL_sy (spoL (chM M t w) n h (goC (chM M t w) n h t) w h) n h a b1 b2 h
    refine hF.of ((h1.tr (spoL_hi hG1 h (Nat.le_refl _))).tr (accL_hi hG2 h (Nat.le_refl _))) (fun u hu => ?_) (fun u hu => ?_)
    · rw [a2, sq.e14]; unfold chM; rw [um_sn (by omega)]
    · rw [a3, sq.e15]; unfold chM; rw [um_n (by decide)]
theorem FRS.hol (hF : FRS M n) (hG : GV M n h) (hH : Ht M n t) (hh : h < n) : FRS (hol M n h t) n := by
  have hG1 := ho_gv hG hH hh
  have hH1 : Ht (ho1 M h t) n t := hH.sn ⟨ho_n (by decide) (by decide), ho_n (by decide) (by decide)⟩
  have h0 : Hi M (ho1 M h t) n := (um_hi (Or.inl (by decide))).tr (um_hi (Or.inl (by decide)))
  have m11 : ho1 M h t 11 = M 11 := ho_n (by decide) (by decide)
  have hj : Hi (ho1 M h t) (joinL (ho1 M h t) n (h + 1) t (nX (M 11) t)) n := joinL_hi (fun _ hi => out_hi hG1 hH1 hi) _ (by rw [m11]; exact Nat.le_refl _)
  have sqj := @joinL_sq (ho1 M h t) n (h + 1) t (nX (M 11) t)
  unfold _root_.Jvm.Pilot.CSnowNodeLaw_law_r5193_5b532e.hol
  split
  · refine hF.of ((h0.tr hj).tr (rej_hi (hG1.sq sqj) (hH1.sm sqj.sy.sm))) (fun u _ => ?_) (fun u _ => ?_)
    · rw [rej_sq.e14, sqj.e14, ho_n (by decide) (by decide)]
    · rw [rej_sq.e15, sqj.e15, ho_n (by decide) (by decide)]
  · refine hF.of (h0.tr hj) (fun u _ => ?_) (fun u _ => ?_)
    · rw [sqj.e14, ho_n (by decide) (by decide)]
    · rw [sqj.e15, ho_n (by decide) (by decide)]
theorem FRS.lok {a : Nat} (hF : FRS M n) (hP : PI M n h a) (ht : t < n) (h1 : M 13 t = nI 1) : FRS (lok M n h t).1 n := by
  have h5 : FRS (um M 13 t (nI 5)) n := hF.of (um_hi (Or.inl (by decide))) (fun _ _ => by rw [um_n (by decide)]) (fun _ _ => by rw [um_n (by decide)])
  unfold _root_.Jvm.Pilot.CSnowNodeLaw_law_r5193_5b532e.lok
  cases e : lkP M n t (nP (M 11) t) with
  | none => exact h5
  | some w =>
    cases w with
    | true => exact hF
    | false =>
      dsimp only
      rw [if_neg (by decide)]
      cases eb : badB M n h t with
      | true => exact h5
      | false => exact hF.hol hP.1.1 (badB_held ⟨ht, fun i hi => lkP_found e i hi⟩ eb) (hP.hlt ht h1)
theorem FRS.itW {a : Nat} : ∀ f M h, FRS M n → PI M n h a → FRS (itW f M n h).1 n ∧ PI (itW f M n h).1 n (itW f M n h).2 a
  | 0, M, h, hF, hP => ⟨hF, hP⟩
  | f + 1, M, h, hF, hP => by
    simp only [_root_.Jvm.Pilot.CSnowNodeLaw_law_r5193_5b532e.itW]
    cases e : fstU (wai M n) n with
    | none => exact ⟨hF, hP⟩
    | some w =>
      obtain ⟨h1, h2, h3⟩ := fstU_some e
      exact FRS.itW f _ _ (hF.lok hP h1 (wai_w h2)) (hP.lok h1 (wai_w h2))
end HiP
section AdmP
variable {M : MM} {n h a m : Nat} {id : Int32} {tb : Nat → Nat}
theorem adm_k {k : Nat} (h1 : k ≠ 10) (h2 : k ≠ 11) (h3 : k ≠ 12) (h4 : k ≠ 13) : adm M n id m tb k = M k := by
  unfold adm
  rw [um_n h4, uk_n h2, um_n h3, um_n h1]
theorem adm_12 : adm M n id m tb 12 = upd (M 12) n (nI m) := by
  unfold adm
  rw [um_n (by decide), uk_n (by decide)]
  simp only [um, uk_s]
  rw [uk_n (by decide)]
theorem adm_hd : hdN (adm M n id m tb) = hdN M := by funext k; simp only [hdN, adm_k (show (16 : Nat) ≠ 10 by decide) (show (16 : Nat) ≠ 11 by decide) (show (16 : Nat) ≠ 12 by decide) (show (16 : Nat) ≠ 13 by decide)]
theorem adm_hb : hdB (adm M n id m tb) h = hdB M h := by funext t; simp only [hdB, adm_hd]
/-- what the held were, they are -/
def Adm (M : MM) (n h a : Nat) (id : Int32) (m : Nat) (tb : Nat → Nat) : Prop := PI M n h a ∧ FRS M n ∧ fdo (M 10) id n = none ∧ n < 140 ∧ (∀ i, tb i < 256) ∧ m ≤ 55 ∧ isT tb m = true
theorem Adm.g (hA : Adm M n h a id m tb) : Grw M (adm M n id m tb) n id := adm_grw hA.2.2.1
theorem Adm.n0 (hA : Adm M n h a id m tb) : n ≠ 0 := by have h1 := hA.1.2.2.2.2; have := hA.1.1.1.2.1; omega
theorem Adm.new (hA : Adm M n h a id m tb) : Rk (adm M n id m tb 11) n ∧ nP (adm M n id m tb 11) n = tb 0 ∧ nX (adm M n id m tb 11) n = tb (tP tb) ∧ nO (adm M n id m tb 11) n = tb (tQ tb) ∧ fI (adm M n id m tb 11) n = tP tb ∧ fO (adm M n id m tb 11) n = tQ tb := rk_new hA.2.2.2.1 hA.n0 hA.2.2.2.2.1 hA.2.2.2.2.2.1 hA.2.2.2.2.2.2 (adm_row hA.2.2.2.2.1)
theorem Adm.gv (hA : Adm M n h a id m tb) : GV (adm M n id m tb) (n + 1) h := hA.1.1.1.add hA.g hA.2.2.2.1 hA.new.1
theorem Adm.pa (hA : Adm M n h a id m tb) {k i : Nat} (hk : k < h) (hi : i < nP (M 11) (hdN M k)) : par (adm M n id m tb) (n + 1) (hdN M k) i = par M n (hdN M k) i := hA.g.pa (hA.1.1.1.2.2.1 _ (hA.1.1.1.hn k hk)) (hA.1.1.1.2.2.2 k hk).2.p hi
theorem Adm.ou (hA : Adm M n h a id m tb) {k i : Nat} (hk : k < h) (hi : i < nX (M 11) (hdN M k)) : out (adm M n id m tb) (n + 1) (hdN M k) i = out M n (hdN M k) i := hA.g.ou (hA.1.1.1.2.2.1 _ (hA.1.1.1.hn k hk)) (hA.1.1.1.2.2.2 k hk).2 hi
theorem Adm.row (hA : Adm M n h a id m tb) {t : Nat} (ht : t < n) : RowEq (M 11) (adm M n id m tb 11) t := hA.g.row ht (hA.1.1.1.2.2.1 t ht)
theorem Adm.odr (hA : Adm M n h a id m tb) : ODR (adm M n id m tb) (n + 1) h := by
  have hO := hA.1.1.2.1
  refine ⟨fun k k' => by rw [adm_hd]; exact hO.1 k k', fun k hk i hi => ?_⟩
  rw [adm_hd] at hi ⊢
  rw [(hA.row (hA.1.1.1.hn k hk)).p] at hi
  rw [hA.pa hk hi]
  exact hO.2 k hk i hi
theorem Adm.anc (hA : Adm M n h a id m tb) {k : Nat} (hk : k < h) : anc (adm M n id m tb) (n + 1) h (hdN M k) = anc M n h (hdN M k) := by
  funext u
  exact anc_same hA.1.1.2.1 hA.odr (Nat.le_refl _) (fun k hk => by rw [adm_hd]) (fun k hk => (hA.row (hA.1.1.1.hn k hk)).p) (fun k hk i hi => hA.pa hk hi) k hk u
theorem Adm.ins (hA : Adm M n h a id m tb) {k s : Nat} (hk : k < h) : inS (adm M n id m tb) (n + 1) (hdN M k) s = inS M n (hdN M k) s := by
  unfold inS
  rw [(hA.row (hA.1.1.1.hn k hk)).x]
  exact anyU_congr (fun i hi => by rw [hA.ou hk hi])
theorem Adm.conf (hA : Adm M n h a id m tb) : conf (adm M n id m tb) (n + 1) h = conf M n h := by
  funext u
  have e14 : adm M n id m tb 14 = M 14 := adm_k (by decide) (by decide) (by decide) (by decide)
  rw [conf_eq hA.odr, conf_eq hA.1.1.2.1, adm_hb]
  have cn : chitB (adm M n id m tb) n = false := by unfold chitB; rw [e14, (hA.2.1.1 n (Nat.le_refl _)).1]; rfl
  rw [cntU_f (by rw [cn, Bool.and_false])]
  refine cntU_congr (fun d hd => ?_)
  have ec : chitB (adm M n id m tb) d = chitB M d := by simp only [chitB, e14]
  rw [ec]
  cases c : hdB M h d with
  | false => rw [Bool.false_and, Bool.false_and]
  | true =>
    obtain ⟨k, hk, rfl⟩ := hdB_iff.mp c
    rw [hA.anc hk]
theorem Adm.acO (hA : Adm M n h a id m tb) : acO (adm M n id m tb) (n + 1) h = acO M n h := by
  funext s
  have e2 : lastU (fun k => decide (adm M n id m tb 13 (hdN M k) = nI 3) && inS (adm M n id m tb) (n + 1) (hdN M k) s) h = lastU (fun k => decide (M 13 (hdN M k) = nI 3) && inS M n (hdN M k) s) h := lastU_congr h (fun k hk => by
    have := hA.1.1.1.hn k hk
    rw [hA.ins hk, adm_13, pk_un (by omega)])
  unfold _root_.Jvm.Pilot.CSnowNodeLaw_law_r5193_5b532e.acO
  rw [adm_hd, e2]
theorem Adm.mem (hA : Adm M n h a id m tb) {s : Nat} : mem (adm M n id m tb) (n + 1) h s = mem M n h s := by
  unfold _root_.Jvm.Pilot.CSnowNodeLaw_law_r5193_5b532e.mem
  rw [adm_hd]
  refine List.filter_congr (fun t ht => ?_)
  obtain ⟨k, hk, rfl⟩ := List.mem_map.mp ht
  exact hA.ins (List.mem_range.mp hk)
theorem Adm.mem0 (hA : Adm M n h a id m tb) {s : Nat} (hs : 4 + 4 * n ≤ s) : _root_.Jvm.Pilot.CSnowNodeLaw_law_r5193_5b532e.mem M n h s = [] := by
  cases e : _root_.Jvm.Pilot.CSnowNodeLaw_law_r5193_5b532e.mem M n h s with
  | nil => rfl
  | cons x l =>
    have hx : x ∈ _root_.Jvm.Pilot.CSnowNodeLaw_law_r5193_5b532e.mem M n h s := by rw [e]; simp
    obtain ⟨⟨k, hk, rfl⟩, hi⟩ := mem_in.mp hx
    obtain ⟨i, hi, e2⟩ := inS_iff.mp hi
    have := out_hi hA.1.1.1 (hA.1.1.1.2.2.2 k hk).2 hi
    omega
theorem Adm.acO0 (hA : Adm M n h a id m tb) {s : Nat} (hs : 4 + 4 * n ≤ s) : _root_.Jvm.Pilot.CSnowNodeLaw_law_r5193_5b532e.acO M n h s = none := by
  unfold _root_.Jvm.Pilot.CSnowNodeLaw_law_r5193_5b532e.acO
  have e : lastU (fun k => decide (M 13 (hdN M k) = nI 3) && inS M n (hdN M k) s) h = none := by
    cases e : lastU (fun k => decide (M 13 (hdN M k) = nI 3) && inS M n (hdN M k) s) h with
    | none => rfl
    | some k =>
      obtain ⟨hk, q⟩ := lastU_lt e
      rw [Bool.and_eq_true] at q
      obtain ⟨i, hi, e2⟩ := inS_iff.mp q.2
      have := out_hi hA.1.1.1 (hA.1.1.1.2.2.2 k hk).2 hi
      omega
  rw [e]
  rfl
theorem Adm.conf0 (hA : Adm M n h a id m tb) : _root_.Jvm.Pilot.CSnowNodeLaw_law_r5193_5b532e.conf M n h n = 0 := by
  rw [conf_eq hA.1.1.2.1]
  have : cntU (fun d => (decide (d = n) || (hdB M h d && _root_.Jvm.Pilot.CSnowNodeLaw_law_r5193_5b532e.anc M n h d n)) && chitB M d) n = cntU (fun _ => false) n := cntU_congr (fun d hd => by
    rw [decide_eq_false (show ¬ d = n by omega), Bool.false_or]
    cases c : hdB M h d with
    | false => rfl
    | true =>
      obtain ⟨k, hk, rfl⟩ := hdB_iff.mp c
      cases ca : _root_.Jvm.Pilot.CSnowNodeLaw_law_r5193_5b532e.anc M n h (hdN M k) n with
      | false => rfl
      | true =>
        obtain ⟨j, hj, e⟩ := anc_lt hA.1.1.2.1 k hk _ ca
        have := hA.1.1.1.hn j (by omega)
        omega)
  rw [this]
  exact cnt_z (fun _ => rfl) n
theorem fdo_uq {M : MM} {n : Nat} {id : Int32} (h : fdo (M 10) id n = none) (hU : Uq M n) : ∀ i j, i < n + 1 → j < n + 1 → upd (M 10) n id i = upd (M 10) n id j → i = j := by
  intro i j hi hj e
  have hno := fdo_none h
  by_cases ei : i = n
  · by_cases ej : j = n
    · omega
    · rw [ei, pk_us, pk_un ej] at e
      exact absurd e.symm (hno j (by omega))
  · by_cases ej : j = n
    · rw [ej, pk_us, pk_un ei] at e
      exact absurd e (hno i (by omega))
    · rw [pk_un ei, pk_un ej] at e
      exact hU i j (by omega) (by omega) e
/-- the numbers, with one more known -/
theorem Adm.pi (hA : Adm M n h a id m tb) : PI (adm M n id m tb) (n + 1) h a ∧ FRS (adm M n id m tb) (n + 1) := by
  obtain ⟨⟨⟨hG, hO, hR, hF, hL, hAc, hc⟩, hU, hS, hN, h1⟩, hFr, hf, hn, hb, hm, hT⟩ := (fun x => x) hA
  have k' : ∀ k, k ≠ 10 → k ≠ 11 → k ≠ 12 → k ≠ 13 → adm M n id m tb k = M k := fun k a b c d => adm_k a b c d
  have st : ∀ k, k < h → adm M n id m tb 13 (hdN M k) = M 13 (hdN M k) := fun k hk => by have := hG.hn k hk; rw [adm_13, pk_un (by omega)]
  have sz : ∀ u, u < n → adm M n id m tb 13 u = M 13 u := fun u hu => by rw [adm_13, pk_un (by omega)]
  refine ⟨⟨⟨hA.gv, hA.odr, ⟨?_, ?_, ?_, ?_, ?_, ?_⟩, ?_, ?_, ?_, ?_⟩, ?_, ?_, ?_, h1⟩, ?_, ?_⟩
  · intro k hk; rw [adm_hd, st k hk]; exact hR.1 k hk
  · intro k hk i hi q
    rw [adm_hd] at hi q ⊢
    rw [(hA.row (hG.hn k hk)).p] at hi
    rw [hA.pa hk hi] at q
    obtain ⟨j, hj, ej⟩ := hO.2 k hk i hi
    rw [ej, st j (by omega)] at q
    rw [st k hk]
    exact hR.2.1 k hk i hi (by rw [ej]; exact q)
  · intro k hk q i hi
    rw [adm_hd] at hi q ⊢
    rw [(hA.row (hG.hn k hk)).p] at hi
    rw [st k hk] at q
    rw [hA.pa hk hi]
    obtain ⟨j, hj, ej⟩ := hO.2 k hk i hi
    have := hR.2.2.1 k hk q i hi
    rw [ej] at this ⊢
    rw [st j (by omega)]
    exact this
  · intro k k' hk hk' q hne hs
    rw [adm_hd] at q hne hs ⊢
    rw [st k hk] at q
    rw [st k' hk']
    obtain ⟨s, s1, s2⟩ := hs
    rw [hA.ins hk] at s1
    rw [hA.ins hk'] at s2
    exact hR.2.2.2.1 k k' hk hk' q hne ⟨s, s1, s2⟩
  · rw [adm_hd]; exact hR.2.2.2.2.1
  · rw [sz 0 (by have := hG.2.1; omega)]; exact hR.2.2.2.2.2
  · intro s hs
    have := hF s hs
    simp only [favN, k' 22 (by decide) (by decide) (by decide) (by decide)]
    exact ⟨this.1, fun u hu => by have := this.2 u hu; omega⟩
  · intro s hs
    have := hL s hs
    simp only [latN, k' 23 (by decide) (by decide) (by decide) (by decide)]
    exact ⟨this.1, fun u hu => by have := this.2 u hu; omega⟩
  · intro i hi
    have := hAc i hi
    simp only [acN, k' 18 (by decide) (by decide) (by decide) (by decide)]
    exact ⟨this.1, by have := this.2; simp only [acN] at this; omega⟩
  · unfold c3 at hc ⊢
    rw [cntU_f (by rw [adm_13, pk_us]; decide), hc]
    exact cntU_congr (fun u hu => by rw [sz u hu])
  · intro i j hi hj
    rw [adm_10]
    exact fdo_uq hf hU i j hi hj
  · intro t ht
    unfold szN
    rw [adm_12]
    by_cases e : t = n
    · subst e; rw [pk_us, nI_clamp (by omega)]; exact ⟨rfl, hm⟩
    · rw [pk_un e]; exact hS t (by omega)
  · intro t ht q
    rw [adm_hb] at q
    have e14 := k' 14 (by decide) (by decide) (by decide) (by decide)
    by_cases e : t = n
    · subst e
      refine ⟨Or.inl (by rw [adm_13, pk_us]), ?_⟩
      unfold chitB
      rw [e14, (hFr.1 t (Nat.le_refl _)).1]; rfl
    · rw [sz t (by omega)]
      unfold chitB
      rw [e14]
      exact hN t (by omega) q
  · intro t ht
    rw [k' 14 (by decide) (by decide) (by decide) (by decide), k' 15 (by decide) (by decide) (by decide) (by decide)]
    exact hFr.1 t (by omega)
  · intro s h1 h2
    rw [k' 22 (by decide) (by decide) (by decide) (by decide), k' 23 (by decide) (by decide) (by decide) (by decide), k' 24 (by decide) (by decide) (by decide) (by decide)]
    exact hFr.2 s (by omega) h2
end AdmP
