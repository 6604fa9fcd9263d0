/-! What every call keeps: the graph -/
section KeepM
variable {M : MM} {n h a t u m : Nat} {b1 b2 id : Int32} {tb : Nat → Nat} {w : Bool}
theorem rrL_nh {go : Nat → Bool} (hu : ∀ k, k < h → hdN M k ≠ u) : ∀ k, k ≤ h → rrL M n h go k 13 u = M 13 u
  | 0, _ => rfl
  | k + 1, hk => by
    have ih := rrL_nh (go := go) hu k (by omega)
    simp only [rrL]
    split
    · rfl
    · split
      · unfold rej
        rw [rejL_13, pk_un (hu k (by omega)).symm]
        exact ih
      · exact ih
theorem accL_nh (hu : ∀ k, k < h → hdN M k ≠ u) : ∀ k, k ≤ h → (accL M n h b1 b2 a k).1 13 u = M 13 u
  | 0, _ => rfl
  | k + 1, hk => by
    have ih := accL_nh hu k (by omega)
    have sy := (@accL_sy M n h a b1 b2 k).1
    simp only [accL]
    split
    · rfl
    · split
      · have sy2 : Sy M (acM (accL M n h b1 b2 a k).1 (hdN M k) (accL M n h b1 b2 a k).2) := sy.tr acM_sy
        have q := rrL_nh (M := acM (accL M n h b1 b2 a k).1 (hdN M k) (accL M n h b1 b2 a k).2) (n := n) (go := goL (accL M n h b1 b2 a k).1 n (hdN M k) h) (u := u) (h := h) (fun j hj => by rw [sy2.hd]; exact hu j hj) h (Nat.le_refl _)
        rw [acM_13, if_neg (hu k (by omega)).symm] at q
        dsimp only
        rw [acc1_eq, q]
        exact ih
      · exact ih
theorem clo_sy : Sy M (clo M n h t w b1 b2 a).1 ∧ (clo M n h t w b1 b2 a).1 15 = M 15 ∧ (∀ v, v ≠ t → (clo M n h t w b1 b2 a).1 14 v = M 14 v) := by
  unfold clo
  split
  · exact ⟨Sy.rf, rfl, fun _ _ => rfl⟩
  · have e : Sy M (chM M t w) := um_sy (by decide)
    have sq := @spoL_sq (chM M t w) n h (goC (chM M t w) n h t) w h
    obtain ⟨a1, a2, a3⟩ := @accL_sy (spoL (chM M t w) n h (goC (chM M t w) n h t) w h) n h a b1 b2 h
    refine ⟨(e.tr sq.sy).tr a1, ?_, fun v hv => ?_⟩
    · rw [a3, sq.e15]; unfold chM; rw [um_n (by decide)]
    · rw [a2, sq.e14]; unfold chM; rw [um_sn hv]
theorem clo_nh (hu : ∀ k, k < h → hdN M k ≠ u) : (clo M n h t w b1 b2 a).1 13 u = M 13 u := by
  unfold clo
  split
  · rfl
  · have e : Sy M (chM M t w) := um_sy (by decide)
    have sq := @spoL_sq (chM M t w) n h (goC (chM M t w) n h t) w h
    rw [accL_nh (fun k hk => by rw [(e.tr sq.sy).hd]; exact hu k hk) h (Nat.le_refl _), spoL_13]
    unfold chM
    rw [um_n (by decide)]
theorem PI.clo (hP : PI M n h a) (hd : hdB M h t = true) : PI (clo M n h t w b1 b2 a).1 n h (clo M n h t w b1 b2 a).2 := by
  obtain ⟨e, e15, e14⟩ := @clo_sy M n h a t b1 b2 w
  refine ⟨hP.1.clo, by unfold Uq; rw [e.1]; exact hP.2.1, by unfold Sz; rw [e.szn, e.2.2.1]; exact hP.2.2.1, fun u hu q => ?_, hP.2.2.2.2⟩
  rw [e.hb] at q
  have hne : u ≠ t := fun z => by rw [z, hd] at q; cases q
  have := hP.2.2.2.1 u hu q
  rw [clo_nh (fun k hk z => by rw [show hdB M h u = true from hdB_iff.mpr ⟨k, hk, z⟩] at q; cases q)]
  exact ⟨this.1, by unfold chitB; rw [e14 u hne]; exact this.2⟩
theorem PI.pol {v : Int32} (hP : PI M n h a) : PI (um M 15 t v) n h a := by
  have e : Sy M (um M 15 t v) := um_sy (by decide)
  refine ⟨hP.1.of e (um_n (by decide)) (um_n (by decide)) (hP.1.2.2.2.1.of (um_n (by decide))) (hP.1.2.2.2.2.1.of (um_n (by decide))), by unfold Uq; rw [e.1]; exact hP.2.1, by unfold Sz; rw [e.szn, e.2.2.1]; exact hP.2.2.1, fun u hu q => ?_, hP.2.2.2.2⟩
  rw [e.hb] at q
  have := hP.2.2.2.1 u hu q
  rw [um_n (by decide)]
  exact ⟨this.1, by unfold chitB; rw [um_n (by decide)]; exact this.2⟩
theorem FRS.pol {v : Int32} (hF : FRS M n) (ht : t < n) : FRS (um M 15 t v) n := hF.of (um_hi (Or.inl (by decide))) (fun _ _ => by rw [um_n (by decide)]) (fun u hu => um_sn (by omega))
/-- what looking at a waiting one keeps -/
def Kp (M M' : MM) (h h' : Nat) : Prop := M' 14 = M 14 ∧ M' 15 = M 15 ∧ h ≤ h' ∧ ∀ k, k < h → M' 16 k = M 16 k
theorem Kp.rf : Kp M M h h := ⟨rfl, rfl, Nat.le_refl _, fun _ _ => rfl⟩
theorem Kp.tr {M1 M2 : MM} {h1 h2 : Nat} (k1 : Kp M M1 h h1) (k2 : Kp M1 M2 h1 h2) : Kp M M2 h h2 := ⟨k2.1.trans k1.1, k2.2.1.trans k1.2.1, Nat.le_trans k1.2.2.1 k2.2.2.1, fun k hk => (k2.2.2.2 k (by have := k1.2.2.1; omega)).trans (k1.2.2.2 k hk)⟩
theorem Kp.hb {M' : MM} {h' : Nat} (k : Kp M M' h h') (hd : hdB M h u = true) : hdB M' h' u = true := by
  obtain ⟨i, hi, e⟩ := hdB_iff.mp hd
  exact hdB_iff.mpr ⟨i, by have := k.2.2.1; omega, by unfold hdN; rw [k.2.2.2 i hi]; exact e⟩
theorem um13_kp {v : Int32} : Kp M (um M 13 t v) h h := ⟨um_n (by decide), um_n (by decide), Nat.le_refl _, fun _ _ => by rw [um_n (by decide)]⟩
theorem lok_kp (hP : PI M n h a) (ht : t < n) (h1 : M 13 t = nI 1) : Kp M (lok M n h t).1 h (lok M n h t).2 := by
  have hnd := hP.wait ht h1
  unfold lok
  cases e : lkP M n t (nP (M 11) t) with
  | none => exact um13_kp
  | some w =>
    cases w with
    | true => exact Kp.rf
    | false =>
      dsimp only
      rw [if_neg (by decide)]
      cases eb : badB M n h t with
      | true => exact um13_kp
      | false =>
        have hHp : Hp M n t := ⟨ht, fun i hi => lkP_found e i hi⟩
        obtain ⟨-, -, sy, e14, e15⟩ := hP.1.holds hnd (badB_held hHp eb) (lk_hd hP e) h1 (hP.hlt ht h1) hP.2.2.2.2
        refine ⟨e14, e15, Nat.le_succ _, fun k hk => ?_⟩
        show hol M n h t 16 k = M 16 k
        rw [sy.2.2.2]
        unfold ho1
        rw [um_sn (by omega), um_n (by decide)]
theorem itW_kp : ∀ f M h, PI M n h a → Kp M (itW f M n h).1 h (itW f M n h).2
  | 0, M, h, hP => Kp.rf
  | f + 1, M, h, hP => by
    simp only [itW]
    cases e : fstU (wai M n) n with
    | none => exact Kp.rf
    | some w =>
      obtain ⟨h1, h2, h3⟩ := fstU_some e
      exact (lok_kp hP h1 (wai_w h2)).tr (itW_kp f _ _ (hP.lok h1 (wai_w h2)))
theorem tak_ok (hA : Adm M n h a id m tb) : PI (tak M n h id m tb).1 (n + 1) (tak M n h id m tb).2 a ∧ FRS (tak M n h id m tb).1 (n + 1) ∧ Kp M (tak M n h id m tb).1 h (tak M n h id m tb).2 := by
  obtain ⟨hP, hF⟩ := hA.pi
  have hk : Kp M (adm M n id m tb) h h := ⟨adm_k (by decide) (by decide) (by decide) (by decide), adm_k (by decide) (by decide) (by decide) (by decide), Nat.le_refl _, fun _ _ => by rw [adm_k (by decide) (by decide) (by decide) (by decide)]⟩
  have h13 : adm M n id m tb 13 n = nI 1 := by rw [adm_13, pk_us]
  unfold tak
  split
  · have hP2 := hP.lok (t := n) (by omega) h13
    have hF2 := hF.lok hP (t := n) (by omega) h13
    obtain ⟨q1, q2⟩ := FRS.itW 140 _ _ hF2 hP2
    exact ⟨q2, q1, (hk.tr (lok_kp hP (t := n) (by omega) h13)).tr (itW_kp 140 _ _ hP2)⟩
  · exact ⟨hP, hF, hk⟩
theorem PI.cH (hP : PI M n h a) : h = cH M n := by
  have e := cnt_hd hP.1.2.1 hP.1.1.hn (f := fun _ => true) h (Nat.le_refl _)
  rw [cntU_true] at e
  refine e.symm.trans ?_
  unfold _root_.Jvm.Pilot.CSnowNodeLaw_law_r5193_5b532e.cH
  exact cntU_congr (fun i hi => by rw [hP.hv hi, Bool.and_true])
theorem c3_le : c3 M n ≤ n := cntU_le
/-- a chit is had by those alone that were polled about -/
def CPd (M : MM) (n : Nat) : Prop := ∀ t, t < n → M 15 t = 0 → chitB M t = false
/-- what open polls are about: held, without a chit, polled, apart -/
def AB (M F : MM) (n h : Nat) : Prop := (∀ p, p < 6 → ¬ F 25 p < 0 → ∃ t, t < n ∧ F 26 p = nI t ∧ hdB M h t = true ∧ chitB M t = false ∧ M 15 t ≠ 0) ∧ ∀ p q, p < 6 → q < 6 → ¬ F 25 p < 0 → ¬ F 25 q < 0 → F 26 p = F 26 q → p = q
theorem AB.kp {F : MM} {M' : MM} {n' h' : Nat} (hA : AB M F n h) (hn : n ≤ n') (k : Kp M M' h h') : AB M' F n' h' := by
  refine ⟨fun p hp ho => ?_, hA.2⟩
  obtain ⟨t, a1, a2, a3, a4, a5⟩ := hA.1 p hp ho
  exact ⟨t, by omega, a2, k.hb a3, by unfold chitB; rw [k.1]; exact a4, by rw [k.2.1]; exact a5⟩
/-- a poll is closed -/
theorem AB.clo {F F' : MM} {p : Nat} (hA : AB M F n h) (hn : n < 1000) (hp : p < 6) (ho : ¬ F 25 p < 0) (h26 : F 26 p = nI t) (ht : t < n) (e25 : ∀ q, q < 6 → q ≠ p → F' 25 q = F 25 q) (c25 : F' 25 p < 0) (e26 : F' 26 = F 26) : AB (clo M n h t w b1 b2 a).1 F' n h := by
  obtain ⟨e, e15, e14⟩ := @clo_sy M n h a t b1 b2 w
  have hq : ∀ q, q < 6 → ¬ F' 25 q < 0 → q ≠ p ∧ ¬ F 25 q < 0 := fun q hq z => by
    have hne : q ≠ p := fun x => by rw [x] at z; exact z c25
    exact ⟨hne, by rw [← e25 q hq hne]; exact z⟩
  refine ⟨fun q hq6 z => ?_, fun q q' h1 h2 z1 z2 => ?_⟩
  · obtain ⟨hne, hoq⟩ := hq q hq6 z
    obtain ⟨v, a1, a2, a3, a4, a5⟩ := hA.1 q hq6 hoq
    have hvt : v ≠ t := fun x => hne (hA.2 q p hq6 hp hoq ho (by rw [a2, h26, x]))
    exact ⟨v, a1, by rw [e26]; exact a2, by rw [e.hb]; exact a3, by unfold chitB; rw [e14 v hvt]; exact a4, by rw [e15]; exact a5⟩
  · rw [e26]; exact hA.2 q q' h1 h2 (hq q h1 z1).2 (hq q' h2 z2).2
theorem CPd.clo (hC : CPd M n) (h15 : M 15 t ≠ 0) : CPd (clo M n h t w b1 b2 a).1 n := fun u hu q => by
  obtain ⟨e, e15, e14⟩ := @clo_sy M n h a t b1 b2 w
  rw [e15] at q
  have hne : u ≠ t := fun z => by rw [z] at q; exact h15 q
  unfold chitB
  rw [e14 u hne]
  exact hC u hu q
end KeepM
