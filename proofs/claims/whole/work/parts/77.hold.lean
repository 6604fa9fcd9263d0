/-! The class: a transaction is held -/
theorem oV_e {M M' : MM} {n : Nat} (e : M' 11 = M 11) : oV M' n = oV M n := by funext s; simp only [oV, e]
theorem lV_e {M M' : MM} {n : Nat} (e : M' 11 = M 11) : lV M' n = lV M n := by funext s; simp only [lV, oV_e e]
theorem par_e {M M' : MM} {n : Nat} (e0 : M' 10 = M 10) (e : M' 11 = M 11) : par M' n = par M n := by funext t i; simp only [par, e0, e]
theorem out_e {M M' : MM} {n : Nat} (e0 : M' 10 = M 10) (e : M' 11 = M 11) : out M' n = out M n := by funext t i; simp only [out, src, e0, e]
theorem inS_e {M M' : MM} {n : Nat} (e0 : M' 10 = M 10) (e : M' 11 = M 11) : inS M' n = inS M n := by funext t s; simp only [inS, out_e e0 e, e]
theorem pset_e {M M' : MM} {n : Nat} (e0 : M' 10 = M 10) (e : M' 11 = M 11) : pset M' n = pset M n := by funext t s; simp only [pset, par_e e0 e, e]
theorem GS.m3 {S : hS} {po go n : Nat} {T O : Nat → Nat} {M M' : MM} (hG : GS S po go T O M n) (e0 : M' 10 = M 10) (e : M' 11 = M 11) (e2 : M' 12 = M 12) : GS S po go T O M' n := by
  obtain ⟨c1, c2, c3, c4, c5, c6⟩ := hG
  refine ⟨c1, fun t ht => ?_, fun t i ht hi => ?_, c4, ?_, ?_⟩
  · have := c2 t ht
    simp only [TS, szN, e0, e, e2] at this ⊢
    exact this
  · rw [e] at hi ⊢
    exact c3 t i ht hi
  · rw [oV_e e]; exact c5
  · rw [lV_e e]; exact c6
section HoldP
variable {M : MM} {n h a t : Nat}
theorem ho_n {k : Nat} (h1 : k ≠ 13) (h2 : k ≠ 16) : ho1 M h t k = M k := by unfold ho1; rw [um_n h2, um_n h1]
theorem ho_hd {k : Nat} (hk : k < h) : hdN (ho1 M h t) k = hdN M k := by
  unfold ho1 hdN
  rw [um_sn (by omega), um_n (by decide)]
theorem ho_hh (ht : t < 1000) : hdN (ho1 M h t) h = t := by
  unfold ho1 hdN
  rw [um_s, nI_clamp (by omega)]
theorem ho_hb (ht : t < 1000) {u : Nat} : hdB (ho1 M h t) (h + 1) u = (hdB M h u || decide (t = u)) := by
  rw [hdB_s, ho_hh ht]
  congr 1
  unfold hdB
  exact anyU_congr (fun k hk => by rw [ho_hd hk])
theorem hd_no (hnd : hdB M h t = false) {k : Nat} (hk : k < h) : hdN M k ≠ t := fun q => by rw [hdB_iff.mpr ⟨k, hk, q⟩] at hnd; cases hnd
theorem ho_odr (hO : ODR M n h) (hnd : hdB M h t = false) (ht : t < 1000) (hp : PHd M n t h) : ODR (ho1 M h t) n (h + 1) := by
  refine ⟨fun k k' hk hk' e => ?_, fun k hk i hi => ?_⟩
  · by_cases c : k = h
    · by_cases c' : k' = h
      · omega
      · rw [c, ho_hh ht, ho_hd (by omega)] at e
        exact absurd e.symm (hd_no hnd (by omega))
    · by_cases c' : k' = h
      · rw [c', ho_hh ht, ho_hd (by omega)] at e
        exact absurd e (hd_no hnd (by omega))
      · rw [ho_hd (by omega), ho_hd (by omega)] at e
        exact hO.1 k k' (by omega) (by omega) e
  · rw [ho_n (by decide) (by decide)] at hi
    rw [par_e (ho_n (by decide) (by decide)) (ho_n (by decide) (by decide))]
    by_cases c : k = h
    · subst c
      rw [ho_hh ht] at hi ⊢
      obtain ⟨j, hj, e⟩ := hp i hi
      exact ⟨j, hj, by rw [ho_hd hj]; exact e⟩
    · rw [ho_hd (by omega)] at hi ⊢
      obtain ⟨j, hj, e⟩ := hO.2 k (by omega) i hi
      exact ⟨j, hj, by rw [ho_hd (by omega)]; exact e⟩
theorem ho_anc (hO : ODR M n h) (hnd : hdB M h t = false) (ht : t < 1000) (hp : PHd M n t h) : (∀ k, k < h → anc (ho1 M h t) n (h + 1) (hdN M k) = anc M n h (hdN M k)) ∧ anc (ho1 M h t) n (h + 1) t = anc M n h t := by
  have e0 : ho1 M h t 10 = M 10 := ho_n (by decide) (by decide)
  have e1 : ho1 M h t 11 = M 11 := ho_n (by decide) (by decide)
  have hO' := ho_odr hO hnd ht hp
  have a1 : ∀ k, k < h → anc (ho1 M h t) n (h + 1) (hdN M k) = anc M n h (hdN M k) := fun k hk => by
    funext u
    exact anc_same hO hO' (by omega) (fun k hk => ho_hd hk) (fun k hk => by rw [e1]) (fun k hk i hi => by rw [par_e e0 e1]) k hk u
  refine ⟨a1, ?_⟩
  funext u
  have hp' : PHd (ho1 M h t) n t h := fun i hi => by
    rw [e1] at hi
    obtain ⟨j, hj, e⟩ := hp i hi
    exact ⟨j, hj, by rw [par_e e0 e1, ho_hd hj]; exact e⟩
  rw [anc_rec hO' (by omega) hp', anc_rec hO (Nat.le_refl _) hp, e1, par_e e0 e1]
  refine anyU_congr (fun i hi => ?_)
  obtain ⟨j, hj, e⟩ := hp i hi
  rw [e, a1 j hj]
theorem ho_conf (hO : ODR M n h) (hnd : hdB M h t = false) (ht : t < 1000) (hp : PHd M n t h) (hc : chitB M t = false) : conf (ho1 M h t) n (h + 1) = conf M n h := by
  have ea := ho_anc hO hnd ht hp
  have e14 : ho1 M h t 14 = M 14 := ho_n (by decide) (by decide)
  funext u
  rw [conf_eq (ho_odr hO hnd ht hp), conf_eq hO]
  refine cntU_congr (fun d _ => ?_)
  rw [ho_hb ht]
  have ec : chitB (ho1 M h t) d = chitB M d := by simp only [chitB, e14]
  rw [ec]
  by_cases e : t = d
  · subst e; rw [hc, Bool.and_false, Bool.and_false]
  · rw [decide_eq_false e, Bool.or_false]
    cases c : hdB M h d with
    | false => rw [Bool.false_and, Bool.false_and]
    | true =>
      obtain ⟨k, hk, rfl⟩ := hdB_iff.mp c
      rw [ea.1 k hk]
theorem lastU_none {f : Nat → Bool} : ∀ {n}, lastU f n = none → ∀ i, i < n → f i = false
  | 0, _, i, hi => by omega
  | n + 1, e, i, hi => by
    simp only [lastU] at e
    split at e
    · cases e
    · next c =>
      by_cases q : i = n
      · subst q; simpa using c
      · exact lastU_none e i (by omega)
theorem acO_upd {M' : MM} {v : Int32} (hnd : hdB M h t = false) (e13 : M' 13 = upd (M 13) t v) (hv : v ≠ nI 3) (e0 : M' 10 = M 10) (e1 : M' 11 = M 11) (eh : ∀ k, k < h → hdN M' k = hdN M k) (ehh : hdN M' h = t) : acO M' n (h + 1) = acO M n h := by
  funext s
  have q : (decide (M' 13 (hdN M' h) = nI 3) && inS M' n (hdN M' h) s) = false := by
    have q1 : M' 13 (hdN M' h) = v := by rw [ehh, e13, pk_us]
    rw [q1, decide_eq_false hv, Bool.false_and]
  have e1' : lastU (fun k => decide (M' 13 (hdN M' k) = nI 3) && inS M' n (hdN M' k) s) (h + 1) = lastU (fun k => decide (M' 13 (hdN M' k) = nI 3) && inS M' n (hdN M' k) s) h := lastU_f q
  have e2 : lastU (fun k => decide (M' 13 (hdN M' k) = nI 3) && inS M' n (hdN M' k) s) h = lastU (fun k => decide (M 13 (hdN M k) = nI 3) && inS M n (hdN M k) s) h := lastU_congr h (fun k hk => by
    have q2 : M' 13 (hdN M' k) = M 13 (hdN M k) := by rw [eh k hk, e13, pk_un (hd_no hnd hk)]
    rw [q2, inS_e e0 e1, eh k hk])
  show Option.map (hdN M') (lastU (fun k => decide (M' 13 (hdN M' k) = nI 3) && inS M' n (hdN M' k) s) (h + 1)) = Option.map (hdN M) (lastU (fun k => decide (M 13 (hdN M k) = nI 3) && inS M n (hdN M k) s) h)
  rw [e1', e2]
  cases e3 : lastU (fun k => decide (M 13 (hdN M k) = nI 3) && inS M n (hdN M k) s) h with
  | none => simp only [Option.map_none]
  | some k => simp only [Option.map_some]; exact congrArg some (eh k (lastU_lt e3).1)
theorem ho_mem (ht : t < 1000) {s : Nat} : mem (ho1 M h t) n (h + 1) s = mem M n h s ++ (if inS M n t s then [t] else []) := by
  have e0 : ho1 M h t 10 = M 10 := ho_n (by decide) (by decide)
  have e1 : ho1 M h t 11 = M 11 := ho_n (by decide) (by decide)
  rw [mem_s, ho_hh ht, inS_e e0 e1]
  congr 1
  unfold mem
  rw [inS_e e0 e1]
  congr 1
  exact List.map_congr_left (fun k hk => ho_hd (List.mem_range.mp hk))
theorem ho_gv (hG : GV M n h) (hH : Ht M n t) (hh : h < n) : GV (ho1 M h t) n (h + 1) := by
  have e0 : ho1 M h t 10 = M 10 := ho_n (by decide) (by decide)
  have e1 : ho1 M h t 11 = M 11 := ho_n (by decide) (by decide)
  have hH' : Ht (ho1 M h t) n t := hH.sn ⟨e0, e1⟩
  have hn := hG.1
  have ht := hH.1
  refine ⟨hG.1, by omega, by rw [e1]; exact hG.2.2.1, fun k hk => ?_⟩
  by_cases c : k = h
  · subst c
    rw [ho_hh (by omega)]
    exact ⟨by unfold ho1; rw [um_s], hH'⟩
  · rw [ho_hd (by omega)]
    have := hG.2.2.2 k (by omega)
    refine ⟨?_, this.2.sn ⟨e0, e1⟩⟩
    unfold ho1
    rw [um_sn c, um_n (by decide)]
    exact this.1
/-- the numbers behind a holding -/
theorem IV.holds (hI : IV M n h a) (hnd : hdB M h t = false) (hH : Ht M n t) (hp : PHd M n t h) (h1 : M 13 t = nI 1) (hh : h < n) (h0 : 1 ≤ h) : IV (hol M n h t) n (h + 1) a ∧ hol M n h t 13 = upd (M 13) t (if rejB M n h t then nI 4 else nI 2) ∧ Sy (ho1 M h t) (hol M n h t) ∧ hol M n h t 14 = M 14 ∧ hol M n h t 15 = M 15 := by
  obtain ⟨hG, hO, hR, hF, hL, hA, hc⟩ := hI
  have hn := hG.1
  have ht := hH.1
  have ht' : t < 1000 := by omega
  have sqj := @joinL_sq (ho1 M h t) n (h + 1) t (nX (M 11) t)
  have sq : Sq (ho1 M h t) (hol M n h t) := by
    unfold hol
    split
    · exact sqj.tr rej_sq
    · exact sqj
  have e13 : hol M n h t 13 = upd (M 13) t (if rejB M n h t then nI 4 else nI 2) := hol_13
  have e10 : hol M n h t 10 = M 10 := sq.sy.1.trans (ho_n (by decide) (by decide))
  have e11 : hol M n h t 11 = M 11 := sq.sy.2.1.trans (ho_n (by decide) (by decide))
  have hG1 := ho_gv hG hH hh
  have hO1 := ho_odr hO hnd ht' hp
  have hd1 : ∀ k, k < h → hdN (hol M n h t) k = hdN M k := fun k hk => by rw [sq.sy.hd, ho_hd hk]
  have hdh : hdN (hol M n h t) h = t := by rw [sq.sy.hd, ho_hh ht']
  have pe := par_e (n := n) e10 e11
  have se : ∀ u o, sh (hol M n h t) n u o = sh M n u o := fun u o => by unfold sh; rw [inS_e e10 e11]
  have ne := fun {k} (hk : k < h) => hd_no hnd hk
  have st : ∀ k, k < h → hol M n h t 13 (hdN M k) = M 13 (hdN M k) := fun k hk => by rw [e13, pk_un (ne hk)]
  have stt : hol M n h t 13 t = if rejB M n h t then nI 4 else nI 2 := by rw [e13, pk_us]
  have n3 : (if rejB M n h t then nI 4 else nI 2 : Int32) ≠ nI 3 := by split <;> decide
  have hJF : ∀ i, Fav (joinL (ho1 M h t) n (h + 1) t i) n := fun i => by
    induction i with
    | zero => exact hF.of (ho_n (by decide) (by decide))
    | succ i ih =>
      simp only [joinL]
      split
      · exact (ih.up hn (o := some t) (fun u hu => by cases hu; exact ht)).of (um_n (by decide))
      · exact ih
  have hJL : ∀ i, Lat (joinL (ho1 M h t) n (h + 1) t i) n := fun i => by
    induction i with
    | zero => exact hL.of (ho_n (by decide) (by decide))
    | succ i ih =>
      simp only [joinL]
      split
      · exact (ih.of (um_n (by decide))).up hn ht
      · exact ih
  refine ⟨⟨hG1.sq sq, hO1.sy sq.sy, ⟨?_, ?_, ?_, ?_, ?_, ?_⟩, ?_, ?_, ?_, ?_⟩, e13, sq.sy, sq.e14.trans (ho_n (by decide) (by decide)), sq.e15.trans (ho_n (by decide) (by decide))⟩
  · intro k hk
    by_cases c : k = h
    · subst c; rw [hdh, stt]; split
      · exact Or.inr (Or.inr rfl)
      · exact Or.inl rfl
    · rw [hd1 k (by omega), st k (by omega)]; exact hR.1 k (by omega)
  · intro k hk i hi q
    rw [e11] at hi
    rw [pe] at q
    by_cases c : k = h
    · subst c
      rw [hdh] at hi q ⊢
      obtain ⟨j, hj, ej⟩ := hp i hi
      rw [ej, st j hj] at q
      rw [stt, if_pos]
      unfold rejB
      rw [anyU_t (f := fun i => decide (M 13 (par M n t i) = nI 4)) hi (by rw [ej]; exact decide_eq_true q), Bool.true_or]
    · rw [hd1 k (by omega)] at hi q ⊢
      obtain ⟨j, hj, ej⟩ := hO.2 k (by omega) i hi
      rw [ej, st j (by omega)] at q
      rw [st k (by omega)]
      exact hR.2.1 k (by omega) i hi (by rw [ej]; exact q)
  · intro k hk q i hi
    rw [e11] at hi
    rw [pe]
    by_cases c : k = h
    · subst c; rw [hdh, stt] at q; exact absurd q n3
    · rw [hd1 k (by omega)] at hi q ⊢
      rw [st k (by omega)] at q
      obtain ⟨j, hj, ej⟩ := hO.2 k (by omega) i hi
      have := hR.2.2.1 k (by omega) q i hi
      rw [ej] at this ⊢
      rw [st j (by omega)]
      exact this
  · intro k k' hk hk' q hne hs
    rw [se] at hs
    by_cases c : k = h
    · subst c; rw [hdh, stt] at q; exact absurd q n3
    · rw [hd1 k (by omega)] at q hne hs
      rw [st k (by omega)] at q
      by_cases c' : k' = h
      · subst c'
        rw [hdh] at hs ⊢
        rw [stt, if_pos]
        obtain ⟨s, s1, s2⟩ := hs
        obtain ⟨i, hi, rfl⟩ := inS_iff.mp s2
        unfold rejB
        rw [anyU_t (f := fun i => (acO M n k' (out M n t i)).isSome) hi, Bool.or_true]
        cases e : acO M n k' (out M n t i) with
        | some x => rfl
        | none =>
          unfold acO at e
          have e2 : lastU (fun k => decide (M 13 (hdN M k) = nI 3) && inS M n (hdN M k) (out M n t i)) k' = none := by
            cases e3 : lastU (fun k => decide (M 13 (hdN M k) = nI 3) && inS M n (hdN M k) (out M n t i)) k' with
            | none => rfl
            | some x => rw [e3] at e; cases e
          have := lastU_none e2 k (by omega)
          rw [q, s1] at this
          exact absurd this (by decide)
      · rw [hd1 k' (by omega)] at hne hs ⊢
        rw [st k' (by omega)]
        exact hR.2.2.2.1 k k' (by omega) (by omega) q hne hs
  · rw [hd1 0 (by omega)]; exact hR.2.2.2.2.1
  · rw [← hR.2.2.2.2.1, st 0 (by omega), hR.2.2.2.2.1]; exact hR.2.2.2.2.2
  · unfold hol
    split
    · exact rejL_fav (hJF _) (hG1.sq sqj) _
    · exact hJF _
  · unfold hol
    split
    · exact (hJL _).of (rejL_23 _)
    · exact hJL _
  · exact hA.of (sq.e18.trans (ho_n (by decide) (by decide)))
  · unfold c3 at hc ⊢
    rw [hc]
    refine cntU_congr (fun u _ => ?_)
    rw [e13]
    by_cases c : u = t
    · subst c; rw [pk_us, h1, decide_eq_false n3]; decide
    · rw [pk_un c]
end HoldP
