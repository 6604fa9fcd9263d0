/-! New things, casts, calls -/
section CallRows
variable {l : Launch} {g : GG} {d : MD} {mc ms : Nat} {own : String} {Post : Option AV → hS → Prop} {J : JJ} {pc : Nat} {lv : List (Nat × AV)} {st : List AV} {S : hS} {kc ns : Nat}
theorem AA_ge (g : GG) : ∀ q, (gH g).size ≤ q → AA g q := fun _ h => h
/-- a thing more -/
theorem HP.push {H1 : Heap} {L : List Nat} {q : Nat} {x : va_E} {S2 : hS} {locs : List Loc} (hLL : ∀ a, sK S a ≠ 0 ↔ a ∈ L) (hq : ∀ a, sK S2 a ≠ 0 ↔ (a = q ∨ sK S a ≠ 0)) (e1 : cF g S2 q = x) (e2 : ∀ b, b ≠ q → cF g S2 b = cF g S b) (hD0 : va_D (AA g) (va_pl L (cF g S)))
    (hP : va_P g.1 vwCl (va_pl L (cF g S) ++ [(q, x)]) H1) (hD : va_D (AA g) (va_pl L (cF g S) ++ [(q, x)])) (hS : va_S (AA g) (gH g) H1 locs) : sK S q = 0 ∧ HP g S2 H1 ∧ LO g locs := by
  have hnew : q ∉ L := by
    intro hm
    obtain ⟨i, hi⟩ := List.getElem?_of_mem (show (q, cF g S q) ∈ va_pl L (cF g S) from List.mem_map.mpr ⟨q, hm, rfl⟩)
    have hi2 : i < (va_pl L (cF g S)).length := (List.getElem?_eq_some_iff.mp hi).1
    have h1 : (va_pl L (cF g S) ++ [(q, x)])[i]? = some (q, cF g S q) := by rw [List.getElem?_append_left hi2]; exact hi
    have h2 : (va_pl L (cF g S) ++ [(q, x)])[(va_pl L (cF g S)).length]? = some (q, x) := by rw [List.getElem?_append_right (Nat.le_refl _), Nat.sub_self]; rfl
    have := hD.1 i _ _ _ h1 h2 rfl
    omega
  have h0 : sK S q = 0 := by
    by_cases h : sK S q = 0
    · exact h
    · exact absurd ((hLL q).mp h) hnew
  rw [va_pl_push hnew] at hP hD
  have hf : ∀ b, va_up (cF g S) q x b = cF g S2 b := by
    intro b
    by_cases hb : b = q
    · subst hb
      rw [va_up_self, e1]
    · rw [va_up_ne _ _ hb, e2 b hb]
  refine ⟨h0, HP.of (S := S) (S' := S2) (fun b => ?_) hf hP hD hS⟩
  rw [hq b, List.mem_append, ← hLL b, List.mem_singleton]
  exact ⟨fun h => h.symm, fun h => h.symm⟩
theorem r_new (C : Cx l g d mc ms own Post J) {idx ci : Nat} {r : vw_C} (hd : decode d.b pc = .ok (.new idx, 3)) (hc : vwCl[ci]? = some r) (hw : Cond.classLink own idx r.1 ∈ Wd) {n : Nat} (hn : r.2.2 = n) (h1 : kc + 1 ≤ mc) (h2 : ns + n ≤ ms) (kk : ∀ q, sK S q = 0 → J (pc + 3) lv (vr (some q) :: st) (newO S q (ci + 1)) (kc + 1) (ns + n)) : J pc lv st S kc ns := by
  obtain ⟨p, e, s, m, args, below, meth, c, hx, hb, hml, hr, ho, hts, hlk, hK, hnm, Q0, hQ0, rfl⟩ := C
  intro H locs ls hH hL hl
  obtain ⟨w1, hci, hlen, ty0, t1, t2, hi1, hi2, hdef⟩ := cl_ok ci r hc
  have hS := HP.S hH hL
  obtain ⟨L, hLL, hP, hD, -⟩ := hH
  subst hn
  have hdef2 : ∀ q, ∀ j, j < r.2.2 → defaultValue (ty0 j) = vp_V (fsF (newO S q (ci + 1)) ci q) j := by
    intro q j hj
    have hj2 : j < (tgs ci).length := by rw [← hlen]; exact hj
    have hg : (tgs ci)[j]? = some (tgs ci)[j] := List.getElem?_eq_getElem hj2
    rw [hdef j hj]
    have e1 : (tgs ci).getD j 0 = (tgs ci)[j] := by simp [hj2]
    rw [e1]
    unfold vp_V
    rw [List.getD_eq_getElem?_getD, fsF_at hg]
    show _ = fval (newO S q (ci + 1)) _ _ q
    unfold fval
    split <;> simp [sI, sR, sJ, newO]
  have hfs : ∀ q q2, fsF (newO S q (ci + 1)) ci q = fsF (newO S q2 (ci + 1)) ci q2 := by
    intro q q2
    unfold fsF
    apply List.map_congr_left
    intro k _
    unfold fval
    split <;> simp [sI, sR, sJ, newO]
  refine va_new hx hb hts w1 ty0 t1 ho (hts _ hw) (hts _ hi1) (hts _ hi2) hK.K hP hD hS (AA_ge g) hc (hdef2 0) h1 h2 hd fun q H1 hP1 hD1 hS1 => ?_
  rw [hfs 0 q] at hP1 hD1
  obtain ⟨h0, hH1, hL1⟩ := HP.push (S2 := newO S q (ci + 1)) hLL (fun a => by
      show va_up S.1 q (ci + 1) a ≠ 0 ↔ _
      by_cases ha : a = q
      · subst ha; rw [va_up_self]; exact ⟨fun _ => Or.inl rfl, fun _ => by omega⟩
      · rw [va_up_ne _ _ ha]; exact ⟨fun h => Or.inr h, fun h => h.resolve_left ha⟩)
    (by
      have : sK (newO S q (ci + 1)) q = ci + 1 := by show va_up S.1 q (ci + 1) q = _; rw [va_up_self]
      unfold cF
      rw [this, if_pos (by omega)]
      rfl)
    (fun b hb => by
      have hk : sK (newO S q (ci + 1)) b = sK S b := by show va_up S.1 q (ci + 1) b = _; rw [va_up_ne _ _ hb]; rfl
      unfold cF
      rw [hk]
      have e1 : ∀ c, fsF (newO S q (ci + 1)) c b = fsF S c b := by
        intro c
        unfold fsF
        apply List.map_congr_left
        intro k _
        unfold fval
        split <;> simp [sI, sR, sJ, newO, hb]
      rw [e1]
      rfl) hD hP1 hD1 hS1
  exact kk q h0 H1 locs ls hH1 hL1 hl
theorem cF_newA {q k n b : Nat} (hb : b ≠ q) : cF g (newA S q k n) b = cF g S b := by
  have hk : sK (newA S q k n) b = sK S b := by show va_up S.1 q k b = _; rw [va_up_ne _ _ hb]; rfl
  unfold cF
  rw [hk]
  have e1 : ∀ c, fsF (newA S q k n) c b = fsF S c b := fun _ => rfl
  have e2 : ∀ c, aV (newA S q k n) c b = aV S c b := by
    intro c
    simp [aV, sN, aI, aJ, aR, newA, va_up, hb]
  rw [e1, e2]
theorem K_newA {q k n : Nat} (hk : k ≠ 0) (a : Nat) : sK (newA S q k n) a ≠ 0 ↔ (a = q ∨ sK S a ≠ 0) := by
  show va_up S.1 q k a ≠ 0 ↔ _
  by_cases ha : a = q
  · subst ha; rw [va_up_self]; exact ⟨fun _ => Or.inl rfl, fun _ => hk⟩
  · rw [va_up_ne _ _ ha]; exact ⟨fun h => Or.inr h, fun h => h.resolve_left ha⟩
theorem cF_newA_self {q k n : Nat} (hk : 20 ≤ k) : cF g (newA S q k n) q = .inl (g.2.1 (ac k), n, if ac k = 2 then .inr (.inl (fun _ => 0)) else if ac k < 4 then .inl (fun _ => 0) else .inr (.inr (.inr (.inr (fun _ => none))))) := by
  have h : sK (newA S q k n) q = k := by show va_up S.1 q k q = _; rw [va_up_self]
  unfold cF
  rw [h, if_neg (by omega)]
  simp [aV, sN, aI, aJ, aR, newA, va_up]
theorem RA_inj {U : State} {c1 c2 : ClassId} {ty : FieldType} (h1 : va_RA U c1 ty) (h2 : va_RA U c2 ty) : c1 = c2 := by
  cases ty with
  | object C =>
    obtain ⟨_, _, _, _, _, h4⟩ := h1
    obtain ⟨_, _, _, _, _, h5⟩ := h2
    exact Option.some.inj (h4.symm.trans h5)
  | _ => exact Option.some.inj (Eq.trans (Eq.symm h1) h2)
/-- an array of numbers of the kind k: bytes 20.., ints 30.., longs 80.., booleans 85.. -/
theorem r_newa (C : Cx l g d mc ms own Post J) {at_ : ArrayType} {x : Int32} (k : Nat) {n : Nat} (hd : decode d.b pc = .ok (.newarray at_, 2)) (hty : newarray.typeOf at_ = tyA (ac k)) (h20 : 20 ≤ k ∧ k < 100) (hw : Cond.arrayClass (newarray.typeOf at_) ∈ Wd) (hn : ¬ x < 0) (hN : x.toNatClampNeg = n) (hb8 : n ≤ 60000000) (h1 : kc + 1 ≤ mc) (h2 : ns + n ≤ ms) (kk : ∀ q, sK S q = 0 → J (pc + 2) lv (vr (some q) :: st) (newA S q k n) (kc + 1) (ns + n)) : J pc lv (vi x :: st) S kc ns := by
  obtain ⟨p, e, s, m, args, below, meth, c, hx, hb, hml, hr, ho, hts, hlk, hK, hnm, Q0, hQ0, rfl⟩ := C
  intro H locs ls hH hL hl
  have hS := HP.S hH hL
  obtain ⟨L, hLL, hP, hD, -⟩ := hH
  have hac : ac k < 4 := by unfold ac; repeat (first | omega | split)
  have hcell : ∀ cA : ClassId, vp_cell cA (n, if ac k = 2 then .inr (.inl (fun _ => 0)) else if ac k < 4 then .inl (fun _ => 0) else .inr (.inr (.inr (.inr (fun _ => none))))) = arrV cA n (fun _ => defaultValue (tyA (ac k))) := by
    intro cA
    generalize ac k = z at hac
    match z, hac with
    | 0, _ => rfl
    | 1, _ => rfl
    | 2, _ => rfl
    | 3, _ => rfl
  have hbytes : n * componentBytes (tyA (ac k)) ≤ 536870912 := by
    generalize ac k = z at hac
    have : componentBytes (tyA z) ≤ 8 := by
      match z, hac with
      | 0, _ => decide
      | 1, _ => decide
      | 2, _ => decide
      | 3, _ => decide
    exact Nat.le_trans (Nat.mul_le_mul hb8 this) (by decide)
  refine va_newa hx hb (hts _ hw) hty hK.K hP hD hS (AA_ge g) hcell hn hN hbytes h1 h2 hd fun q cA H1 hK1 hP1 hD1 hS1 => ?_
  have hcA : cA = g.2.1 (ac k) := by
    have h8 : ac k < (tysF g).length := by simp [tysF]; omega
    have e1 := (hK1.2 (tysF g).length (cA, tyA (ac k)) (by rw [List.getElem?_append_right (Nat.le_refl _), Nat.sub_self]; rfl)).2
    have e2 := (hK.K.2 (ac k) _ (tysF_at g (by omega))).2
    exact RA_inj e1 e2
  subst hcA
  obtain ⟨h0, hH1, hL1⟩ := HP.push (S2 := newA S q k n) hLL (K_newA (by omega)) (cF_newA_self h20.1) (fun b hb => cF_newA hb) hD hP1 hD1 hS1
  exact kk q h0 H1 locs ls hH1 hL1 hl
/-- an array of references -/
theorem r_newr (C : Cx l g d mc ms own Post J) {idx : Nat} {x : Int32} (k : Nat) {n : Nat} {Cn : String} (hd : decode d.b pc = .ok (.anewarray idx, 3)) (hty : tyA (ac k) = .object Cn) (h20 : 100 ≤ k) (hw : Cond.classLink own idx Cn ∈ Wd) (hao : Cond.arrayOver (.object Cn) ∈ lw_tbl) (hn : ¬ x < 0) (hN : x.toNatClampNeg = n) (hb8 : n ≤ 60000000) (h1 : kc + 1 ≤ mc) (h2 : ns + n ≤ ms) (kk : ∀ q, sK S q = 0 → J (pc + 3) lv (vr (some q) :: st) (newA S q k n) (kc + 1) (ns + n)) : J pc lv (vi x :: st) S kc ns := by
  obtain ⟨p, e, s, m, args, below, meth, c, hx, hb, hml, hr, ho, hts, hlk, hK, hnm, Q0, hQ0, rfl⟩ := C
  intro H locs ls hH hL hl
  have hS := HP.S hH hL
  obtain ⟨L, hLL, hP, hD, -⟩ := hH
  have hac : 4 ≤ ac k := ac_r h20
  have hAO : va_AO Cn s := va_AO.moved hK.1.alike (va_AO.of (hK.2.1 _ hao))
  refine va_newq hx hb ho (hts _ hw) hAO hK.K hP hD hS (AA_ge g) hn hN (by omega) h1 h2 hd fun q cA H1 hK1 hP1 hD1 hS1 => ?_
  have hcA : cA = g.2.1 (ac k) := by
    have h8 : ac k < (tysF g).length := by simp [tysF]; exact ac_lt k
    have e1 := (hK1.2 (tysF g).length (cA, .object Cn) (by rw [List.getElem?_append_right (Nat.le_refl _), Nat.sub_self]; rfl)).2
    have e2 := (hK.K.2 (ac k) _ (tysF_at g (ac_lt k))).2
    rw [hty] at e2
    exact RA_inj e1 e2
  subst hcA
  have e5 : (Sum.inl (g.2.1 (ac k), n, Sum.inr (Sum.inr (Sum.inr (Sum.inr (fun _ => none))))) : va_E) = .inl (g.2.1 (ac k), n, if ac k = 2 then .inr (.inl (fun _ => 0)) else if ac k < 4 then .inl (fun _ => 0) else .inr (.inr (.inr (.inr (fun _ => none))))) := by
    rw [if_neg (by omega), if_neg (by omega)]
  rw [e5] at hP1 hD1
  obtain ⟨h0, hH1, hL1⟩ := HP.push (S2 := newA S q k n) hLL (K_newA (by omega)) (cF_newA_self (by omega)) (fun b hb => cF_newA hb) hD hP1 hD1 hS1
  exact kk q h0 H1 locs ls hH1 hL1 hl
/-- an object of a kind is put into an array of that kind's references; null; any of ours into an array of Objects -/
theorem r_aast (C : Cx l g d mc ms own Post J) {a r j v ci : Nat} {i : Int32} {rc : vw_C} (hd : decode d.b pc = .ok (.aastore, 1)) (hk : sK S a = r) (h30 : 100 ≤ r) (hc : vwCl[ci]? = some rc) (hty : tyA (ac r) = .object rc.1) (hv : sK S v = ci + 1) {nn : Nat} (hnn : sN S a = nn) (hin : vp_in i nn) (hj : i.toNatClampNeg = j) (kk : J (pc + 1) lv st (putR S r a (va_up (aR S r a) j (some v))) kc ns) : J pc lv (vr (some v) :: vi i :: vr (some a) :: st) S kc ns := by
  obtain ⟨p, e, s, m, args, below, meth, c, hx, hb, hml, hr, ho, hts, hlk, hK, hnm, Q0, hQ0, rfl⟩ := C
  intro H locs ls hH hL hl
  obtain ⟨-, hci, -⟩ := cl_ok ci rc hc
  subst hj; subst hnn; subst hk
  have e1 : 4 ≤ ac (sK S a) := ac_r h30
  have hvo := HP.obj hH hv hci
  obtain ⟨L, z, hz, hP, hD, hS, fin⟩ := HP.arr2 (a := a) hH hL (by omega)
  rw [aV_r e1] at hz
  have hany : va_Any rc.1 s H v := va_rAny hK.K hvo (q0 := 0) rfl hc (fun comp c0 h1 h2 => vb_asgS comp c0 h1 h2)
  refine va_astqM hx hb hK.K hP hD hS z (ac (sK S a)) hz (by rw [tysF_at g (ac_lt _), hty]) hany hin hd fun H1 locs1 hP1 hD1 hS1 => ?_
  obtain ⟨hH1, hL1⟩ := fin (putR S (sK S a) a (va_up (aR S (sK S a) a) i.toNatClampNeg (some v))) _ H1 locs1 rfl (fun _ _ => rfl) (aV_putR_self e1) (fun b h => aV_putR_ne h) hP1 hD1 hS1
  exact kk H1 locs1 ls hH1 hL1 hl
theorem r_aastN (C : Cx l g d mc ms own Post J) {a r j : Nat} {i : Int32} (hd : decode d.b pc = .ok (.aastore, 1)) (hk : sK S a = r) (h30 : 100 ≤ r) {nn : Nat} (hnn : sN S a = nn) (hin : vp_in i nn) (hj : i.toNatClampNeg = j) (kk : J (pc + 1) lv st (putR S r a (va_up (aR S r a) j none)) kc ns) : J pc lv (vr none :: vi i :: vr (some a) :: st) S kc ns := by
  obtain ⟨p, e, s, m, args, below, meth, c, hx, hb, hml, hr, ho, hts, hlk, hK, hnm, Q0, hQ0, rfl⟩ := C
  intro H locs ls hH hL hl
  subst hj; subst hnn; subst hk
  have e1 : 4 ≤ ac (sK S a) := ac_r h30
  obtain ⟨Cn, hC⟩ := tyA_r e1
  obtain ⟨L, z, hz, hP, hD, hS, fin⟩ := HP.arr2 (a := a) hH hL (by omega)
  rw [aV_r e1] at hz
  refine va_astqN (C := Cn) hx hb hK.K hP hD hS z (ac (sK S a)) hz (by rw [tysF_at g (ac_lt _), hC]) hin hd fun H1 locs1 hP1 hD1 hS1 => ?_
  obtain ⟨hH1, hL1⟩ := fin (putR S (sK S a) a (va_up (aR S (sK S a) a) i.toNatClampNeg none)) _ H1 locs1 rfl (fun _ _ => rfl) (aV_putR_self e1) (fun b h => aV_putR_ne h) hP1 hD1 hS1
  exact kk H1 locs1 ls hH1 hL1 hl
/-- which of ours can stand for an Object: their words -/
def obW : Nat → Nat := fun ci => match ci with
  | 9 => 1580
  | _ => 1583
theorem any_obj {s : State} {H : Heap} {v ci : Nat} (hK : KK g s) (hH : HP g S H) (hci : ci = 9 ∨ ci = 6) (hv : sK S v = ci + 1) : va_Any "java/lang/Object" s H v := by
  rcases hci with rfl | rfl
  · refine va_rAny hK.K (HP.obj hH hv (by omega)) (q0 := 0) rfl (r := (RX8, TX8, 16)) rfl (vb_asgC ?_)
    exact va_Nw.warmC hK.1 (va_Nw.of rfl (hK.2.1 _ (List.mem_append_right _ (List.mem_of_getElem? (i := 1580) (by decide +kernel)))))
  · refine va_rAny hK.K (HP.obj hH hv (by omega)) (q0 := 0) rfl (r := (RX5, TX5, 6)) rfl (vb_asgC ?_)
    exact va_Nw.warmC hK.1 (va_Nw.of rfl (hK.2.1 _ (List.mem_append_right _ (List.mem_of_getElem? (i := 1583) (by decide +kernel)))))
theorem r_aastO (C : Cx l g d mc ms own Post J) {a r j v ci : Nat} {i : Int32} (hd : decode d.b pc = .ok (.aastore, 1)) (hk : sK S a = r) (h30 : 104 ≤ r) (hci : ci = 9 ∨ ci = 6) (hv : sK S v = ci + 1) {nn : Nat} (hnn : sN S a = nn) (hin : vp_in i nn) (hj : i.toNatClampNeg = j) (kk : J (pc + 1) lv st (putR S r a (va_up (aR S r a) j (some v))) kc ns) : J pc lv (vr (some v) :: vi i :: vr (some a) :: st) S kc ns := by
  obtain ⟨p, e, s, m, args, below, meth, c, hx, hb, hml, hr, ho, hts, hlk, hK, hnm, Q0, hQ0, rfl⟩ := C
  intro H locs ls hH hL hl
  subst hj; subst hnn; subst hk
  have e1 : ac (sK S a) = 7 := by unfold ac; rw [if_neg (by omega), if_neg (by omega), if_neg (by omega), if_neg (by omega), if_neg (by omega), if_neg (by omega), if_neg (by omega)]
  have hany := any_obj hK hH hci hv
  obtain ⟨L, z, hz, hP, hD, hS, fin⟩ := HP.arr2 (a := a) hH hL (by omega)
  rw [aV_r (by omega)] at hz
  refine va_astqM hx hb hK.K hP hD hS z (ac (sK S a)) hz (by rw [tysF_at g (ac_lt _), e1]; rfl) hany hin hd fun H1 locs1 hP1 hD1 hS1 => ?_
  obtain ⟨hH1, hL1⟩ := fin (putR S (sK S a) a (va_up (aR S (sK S a) a) i.toNatClampNeg (some v))) _ H1 locs1 rfl (fun _ _ => rfl) (aV_putR_self (by omega)) (fun b h => aV_putR_ne h) hP1 hD1 hS1
  exact kk H1 locs1 ls hH1 hL1 hl
theorem r_cast (C : Cx l g d mc ms own Post J) {idx ci a : Nat} {r : vw_C} (hd : decode d.b pc = .ok (.checkcast idx, 3)) (hc : vwCl[ci]? = some r) (hw : Cond.classLink own idx r.1 ∈ Wd) (hk : sK S a = ci + 1) (kk : J (pc + 3) lv (vr (some a) :: st) S kc ns) : J pc lv (vr (some a) :: st) S kc ns := by
  obtain ⟨p, e, s, m, args, below, meth, c, hx, hb, hml, hr, ho, hts, hlk, hK, hnm, Q0, hQ0, rfl⟩ := C
  intro H locs ls hH hL hl
  obtain ⟨-, hci, -⟩ := cl_ok ci r hc
  exact va_castS hx hb ho (hts _ hw) (hK.K.1 ci r hc).2 (va_recv hK.K (HP.obj hH hk hci) hc (q0 := 0) rfl) hd (kk H locs ls hH hL hl)
theorem r_castN (C : Cx l g d mc ms own Post J) {idx : Nat} (hd : decode d.b pc = .ok (.checkcast idx, 3)) (kk : J (pc + 3) lv (vr none :: st) S kc ns) : J pc lv (vr none :: st) S kc ns := by
  obtain ⟨p, e, s, m, args, below, meth, c, hx, hb, hml, hr, ho, hts, hlk, hK, hnm, Q0, hQ0, rfl⟩ := C
  intro H locs ls hH hL hl
  exact lv_castN hx hb hd (kk H locs ls hH hL hl)
/-- Object's constructor -/
theorem r_oinit (C : Cx l g d mc ms own Post J) {idx a : Nat} (hd : decode d.b pc = .ok (.invokespecial idx, 3)) (hw : Cond.methodLink own idx objectInit ∈ Wd) (h1 : 1 ≤ d.2.2.2.2.1) (h2 : ((st.map cv).map fun v => v.category).sum + 12 ≤ d.2.2.2.2.2) (kk : J (pc + 3) lv st S kc ns) : J pc lv (vr (some a) :: st) S kc ns := by
  obtain ⟨p, e, s, m, args, below, meth, c, hx, hb, hml, hr, ho, hts, hlk, hK, hnm, Q0, hQ0, rfl⟩ := C
  intro H locs ls hH hL hl
  refine W.objInit (a := a) (rest := st.map cv) hx hb ho (hts _ hw) (hts _ (wd_at 35 (by decide +kernel) rfl)) (hts _ (wd_at 36 (by decide +kernel) rfl)) rfl (by rw [hml]; exact hl.1) rfl hd h1 (by simpa [JFrame.monitorRoom] using h2) ?_
  exact kk H locs ls hH hL hl
end CallRows
