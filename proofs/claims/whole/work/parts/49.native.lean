/-! Natives, statics: rows that the class needs -/
def cfl : Nat → Cond → List Cond
  | n + 1, .and a b => cfl n a ++ cfl n b
  | _, c => [c]
theorem cfl_spec {args : Array Value} {s : State} : ∀ (n : Nat) (c : Cond), c.before args s = true → ∀ w ∈ cfl n c, w.before args s = true := by
  intro n
  induction n with
  | zero =>
    intro c h w hw
    unfold cfl at hw
    rw [List.mem_singleton.mp hw]
    exact h
  | succ n ih =>
    intro c h w hw
    unfold cfl at hw
    split at hw
    · next h0 =>
      cases h0
      rw [Cond.before_and, Bool.and_eq_true] at h
      rcases List.mem_append.mp hw with q | q
      · exact ih _ h.1 w q
      · exact ih _ h.2 w q
    · rw [List.mem_singleton.mp hw]
      exact h
def nrw : List Cond := cfl 40 narrow_1
theorem FC.n {g : GG} (h : FC g) : ∀ w ∈ nrw, w.before (gA g) (gS g) = true := by
  have h1 := h.2.1
  rw [Cond.before_and, Bool.and_eq_true] at h1
  exact cfl_spec 40 _ h1.2
abbrev tmS (j : Nat) : Term := .static (stN j).1 (stN j).2.1 (stN j).2.2
def elW (j N : Nat) (f : Nat → Int32) : List Cond := (List.range N).map (fun i => .eq (.elem (tmS j) (.int (Int32.ofNat i))) (.int (f i)))
theorem nr_1 : ∀ w ∈ [Cond.arrayOf (tmS 1) .int, .eq (.length (tmS 1)) (.int 8)] ++ elW 1 8 stT, w ∈ nrw := by decide +kernel
theorem nr_2 : ∀ w ∈ [Cond.arrayOf (tmS 2) .int, .eq (.length (tmS 2)) (.int 64)] ++ elW 2 64 rdT, w ∈ nrw := by decide +kernel
theorem nr_0 : ∀ w ∈ [Cond.arrayOf (tmS 0) (.object "java/lang/Object"), .eq (.length (tmS 0)) (.int 0), .isRef (.mirror "[Ljava/lang/Object;")], w ∈ nrw := by decide +kernel
theorem eq_int {a b : Term} {args : Array Value} {s : State} {v : Int32} (hb : b = .int v) (h : (Cond.eq a b).before args s = true) : a.eval args s none [] s = some (.int v) := by
  subst hb
  simp only [Cond.before, Cond.holds, Cond.value] at h
  cases e : a.eval args s none [] s with
  | none => simp [e, Term.eval] at h
  | some x =>
    rw [e] at h
    simp only [Term.eval] at h
    cases x <;> simp_all
theorem Z_eval {C n d : String} {v : Value} {A : Nat → Prop} {s : State} {args : Array Value} (h : va_Z C n d v A s s.heap) : (Term.static C n d).eval args s none [] s = some v := by
  obtain ⟨cf, kf, fi, f, a, cell, h1, h2, h3, h4, h5, h6, h7, -⟩ := h
  simp [Term.eval, State.fieldNamed?, h1, h2, h4, h5, h6, h7]
theorem AA_no (g : GG) : ∀ a : Nat, a < (gS g).heap.size → ¬ AA g a := fun a h q => by
  exact absurd h (Nat.not_lt.mpr q)
theorem T_of {g : GG} (h : FC g) {j N : Nat} {ty : FieldType} {f : Nat → Value} (hj : j < 3) (hN : N < 2 ^ 31) (ha : (Cond.arrayOf (tmS j) ty).before (gA g) (gS g) = true) (hl : (Term.length (tmS j)).eval (gA g) (gS g) none [] (gS g) = some (.int (Int32.ofNat N))) (he : ∀ i : Nat, i < N → (Term.elem (tmS j) (.int (Int32.ofNat i))).eval (gA g) (gS g) none [] (gS g) = some (f i)) : va_T ty (gT g j) N f (AA g) (gS g) (gH g) := by
  obtain ⟨t, h1, h2⟩ := va_Tof hN ha hl he (AA_no g)
  have h3 := Z_eval (args := gA g) (h.2.2.2 j hj)
  rw [h1] at h3
  cases h3
  exact h2
theorem KK.T1 {g : GG} {U : State} (h : KK g U) : va_T .int (gT g 1) 8 (fun i => .int (stT i)) (AA g) U (gH g) := by
  have hn := FC.n h.2
  refine va_T.moved h.1.alike (T_of h.2 (by omega) (by omega) (hn _ (nr_1 _ (by simp))) (eq_int rfl (hn _ (nr_1 _ (by simp)))) (fun i hi => ?_))
  exact eq_int rfl (hn _ (nr_1 _ (List.mem_append_right _ (List.mem_map.mpr ⟨i, List.mem_range.mpr hi, rfl⟩))))
theorem KK.T2 {g : GG} {U : State} (h : KK g U) : va_T .int (gT g 2) 64 (fun i => .int (rdT i)) (AA g) U (gH g) := by
  have hn := FC.n h.2
  refine va_T.moved h.1.alike (T_of h.2 (by omega) (by omega) (hn _ (nr_2 _ (by simp))) (eq_int rfl (hn _ (nr_2 _ (by simp)))) (fun i hi => ?_))
  exact eq_int rfl (hn _ (nr_2 _ (List.mem_append_right _ (List.mem_map.mpr ⟨i, List.mem_range.mpr hi, rfl⟩))))
theorem KK.T0 {g : GG} {U : State} (h : KK g U) : va_T (.object "java/lang/Object") (gT g 0) 0 (fun _ => .null) (AA g) U (gH g) := by
  have hn := FC.n h.2
  exact va_T.moved h.1.alike (T_of h.2 (by omega) (by omega) (hn _ (nr_0 _ (by simp))) (eq_int rfl (hn _ (nr_0 _ (by simp)))) (fun i hi => absurd hi (by omega)))
/-- the Class of arrays of Objects -/
def MIR (g : GG) (mi : Nat) : Prop := va_Mi "[Ljava/lang/Object;" mi (gS g)
theorem FC.mi {g : GG} (h : FC g) : ∃ mi, MIR g mi := va_Mi.of (FC.n h _ (nr_0 _ (by simp)))
theorem HP.s0 {g : GG} {S : hS} {H : Heap} (hH : HP g S H) : va_S (AA g) (gH g) H [] := by
  obtain ⟨L, -, -, -, h1, h2, -⟩ := hH
  exact ⟨h1, h2, fun _ h => by simp at h⟩
section Native
variable {l : Launch} {g : GG} {d : MD} {mc ms : Nat} {own : String} {Post : Option AV → hS → Prop} {J : JJ} {pc : Nat} {lv : List (Nat × AV)} {st : List AV} {S : hS} {kc ns : Nat}
theorem HP.no {H : Heap} {q : Nat} (hH : HP g S H) (h : ¬ AA g q) : sK S q = 0 := by
  obtain ⟨L, hLL, -, hD, -⟩ := hH
  by_cases e : sK S q = 0
  · exact e
  · obtain ⟨z, hz⟩ := va_pl_get (X := []) (f := cF g S) ((hLL q).mp e)
    exact absurd (hD.2 z _ hz) h
theorem r_gets (C : Cx l g d mc ms own Post J) (j : Nat) {idx : Nat} (hj : j < 3) (hw : Cond.fieldLink own idx (stN j).1 (stN j).2.1 (stN j).2.2 ∈ Wd) (hd : decode d.b pc = .ok (.getstatic idx, 3)) (kk : J (pc + 3) lv (vr (some (gT g j)) :: st) S kc ns) : J pc lv st S kc ns := by
  obtain ⟨p, e, s, m, args, below, meth, c, hx, hb, hml, hr, ho, hts, hlk, hK, hnm, Q0, hQ0, rfl⟩ := C
  intro H locs ls hH hL hl
  obtain ⟨cf, kf, fi, f, a, cell, h1, h2, h3, h4, h5, h6, h7, h8⟩ := hK.Z hj
  have hS := HP.s0 hH
  exact W.gets hx hb ho (hts _ hw) h1 h2 h3 h4 (by rw [hS.2.1 a (Array.getElem?_eq_some_iff.mp h5).1 h8]; exact h5) (fun e => by rw [e] at h6; cases h6) h7 rfl hd (kk H locs ls hH hL hl)
theorem T_cell {ty : FieldType} {t N : Nat} {f : Nat → Value} {U : State} {H : Heap} (hT : va_T ty t N f (AA g) U (gH g)) (hH : HP g S H) : va_T ty t N f (AA g) U H := hT.kept (fun a h1 h2 => (HP.s0 hH).2.1 a h1 h2)
theorem r_tlen {N j : Nat} {ty : FieldType} {f : Nat → Value} (C : Cx l g d mc ms own Post J) (hT : ∀ U, KK g U → va_T ty (gT g j) N f (AA g) U (gH g)) (hd : decode d.b pc = .ok (.arraylength, 1)) (kk : J (pc + 1) lv (vi (nI N) :: st) S kc ns) : J pc lv (vr (some (gT g j)) :: st) S kc ns := by
  obtain ⟨p, e, s, m, args, below, meth, c, hx, hb, hml, hr, ho, hts, hlk, hK, hnm, Q0, hQ0, rfl⟩ := C
  intro H locs ls hH hL hl
  obtain ⟨cell, h1, h2, h3, h4, h5, h6, h7⟩ := T_cell (hT s hK) hH
  exact W.alen (n := Int32.ofNat N) hx hb h1 h2 h5 rfl rfl hd (kk H locs ls hH hL hl)
theorem r_tald {N j i : Nat} {f : Nat → Int32} (C : Cx l g d mc ms own Post J) (hT : ∀ U, KK g U → va_T .int (gT g j) N (fun i => .int (f i)) (AA g) U (gH g)) (hN : N < 2 ^ 31) (hi : i < N) (hd : decode d.b pc = .ok (.iaload, 1)) (kk : J (pc + 1) lv (vi (f i) :: st) S kc ns) : J pc lv (vi (nI i) :: vr (some (gT g j)) :: st) S kc ns := by
  obtain ⟨p, e, s, m, args, below, meth, c, hx, hb, hml, hr, ho, hts, hlk, hK, hnm, Q0, hQ0, rfl⟩ := C
  intro H locs ls hH hL hl
  obtain ⟨cell, h1, h2, h3, h4, h5, h6, h7⟩ := T_cell (hT s hK) hH
  have hci : (nI i).toNatClampNeg = i := nI_clamp (by omega)
  refine W.iald (v := .int (f i)) hx hb h1 h2 h3 ?_ (by rw [hci]; exact h6 i hi) rfl rfl hd (kk H locs ls hH hL hl)
  rintro (q | q)
  · exact nI_pos (by omega) q
  · rw [hci] at q
    omega
/-- two arrays at once -/
theorem HP.arr3 {H : Heap} {locs : List Loc} {a b : Nat} (hH : HP g S H) (hL : LO g locs) (h20 : 20 ≤ sK S a) (hb20 : 20 ≤ sK S b) : ∃ (L : List Nat) (z z0 : Nat), (va_pl L (cF g S))[z]? = some (a, .inl (g.2.1 (ac (sK S a)), aV S (sK S a) a)) ∧ (va_pl L (cF g S))[z0]? = some (b, .inl (g.2.1 (ac (sK S b)), aV S (sK S b) b)) ∧ va_P g.1 vwCl (va_pl L (cF g S)) H ∧ va_D (AA g) (va_pl L (cF g S)) ∧ va_S (AA g) (gH g) H locs ∧
    ∀ (S2 : hS) (x : vp_A) (H1 : Heap) (locs1 : List Loc), S2.1 = S.1 → (∀ b, sK S b < 20 → fsF S2 (sK S b - 1) b = fsF S (sK S b - 1) b) → aV S2 (sK S a) a = x → (∀ b, b ≠ a → aV S2 (sK S b) b = aV S (sK S b) b) →
      va_P g.1 vwCl ((va_pl L (cF g S)).set z (a, .inl (g.2.1 (ac (sK S a)), x))) H1 → va_D (AA g) ((va_pl L (cF g S)).set z (a, .inl (g.2.1 (ac (sK S a)), x))) → va_S (AA g) (gH g) H1 locs1 → HP g S2 H1 ∧ LO g locs1 := by
  have hS := HP.S hH hL
  obtain ⟨L, hLL, hP, hD, -⟩ := hH
  have hmem : a ∈ L := (hLL a).mp (by omega)
  have hmemb : b ∈ L := (hLL b).mp (by omega)
  obtain ⟨z, hz⟩ := va_pl_get (X := []) (f := cF g S) hmem
  obtain ⟨z0, hz0⟩ := va_pl_get (X := []) (f := cF g S) hmemb
  have hz : (va_pl L (cF g S))[z]? = some (a, cF g S a) := hz
  have hz0 : (va_pl L (cF g S))[z0]? = some (b, cF g S b) := hz0
  have ea : cF g S a = .inl (g.2.1 (ac (sK S a)), aV S (sK S a) a) := by
    unfold cF
    rw [if_neg (by omega)]
  have eb : cF g S b = .inl (g.2.1 (ac (sK S b)), aV S (sK S b) b) := by
    unfold cF
    rw [if_neg (by omega)]
  refine ⟨L, z, z0, by rw [hz, ea], by rw [hz0, eb], hP, hD, hS, ?_⟩
  intro S2 x H1 locs1 e1 e2 e3 e4 hP1 hD1 hS1
  have hset : (va_pl L (cF g S)).set z (a, .inl (g.2.1 (ac (sK S a)), x)) = va_pl L (va_up (cF g S) a (.inl (g.2.1 (ac (sK S a)), x))) := va_pl_set (X := []) hD hmem hz
  rw [hset] at hP1 hD1
  refine HP.of (S := S) (S' := S2) ?_ (cF_arr h20 e1 e2 e3 e4) hP1 hD1 hS1
  intro b
  rw [← hLL b]
  show S2.1 b ≠ 0 ↔ S.1 b ≠ 0
  rw [e1]
theorem w_cst : Cond.static arraycopyName ∈ Wd := wd_at 304 (by decide +kernel) rfl
theorem w_cnt : Cond.native arraycopyName ∈ Wd := wd_at 305 (by decide +kernel) rfl
theorem w_sys : Cond.initialized "java/lang/System" ∈ Wd := wd_at 14 (by decide +kernel) rfl
def fB (x : Int32) : Prop := fits .byte (.int x) = true
/-- bytes are copied -/
theorem r_cpyB (C : Cx l g d mc ms own Post J) {idx a b r r2 : Nat} {sp dp n : Int32} (hw : Cond.methodLink own idx arraycopyName ∈ Wd) (hd : decode d.b pc = .ok (.invokestatic idx, 3)) (hk : sK S a = r) (h30 : 20 ≤ r ∧ r < 30) (hk2 : sK S b = r2) (h31 : 20 ≤ r2 ∧ r2 < 30) (h1 : ¬ sp < 0) (h2 : ¬ dp < 0) (h3 : ¬ n < 0) (h4 : sp.toNatClampNeg + n.toNatClampNeg ≤ sN S b) (h5 : dp.toNatClampNeg + n.toNatClampNeg ≤ sN S a) (hfit : ∀ i, i < n.toNatClampNeg → fB (aI S r2 b (sp.toNatClampNeg + i)))
    (q1 : 1 ≤ d.2.2.2.2.1) (q2 : ((st.map cv).map fun v => v.category).sum + (nativeFrameWords "java/lang/System" "arraycopy" 5 + 11) ≤ d.2.2.2.2.2)
    (kk : J (pc + 3) lv st (putI S r a (va_cpy (aI S r2 b) (aI S r a) sp.toNatClampNeg dp.toNatClampNeg n.toNatClampNeg)) kc ns) : J pc lv (vi n :: vi dp :: vr (some a) :: vi sp :: vr (some b) :: st) S kc ns := by
  obtain ⟨p, e, s, m, args, below, meth, c, hx, hb, hml, hr, ho, hts, hlk, hK, hnm, Q0, hQ0, rfl⟩ := C
  intro H locs ls hH hL hl
  subst hk; subst hk2
  have e1 : ac (sK S a) = 0 := by unfold ac; rw [if_pos (by omega)]
  have e2 : ac (sK S b) = 0 := by unfold ac; rw [if_pos (by omega)]
  obtain ⟨L, z, z0, hz, hz0, hP, hD, hS, fin⟩ := HP.arr3 (a := a) (b := b) hH hL (by omega) (by omega)
  rw [aV_i (by omega) (by omega)] at hz
  rw [aV_i (by omega) (by omega)] at hz0
  refine va_copyi hx hb (by rw [hml]; exact hl.1.symm) ho (hts _ hw) (hts _ w_cnt) (hts _ w_cst) (hts _ w_sys) hK.K hP hD hS z0 z 0 0 hz0 hz (by rw [tysF_at g (by omega), e2]; rfl) (by rw [tysF_at g (by omega), e1]; rfl) rfl h1 h2 h3 h4 h5 hfit q1 q2 hd fun H1 locs1 hP1 hD1 hS1 => ?_
  obtain ⟨hH1, hL1⟩ := fin (putI S (sK S a) a (va_cpy (aI S (sK S b) b) (aI S (sK S a) a) sp.toNatClampNeg dp.toNatClampNeg n.toNatClampNeg)) _ H1 locs1 rfl (fun _ _ => rfl) (aV_putI_self (by omega) (by omega)) (fun b h => aV_putI_ne h) hP1 hD1 hS1
  exact kk H1 locs1 ls hH1 hL1 hl
/-- references are copied between arrays of Objects -/
theorem r_cpyR (C : Cx l g d mc ms own Post J) {idx a b r r2 : Nat} {sp dp n : Int32} (hw : Cond.methodLink own idx arraycopyName ∈ Wd) (hd : decode d.b pc = .ok (.invokestatic idx, 3)) (hk : sK S a = r) (h30 : 104 ≤ r) (hk2 : sK S b = r2) (h31 : 104 ≤ r2) (h1 : ¬ sp < 0) (h2 : ¬ dp < 0) (h3 : ¬ n < 0) (h4 : sp.toNatClampNeg + n.toNatClampNeg ≤ sN S b) (h5 : dp.toNatClampNeg + n.toNatClampNeg ≤ sN S a) (hel : ∀ i, i < n.toNatClampNeg → ∀ y, aR S r2 b (sp.toNatClampNeg + i) = some y → ∃ ci, (ci = 9 ∨ ci = 6) ∧ sK S y = ci + 1)
    (q1 : 1 ≤ d.2.2.2.2.1) (q2 : ((st.map cv).map fun v => v.category).sum + (nativeFrameWords "java/lang/System" "arraycopy" 5 + 11) ≤ d.2.2.2.2.2)
    (kk : J (pc + 3) lv st (putR S r a (va_cpy (aR S r2 b) (aR S r a) sp.toNatClampNeg dp.toNatClampNeg n.toNatClampNeg)) kc ns) : J pc lv (vi n :: vi dp :: vr (some a) :: vi sp :: vr (some b) :: st) S kc ns := by
  obtain ⟨p, e, s, m, args, below, meth, c, hx, hb, hml, hr, ho, hts, hlk, hK, hnm, Q0, hQ0, rfl⟩ := C
  intro H locs ls hH hL hl
  subst hk; subst hk2
  have a7 : ∀ x, 104 ≤ x → ac x = 7 := fun x hx => by unfold ac; rw [if_neg (by omega), if_neg (by omega), if_neg (by omega), if_neg (by omega), if_neg (by omega), if_neg (by omega), if_neg (by omega)]
  have e1 := a7 _ h30
  have e2 := a7 _ h31
  have hany : ∀ i, i < n.toNatClampNeg → ∀ y, aR S (sK S b) b (sp.toNatClampNeg + i) = some y → va_Any "java/lang/Object" s H y := fun i hi y hy => by
    obtain ⟨ci, h6, h7⟩ := hel i hi y hy
    exact any_obj hK hH h6 h7
  obtain ⟨L, z, z0, hz, hz0, hP, hD, hS, fin⟩ := HP.arr3 (a := a) (b := b) hH hL (by omega) (by omega)
  rw [aV_r (by omega)] at hz
  rw [aV_r (by omega)] at hz0
  refine va_copyM hx hb (by rw [hml]; exact hl.1.symm) ho (hts _ hw) (hts _ w_cnt) (hts _ w_cst) (hts _ w_sys) hK.K hP hD hS z0 z 7 7 hz0 hz (by rw [tysF_at g (by omega), e2]; rfl) (by rw [tysF_at g (by omega), e1]; rfl) h1 h2 h3 h4 h5 hany q1 q2 hd fun H1 locs1 hP1 hD1 hS1 => ?_
  obtain ⟨hH1, hL1⟩ := fin (putR S (sK S a) a (va_cpy (aR S (sK S b) b) (aR S (sK S a) a) sp.toNatClampNeg dp.toNatClampNeg n.toNatClampNeg)) _ H1 locs1 rfl (fun _ _ => rfl) (aV_putR_self (by omega)) (fun b h => aV_putR_ne h) hP1 hD1 hS1
  exact kk H1 locs1 ls hH1 hL1 hl
/-- ints of a constant array are copied -/
theorem r_cpyT (C : Cx l g d mc ms own Post J) {idx a r j N n : Nat} {f : Nat → Int32} (hT : ∀ U, KK g U → va_T .int (gT g j) N (fun i => .int (f i)) (AA g) U (gH g)) (hw : Cond.methodLink own idx arraycopyName ∈ Wd) (hd : decode d.b pc = .ok (.invokestatic idx, 3)) (hk : sK S a = r) (h30 : 30 ≤ r ∧ r < 80) (hnN : n ≤ N) (hn : n < 2 ^ 31) (h5 : n ≤ sN S a)
    (q1 : 1 ≤ d.2.2.2.2.1) (q2 : ((st.map cv).map fun v => v.category).sum + (nativeFrameWords "java/lang/System" "arraycopy" 5 + 11) ≤ d.2.2.2.2.2)
    (kk : J (pc + 3) lv st (putI S r a (va_cpy f (aI S r a) 0 0 n)) kc ns) : J pc lv (vi (nI n) :: vi (nI 0) :: vr (some a) :: vi (nI 0) :: vr (some (gT g j)) :: st) S kc ns := by
  obtain ⟨p, e, s, m, args, below, meth, c, hx, hb, hml, hr, ho, hts, hlk, hK, hnm, Q0, hQ0, rfl⟩ := C
  intro H locs ls hH hL hl
  subst hk
  have e1 : ac (sK S a) = 1 := by unfold ac; rw [if_neg (by omega), if_pos (by omega)]
  have hcn : (nI n).toNatClampNeg = n := nI_clamp hn
  have hc0 : (nI 0).toNatClampNeg = 0 := nI_clamp (by omega)
  obtain ⟨scr, hs1, hs2, hs3, hs4, hs4b, hs5, hs5b⟩ := T_cell (hT s hK) hH
  obtain ⟨L, z, hz, hP, hD, hS, fin⟩ := HP.arr2 (a := a) hH hL (by omega)
  rw [aV_i (by omega) (by omega)] at hz
  intro T hT2 X
  have hca : H[a]? = some (vp_cell (g.2.1 (ac (sK S a))) (sN S a, .inl (aI S (sK S a) a))) := hP z _ hz
  have ht1 : (tysF g)[1]? = some (g.2.1 (ac (sK S a)), .int) := by rw [tysF_at g (by omega), e1]; rfl
  obtain ⟨hs6, k0, hk0, cm0, hkk0⟩ := hs2
  obtain ⟨-, k1, hk1, cm1, hkk1⟩ := (hK.K.2 1 _ ht1).1 (sN S a) (fun j => .int (aI S (sK S a) a j))
  obtain ⟨vm', X', step⟩ := X.arraycopy hx ho (hts _ hw) (hts _ w_cnt) (hts _ w_cst) (hts _ w_sys) (src := gT g j) (dst := a) (cs := scr) (cd := vp_cell (g.2.1 (ac (sK S a))) (sN S a, .inl (aI S (sK S a) a))) (srcPos := nI 0) (destPos := nI 0) (n := nI n) (by rw [hT2]; exact hs1) (by rw [hT2]; exact hca)
    hs6 (fun _ h => by cases h) hs3 (fun h => by cases h) hk0 hk1 hkk0 hkk1 (by simp [refKind]) (nI_pos (by omega)) (nI_pos (by omega)) (nI_pos hn)
    (by rw [nI_toInt (by omega), nI_toInt hn]; omega)
    (by rw [nI_toInt (by omega), nI_toInt hn]; show ¬ _ > ((arrV (g.2.1 (ac (sK S a))) (sN S a) (fun j => .int (aI S (sK S a) a j))).slots.size : Int); rw [arrV_size]; omega)
    (fun vm₁ _ i hi => by
      rw [hcn] at hi
      have e : scr.slots.getD ((nI 0).toNatClampNeg + i) .null = .int (f i) := by
        rw [hc0, Nat.zero_add, Array.getD_eq_getD_getElem?, hs5 _ (by omega)]
        rfl
      refine ⟨?_, ?_⟩
      · rw [e]
        rfl
      · rw [e]
        exact trivial)
    (g := F0 m pc ls (.int (nI n) :: .int (nI 0) :: .ref a :: .int (nI 0) :: .ref (gT g j) :: st.map cv)) rfl (by rw [hml]; exact hl.1) (rest := st.map cv) rfl (by rw [hb]; exact hd) q1 (by show 2 * 0 + _ + _ ≤ _; have q3 : _ ≤ (d.rm mc ms).locals := q2; omega)
  have e9 : copied scr (vp_cell (g.2.1 (ac (sK S a))) (sN S a, .inl (aI S (sK S a) a))) (nI 0) (nI 0) (nI n) = vp_cell (g.2.1 (ac (sK S a))) (sN S a, .inl (va_cpy f (aI S (sK S a) a) 0 0 n)) := by
    have h : copied scr (vp_cell (g.2.1 (ac (sK S a))) (sN S a, .inl (aI S (sK S a) a))) (nI 0) (nI 0) (nI n) = vp_cell (g.2.1 (ac (sK S a))) (sN S a, .inl (va_cpy f (aI S (sK S a) a) (nI 0).toNatClampNeg (nI 0).toNatClampNeg (nI n).toNatClampNeg)) := va_copiedX (fun z => .int z) scr (g.2.1 (ac (sK S a))) f (aI S (sK S a) a) hs5 (by rw [hc0, hcn]; omega)
    rw [hc0, hcn] at h
    exact h
  rw [e9] at X' step
  have hl2 : a < H.size := (Array.getElem?_eq_some_iff.mp hca).1
  have hheap : ((T.setVm vm').setCell a (vp_cell (g.2.1 (ac (sK S a))) (sN S a, .inl (va_cpy f (aI S (sK S a) a) 0 0 n)))).heap = H.setIfInBounds a (vp_cell (g.2.1 (ac (sK S a))) (sN S a, .inl (va_cpy f (aI S (sK S a) a) 0 0 n))) := by rw [← hT2]; rfl
  have oq : ∀ q : Nat, q ≠ a → (H.setIfInBounds a (vp_cell (g.2.1 (ac (sK S a))) (sN S a, .inl (va_cpy f (aI S (sK S a) a) 0 0 n))))[q]? = H[q]? := fun q hq => by simp [Array.getElem?_setIfInBounds, Ne.symm hq]
  have hAa : AA g a := hD.2 z _ hz
  have h3 := fin (putI S (sK S a) a (va_cpy f (aI S (sK S a) a) 0 0 n)) _ (H.setIfInBounds a (vp_cell (g.2.1 (ac (sK S a))) (sN S a, .inl (va_cpy f (aI S (sK S a) a) 0 0 n)))) locs rfl (fun _ _ => rfl) (aV_putI_self (by omega) (by omega)) (fun b h => aV_putI_ne h)
    (hP.set hD hz (show (H.setIfInBounds a _)[a]? = some _ by simp [Array.getElem?_setIfInBounds, hl2]) oq) (hD.set hz) ⟨by simp; exact hS.1, fun q g1 g2 => by
      rw [oq q (fun e => g2 (by rw [e]; exact hAa))]
      exact hS.2.1 q g1 g2, hS.2.2⟩
  obtain ⟨t, a1, b1⟩ := kk _ _ ls h3.1 (fun q hq => by
      rcases List.mem_append.mp hq with h | h
      · exact hL q h
      · obtain ⟨z, -, hz⟩ := List.mem_map.mp h
        rw [← hz]
        exact hAa) hl _ hheap X'
  exact ⟨t, step t a1, b1⟩
/-- the class of an array of Objects -/
theorem w_gc1 : Cond.declares ⟨"java/lang/Object", "getClass", "()Ljava/lang/Class;"⟩ ∈ tables_1 := List.mem_of_getElem? (i := 1573) (by decide +kernel)
theorem w_gc2 : Cond.selects "[Ljava/lang/Object;" ⟨"java/lang/Object", "getClass", "()Ljava/lang/Class;"⟩ ⟨"java/lang/Object", "getClass", "()Ljava/lang/Class;"⟩ ∈ Wd := wd_at 1572 (by decide +kernel) rfl
theorem w_gc3 : Cond.instanceMethod ⟨"java/lang/Object", "getClass", "()Ljava/lang/Class;"⟩ ∈ Wd := wd_at 275 (by decide +kernel) rfl
theorem w_gc4 : Cond.native ⟨"java/lang/Object", "getClass", "()Ljava/lang/Class;"⟩ ∈ Wd := wd_at 293 (by decide +kernel) rfl
theorem w_gc5 : Cond.methodLink RJ7 86 ⟨"java/lang/Object", "getClass", "()Ljava/lang/Class;"⟩ ∈ Wd := wd_at 274 (by decide +kernel) rfl
theorem r_getC (C : Cx l g d mc ms own Post J) {idx a r mi : Nat} (hw : Cond.methodLink own idx ⟨"java/lang/Object", "getClass", "()Ljava/lang/Class;"⟩ ∈ Wd) (hM : MIR g mi) (hk : sK S a = r) (h30 : 104 ≤ r) (hd : decode d.b pc = .ok (.invokevirtual idx, 3)) (q1 : 1 ≤ d.2.2.2.2.1) (q2 : ((st.map cv).map fun v => v.category).sum + 14 ≤ d.2.2.2.2.2) (kk : J (pc + 3) lv (vr (some mi) :: st) S kc ns) : J pc lv (vr (some a) :: st) S kc ns := by
  obtain ⟨p, e, s, m, args, below, meth, c, hx, hb, hml, hr, ho, hts, hlk, hK, hnm, Q0, hQ0, rfl⟩ := C
  intro H locs ls hH hL hl
  subst hk
  have e1 : ac (sK S a) = 7 := by unfold ac; rw [if_neg (by omega), if_neg (by omega), if_neg (by omega), if_neg (by omega), if_neg (by omega), if_neg (by omega), if_neg (by omega)]
  have h1 := HP.arr hH (a := a) (by omega) 0 _ rfl
  rw [aV_r (by omega)] at h1
  have h2 := (hK.K.2 7 _ (tysF_at g (by omega))).2
  obtain ⟨_, _, _, _, _, h4⟩ := h2
  refine va_getC hx hb (by rw [hml]; exact hl.1.symm) ho (hts _ hw) (va_Dc.use (va_Dc.moved hK.1.alike (va_Dc.of (hK.2.1 _ (List.mem_append_right _ w_gc1))))) (hts _ w_gc2) (hts _ w_gc3) (hts _ w_gc4) (hM.moved hK.1.alike) ⟨_, h1, rfl, ?_⟩ q1 q2 hd (kk H locs ls hH hL hl)
  show s.vm.findClass "[Ljava/lang/Object;" = some (g.2.1 (ac (sK S a)))
  rw [e1]
  exact h4
theorem r_ldcM (C : Cx l g d mc ms own Post J) {idx mi : Nat} (hw : Cond.classLink own idx "[Ljava/lang/Object;" ∈ Wd) (hM : MIR g mi) (hd : decode d.b pc = .ok (.ldc idx, 2)) (kk : J (pc + 2) lv (vr (some mi) :: st) S kc ns) : J pc lv st S kc ns := by
  obtain ⟨p, e, s, m, args, below, meth, c, hx, hb, hml, hr, ho, hts, hlk, hK, hnm, Q0, hQ0, rfl⟩ := C
  intro H locs ls hH hL hl
  exact va_ldcM hx hb ho (hts _ hw) (hM.moved hK.1.alike) hd (kk H locs ls hH hL hl)
theorem cF_putI {q k b : Nat} {f : Nat → Int32} (hb : b ≠ q) : cF g (putI S k q f) b = cF g S b := by
  unfold cF
  show (if sK S b < 20 then _ else _) = _
  rw [aV_putI_ne hb]
  rfl
theorem w_cl1 : Cond.methodLink RJ7 310 ⟨"[B", "clone", "()Ljava/lang/Object;"⟩ ∈ Wd := wd_at 726 (by decide +kernel) rfl
theorem w_cl2 : Cond.sameMethod "[B" "java/lang/Object" "clone" "()Ljava/lang/Object;" ∈ Wd := wd_at 727 (by decide +kernel) rfl
theorem w_cl3 : Cond.native ⟨"java/lang/Object", "clone", "()Ljava/lang/Object;"⟩ ∈ Wd := wd_at 728 (by decide +kernel) rfl
theorem w_cl4 : Cond.instanceMethod ⟨"java/lang/Object", "clone", "()Ljava/lang/Object;"⟩ ∈ Wd := wd_at 729 (by decide +kernel) rfl
theorem w_cl5 : Cond.selects "[B" ⟨"[B", "clone", "()Ljava/lang/Object;"⟩ ⟨"java/lang/Object", "clone", "()Ljava/lang/Object;"⟩ ∈ Wd := wd_at 730 (by decide +kernel) rfl
/-- a row of bytes once more -/
theorem r_cloneB (C : Cx l g d mc ms own Post J) {idx a r : Nat} (k : Nat) (hw : Cond.methodLink own idx ⟨"[B", "clone", "()Ljava/lang/Object;"⟩ ∈ Wd) (hd : decode d.b pc = .ok (.invokevirtual idx, 3)) (hk : sK S a = r) (h30 : 20 ≤ r ∧ r < 30) (hkk : 20 ≤ k ∧ k < 30) (hfit : ∀ i, i < sN S a → fB (aI S r a i)) (q1 : 1 ≤ d.2.2.2.2.1) (q2 : ((st.map cv).map fun v => v.category).sum + 14 ≤ d.2.2.2.2.2) (h1 : kc + 1 ≤ mc) (h2 : ns + sN S a ≤ ms)
    (kk : ∀ q, sK S q = 0 → J (pc + 3) lv (vr (some q) :: st) (putI (newA S q k (sN S a)) k q (aI S r a)) (kc + 1) (ns + sN S a)) : J pc lv (vr (some a) :: st) S kc ns := by
  obtain ⟨p, e, s, m, args, below, meth, c, hx, hb, hml, hr, ho, hts, hlk, hK, hnm, Q0, hQ0, rfl⟩ := C
  intro H locs ls hH hL hl
  subst hk
  have e1 : ac (sK S a) = 0 := by unfold ac; rw [if_pos (by omega)]
  have e2 : ac k = 0 := by unfold ac; rw [if_pos (by omega)]
  have hS := HP.S hH hL
  obtain ⟨L, hLL, hP, hD, -⟩ := hH
  have hmem : a ∈ L := (hLL a).mp (by omega)
  obtain ⟨z, hz⟩ := va_pl_get (X := []) (f := cF g S) hmem
  have hz : (va_pl L (cF g S))[z]? = some (a, cF g S a) := hz
  have ea : cF g S a = .inl (g.2.1 0, sN S a, .inl (aI S (sK S a) a)) := by
    unfold cF
    rw [if_neg (by omega), aV_i (by omega) (by omega), e1]
  rw [ea] at hz
  have ht : (tysF g)[0]? = some (g.2.1 0, .byte) := tysF_at g (by omega)
  refine va_clone hx hb (by rw [hml]; exact hl.1.symm) ho (hts _ hw) (hts _ w_cl2) (hts _ w_cl3) (hts _ w_cl4) (hts _ w_cl5) (va_Nw.warmC hK.1 (va_Nw.of rfl (hK.2.1 _ (List.mem_append_right _ (List.mem_of_getElem? (i := 731) (by decide +kernel)))))) hK.K hP hD hS (AA_ge g) z 0 hz ht ((hK.K.2 0 _ ht).2) ?_ q1 q2 h1 h2 hd fun q H1 hK1 hP1 hD1 hS1 => ?_
  · intro i v hv
    obtain ⟨h3, h4⟩ := Array.getElem?_eq_some_iff.mp hv
    have h5 : i < sN S a := by
      have : (vp_cell (g.2.1 0) (sN S a, .inl (aI S (sK S a) a))).slots.size = sN S a := by show (arrV _ _ _).slots.size = _; rw [arrV_size]
      omega
    have h6 : (vp_cell (g.2.1 0) (sN S a, .inl (aI S (sK S a) a))).slots[i]? = some (.int (aI S (sK S a) a i)) := by show (arrV _ _ _).slots[_]? = _; rw [arrV_read _ _ h5]
    rw [hv] at h6
    cases h6
    exact hfit i h5
  · obtain ⟨h0, hH1, hL1⟩ := HP.push (S2 := putI (newA S q k (sN S a)) k q (aI S (sK S a) a)) hLL (K_newA (n := sN S a) (by omega)) (by
        show cF g (putI (newA S q k (sN S a)) k q (aI S (sK S a) a)) q = _
        have hkq : sK (putI (newA S q k (sN S a)) k q (aI S (sK S a) a)) q = k := va_up_self _ _ _
        unfold cF
        rw [hkq, if_neg (by omega), aV_putI_self (by omega) (by omega), e2]
        show (Sum.inl (g.2.1 0, va_up S.2.2.2.2.1 q (sN S a) q, _) : va_E) = _
        rw [va_up_self]) (fun b hb => (cF_putI hb).trans (cF_newA hb)) hD hP1 hD1 hS1
    exact kk q h0 H1 locs ls hH1 hL1 hl
theorem r_castB (C : Cx l g d mc ms own Post J) {idx a r : Nat} (hw : Cond.classLink own idx "[B" ∈ Wd) (hd : decode d.b pc = .ok (.checkcast idx, 3)) (hk : sK S a = r) (h30 : 20 ≤ r ∧ r < 30) (kk : J (pc + 3) lv (vr (some a) :: st) S kc ns) : J pc lv (vr (some a) :: st) S kc ns := by
  obtain ⟨p, e, s, m, args, below, meth, c, hx, hb, hml, hr, ho, hts, hlk, hK, hnm, Q0, hQ0, rfl⟩ := C
  intro H locs ls hH hL hl
  subst hk
  have e1 : ac (sK S a) = 0 := by unfold ac; rw [if_pos (by omega)]
  have hP := HP.arr hH (a := a) (by omega)
  rw [e1] at hP
  exact va_castA hx hb ho (hts _ hw) hP 0 rfl ((hK.K.2 0 _ (tysF_at g (by omega))).2) hd (kk H locs ls hH hL hl)
end Native
