/-! Arrays -/
section ArrRows
variable {l : Launch} {g : GG} {d : MD} {mc ms : Nat} {own : String} {Post : Option AV → hS → Prop} {J : JJ} {pc : Nat} {lv : List (Nat × AV)} {st : List AV} {S : hS} {kc ns : Nat}
theorem ac_lt (k : Nat) : ac k < 8 := by unfold ac; repeat (first | omega | split)
theorem aV_i {k a : Nat} (h : ac k < 4) (h2 : ac k ≠ 2) : aV S k a = (sN S a, .inl (aI S k a)) := by simp [aV, h, h2]
theorem aV_l {k a : Nat} (h : ac k = 2) : aV S k a = (sN S a, .inr (.inl (aJ S k a))) := by simp [aV, h]
theorem aV_r {k a : Nat} (h : 4 ≤ ac k) : aV S k a = (sN S a, .inr (.inr (.inr (.inr (aR S k a))))) := by
  have h1 : ¬ ac k = 2 := by omega
  have h2 : ¬ ac k < 4 := by omega
  simp [aV, h1, h2]
theorem r_alen (C : Cx l g d mc ms own Post J) {a r : Nat} (hd : decode d.b pc = .ok (.arraylength, 1)) (hk : sK S a = r) (h20 : 20 ≤ r) (kk : J (pc + 1) lv (vi (nI (sN S a)) :: st) S kc ns) : J pc lv (vr (some a) :: st) S kc ns := by
  obtain ⟨p, e, s, m, args, below, meth, c, hx, hb, hml, hr, ho, hts, hlk, hK, hnm, Q0, hQ0, rfl⟩ := C
  intro H locs ls hH hL hl
  subst hk
  refine va_alen hx hb hK.K (HP.arr hH h20) 0 _ rfl (tysF_at g (ac_lt _)) (v := nI (sN S a)) ?_ hd (kk H locs ls hH hL hl)
  rfl
theorem r_iald (C : Cx l g d mc ms own Post J) {a r j : Nat} {i : Int32} (hd : decode d.b pc = .ok (.iaload, 1)) (hk : sK S a = r) (h30 : 30 ≤ r ∧ r < 80) {nn : Nat} (hnn : sN S a = nn) (hin : vp_in i nn) (hj : i.toNatClampNeg = j) (kk : J (pc + 1) lv (vi (aI S r a j) :: st) S kc ns) : J pc lv (vi i :: vr (some a) :: st) S kc ns := by
  obtain ⟨p, e, s, m, args, below, meth, c, hx, hb, hml, hr, ho, hts, hlk, hK, hnm, Q0, hQ0, rfl⟩ := C
  intro H locs ls hH hL hl
  subst hj; subst hnn
  have e1 : ac (sK S a) = 1 := by rw [hk]; unfold ac; rw [if_neg (by omega), if_pos (by omega)]
  have hP := HP.arr hH (a := a) (by omega)
  rw [aV_i (by omega) (by omega)] at hP
  subst hk
  exact va_iald hx hb hK.K hP 0 1 rfl (by rw [tysF_at g (by omega)]; rw [e1]; rfl) hin hd (kk H locs ls hH hL hl)
theorem r_lald (C : Cx l g d mc ms own Post J) {a r j : Nat} {i : Int32} (hd : decode d.b pc = .ok (.laload, 1)) (hk : sK S a = r) (h30 : 80 ≤ r ∧ r < 85) {nn : Nat} (hnn : sN S a = nn) (hin : vp_in i nn) (hj : i.toNatClampNeg = j) (kk : J (pc + 1) lv (vl (aJ S r a j) :: st) S kc ns) : J pc lv (vi i :: vr (some a) :: st) S kc ns := by
  obtain ⟨p, e, s, m, args, below, meth, c, hx, hb, hml, hr, ho, hts, hlk, hK, hnm, Q0, hQ0, rfl⟩ := C
  intro H locs ls hH hL hl
  subst hj; subst hnn
  have e1 : ac (sK S a) = 2 := by rw [hk]; unfold ac; rw [if_neg (by omega), if_neg (by omega), if_pos (by omega)]
  have hP := HP.arr hH (a := a) (by omega)
  rw [aV_l e1] at hP
  subst hk
  exact va_lald hx hb hK.K hP 0 2 rfl (by rw [tysF_at g (by omega)]; rw [e1]; rfl) hin hd (kk H locs ls hH hL hl)
theorem r_bald (C : Cx l g d mc ms own Post J) {a r j : Nat} {i : Int32} (hd : decode d.b pc = .ok (.baload, 1)) (hk : sK S a = r) (h30 : 20 ≤ r ∧ r < 30) {nn : Nat} (hnn : sN S a = nn) (hin : vp_in i nn) (hj : i.toNatClampNeg = j) (kk : J (pc + 1) lv (vi (aI S r a j) :: st) S kc ns) : J pc lv (vi i :: vr (some a) :: st) S kc ns := by
  obtain ⟨p, e, s, m, args, below, meth, c, hx, hb, hml, hr, ho, hts, hlk, hK, hnm, Q0, hQ0, rfl⟩ := C
  intro H locs ls hH hL hl
  subst hj; subst hnn
  have e1 : ac (sK S a) = 0 := by rw [hk]; unfold ac; rw [if_pos (by omega)]
  have hP := HP.arr hH (a := a) (by omega)
  rw [aV_i (by omega) (by omega)] at hP
  subst hk
  exact va_bald hx hb hK.K hP 0 0 rfl (by rw [tysF_at g (by omega)]; rw [e1]; rfl) hin hd (kk H locs ls hH hL hl)
theorem r_zald (C : Cx l g d mc ms own Post J) {a r j : Nat} {i : Int32} (hd : decode d.b pc = .ok (.baload, 1)) (hk : sK S a = r) (h30 : 85 ≤ r ∧ r < 100) {nn : Nat} (hnn : sN S a = nn) (hin : vp_in i nn) (hj : i.toNatClampNeg = j) (kk : J (pc + 1) lv (vi (aI S r a j) :: st) S kc ns) : J pc lv (vi i :: vr (some a) :: st) S kc ns := by
  obtain ⟨p, e, s, m, args, below, meth, c, hx, hb, hml, hr, ho, hts, hlk, hK, hnm, Q0, hQ0, rfl⟩ := C
  intro H locs ls hH hL hl
  subst hj; subst hnn
  have e1 : ac (sK S a) = 3 := by rw [hk]; unfold ac; rw [if_neg (by omega), if_neg (by omega), if_neg (by omega), if_pos (by omega)]
  have hP := HP.arr hH (a := a) (by omega)
  rw [aV_i (by omega) (by omega)] at hP
  subst hk
  exact va_zald hx hb hK.K hP 0 3 rfl (by rw [tysF_at g (by omega)]; rw [e1]; rfl) hin hd (kk H locs ls hH hL hl)
theorem tyA_r {j : Nat} (h : 4 ≤ j) : ∃ C, tyA j = .object C := by
  match j, h with
  | 4, _ => exact ⟨_, rfl⟩
  | 5, _ => exact ⟨_, rfl⟩
  | 6, _ => exact ⟨_, rfl⟩
  | k + 7, _ => exact ⟨_, rfl⟩
theorem ac_r {r : Nat} (h : 100 ≤ r) : 4 ≤ ac r := by
  unfold ac
  rw [if_neg (by omega), if_neg (by omega), if_neg (by omega), if_neg (by omega)]
  repeat (first | omega | split)
theorem r_aald (C : Cx l g d mc ms own Post J) {a r j : Nat} {i : Int32} (hd : decode d.b pc = .ok (.aaload, 1)) (hk : sK S a = r) (h30 : 100 ≤ r) {nn : Nat} (hnn : sN S a = nn) (hin : vp_in i nn) (hj : i.toNatClampNeg = j) (kk : J (pc + 1) lv (vr (aR S r a j) :: st) S kc ns) : J pc lv (vi i :: vr (some a) :: st) S kc ns := by
  obtain ⟨p, e, s, m, args, below, meth, c, hx, hb, hml, hr, ho, hts, hlk, hK, hnm, Q0, hQ0, rfl⟩ := C
  intro H locs ls hH hL hl
  subst hj; subst hnn
  have e1 : 4 ≤ ac (sK S a) := ac_r (by omega)
  obtain ⟨Cn, hC⟩ := tyA_r e1
  have hP := HP.arr hH (a := a) (by omega)
  rw [aV_r e1] at hP
  subst hk
  exact va_aldq (C := Cn) hx hb hK.K hP 0 (ac (sK S a)) rfl (by rw [tysF_at g (ac_lt _), hC]) hin hd (kk H locs ls hH hL hl)
/-- an array's cell is put anew -/
theorem cF_arr {S2 : hS} {a : Nat} {x : vp_A} (h20 : 20 ≤ sK S a) (e1 : S2.1 = S.1) (e2 : ∀ b, sK S b < 20 → fsF S2 (sK S b - 1) b = fsF S (sK S b - 1) b) (e3 : aV S2 (sK S a) a = x) (e4 : ∀ b, b ≠ a → aV S2 (sK S b) b = aV S (sK S b) b) (b : Nat) : va_up (cF g S) a (.inl (g.2.1 (ac (sK S a)), x)) b = cF g S2 b := by
  have hKb : ∀ b, sK S2 b = sK S b := fun b => by show S2.1 b = S.1 b; rw [e1]
  by_cases hb : b = a
  · subst hb
    rw [va_up_self]
    unfold cF
    rw [hKb, if_neg (by omega), e3]
  · rw [va_up_ne _ _ hb]
    unfold cF
    rw [hKb, e4 b hb]
    split
    · next h => rw [e2 b h]
    · rfl
theorem HP.arr2 {H : Heap} {locs : List Loc} {a : Nat} (hH : HP g S H) (hL : LO g locs) (h20 : 20 ≤ sK S a) : ∃ (L : List Nat) (z : Nat), (va_pl L (cF g S))[z]? = some (a, .inl (g.2.1 (ac (sK S a)), aV S (sK S a) a)) ∧ va_P g.1 vwCl (va_pl L (cF g S)) H ∧ va_D (AA g) (va_pl L (cF g S)) ∧ va_S (AA g) (gH g) H locs ∧
    ∀ (S2 : hS) (x : vp_A) (H1 : Heap) (locs1 : List Loc), S2.1 = S.1 → (∀ b, sK S b < 20 → fsF S2 (sK S b - 1) b = fsF S (sK S b - 1) b) → aV S2 (sK S a) a = x → (∀ b, b ≠ a → aV S2 (sK S b) b = aV S (sK S b) b) →
      va_P g.1 vwCl ((va_pl L (cF g S)).set z (a, .inl (g.2.1 (ac (sK S a)), x))) H1 → va_D (AA g) ((va_pl L (cF g S)).set z (a, .inl (g.2.1 (ac (sK S a)), x))) → va_S (AA g) (gH g) H1 locs1 → HP g S2 H1 ∧ LO g locs1 := by
  have hS := HP.S hH hL
  obtain ⟨L, hLL, hP, hD, -⟩ := hH
  have hmem : a ∈ L := (hLL a).mp (by omega)
  obtain ⟨z, hz⟩ := va_pl_get (X := []) (f := cF g S) hmem
  have hz : (va_pl L (cF g S))[z]? = some (a, cF g S a) := hz
  have ea : cF g S a = .inl (g.2.1 (ac (sK S a)), aV S (sK S a) a) := by
    unfold cF
    rw [if_neg (by omega)]
  refine ⟨L, z, by rw [hz, ea], hP, hD, hS, ?_⟩
  intro S2 x H1 locs1 e1 e2 e3 e4 hP1 hD1 hS1
  have hset : (va_pl L (cF g S)).set z (a, .inl (g.2.1 (ac (sK S a)), x)) = va_pl L (va_up (cF g S) a (.inl (g.2.1 (ac (sK S a)), x))) := va_pl_set (X := []) hD hmem hz
  rw [hset] at hP1 hD1
  refine HP.of (S := S) (S' := S2) ?_ (cF_arr h20 e1 e2 e3 e4) hP1 hD1 hS1
  intro b
  rw [← hLL b]
  show S2.1 b ≠ 0 ↔ S.1 b ≠ 0
  rw [e1]
theorem aV_putI_self {r a : Nat} {f : Nat → Int32} (h : ac r < 4) (h2 : ac r ≠ 2) : aV (putI S r a f) r a = (sN S a, .inl f) := by
  rw [aV_i h h2]
  simp [aI, putI, u2r, sN]
theorem aV_putI_ne {r a k b : Nat} {f : Nat → Int32} (h : b ≠ a) : aV (putI S r a f) k b = aV S k b := by
  have e : aI (putI S r a f) k b = aI S k b := by
    simp only [aI, putI, u2r]
    split
    · first | rfl | rw [if_neg h]
    · rfl
  simp only [aV, e]
  rfl
theorem aV_putJ_self {r a : Nat} {f : Nat → Int64} (h : ac r = 2) : aV (putJ S r a f) r a = (sN S a, .inr (.inl f)) := by
  rw [aV_l h]
  simp [aJ, putJ, u2r, sN]
theorem aV_putJ_ne {r a k b : Nat} {f : Nat → Int64} (h : b ≠ a) : aV (putJ S r a f) k b = aV S k b := by
  have e : aJ (putJ S r a f) k b = aJ S k b := by
    simp only [aJ, putJ, u2r]
    split
    · first | rfl | rw [if_neg h]
    · rfl
  simp only [aV, e]
  rfl
theorem aV_putR_self {r a : Nat} {f : Nat → Option Nat} (h : 4 ≤ ac r) : aV (putR S r a f) r a = (sN S a, .inr (.inr (.inr (.inr f)))) := by
  rw [aV_r h]
  simp [aR, putR, u2r, sN]
theorem aV_putR_ne {r a k b : Nat} {f : Nat → Option Nat} (h : b ≠ a) : aV (putR S r a f) k b = aV S k b := by
  have e : aR (putR S r a f) k b = aR S k b := by
    simp only [aR, putR, u2r]
    split
    · first | rfl | rw [if_neg h]
    · rfl
  simp only [aV, e]
  rfl
theorem r_iast (C : Cx l g d mc ms own Post J) {a r j : Nat} {i x : Int32} (hd : decode d.b pc = .ok (.iastore, 1)) (hk : sK S a = r) (h30 : 30 ≤ r ∧ r < 80) {nn : Nat} (hnn : sN S a = nn) (hin : vp_in i nn) (hj : i.toNatClampNeg = j) (kk : J (pc + 1) lv st (putI S r a (upd (aI S r a) j x)) kc ns) : J pc lv (vi x :: vi i :: vr (some a) :: st) S kc ns := by
  obtain ⟨p, e, s, m, args, below, meth, c, hx, hb, hml, hr, ho, hts, hlk, hK, hnm, Q0, hQ0, rfl⟩ := C
  intro H locs ls hH hL hl
  subst hj; subst hnn; subst hk
  have e1 : ac (sK S a) = 1 := by unfold ac; rw [if_neg (by omega), if_pos (by omega)]
  obtain ⟨L, z, hz, hP, hD, hS, fin⟩ := HP.arr2 (a := a) hH hL (by omega)
  rw [aV_i (by omega) (by omega)] at hz
  refine va_iast hx hb hK.K hP hD hS z 1 hz (by rw [tysF_at g (by omega), e1]; rfl) hin hd fun H1 locs1 hP1 hD1 hS1 => ?_
  obtain ⟨hH1, hL1⟩ := fin (putI S (sK S a) a (upd (aI S (sK S a) a) i.toNatClampNeg x)) _ H1 locs1 rfl (fun _ _ => rfl) (aV_putI_self (by omega) (by omega)) (fun b h => aV_putI_ne h) hP1 hD1 hS1
  exact kk H1 locs1 ls hH1 hL1 hl
theorem r_bast (C : Cx l g d mc ms own Post J) {a r j : Nat} {i x : Int32} (hd : decode d.b pc = .ok (.bastore, 1)) (hk : sK S a = r) (h30 : 20 ≤ r ∧ r < 30) {nn : Nat} (hnn : sN S a = nn) (hin : vp_in i nn) (hj : i.toNatClampNeg = j) {y : Int32} (hy : x.toInt8.toInt32 = y) (kk : J (pc + 1) lv st (putI S r a (upd (aI S r a) j y)) kc ns) : J pc lv (vi x :: vi i :: vr (some a) :: st) S kc ns := by
  obtain ⟨p, e, s, m, args, below, meth, c, hx, hb, hml, hr, ho, hts, hlk, hK, hnm, Q0, hQ0, rfl⟩ := C
  intro H locs ls hH hL hl
  subst hj; subst hnn; subst hk; subst hy
  have e1 : ac (sK S a) = 0 := by unfold ac; rw [if_pos (by omega)]
  obtain ⟨L, z, hz, hP, hD, hS, fin⟩ := HP.arr2 (a := a) hH hL (by omega)
  rw [aV_i (by omega) (by omega)] at hz
  refine va_bast hx hb hK.K hP hD hS z 0 hz (by rw [tysF_at g (by omega), e1]; rfl) hin hd fun H1 locs1 hP1 hD1 hS1 => ?_
  rw [vp_nar_byte] at hP1 hD1
  obtain ⟨hH1, hL1⟩ := fin (putI S (sK S a) a (upd (aI S (sK S a) a) i.toNatClampNeg x.toInt8.toInt32)) _ H1 locs1 rfl (fun _ _ => rfl) (aV_putI_self (by omega) (by omega)) (fun b h => aV_putI_ne h) hP1 hD1 hS1
  exact kk H1 locs1 ls hH1 hL1 hl
theorem r_zast (C : Cx l g d mc ms own Post J) {a r j : Nat} {i x : Int32} (hd : decode d.b pc = .ok (.bastore, 1)) (hk : sK S a = r) (h30 : 85 ≤ r ∧ r < 100) {nn : Nat} (hnn : sN S a = nn) (hin : vp_in i nn) (hj : i.toNatClampNeg = j) (hz0 : x = 0 ∨ x = 1) (kk : J (pc + 1) lv st (putI S r a (upd (aI S r a) j x)) kc ns) : J pc lv (vi x :: vi i :: vr (some a) :: st) S kc ns := by
  obtain ⟨p, e, s, m, args, below, meth, c, hx, hb, hml, hr, ho, hts, hlk, hK, hnm, Q0, hQ0, rfl⟩ := C
  intro H locs ls hH hL hl
  subst hj; subst hnn; subst hk
  have e1 : ac (sK S a) = 3 := by unfold ac; rw [if_neg (by omega), if_neg (by omega), if_neg (by omega), if_pos (by omega)]
  obtain ⟨L, z, hz, hP, hD, hS, fin⟩ := HP.arr2 (a := a) hH hL (by omega)
  rw [aV_i (by omega) (by omega)] at hz
  have hnar : vp_nar .boolean x = x := by rcases hz0 with rfl | rfl <;> rfl
  refine va_zast hx hb hK.K hP hD hS z 3 hz (by rw [tysF_at g (by omega), e1]; rfl) hin hd fun H1 locs1 hP1 hD1 hS1 => ?_
  rw [hnar] at hP1 hD1
  obtain ⟨hH1, hL1⟩ := fin (putI S (sK S a) a (upd (aI S (sK S a) a) i.toNatClampNeg x)) _ H1 locs1 rfl (fun _ _ => rfl) (aV_putI_self (by omega) (by omega)) (fun b h => aV_putI_ne h) hP1 hD1 hS1
  exact kk H1 locs1 ls hH1 hL1 hl
theorem r_last (C : Cx l g d mc ms own Post J) {a r j : Nat} {i : Int32} {x : Int64} (hd : decode d.b pc = .ok (.lastore, 1)) (hk : sK S a = r) (h30 : 80 ≤ r ∧ r < 85) {nn : Nat} (hnn : sN S a = nn) (hin : vp_in i nn) (hj : i.toNatClampNeg = j) (kk : J (pc + 1) lv st (putJ S r a (vp_updL (aJ S r a) j x)) kc ns) : J pc lv (vl x :: vi i :: vr (some a) :: st) S kc ns := by
  obtain ⟨p, e, s, m, args, below, meth, c, hx, hb, hml, hr, ho, hts, hlk, hK, hnm, Q0, hQ0, rfl⟩ := C
  intro H locs ls hH hL hl
  subst hj; subst hnn; subst hk
  have e1 : ac (sK S a) = 2 := by unfold ac; rw [if_neg (by omega), if_neg (by omega), if_pos (by omega)]
  obtain ⟨L, z, hz, hP, hD, hS, fin⟩ := HP.arr2 (a := a) hH hL (by omega)
  rw [aV_l e1] at hz
  refine va_last hx hb hK.K hP hD hS z 2 hz (by rw [tysF_at g (by omega), e1]; rfl) hin hd fun H1 locs1 hP1 hD1 hS1 => ?_
  obtain ⟨hH1, hL1⟩ := fin (putJ S (sK S a) a (vp_updL (aJ S (sK S a) a) i.toNatClampNeg x)) _ H1 locs1 rfl (fun _ _ => rfl) (aV_putJ_self e1) (fun b h => aV_putJ_ne h) hP1 hD1 hS1
  exact kk H1 locs1 ls hH1 hL1 hl
end ArrRows
