/-! The law: its script, its cell, what holds at its beginning -/
def SX (g : GG) (b L : Nat) (xs : Nat → Int32) : Prop := va_X b L xs (gS g) (gH g) ∧ b < (gH g).size
section LawRows
variable {l : Launch} {g : GG} {d : MD} {mc ms : Nat} {own : String} {Post : Option AV → hS → Prop} {J : JJ} {pc : Nat} {lv : List (Nat × AV)} {st : List AV} {S : hS} {kc ns b L j : Nat} {xs : Nat → Int32}
theorem r_sld (C : Cx l g d mc ms own Post J) {i : Int32} (hX : SX g b L xs) (hd : decode d.b pc = .ok (.iaload, 1)) (hin : vp_in i L) (hj : i.toNatClampNeg = j) (kk : J (pc + 1) lv (vi (xs j) :: st) S kc ns) : J pc lv (vi i :: vr (some b) :: st) S kc ns := by
  obtain ⟨p, e, s, m, args, below, meth, c, hx, hb, hml, hr, ho, hts, hlk, hK, hnm, Q0, hQ0, rfl⟩ := C
  intro H locs ls hH hL hl
  subst hj
  exact va_sld hx hb (va_X.moved hK.1.alike hX.1) hX.2 (Nat.not_le.mpr hX.2) (HP.S hH hL) hin hd (kk H locs ls hH hL hl)
theorem r_slen (C : Cx l g d mc ms own Post J) (hX : SX g b L xs) (hd : decode d.b pc = .ok (.arraylength, 1)) (kk : J (pc + 1) lv (vi (nI L) :: st) S kc ns) : J pc lv (vr (some b) :: st) S kc ns := by
  obtain ⟨p, e, s, m, args, below, meth, c, hx, hb, hml, hr, ho, hts, hlk, hK, hnm, Q0, hQ0, rfl⟩ := C
  intro H locs ls hH hL hl
  exact va_slen hx hb (va_X.moved hK.1.alike hX.1) hX.2 (Nat.not_le.mpr hX.2) (HP.S hH hL) hd (kk H locs ls hH hL hl)
/-- the script's place j, 0 behind its end -/
def cel (L : Nat) (xs : Nat → Int32) (j : Nat) : Int32 := if j < L then xs j else 0
theorem lw_cell (hX : SX g b L xs) (hL : L ≤ 261) (hj : j < 5) : Sp l g mL_cell 0 0 [vr (some b), vi (nI j)] S (fun r S' => r = some (vi (cel L xs j)) ∧ S' = S) := by
  refine Sp.start (own := RL) [(0, vr (some b)), (1, vi (nI j))] (by decide +kernel) rfl rfl (Nat.le_of_ble_eq_true rfl) ?_
  intro J C
  by_cases h : j < L
  · refine r_iload_n (pc := 0) C dL_cell_0 rfl ?_
    refine r_aload_n (pc := 1) C dL_cell_1 rfl ?_
    refine r_slen (pc := 2) C hX dL_cell_2 ?_
    refine r_icmp_ge (pc := 3) (tgt := 12) C dL_cell_3 (by decide) (fun c3 => ?_) (fun c3 => ?_)
    · exact absurd c3 (nI_ge h (by omega))
    · refine r_aload_n (pc := 6) C dL_cell_6 rfl ?_
      refine r_iload_n (pc := 7) C dL_cell_7 rfl ?_
      refine r_sld (pc := 8) C hX dL_cell_8 (vp_in_nI h (by omega)) (nI_clamp (by omega)) ?_
      refine r_goto (pc := 9) (tgt := 13) C dL_cell_9 (by decide) ?_
      refine r_iret (pc := 13) C dL_cell_13 rfl (by omega) (by omega) ?_
      exact ⟨by unfold cel; rw [if_pos h], rfl⟩
  · refine r_iload_n (pc := 0) C dL_cell_0 rfl ?_
    refine r_aload_n (pc := 1) C dL_cell_1 rfl ?_
    refine r_slen (pc := 2) C hX dL_cell_2 ?_
    refine r_icmp_ge (pc := 3) (tgt := 12) C dL_cell_3 (by decide) (fun c3 => ?_) (fun c3 => ?_)
    · refine r_iconst (pc := 12) C (nI 0) dL_cell_12 rfl ?_
      refine r_iret (pc := 13) C dL_cell_13 rfl (by omega) (by omega) ?_
      exact ⟨by unfold cel; rw [if_neg h]; rfl, rfl⟩
    · exact absurd (nI_le (by omega) (by omega)) c3
end LawRows
/-! the world at the law's beginning -/
theorem wd_tb {w : Cond} (h : w ∈ Wd) : w ∈ lw_tbl := (List.mem_filter.mp h).1
theorem tb_at (i : Nat) {w : Cond} (h : tables_1[i]? = some w) : w ∈ lw_tbl := List.mem_append_right _ (List.mem_of_getElem? h)
section LawWorld
variable {s : State} {args : Array Value}
theorem ar_prim {ty : FieldType} (h : (Cond.arrayClass ty).before args s = true) : ∃ cA : ClassId, ArrOfT s cA ty ∧ s.vm.findClass ("[" ++ ty.toString) = some cA := by
  obtain ⟨c, k, comp, h1, h2, h3⟩ := Cond.arrayClass_spec h
  exact ⟨c, fun n z => ⟨fun k h => (by cases h), k, h2, comp, h3⟩, h1⟩
theorem ar_obj {C : String} (h : (Cond.arrayOver (.object C)).before args s = true) : ∃ cA : ClassId, ArrOfT s cA (.object C) ∧ va_RA s cA (.object C) := by
  obtain ⟨comp, c, k, h1, -, h3, h4, h5⟩ := Cond.arrayOver_spec h
  exact ⟨c, fun n z => ⟨fun k h => (by cases h), k, h3, comp, h4⟩, k, comp, h3, h4, h1, h5⟩
theorem ar_all (hts : ∀ w ∈ lw_tbl, w.before args s = true) : ∀ j, ∃ cA : ClassId, j < 8 → ArrOfT s cA (tyA j) ∧ va_RA s cA (tyA j)
  | 0 => by
    obtain ⟨c, h1, h2⟩ := ar_prim (hts (.arrayClass .byte) (tb_at 69 (by decide +kernel)))
    exact ⟨c, fun _ => ⟨h1, h2⟩⟩
  | 1 => by
    obtain ⟨c, h1, h2⟩ := ar_prim (hts (.arrayClass .int) (tb_at 53 (by decide +kernel)))
    exact ⟨c, fun _ => ⟨h1, h2⟩⟩
  | 2 => by
    obtain ⟨c, h1, h2⟩ := ar_prim (hts (.arrayClass .long) (tb_at 244 (by decide +kernel)))
    exact ⟨c, fun _ => ⟨h1, h2⟩⟩
  | 3 => by
    obtain ⟨c, h1, h2⟩ := ar_prim (hts (.arrayClass .boolean) (tb_at 955 (by decide +kernel)))
    exact ⟨c, fun _ => ⟨h1, h2⟩⟩
  | 4 => by
    obtain ⟨c, h1, h2⟩ := ar_obj (hts (.arrayOver (.object RX0)) (tb_at 333 (by decide +kernel)))
    exact ⟨c, fun _ => ⟨h1, h2⟩⟩
  | 5 => by
    obtain ⟨c, h1, h2⟩ := ar_obj (hts (.arrayOver (.object RX3)) (tb_at 119 (by decide +kernel)))
    exact ⟨c, fun _ => ⟨h1, h2⟩⟩
  | 6 => by
    obtain ⟨c, h1, h2⟩ := ar_obj (hts (.arrayOver (.object RX8)) (tb_at 167 (by decide +kernel)))
    exact ⟨c, fun _ => ⟨h1, h2⟩⟩
  | 7 => by
    obtain ⟨c, h1, h2⟩ := ar_obj (hts (.arrayOver (.object "java/lang/Object")) (tb_at 298 (by decide +kernel)))
    exact ⟨c, fun _ => ⟨h1, h2⟩⟩
  | j + 8 => ⟨0, fun h => absurd h (by omega)⟩
theorem cl_all (hts : ∀ w ∈ lw_tbl, w.before args s = true) (k : Nat) : ∃ (cC : ClassId) (iS : Nat → Nat), ∀ r : vw_C, vwCl[k]? = some r → u_Kn s r.1 r.2.1 r.2.2 cC iS := by
  cases e : vwCl[k]? with
  | none => exact ⟨0, fun _ => 0, fun r h => by cases h⟩
  | some r =>
    obtain ⟨h1, -, -, ty, -, -, h2, -⟩ := cl_ok k r e
    obtain ⟨cC, iS, h3⟩ := u_known hts (fun w hw => wd_tb (h1 w hw)) (hts _ (wd_tb h2))
    exact ⟨cC, iS, fun r' h => by cases h; exact h3⟩
theorem nr_all (hgv : (Jvm.Cond.and given_1 narrow_1).before args s = true) : ∀ w ∈ nrw, w.before args s = true := by
  rw [Cond.before_and, Bool.and_eq_true] at hgv
  exact cfl_spec 40 _ hgv.2
theorem st_ref (hts : ∀ w ∈ lw_tbl, w.before args s = true) (hgv : (Jvm.Cond.and given_1 narrow_1).before args s = true) : ∀ j, ∃ t : Nat, j < 3 → va_Z (stN j).1 (stN j).2.1 (stN j).2.2 (.ref t) (fun q => s.heap.size ≤ q) s s.heap
  | 0 => by
    have hn := nr_all hgv
    obtain ⟨t, h1, -⟩ := va_Tof (tm := tmS 0) (ty := .object "java/lang/Object") (N := 0) (f := fun _ => .null) (A := fun q => s.heap.size ≤ q) (by omega) (hn _ (nr_0 _ (by simp))) (eq_int rfl (hn _ (nr_0 _ (by simp)))) (fun i hi => absurd hi (by omega)) (fun a h q => absurd h (Nat.not_lt.mpr q))
    exact ⟨t, fun _ => va_Zref (hts _ (tb_at 102 (by decide +kernel))) (hts _ (tb_at 9 (by decide +kernel))) h1 (fun a h q => absurd h (Nat.not_lt.mpr q))⟩
  | 1 => by
    have hn := nr_all hgv
    obtain ⟨t, h1, -⟩ := va_Tof (tm := tmS 1) (ty := .int) (N := 8) (f := fun i => .int (stT i)) (A := fun q => s.heap.size ≤ q) (by omega) (hn _ (nr_1 _ (by simp))) (eq_int rfl (hn _ (nr_1 _ (by simp)))) (fun i hi => eq_int rfl (hn _ (nr_1 _ (List.mem_append_right _ (List.mem_map.mpr ⟨i, List.mem_range.mpr hi, rfl⟩))))) (fun a h q => absurd h (Nat.not_lt.mpr q))
    exact ⟨t, fun _ => va_Zref (hts _ (tb_at 794 (by decide +kernel))) (hts _ (tb_at 5 (by decide +kernel))) h1 (fun a h q => absurd h (Nat.not_lt.mpr q))⟩
  | 2 => by
    have hn := nr_all hgv
    obtain ⟨t, h1, -⟩ := va_Tof (tm := tmS 2) (ty := .int) (N := 64) (f := fun i => .int (rdT i)) (A := fun q => s.heap.size ≤ q) (by omega) (hn _ (nr_2 _ (by simp))) (eq_int rfl (hn _ (nr_2 _ (by simp)))) (fun i hi => eq_int rfl (hn _ (nr_2 _ (List.mem_append_right _ (List.mem_map.mpr ⟨i, List.mem_range.mpr hi, rfl⟩))))) (fun a h q => absurd h (Nat.not_lt.mpr q))
    exact ⟨t, fun _ => va_Zref (hts _ (tb_at 797 (by decide +kernel))) (hts _ (tb_at 5 (by decide +kernel))) h1 (fun a h q => absurd h (Nat.not_lt.mpr q))⟩
  | j + 3 => ⟨0, fun h => absurd h (by omega)⟩
theorem fc_make (hts : ∀ w ∈ lw_tbl, w.before args s = true) (hgv : (Jvm.Cond.and given_1 narrow_1).before args s = true) : ∃ g : GG, gS g = s ∧ gA g = args ∧ FC g := by
  obtain ⟨dC, hC⟩ := Classical.skolem.mp (cl_all hts)
  obtain ⟨dI, hI⟩ := Classical.skolem.mp hC
  obtain ⟨cA, hA⟩ := Classical.skolem.mp (ar_all hts)
  obtain ⟨tz, hz⟩ := Classical.skolem.mp (st_ref hts hgv)
  refine ⟨((dC, dI), cA, s, args, tz), rfl, rfl, hts, hgv, ⟨fun c q hq => hI c q hq, fun k q hk => ?_⟩, fun j hj => hz j hj⟩
  by_cases h8 : k < 8
  · rw [tysF_at _ h8] at hk
    cases hk
    exact hA k h8
  · have : (tysF ((dC, dI), cA, s, args, tz))[k]? = none := by
      apply List.getElem?_eq_none
      simp [tysF]
      omega
    rw [this] at hk
    cases hk
def hS0 : hS := (fun _ => 0, fun _ _ => 0, fun _ _ => none, fun _ _ => 0, fun _ => 0, fun _ _ _ => 0, fun _ _ _ => 0, fun _ _ _ => none)
theorem HP.zero {g : GG} : HP g hS0 (gH g) := ⟨[], fun a => ⟨fun h => absurd rfl h, fun h => by cases h⟩, fun k q h => by simp [va_pl] at h, ⟨fun i j p q h => by simp [va_pl] at h, fun k q h => by simp [va_pl] at h⟩, va_S.rf⟩
end LawWorld
