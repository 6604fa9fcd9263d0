/-! Fields, arrays, new things -/
section HeapRows
variable {l : Launch} {g : GG} {d : MD} {mc ms : Nat} {own : String} {Post : Option AV → hS → Prop} {J : JJ} {pc : Nat} {lv : List (Nat × AV)} {st : List AV} {S : hS} {kc ns : Nat}
/-- of each class of vwCl: its words, its fields' types and names -/
theorem cl_ok : ∀ (ci : Nat) (r : vw_C), vwCl[ci]? = some r → (∀ w ∈ u_ws r.1 r.2.1 r.2.2, w ∈ Wd) ∧ ci < 12 ∧ r.2.2 = (tgs ci).length ∧ ∃ ty : Nat → FieldType, (∀ k, k < r.2.2 → parseFieldDescriptor (r.2.1 k).2.2.1 = some (ty k)) ∧ (∀ a, a < r.2.2 → ∀ b, b < r.2.2 → a ≠ b → (r.2.1 a).2.1 ≠ (r.2.1 b).2.1) ∧ (Cond.instantiable r.1 r.2.2) ∈ Wd ∧ (Cond.initialized r.1) ∈ Wd ∧ (∀ k, k < r.2.2 → defaultValue (ty k) = fval (newO (fun _ => 0, fun _ _ => 0, fun _ _ => none, fun _ _ => 0, fun _ => 0, fun _ _ _ => 0, fun _ _ _ => 0, fun _ _ _ => none) 0 0) ((tgs ci).getD k 0) 0 0) := by
  intro ci r h
  match ci, h with
  | 0, h => cases h; exact ⟨iw_0, by decide, rfl, tyJx4a65c, tyJx4a65c_ok, nmJx4a65c, in_0.1, in_0.2, by decide⟩
  | 1, h => cases h; exact ⟨iw_1, by decide, rfl, tyX0, tyX0_ok, nmX0, in_1.1, in_1.2, by decide⟩
  | 2, h => cases h; exact ⟨iw_2, by decide, rfl, tyX1, tyX1_ok, nmX1, in_2.1, in_2.2, by decide⟩
  | 3, h => cases h; exact ⟨iw_3, by decide, rfl, tyX2, tyX2_ok, nmX2, in_3.1, in_3.2, by decide⟩
  | 4, h => cases h; exact ⟨iw_4, by decide, rfl, tyX3, tyX3_ok, nmX3, in_4.1, in_4.2, by decide⟩
  | 5, h => cases h; exact ⟨iw_5, by decide, rfl, tyX4, tyX4_ok, nmX4, in_5.1, in_5.2, by decide⟩
  | 6, h => cases h; exact ⟨iw_6, by decide, rfl, tyX5, tyX5_ok, nmX5, in_6.1, in_6.2, by decide⟩
  | 7, h => cases h; exact ⟨iw_7, by decide, rfl, tyX6, tyX6_ok, nmX6, in_7.1, in_7.2, by decide⟩
  | 8, h => cases h; exact ⟨iw_8, by decide, rfl, tyX7, tyX7_ok, nmX7, in_8.1, in_8.2, by decide⟩
  | 9, h => cases h; exact ⟨iw_9, by decide, rfl, tyX8, tyX8_ok, nmX8, in_9.1, in_9.2, by decide⟩
  | 10, h => cases h; exact ⟨iw_10, by decide, rfl, tyX9, tyX9_ok, nmX9, in_10.1, in_10.2, by decide⟩
  | 11, h => cases h; exact ⟨iw_11, by decide, rfl, tyX10, tyX10_ok, nmX10, in_11.1, in_11.2, by decide⟩
  | k + 12, h => simp [vwCl] at h
theorem HP.obj {H : Heap} {ci a : Nat} (hH : HP g S H) (hk : sK S a = ci + 1) (hc : ci < 12) : va_P g.1 vwCl [(a, .inr (ci, fsF S ci a))] H := by
  obtain ⟨L, hL, hP, -⟩ := hH
  obtain ⟨k, hk2⟩ := va_pl_get (X := []) (f := cF g S) ((hL a).mp (by rw [hk]; omega))
  have h1 := hP k _ hk2
  have e : cF g S a = .inr (ci, fsF S ci a) := by
    unfold cF
    rw [hk, if_pos (by omega)]
    rfl
  rw [e] at h1
  intro j q hj
  match j, hj with
  | 0, hj => cases hj; exact h1
theorem HP.arr {H : Heap} {a : Nat} (hH : HP g S H) (hk : 20 ≤ sK S a) : va_P g.1 vwCl [(a, .inl (g.2.1 (ac (sK S a)), aV S (sK S a) a))] H := by
  obtain ⟨L, hL, hP, -⟩ := hH
  obtain ⟨k, hk2⟩ := va_pl_get (X := []) (f := cF g S) ((hL a).mp (by omega))
  have h1 := hP k _ hk2
  have e : cF g S a = .inl (g.2.1 (ac (sK S a)), aV S (sK S a) a) := by
    unfold cF
    rw [if_neg (by omega)]
  rw [e] at h1
  intro j q hj
  match j, hj with
  | 0, hj => cases hj; exact h1
theorem same_of {s : State} {args : Array Value} (hts : ∀ w ∈ Wd, w.before args s = true) {ref o n ds : String} (h : ref = o ∨ Cond.sameField ref o n ds ∈ Wd) : ∀ x, s.fieldFound? o n ds = some x → s.fieldFound? ref n ds = some x := by
  rcases h with rfl | h
  · exact fun _ h => h
  · exact fun x hx => u_same (hts _ h) x hx
theorem r_get (C : Cx l g d mc ms own Post J) {idx ci k t a : Nat} (hd : decode d.b pc = .ok (.getfield idx, 3)) (hf : FL own idx ci k t) (hk : sK S a = ci + 1) {v : AV} (hv : cv v = fval S t (100 * ci + k) a) (kk : J (pc + 3) lv (v :: st) S kc ns) : J pc lv (vr (some a) :: st) S kc ns := by
  obtain ⟨p, e, s, m, args, below, meth, c, hx, hb, hml, hr, ho, hts, hlk, hK, hnm, rfl⟩ := C
  intro H locs ls hH hL hl
  obtain ⟨r, h1, h2, h3, ref, h4, h5⟩ := hf
  obtain ⟨w1, hci, -⟩ := cl_ok ci r h1
  have h6 := kk H locs ls hH hL hl
  refine va_get hx hb hts w1 ho hK.K (HP.obj hH hk hci) 0 rfl h1 k h2 (hts _ h4) (same_of hts h5) (v := cv v) ?_ hd h6
  rw [fsF_at h3, hv]
theorem r_getI (C : Cx l g d mc ms own Post J) {idx ci k a : Nat} (hd : decode d.b pc = .ok (.getfield idx, 3)) (hf : FL own idx ci k 0) (hk : sK S a = ci + 1) (kk : J (pc + 3) lv (vi (sI S (100 * ci + k) a) :: st) S kc ns) : J pc lv (vr (some a) :: st) S kc ns := r_get C hd hf hk rfl kk
theorem r_getR (C : Cx l g d mc ms own Post J) {idx ci k a : Nat} (hd : decode d.b pc = .ok (.getfield idx, 3)) (hf : FL own idx ci k 1) (hk : sK S a = ci + 1) (kk : J (pc + 3) lv (vr (sR S (100 * ci + k) a) :: st) S kc ns) : J pc lv (vr (some a) :: st) S kc ns := r_get C hd hf hk rfl kk
theorem r_getJ (C : Cx l g d mc ms own Post J) {idx ci k a : Nat} (hd : decode d.b pc = .ok (.getfield idx, 3)) (hf : FL own idx ci k 2) (hk : sK S a = ci + 1) (kk : J (pc + 3) lv (vl (sJ S (100 * ci + k) a) :: st) S kc ns) : J pc lv (vr (some a) :: st) S kc ns := r_get C hd hf hk rfl kk
/-- what may be put into a field: its type, and that it isn't final or this is its constructor -/
def FP (d : MD) (own : String) (ci k : Nat) (v : Value) : Prop := ∃ r : vw_C, vwCl[ci]? = some r ∧ (∃ ty, parseFieldDescriptor (r.2.1 k).2.2.1 = some ty ∧ narrow ty v = v ∧ fits ty v = true) ∧ ((r.2.1 k).2.2.2 = false ∨ ((r.2.1 k).2.2.2 = true ∧ d.y.name = "<init>" ∧ (r.2.1 k).1 = own))
theorem r_put (C : Cx l g d mc ms own Post J) {idx ci k t a : Nat} {S2 : hS} {v : AV} (hd : decode d.b pc = .ok (.putfield idx, 3)) (hf : FL own idx ci k t) (hp : FP d own ci k (cv v)) (hk : sK S a = ci + 1) (e1 : S2.1 = S.1) (e2 : S2.2.2.2.2 = S.2.2.2.2) (e3 : fval S2 t (100 * ci + k) a = cv v)
    (e4 : ∀ t' j b, ¬ (j = 100 * ci + k ∧ b = a) → fval S2 t' j b = fval S t' j b) (kk : J (pc + 3) lv st S2 kc ns) : J pc lv (v :: vr (some a) :: st) S kc ns := by
  obtain ⟨p, e, s, m, args, below, meth, c, hx, hb, hml, hr, ho, hts, hlk, hK, hnm, rfl⟩ := C
  intro H locs ls hH hL hl
  obtain ⟨r, h1, h2, h3, ref, h4, h5⟩ := hf
  obtain ⟨r', h1', ⟨ty, q1, q2, q3⟩, hfin⟩ := hp
  cases h1.symm.trans h1'
  obtain ⟨w1, hci, hlen, ty0, t1, t2, -⟩ := cl_ok ci r h1
  have hS := HP.S hH hL
  obtain ⟨L, hLL, hP, hD, -⟩ := hH
  have hmem : a ∈ L := (hLL a).mp (by rw [hk]; omega)
  obtain ⟨z, hz⟩ := va_pl_get (X := []) (f := cF g S) hmem
  have hz : (va_pl L (cF g S))[z]? = some (a, cF g S a) := hz
  have ea : cF g S a = .inr (ci, fsF S ci a) := by
    unfold cF
    rw [hk, if_pos (by omega)]
    rfl
  have hz2 : (va_pl L (cF g S))[z]? = some (a, .inr (ci, fsF S ci a)) := by rw [hz, ea]
  have hln : k < (fsF S ci a).length := by rw [fsF_len, ← hlen]; exact h2
  have hLL2 : ∀ a, sK S2 a ≠ 0 ↔ a ∈ L := fun b => by
    rw [← hLL b]
    show S2.1 b ≠ 0 ↔ S.1 b ≠ 0
    rw [e1]
  have fin : ∀ (H1 : Heap) (locs1 : List Loc), va_P g.1 vwCl ((va_pl L (cF g S)).set z (a, .inr (ci, (fsF S ci a).set k (cv v)))) H1 → va_D (AA g) ((va_pl L (cF g S)).set z (a, .inr (ci, (fsF S ci a).set k (cv v)))) → va_S (AA g) (gH g) H1 locs1 → W p l e (d.rm mc ms) s m args below meth c H1 locs1 kc ns (MQ below (QQ g Post) args s mc ms (AA g)) (F0 m (pc + 3) ls (st.map cv)) := by
    intro H1 locs1 hP1 hD1 hS1
    have hset : (va_pl L (cF g S)).set z (a, .inr (ci, (fsF S ci a).set k (cv v))) = va_pl L (va_up (cF g S) a (.inr (ci, (fsF S ci a).set k (cv v)))) := va_pl_set (X := []) hD hmem hz
    rw [hset] at hP1 hD1
    obtain ⟨hH1, hL1⟩ := HP.of (S := S) (S' := S2) hLL2 (cF_fields hk hci h3 e1 e2 e3 e4) hP1 hD1 hS1
    exact kk H1 locs1 ls hH1 hL1 hl
  have hgoal : W p l e (d.rm mc ms) s m args below meth c H locs kc ns (MQ below (QQ g Post) args s mc ms (AA g)) (F0 m pc ls (cv v :: .ref a :: st.map cv)) := by
    rcases hfin with hfin | ⟨hfin, hin, hdecl⟩
    · exact va_put hx hb hts w1 ty0 t1 t2 ho hK.K hP hD hS z hz2 h1 k h2 (hts _ h4) (same_of hts h5) hfin q1 q2 q3 hln hd fin
    · exact va_putF hx hb hts w1 ty0 t1 t2 ho hK.K hP hD hS z hz2 h1 k h2 (hts _ h4) (same_of hts h5) hfin (hnm.trans hin) hdecl q1 q2 q3 hln hd fin
  exact hgoal
theorem r_putI (C : Cx l g d mc ms own Post J) {idx ci k a : Nat} {v : Int32} (hd : decode d.b pc = .ok (.putfield idx, 3)) (hf : FL own idx ci k 0) (hp : FP d own ci k (.int v)) (hk : sK S a = ci + 1) (kk : J (pc + 3) lv st (setI S (100 * ci + k) a v) kc ns) : J pc lv (vi v :: vr (some a) :: st) S kc ns :=
  r_put (S2 := setI S (100 * ci + k) a v) C hd hf hp hk rfl rfl (by simp [fval, sI, setI, u2, cv]) (fun _ _ _ h => fval_setI_ne h) kk
theorem r_putR (C : Cx l g d mc ms own Post J) {idx ci k a : Nat} {v : Option Nat} (hd : decode d.b pc = .ok (.putfield idx, 3)) (hf : FL own idx ci k 1) (hp : FP d own ci k (va_rf v)) (hk : sK S a = ci + 1) (kk : J (pc + 3) lv st (setR S (100 * ci + k) a v) kc ns) : J pc lv (vr v :: vr (some a) :: st) S kc ns :=
  r_put (S2 := setR S (100 * ci + k) a v) C hd hf hp hk rfl rfl (by simp [fval, sR, setR, u2, cv]) (fun _ _ _ h => fval_setR_ne h) kk
theorem r_putJ (C : Cx l g d mc ms own Post J) {idx ci k a : Nat} {v : Int64} (hd : decode d.b pc = .ok (.putfield idx, 3)) (hf : FL own idx ci k 2) (hp : FP d own ci k (.long v)) (hk : sK S a = ci + 1) (kk : J (pc + 3) lv st (setJ S (100 * ci + k) a v) kc ns) : J pc lv (vl v :: vr (some a) :: st) S kc ns :=
  r_put (S2 := setJ S (100 * ci + k) a v) C hd hf hp hk rfl rfl (by simp [fval, sJ, setJ, u2, cv]) (fun _ _ _ h => fval_setJ_ne h) kk
end HeapRows
