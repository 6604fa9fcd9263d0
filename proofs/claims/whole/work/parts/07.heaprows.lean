/-! Fields, arrays, new things -/
section HeapRows
variable {l : Launch} {g : GG} {d : MD} {mc ms : Nat} {own : String} {Post : Option AV → hS → Prop} {J : JJ} {pc : Nat} {lv : List (Nat × AV)} {st : List AV} {S : hS} {kc ns : Nat}
/-- of each class of vwCl: its words, its fields' types and names -/
theorem cl_ok : ∀ (ci : Nat) (r : vw_C), vwCl[ci]? = some r → (∀ w ∈ u_ws r.1 r.2.1 r.2.2, w ∈ Wd) ∧ ci < 12 ∧ r.2.2 = (tgs ci).length ∧ ∃ ty : Nat → FieldType, (∀ k, k < r.2.2 → parseFieldDescriptor (r.2.1 k).2.2.1 = some (ty k)) ∧ (∀ a, a < r.2.2 → ∀ b, b < r.2.2 → a ≠ b → (r.2.1 a).2.1 ≠ (r.2.1 b).2.1) ∧ (Cond.instantiable r.1 r.2.2) ∈ Wd ∧ (Cond.initialized r.1) ∈ Wd ∧ (∀ k, k < r.2.2 → defaultValue (ty k) = fval (newO (fun _ => 0, fun _ _ => 0, fun _ _ => none, fun _ _ => 0, fun _ => 0, fun _ _ _ => 0, fun _ _ _ => 0, fun _ _ _ => none) 0 0) ((tgs ci).getD k 0) 0 0) := by
  intro ci r h
  match ci, h with
  | 0, h => cases h; exact ⟨iw_0, by decide, rfl, tyJx4a65c, tyJx4a65c_ok, nmJx4a65c, in_0.1, in_0.2, by decide⟩
  | 1, h => cases h; exact ⟨iw_1, by decide, rfl, tyX0, tyX0_ok, nmX0, in_1.1, in_1.2, by decide⟩
  | 2, h => cases h; exact ⟨iw_2, by decide, rfl, tyX1, tyX1_ok, nmX1, in_2.1, in_2.2, by decide⟩
  | 3, h => cases h; exact ⟨iw_3, by decide, rfl, tyX2, tyX2_ok, nmX2, in_3.1, in_3.2, by decide⟩
  | 4, h => cases h; exact ⟨iw_4, by decide, rfl, tyX3, tyX3_ok, nmX3, in_4.1, in_4.2, by decide⟩
  | 5, h => cases h; exact ⟨iw_5, by decide, rfl, tyX4, tyX4_ok, nmX4, in_5.1, in_5.2, by decide⟩
  | 6, h => cases h; exact ⟨iw_6, by decide, rfl, tyX5, tyX5_ok, nmX5, in_6.1, in_6.2, by decide⟩
  | 7, h => cases h; exact ⟨iw_7, by decide, rfl, tyX6, tyX6_ok, nmX6, in_7.1, in_7.2, by decide⟩
  | 8, h => cases h; exact ⟨iw_8, by decide, rfl, tyX7, tyX7_ok, nmX7, in_8.1, in_8.2, by decide⟩
  | 9, h => cases h; exact ⟨iw_9, by decide, rfl, tyX8, tyX8_ok, nmX8, in_9.1, in_9.2, by decide⟩
  | 10, h => cases h; exact ⟨iw_10, by decide, rfl, tyX9, tyX9_ok, nmX9, in_10.1, in_10.2, by decide⟩
  | 11, h => cases h; exact ⟨iw_11, by decide, rfl, tyX10, tyX10_ok, nmX10, in_11.1, in_11.2, by decide⟩
  | k + 12, h => simp [vwCl] at h
theorem HP.obj {H : Heap} {ci a : Nat} (hH : HP g S H) (hk : sK S a = ci + 1) (hc : ci < 12) : va_P g.1 vwCl [(a, .inr (ci, fsF S ci a))] H := by
  obtain ⟨L, hL, hP, -⟩ := hH
  obtain ⟨k, hk2⟩ := va_pl_get (X := []) (f := cF g S) ((hL a).mp (by rw [hk]; omega))
  have h1 := hP k _ hk2
  have e : cF g S a = .inr (ci, fsF S ci a) := by
    unfold cF
    rw [hk, if_pos (by omega)]
    rfl
  rw [e] at h1
  intro j q hj
  match j, hj with
  | 0, hj => cases hj; exact h1
theorem HP.arr {H : Heap} {a : Nat} (hH : HP g S H) (hk : 20 ≤ sK S a) : va_P g.1 vwCl [(a, .inl (g.2.1 (ac (sK S a)), aV S (sK S a) a))] H := by
  obtain ⟨L, hL, hP, -⟩ := hH
  obtain ⟨k, hk2⟩ := va_pl_get (X := []) (f := cF g S) ((hL a).mp (by omega))
  have h1 := hP k _ hk2
  have e : cF g S a = .inl (g.2.1 (ac (sK S a)), aV S (sK S a) a) := by
    unfold cF
    rw [if_neg (by omega)]
  rw [e] at h1
  intro j q hj
  match j, hj with
  | 0, hj => cases hj; exact h1
theorem same_of {s : State} {args : Array Value} (hts : ∀ w ∈ Wd, w.before args s = true) {ref o n ds : String} (h : ref = o ∨ Cond.sameField ref o n ds ∈ Wd) : ∀ x, s.fieldFound? o n ds = some x → s.fieldFound? ref n ds = some x := by
  rcases h with rfl | h
  · exact fun _ h => h
  · exact fun x hx => u_same (hts _ h) x hx
theorem r_get (C : Cx l g d mc ms own Post J) {idx ci k t f a : Nat} (hd : decode d.b pc = .ok (.getfield idx, 3)) (hf : FL own idx ci k t f) (hk : sK S a = ci + 1) {v : AV} (hv : cv v = fval S t f a) (kk : J (pc + 3) lv (v :: st) S kc ns) : J pc lv (vr (some a) :: st) S kc ns := by
  obtain ⟨p, e, s, m, args, below, meth, c, hx, hb, hml, hr, ho, hts, hlk, hK, hnm, Q0, hQ0, rfl⟩ := C
  intro H locs ls hH hL hl
  obtain ⟨rfl, r, h1, h2, h3, ref, h4, h5⟩ := hf
  obtain ⟨w1, hci, -⟩ := cl_ok ci r h1
  have h6 := kk H locs ls hH hL hl
  refine va_get hx hb hts w1 ho hK.K (HP.obj hH hk hci) 0 rfl h1 k h2 (hts _ h4) (same_of hts h5) (v := cv v) ?_ hd h6
  rw [fsF_at h3, hv]
theorem r_getI (C : Cx l g d mc ms own Post J) {idx ci k f a : Nat} (hd : decode d.b pc = .ok (.getfield idx, 3)) (hf : FL own idx ci k 0 f) (hk : sK S a = ci + 1) (kk : J (pc + 3) lv (vi (sI S f a) :: st) S kc ns) : J pc lv (vr (some a) :: st) S kc ns := r_get C hd hf hk rfl kk
theorem r_getR (C : Cx l g d mc ms own Post J) {idx ci k f a : Nat} (hd : decode d.b pc = .ok (.getfield idx, 3)) (hf : FL own idx ci k 1 f) (hk : sK S a = ci + 1) {b : Option Nat} (hv : sR S f a = b) (kk : J (pc + 3) lv (vr b :: st) S kc ns) : J pc lv (vr (some a) :: st) S kc ns := r_get C hd hf hk (by subst hv; rfl) kk
theorem r_getJ (C : Cx l g d mc ms own Post J) {idx ci k f a : Nat} (hd : decode d.b pc = .ok (.getfield idx, 3)) (hf : FL own idx ci k 2 f) (hk : sK S a = ci + 1) (kk : J (pc + 3) lv (vl (sJ S f a) :: st) S kc ns) : J pc lv (vr (some a) :: st) S kc ns := r_get C hd hf hk rfl kk
/-- what may be put into a field: its type, and that it isn't final or this is its constructor -/
def FP (d : MD) (own : String) (ci k : Nat) (v : Value) : Prop := ∃ r : vw_C, vwCl[ci]? = some r ∧ (∃ ty, parseFieldDescriptor (r.2.1 k).2.2.1 = some ty ∧ narrow ty v = v ∧ fits ty v = true) ∧ ((r.2.1 k).2.2.2 = false ∨ ((r.2.1 k).2.2.2 = true ∧ d.y.name = "<init>" ∧ (r.2.1 k).1 = own))
theorem r_put (C : Cx l g d mc ms own Post J) {idx ci k t f a : Nat} {S2 : hS} {v : AV} (hd : decode d.b pc = .ok (.putfield idx, 3)) (hf : FL own idx ci k t f) (hp : FP d own ci k (cv v)) (hk : sK S a = ci + 1) (e1 : S2.1 = S.1) (e2 : S2.2.2.2.2 = S.2.2.2.2) (e3 : fval S2 t f a = cv v)
    (e4 : ∀ t' j b, ¬ (j = f ∧ b = a) → fval S2 t' j b = fval S t' j b) (kk : J (pc + 3) lv st S2 kc ns) : J pc lv (v :: vr (some a) :: st) S kc ns := by
  obtain ⟨p, e, s, m, args, below, meth, c, hx, hb, hml, hr, ho, hts, hlk, hK, hnm, Q0, hQ0, rfl⟩ := C
  intro H locs ls hH hL hl
  obtain ⟨rfl, r, h1, h2, h3, ref, h4, h5⟩ := hf
  obtain ⟨r', h1', ⟨ty, q1, q2, q3⟩, hfin⟩ := hp
  cases h1.symm.trans h1'
  obtain ⟨w1, hci, hlen, ty0, t1, t2, -⟩ := cl_ok ci r h1
  have hS := HP.S hH hL
  obtain ⟨L, hLL, hP, hD, -⟩ := hH
  have hmem : a ∈ L := (hLL a).mp (by rw [hk]; omega)
  obtain ⟨z, hz⟩ := va_pl_get (X := []) (f := cF g S) hmem
  have hz : (va_pl L (cF g S))[z]? = some (a, cF g S a) := hz
  have ea : cF g S a = .inr (ci, fsF S ci a) := by
    unfold cF
    rw [hk, if_pos (by omega)]
    rfl
  have hz2 : (va_pl L (cF g S))[z]? = some (a, .inr (ci, fsF S ci a)) := by rw [hz, ea]
  have hln : k < (fsF S ci a).length := by rw [fsF_len, ← hlen]; exact h2
  have hLL2 : ∀ a, sK S2 a ≠ 0 ↔ a ∈ L := fun b => by
    rw [← hLL b]
    show S2.1 b ≠ 0 ↔ S.1 b ≠ 0
    rw [e1]
  have fin : ∀ (H1 : Heap) (locs1 : List Loc), va_P g.1 vwCl ((va_pl L (cF g S)).set z (a, .inr (ci, (fsF S ci a).set k (cv v)))) H1 → va_D (AA g) ((va_pl L (cF g S)).set z (a, .inr (ci, (fsF S ci a).set k (cv v)))) → va_S (AA g) (gH g) H1 locs1 → W p l e (d.rm mc ms) s m args below meth c H1 locs1 kc ns Q0 (F0 m (pc + 3) ls (st.map cv)) := by
    intro H1 locs1 hP1 hD1 hS1
    have hset : (va_pl L (cF g S)).set z (a, .inr (ci, (fsF S ci a).set k (cv v))) = va_pl L (va_up (cF g S) a (.inr (ci, (fsF S ci a).set k (cv v)))) := va_pl_set (X := []) hD hmem hz
    rw [hset] at hP1 hD1
    obtain ⟨hH1, hL1⟩ := HP.of (S := S) (S' := S2) hLL2 (cF_fields hk hci h3 e1 e2 e3 e4) hP1 hD1 hS1
    exact kk H1 locs1 ls hH1 hL1 hl
  have hgoal : W p l e (d.rm mc ms) s m args below meth c H locs kc ns Q0 (F0 m pc ls (cv v :: .ref a :: st.map cv)) := by
    rcases hfin with hfin | ⟨hfin, hin, hdecl⟩
    · exact va_put hx hb hts w1 ty0 t1 t2 ho hK.K hP hD hS z hz2 h1 k h2 (hts _ h4) (same_of hts h5) hfin q1 q2 q3 hln hd fin
    · exact va_putF hx hb hts w1 ty0 t1 t2 ho hK.K hP hD hS z hz2 h1 k h2 (hts _ h4) (same_of hts h5) hfin (hnm.trans hin) hdecl q1 q2 q3 hln hd fin
  exact hgoal
theorem r_putI (C : Cx l g d mc ms own Post J) {idx ci k f a : Nat} {v : Int32} (hd : decode d.b pc = .ok (.putfield idx, 3)) (hf : FL own idx ci k 0 f) (hp : FP d own ci k (.int v)) (hk : sK S a = ci + 1) (kk : J (pc + 3) lv st (setI S f a v) kc ns) : J pc lv (vi v :: vr (some a) :: st) S kc ns :=
  r_put (S2 := setI S f a v) C hd hf hp hk rfl rfl (by simp [fval, sI, setI, u2, cv]) (fun _ _ _ h => fval_setI_ne h) kk
theorem r_putR (C : Cx l g d mc ms own Post J) {idx ci k f a : Nat} {v : Option Nat} (hd : decode d.b pc = .ok (.putfield idx, 3)) (hf : FL own idx ci k 1 f) (hp : FP d own ci k (va_rf v)) (hk : sK S a = ci + 1) (kk : J (pc + 3) lv st (setR S f a v) kc ns) : J pc lv (vr v :: vr (some a) :: st) S kc ns :=
  r_put (S2 := setR S f a v) C hd hf hp hk rfl rfl (by simp [fval, sR, setR, u2, cv]) (fun _ _ _ h => fval_setR_ne h) kk
theorem r_putJ (C : Cx l g d mc ms own Post J) {idx ci k f a : Nat} {v : Int64} (hd : decode d.b pc = .ok (.putfield idx, 3)) (hf : FL own idx ci k 2 f) (hp : FP d own ci k (.long v)) (hk : sK S a = ci + 1) (kk : J (pc + 3) lv st (setJ S f a v) kc ns) : J pc lv (vl v :: vr (some a) :: st) S kc ns :=
  r_put (S2 := setJ S f a v) C hd hf hp hk rfl rfl (by simp [fval, sJ, setJ, u2, cv]) (fun _ _ _ h => fval_setJ_ne h) kk
theorem fp_0_0 {d : MD} {own : String} (v : Int32) : FP d own 0 0 (.int v) := ⟨_, rfl, ⟨.int, by decide +kernel, rfl, rfl⟩, Or.inl rfl⟩
theorem fp_0_1 {d : MD} {own : String} (v : Option Nat) : FP d own 0 1 (va_rf v) := ⟨_, rfl, ⟨(.array (.object "java/lang/Object")), by decide +kernel, by cases v <;> rfl, by cases v <;> rfl⟩, Or.inl rfl⟩
theorem fp_0_2 {d : MD} {own : String} (v : Int32) : FP d own 0 2 (.int v) := ⟨_, rfl, ⟨.int, by decide +kernel, rfl, rfl⟩, Or.inl rfl⟩
theorem fq_1_0 {d : MD} {own : String} (v : Int32) (h1 : d.y.name = "<init>") (h2 : (TX0 0).1 = own) : FP d own 1 0 (.int v) := ⟨_, rfl, ⟨.int, by decide +kernel, rfl, rfl⟩, Or.inr ⟨rfl, h1, h2⟩⟩
theorem fq_1_1 {d : MD} {own : String} (v : Option Nat) (h1 : d.y.name = "<init>") (h2 : (TX0 1).1 = own) : FP d own 1 1 (va_rf v) := ⟨_, rfl, ⟨(.array .int), by decide +kernel, by cases v <;> rfl, by cases v <;> rfl⟩, Or.inr ⟨rfl, h1, h2⟩⟩
theorem fq_1_2 {d : MD} {own : String} (v : Option Nat) (h1 : d.y.name = "<init>") (h2 : (TX0 2).1 = own) : FP d own 1 2 (va_rf v) := ⟨_, rfl, ⟨(.array .int), by decide +kernel, by cases v <;> rfl, by cases v <;> rfl⟩, Or.inr ⟨rfl, h1, h2⟩⟩
theorem fp_1_3 {d : MD} {own : String} (v : Int32) : FP d own 1 3 (.int v) := ⟨_, rfl, ⟨.int, by decide +kernel, rfl, rfl⟩, Or.inl rfl⟩
theorem fp_1_4 {d : MD} {own : String} (v : Int32) : FP d own 1 4 (.int v) := ⟨_, rfl, ⟨.int, by decide +kernel, rfl, rfl⟩, Or.inl rfl⟩
theorem fp_1_5 {d : MD} {own : String} (v : Int32) : FP d own 1 5 (.int v) := ⟨_, rfl, ⟨.int, by decide +kernel, rfl, rfl⟩, Or.inl rfl⟩
theorem fp_1_6 {d : MD} {own : String} (v : Int32) : FP d own 1 6 (.int v) := ⟨_, rfl, ⟨.int, by decide +kernel, rfl, rfl⟩, Or.inl rfl⟩
theorem fp_1_7 {d : MD} {own : String} (v : Int32) : FP d own 1 7 (.int v) := ⟨_, rfl, ⟨.int, by decide +kernel, rfl, rfl⟩, Or.inl rfl⟩
theorem fp_1_8 {d : MD} {own : String} (v : Int32) : FP d own 1 8 (.int v) := ⟨_, rfl, ⟨.int, by decide +kernel, rfl, rfl⟩, Or.inl rfl⟩
theorem fp_1_9 {d : MD} {own : String} (v : Int32) : FP d own 1 9 (.int v) := ⟨_, rfl, ⟨.int, by decide +kernel, rfl, rfl⟩, Or.inl rfl⟩
theorem fp_1_10 {d : MD} {own : String} (v : Int32) (h : v = 0 ∨ v = 1) : FP d own 1 10 (.int v) := ⟨_, rfl, ⟨.boolean, by decide +kernel, by rcases h with rfl | rfl <;> rfl, by rcases h with rfl | rfl <;> rfl⟩, Or.inl rfl⟩
theorem fq_2_0 {d : MD} {own : String} (v : Option Nat) (h1 : d.y.name = "<init>") (h2 : (TX1 0).1 = own) : FP d own 2 0 (va_rf v) := ⟨_, rfl, ⟨(.array .int), by decide +kernel, by cases v <;> rfl, by cases v <;> rfl⟩, Or.inr ⟨rfl, h1, h2⟩⟩
theorem fq_2_1 {d : MD} {own : String} (v : Option Nat) (h1 : d.y.name = "<init>") (h2 : (TX1 1).1 = own) : FP d own 2 1 (va_rf v) := ⟨_, rfl, ⟨(.array .int), by decide +kernel, by cases v <;> rfl, by cases v <;> rfl⟩, Or.inr ⟨rfl, h1, h2⟩⟩
theorem fq_3_0 {d : MD} {own : String} (v : Int32) (h1 : d.y.name = "<init>") (h2 : (TX2 0).1 = own) : FP d own 3 0 (.int v) := ⟨_, rfl, ⟨.int, by decide +kernel, rfl, rfl⟩, Or.inr ⟨rfl, h1, h2⟩⟩
theorem fq_3_1 {d : MD} {own : String} (v : Int32) (h1 : d.y.name = "<init>") (h2 : (TX2 1).1 = own) : FP d own 3 1 (.int v) := ⟨_, rfl, ⟨.int, by decide +kernel, rfl, rfl⟩, Or.inr ⟨rfl, h1, h2⟩⟩
theorem fq_3_2 {d : MD} {own : String} (v : Option Nat) (h1 : d.y.name = "<init>") (h2 : (TX2 2).1 = own) : FP d own 3 2 (va_rf v) := ⟨_, rfl, ⟨(.object "java/util/ArrayList"), by decide +kernel, by cases v <;> rfl, by cases v <;> rfl⟩, Or.inr ⟨rfl, h1, h2⟩⟩
theorem fq_3_3 {d : MD} {own : String} (v : Option Nat) (h1 : d.y.name = "<init>") (h2 : (TX2 3).1 = own) : FP d own 3 3 (va_rf v) := ⟨_, rfl, ⟨(.object "java/util/ArrayList"), by decide +kernel, by cases v <;> rfl, by cases v <;> rfl⟩, Or.inr ⟨rfl, h1, h2⟩⟩
theorem fq_3_4 {d : MD} {own : String} (v : Option Nat) (h1 : d.y.name = "<init>") (h2 : (TX2 4).1 = own) : FP d own 3 4 (va_rf v) := ⟨_, rfl, ⟨(.object "java/util/ArrayList"), by decide +kernel, by cases v <;> rfl, by cases v <;> rfl⟩, Or.inr ⟨rfl, h1, h2⟩⟩
theorem fq_3_5 {d : MD} {own : String} (v : Option Nat) (h1 : d.y.name = "<init>") (h2 : (TX2 5).1 = own) : FP d own 3 5 (va_rf v) := ⟨_, rfl, ⟨(.array .int), by decide +kernel, by cases v <;> rfl, by cases v <;> rfl⟩, Or.inr ⟨rfl, h1, h2⟩⟩
theorem fq_4_0 {d : MD} {own : String} (v : Int32) (h1 : d.y.name = "<init>") (h2 : (TX3 0).1 = own) : FP d own 4 0 (.int v) := ⟨_, rfl, ⟨.int, by decide +kernel, rfl, rfl⟩, Or.inr ⟨rfl, h1, h2⟩⟩
theorem fq_4_1 {d : MD} {own : String} (v : Option Nat) (h1 : d.y.name = "<init>") (h2 : (TX3 1).1 = own) : FP d own 4 1 (va_rf v) := ⟨_, rfl, ⟨(.object "java/util/ArrayList"), by decide +kernel, by cases v <;> rfl, by cases v <;> rfl⟩, Or.inr ⟨rfl, h1, h2⟩⟩
theorem fp_4_2 {d : MD} {own : String} (v : Option Nat) : FP d own 4 2 (va_rf v) := ⟨_, rfl, ⟨(.object "SnowNode$Transaction"), by decide +kernel, by cases v <;> rfl, by cases v <;> rfl⟩, Or.inl rfl⟩
theorem fp_4_3 {d : MD} {own : String} (v : Option Nat) : FP d own 4 3 (va_rf v) := ⟨_, rfl, ⟨(.object "SnowNode$Transaction"), by decide +kernel, by cases v <;> rfl, by cases v <;> rfl⟩, Or.inl rfl⟩
theorem fp_4_4 {d : MD} {own : String} (v : Option Nat) : FP d own 4 4 (va_rf v) := ⟨_, rfl, ⟨(.object "SnowNode$Transaction"), by decide +kernel, by cases v <;> rfl, by cases v <;> rfl⟩, Or.inl rfl⟩
theorem fp_4_5 {d : MD} {own : String} (v : Int32) : FP d own 4 5 (.int v) := ⟨_, rfl, ⟨.int, by decide +kernel, rfl, rfl⟩, Or.inl rfl⟩
theorem fq_5_0 {d : MD} {own : String} (v : Option Nat) (h1 : d.y.name = "<init>") (h2 : (TX4 0).1 = own) : FP d own 5 0 (va_rf v) := ⟨_, rfl, ⟨(.array .int), by decide +kernel, by cases v <;> rfl, by cases v <;> rfl⟩, Or.inr ⟨rfl, h1, h2⟩⟩
theorem fp_5_1 {d : MD} {own : String} (v : Int64) : FP d own 5 1 (.long v) := ⟨_, rfl, ⟨.long, by decide +kernel, rfl, rfl⟩, Or.inl rfl⟩
theorem fq_6_0 {d : MD} {own : String} (v : Int32) (h1 : d.y.name = "<init>") (h2 : (TX5 0).1 = own) : FP d own 6 0 (.int v) := ⟨_, rfl, ⟨.int, by decide +kernel, rfl, rfl⟩, Or.inr ⟨rfl, h1, h2⟩⟩
theorem fq_6_1 {d : MD} {own : String} (v : Option Nat) (h1 : d.y.name = "<init>") (h2 : (TX5 1).1 = own) : FP d own 6 1 (va_rf v) := ⟨_, rfl, ⟨(.object "SnowNode$Transaction"), by decide +kernel, by cases v <;> rfl, by cases v <;> rfl⟩, Or.inr ⟨rfl, h1, h2⟩⟩
theorem fq_6_2 {d : MD} {own : String} (v : Option Nat) (h1 : d.y.name = "<init>") (h2 : (TX5 2).1 = own) : FP d own 6 2 (va_rf v) := ⟨_, rfl, ⟨(.array .int), by decide +kernel, by cases v <;> rfl, by cases v <;> rfl⟩, Or.inr ⟨rfl, h1, h2⟩⟩
theorem fq_6_3 {d : MD} {own : String} (v : Option Nat) (h1 : d.y.name = "<init>") (h2 : (TX5 3).1 = own) : FP d own 6 3 (va_rf v) := ⟨_, rfl, ⟨(.array .boolean), by decide +kernel, by cases v <;> rfl, by cases v <;> rfl⟩, Or.inr ⟨rfl, h1, h2⟩⟩
theorem fp_6_4 {d : MD} {own : String} (v : Int32) : FP d own 6 4 (.int v) := ⟨_, rfl, ⟨.int, by decide +kernel, rfl, rfl⟩, Or.inl rfl⟩
theorem fp_6_5 {d : MD} {own : String} (v : Int32) : FP d own 6 5 (.int v) := ⟨_, rfl, ⟨.int, by decide +kernel, rfl, rfl⟩, Or.inl rfl⟩
theorem fq_7_0 {d : MD} {own : String} (v : Option Nat) (h1 : d.y.name = "<init>") (h2 : (TX6 0).1 = own) : FP d own 7 0 (va_rf v) := ⟨_, rfl, ⟨(.array .byte), by decide +kernel, by cases v <;> rfl, by cases v <;> rfl⟩, Or.inr ⟨rfl, h1, h2⟩⟩
theorem fp_7_1 {d : MD} {own : String} (v : Int32) : FP d own 7 1 (.int v) := ⟨_, rfl, ⟨.int, by decide +kernel, rfl, rfl⟩, Or.inl rfl⟩
theorem fp_7_2 {d : MD} {own : String} (v : Int32) (h : v = 0 ∨ v = 1) : FP d own 7 2 (.int v) := ⟨_, rfl, ⟨.boolean, by decide +kernel, by rcases h with rfl | rfl <;> rfl, by rcases h with rfl | rfl <;> rfl⟩, Or.inl rfl⟩
theorem fq_8_0 {d : MD} {own : String} (v : Option Nat) (h1 : d.y.name = "<init>") (h2 : (TX7 0).1 = own) : FP d own 8 0 (va_rf v) := ⟨_, rfl, ⟨(.array .byte), by decide +kernel, by cases v <;> rfl, by cases v <;> rfl⟩, Or.inr ⟨rfl, h1, h2⟩⟩
theorem fp_8_1 {d : MD} {own : String} (v : Int32) : FP d own 8 1 (.int v) := ⟨_, rfl, ⟨.int, by decide +kernel, rfl, rfl⟩, Or.inl rfl⟩
theorem fq_9_0 {d : MD} {own : String} (v : Int32) (h1 : d.y.name = "<init>") (h2 : (TX8 0).1 = own) : FP d own 9 0 (.int v) := ⟨_, rfl, ⟨.int, by decide +kernel, rfl, rfl⟩, Or.inr ⟨rfl, h1, h2⟩⟩
theorem fq_9_1 {d : MD} {own : String} (v : Option Nat) (h1 : d.y.name = "<init>") (h2 : (TX8 1).1 = own) : FP d own 9 1 (va_rf v) := ⟨_, rfl, ⟨(.array .byte), by decide +kernel, by cases v <;> rfl, by cases v <;> rfl⟩, Or.inr ⟨rfl, h1, h2⟩⟩
theorem fq_9_2 {d : MD} {own : String} (v : Option Nat) (h1 : d.y.name = "<init>") (h2 : (TX8 2).1 = own) : FP d own 9 2 (va_rf v) := ⟨_, rfl, ⟨(.array .int), by decide +kernel, by cases v <;> rfl, by cases v <;> rfl⟩, Or.inr ⟨rfl, h1, h2⟩⟩
theorem fq_9_3 {d : MD} {own : String} (v : Option Nat) (h1 : d.y.name = "<init>") (h2 : (TX8 3).1 = own) : FP d own 9 3 (va_rf v) := ⟨_, rfl, ⟨(.array .int), by decide +kernel, by cases v <;> rfl, by cases v <;> rfl⟩, Or.inr ⟨rfl, h1, h2⟩⟩
theorem fq_9_4 {d : MD} {own : String} (v : Option Nat) (h1 : d.y.name = "<init>") (h2 : (TX8 4).1 = own) : FP d own 9 4 (va_rf v) := ⟨_, rfl, ⟨(.array .int), by decide +kernel, by cases v <;> rfl, by cases v <;> rfl⟩, Or.inr ⟨rfl, h1, h2⟩⟩
theorem fq_9_5 {d : MD} {own : String} (v : Option Nat) (h1 : d.y.name = "<init>") (h2 : (TX8 5).1 = own) : FP d own 9 5 (va_rf v) := ⟨_, rfl, ⟨(.array (.object "SnowNode$Output")), by decide +kernel, by cases v <;> rfl, by cases v <;> rfl⟩, Or.inr ⟨rfl, h1, h2⟩⟩
theorem fq_9_6 {d : MD} {own : String} (v : Option Nat) (h1 : d.y.name = "<init>") (h2 : (TX8 6).1 = own) : FP d own 9 6 (va_rf v) := ⟨_, rfl, ⟨(.array (.object "SnowNode$Transaction")), by decide +kernel, by cases v <;> rfl, by cases v <;> rfl⟩, Or.inr ⟨rfl, h1, h2⟩⟩
theorem fq_9_7 {d : MD} {own : String} (v : Option Nat) (h1 : d.y.name = "<init>") (h2 : (TX8 7).1 = own) : FP d own 9 7 (va_rf v) := ⟨_, rfl, ⟨(.array (.object "SnowNode$Output")), by decide +kernel, by cases v <;> rfl, by cases v <;> rfl⟩, Or.inr ⟨rfl, h1, h2⟩⟩
theorem fq_9_8 {d : MD} {own : String} (v : Option Nat) (h1 : d.y.name = "<init>") (h2 : (TX8 8).1 = own) : FP d own 9 8 (va_rf v) := ⟨_, rfl, ⟨(.array .long), by decide +kernel, by cases v <;> rfl, by cases v <;> rfl⟩, Or.inr ⟨rfl, h1, h2⟩⟩
theorem fp_9_9 {d : MD} {own : String} (v : Int32) : FP d own 9 9 (.int v) := ⟨_, rfl, ⟨.int, by decide +kernel, rfl, rfl⟩, Or.inl rfl⟩
theorem fp_9_10 {d : MD} {own : String} (v : Int32) : FP d own 9 10 (.int v) := ⟨_, rfl, ⟨.int, by decide +kernel, rfl, rfl⟩, Or.inl rfl⟩
theorem fp_9_11 {d : MD} {own : String} (v : Int32) : FP d own 9 11 (.int v) := ⟨_, rfl, ⟨.int, by decide +kernel, rfl, rfl⟩, Or.inl rfl⟩
theorem fp_9_12 {d : MD} {own : String} (v : Int32) (h : v = 0 ∨ v = 1) : FP d own 9 12 (.int v) := ⟨_, rfl, ⟨.boolean, by decide +kernel, by rcases h with rfl | rfl <;> rfl, by rcases h with rfl | rfl <;> rfl⟩, Or.inl rfl⟩
theorem fp_9_13 {d : MD} {own : String} (v : Int32) (h : v = 0 ∨ v = 1) : FP d own 9 13 (.int v) := ⟨_, rfl, ⟨.boolean, by decide +kernel, by rcases h with rfl | rfl <;> rfl, by rcases h with rfl | rfl <;> rfl⟩, Or.inl rfl⟩
theorem fp_9_14 {d : MD} {own : String} (v : Int32) (h : v = 0 ∨ v = 1) : FP d own 9 14 (.int v) := ⟨_, rfl, ⟨.boolean, by decide +kernel, by rcases h with rfl | rfl <;> rfl, by rcases h with rfl | rfl <;> rfl⟩, Or.inl rfl⟩
theorem fp_9_15 {d : MD} {own : String} (v : Int32) (h : v = 0 ∨ v = 1) : FP d own 9 15 (.int v) := ⟨_, rfl, ⟨.boolean, by decide +kernel, by rcases h with rfl | rfl <;> rfl, by rcases h with rfl | rfl <;> rfl⟩, Or.inl rfl⟩
theorem fq_10_0 {d : MD} {own : String} (v : Int32) (h1 : d.y.name = "<init>") (h2 : (TX9 0).1 = own) : FP d own 10 0 (.int v) := ⟨_, rfl, ⟨.int, by decide +kernel, rfl, rfl⟩, Or.inr ⟨rfl, h1, h2⟩⟩
theorem fq_10_1 {d : MD} {own : String} (v : Int32) (h1 : d.y.name = "<init>") (h2 : (TX9 1).1 = own) : FP d own 10 1 (.int v) := ⟨_, rfl, ⟨.int, by decide +kernel, rfl, rfl⟩, Or.inr ⟨rfl, h1, h2⟩⟩
theorem fq_10_2 {d : MD} {own : String} (v : Int32) (h1 : d.y.name = "<init>") (h2 : (TX9 2).1 = own) : FP d own 10 2 (.int v) := ⟨_, rfl, ⟨.int, by decide +kernel, rfl, rfl⟩, Or.inr ⟨rfl, h1, h2⟩⟩
theorem fq_10_3 {d : MD} {own : String} (v : Int32) (h1 : d.y.name = "<init>") (h2 : (TX9 3).1 = own) : FP d own 10 3 (.int v) := ⟨_, rfl, ⟨.int, by decide +kernel, rfl, rfl⟩, Or.inr ⟨rfl, h1, h2⟩⟩
theorem fq_10_4 {d : MD} {own : String} (v : Option Nat) (h1 : d.y.name = "<init>") (h2 : (TX9 4).1 = own) : FP d own 10 4 (va_rf v) := ⟨_, rfl, ⟨(.object "SnowNode$Peers"), by decide +kernel, by cases v <;> rfl, by cases v <;> rfl⟩, Or.inr ⟨rfl, h1, h2⟩⟩
theorem fq_10_5 {d : MD} {own : String} (v : Option Nat) (h1 : d.y.name = "<init>") (h2 : (TX9 5).1 = own) : FP d own 10 5 (va_rf v) := ⟨_, rfl, ⟨(.object "SnowNode$Tape"), by decide +kernel, by cases v <;> rfl, by cases v <;> rfl⟩, Or.inr ⟨rfl, h1, h2⟩⟩
theorem fq_10_6 {d : MD} {own : String} (v : Option Nat) (h1 : d.y.name = "<init>") (h2 : (TX9 6).1 = own) : FP d own 10 6 (va_rf v) := ⟨_, rfl, ⟨(.object "SnowNode$Digest"), by decide +kernel, by cases v <;> rfl, by cases v <;> rfl⟩, Or.inr ⟨rfl, h1, h2⟩⟩
theorem fq_10_7 {d : MD} {own : String} (v : Option Nat) (h1 : d.y.name = "<init>") (h2 : (TX9 7).1 = own) : FP d own 10 7 (va_rf v) := ⟨_, rfl, ⟨(.object "SnowNode$Graph"), by decide +kernel, by cases v <;> rfl, by cases v <;> rfl⟩, Or.inr ⟨rfl, h1, h2⟩⟩
theorem fq_10_8 {d : MD} {own : String} (v : Option Nat) (h1 : d.y.name = "<init>") (h2 : (TX9 8).1 = own) : FP d own 10 8 (va_rf v) := ⟨_, rfl, ⟨(.object "java/util/ArrayList"), by decide +kernel, by cases v <;> rfl, by cases v <;> rfl⟩, Or.inr ⟨rfl, h1, h2⟩⟩
theorem fq_10_9 {d : MD} {own : String} (v : Option Nat) (h1 : d.y.name = "<init>") (h2 : (TX9 9).1 = own) : FP d own 10 9 (va_rf v) := ⟨_, rfl, ⟨(.array (.object "SnowNode$Choice")), by decide +kernel, by cases v <;> rfl, by cases v <;> rfl⟩, Or.inr ⟨rfl, h1, h2⟩⟩
theorem fp_10_10 {d : MD} {own : String} (v : Int32) : FP d own 10 10 (.int v) := ⟨_, rfl, ⟨.int, by decide +kernel, rfl, rfl⟩, Or.inl rfl⟩
theorem fp_10_11 {d : MD} {own : String} (v : Int32) : FP d own 10 11 (.int v) := ⟨_, rfl, ⟨.int, by decide +kernel, rfl, rfl⟩, Or.inl rfl⟩
theorem fp_11_0 {d : MD} {own : String} (v : Int32) : FP d own 11 0 (.int v) := ⟨_, rfl, ⟨.int, by decide +kernel, rfl, rfl⟩, Or.inl rfl⟩
theorem fp_11_1 {d : MD} {own : String} (v : Int64) : FP d own 11 1 (.long v) := ⟨_, rfl, ⟨.long, by decide +kernel, rfl, rfl⟩, Or.inl rfl⟩
theorem fq_11_2 {d : MD} {own : String} (v : Int32) (h1 : d.y.name = "<init>") (h2 : (TX10 2).1 = own) : FP d own 11 2 (.int v) := ⟨_, rfl, ⟨.int, by decide +kernel, rfl, rfl⟩, Or.inr ⟨rfl, h1, h2⟩⟩
theorem fq_11_3 {d : MD} {own : String} (v : Int32) (h1 : d.y.name = "<init>") (h2 : (TX10 3).1 = own) : FP d own 11 3 (.int v) := ⟨_, rfl, ⟨.int, by decide +kernel, rfl, rfl⟩, Or.inr ⟨rfl, h1, h2⟩⟩
theorem fq_11_4 {d : MD} {own : String} (v : Int32) (h1 : d.y.name = "<init>") (h2 : (TX10 4).1 = own) : FP d own 11 4 (.int v) := ⟨_, rfl, ⟨.int, by decide +kernel, rfl, rfl⟩, Or.inr ⟨rfl, h1, h2⟩⟩
theorem fq_11_5 {d : MD} {own : String} (v : Int32) (h1 : d.y.name = "<init>") (h2 : (TX10 5).1 = own) : FP d own 11 5 (.int v) := ⟨_, rfl, ⟨.int, by decide +kernel, rfl, rfl⟩, Or.inr ⟨rfl, h1, h2⟩⟩
theorem fq_11_6 {d : MD} {own : String} (v : Option Nat) (h1 : d.y.name = "<init>") (h2 : (TX10 6).1 = own) : FP d own 11 6 (va_rf v) := ⟨_, rfl, ⟨(.array .int), by decide +kernel, by cases v <;> rfl, by cases v <;> rfl⟩, Or.inr ⟨rfl, h1, h2⟩⟩
theorem fq_11_7 {d : MD} {own : String} (v : Option Nat) (h1 : d.y.name = "<init>") (h2 : (TX10 7).1 = own) : FP d own 11 7 (va_rf v) := ⟨_, rfl, ⟨(.array .int), by decide +kernel, by cases v <;> rfl, by cases v <;> rfl⟩, Or.inr ⟨rfl, h1, h2⟩⟩
theorem fp_11_8 {d : MD} {own : String} (v : Int32) : FP d own 11 8 (.int v) := ⟨_, rfl, ⟨.int, by decide +kernel, rfl, rfl⟩, Or.inl rfl⟩
theorem fp_11_9 {d : MD} {own : String} (v : Int32) : FP d own 11 9 (.int v) := ⟨_, rfl, ⟨.int, by decide +kernel, rfl, rfl⟩, Or.inl rfl⟩
theorem fq_11_10 {d : MD} {own : String} (v : Option Nat) (h1 : d.y.name = "<init>") (h2 : (TX10 10).1 = own) : FP d own 11 10 (va_rf v) := ⟨_, rfl, ⟨(.array .int), by decide +kernel, by cases v <;> rfl, by cases v <;> rfl⟩, Or.inr ⟨rfl, h1, h2⟩⟩
theorem fq_11_11 {d : MD} {own : String} (v : Option Nat) (h1 : d.y.name = "<init>") (h2 : (TX10 11).1 = own) : FP d own 11 11 (va_rf v) := ⟨_, rfl, ⟨(.array .byte), by decide +kernel, by cases v <;> rfl, by cases v <;> rfl⟩, Or.inr ⟨rfl, h1, h2⟩⟩
theorem fq_11_12 {d : MD} {own : String} (v : Option Nat) (h1 : d.y.name = "<init>") (h2 : (TX10 12).1 = own) : FP d own 11 12 (va_rf v) := ⟨_, rfl, ⟨(.array .int), by decide +kernel, by cases v <;> rfl, by cases v <;> rfl⟩, Or.inr ⟨rfl, h1, h2⟩⟩
theorem fq_11_13 {d : MD} {own : String} (v : Option Nat) (h1 : d.y.name = "<init>") (h2 : (TX10 13).1 = own) : FP d own 11 13 (va_rf v) := ⟨_, rfl, ⟨(.array .int), by decide +kernel, by cases v <;> rfl, by cases v <;> rfl⟩, Or.inr ⟨rfl, h1, h2⟩⟩
theorem fq_11_14 {d : MD} {own : String} (v : Option Nat) (h1 : d.y.name = "<init>") (h2 : (TX10 14).1 = own) : FP d own 11 14 (va_rf v) := ⟨_, rfl, ⟨(.array .boolean), by decide +kernel, by cases v <;> rfl, by cases v <;> rfl⟩, Or.inr ⟨rfl, h1, h2⟩⟩
theorem fq_11_15 {d : MD} {own : String} (v : Option Nat) (h1 : d.y.name = "<init>") (h2 : (TX10 15).1 = own) : FP d own 11 15 (va_rf v) := ⟨_, rfl, ⟨(.array .boolean), by decide +kernel, by cases v <;> rfl, by cases v <;> rfl⟩, Or.inr ⟨rfl, h1, h2⟩⟩
theorem fq_11_16 {d : MD} {own : String} (v : Option Nat) (h1 : d.y.name = "<init>") (h2 : (TX10 16).1 = own) : FP d own 11 16 (va_rf v) := ⟨_, rfl, ⟨(.array .int), by decide +kernel, by cases v <;> rfl, by cases v <;> rfl⟩, Or.inr ⟨rfl, h1, h2⟩⟩
theorem fp_11_17 {d : MD} {own : String} (v : Int32) : FP d own 11 17 (.int v) := ⟨_, rfl, ⟨.int, by decide +kernel, rfl, rfl⟩, Or.inl rfl⟩
theorem fq_11_18 {d : MD} {own : String} (v : Option Nat) (h1 : d.y.name = "<init>") (h2 : (TX10 18).1 = own) : FP d own 11 18 (va_rf v) := ⟨_, rfl, ⟨(.array .int), by decide +kernel, by cases v <;> rfl, by cases v <;> rfl⟩, Or.inr ⟨rfl, h1, h2⟩⟩
theorem fp_11_19 {d : MD} {own : String} (v : Int32) : FP d own 11 19 (.int v) := ⟨_, rfl, ⟨.int, by decide +kernel, rfl, rfl⟩, Or.inl rfl⟩
theorem fq_11_20 {d : MD} {own : String} (v : Option Nat) (h1 : d.y.name = "<init>") (h2 : (TX10 20).1 = own) : FP d own 11 20 (va_rf v) := ⟨_, rfl, ⟨(.array .boolean), by decide +kernel, by cases v <;> rfl, by cases v <;> rfl⟩, Or.inr ⟨rfl, h1, h2⟩⟩
theorem fq_11_21 {d : MD} {own : String} (v : Option Nat) (h1 : d.y.name = "<init>") (h2 : (TX10 21).1 = own) : FP d own 11 21 (va_rf v) := ⟨_, rfl, ⟨(.array .boolean), by decide +kernel, by cases v <;> rfl, by cases v <;> rfl⟩, Or.inr ⟨rfl, h1, h2⟩⟩
theorem fq_11_22 {d : MD} {own : String} (v : Option Nat) (h1 : d.y.name = "<init>") (h2 : (TX10 22).1 = own) : FP d own 11 22 (va_rf v) := ⟨_, rfl, ⟨(.array .int), by decide +kernel, by cases v <;> rfl, by cases v <;> rfl⟩, Or.inr ⟨rfl, h1, h2⟩⟩
theorem fq_11_23 {d : MD} {own : String} (v : Option Nat) (h1 : d.y.name = "<init>") (h2 : (TX10 23).1 = own) : FP d own 11 23 (va_rf v) := ⟨_, rfl, ⟨(.array .int), by decide +kernel, by cases v <;> rfl, by cases v <;> rfl⟩, Or.inr ⟨rfl, h1, h2⟩⟩
theorem fq_11_24 {d : MD} {own : String} (v : Option Nat) (h1 : d.y.name = "<init>") (h2 : (TX10 24).1 = own) : FP d own 11 24 (va_rf v) := ⟨_, rfl, ⟨(.array .int), by decide +kernel, by cases v <;> rfl, by cases v <;> rfl⟩, Or.inr ⟨rfl, h1, h2⟩⟩
theorem fq_11_25 {d : MD} {own : String} (v : Option Nat) (h1 : d.y.name = "<init>") (h2 : (TX10 25).1 = own) : FP d own 11 25 (va_rf v) := ⟨_, rfl, ⟨(.array .int), by decide +kernel, by cases v <;> rfl, by cases v <;> rfl⟩, Or.inr ⟨rfl, h1, h2⟩⟩
theorem fq_11_26 {d : MD} {own : String} (v : Option Nat) (h1 : d.y.name = "<init>") (h2 : (TX10 26).1 = own) : FP d own 11 26 (va_rf v) := ⟨_, rfl, ⟨(.array .int), by decide +kernel, by cases v <;> rfl, by cases v <;> rfl⟩, Or.inr ⟨rfl, h1, h2⟩⟩
theorem fq_11_27 {d : MD} {own : String} (v : Option Nat) (h1 : d.y.name = "<init>") (h2 : (TX10 27).1 = own) : FP d own 11 27 (va_rf v) := ⟨_, rfl, ⟨(.array .int), by decide +kernel, by cases v <;> rfl, by cases v <;> rfl⟩, Or.inr ⟨rfl, h1, h2⟩⟩
theorem fq_11_28 {d : MD} {own : String} (v : Option Nat) (h1 : d.y.name = "<init>") (h2 : (TX10 28).1 = own) : FP d own 11 28 (va_rf v) := ⟨_, rfl, ⟨(.array .int), by decide +kernel, by cases v <;> rfl, by cases v <;> rfl⟩, Or.inr ⟨rfl, h1, h2⟩⟩
theorem fp_11_29 {d : MD} {own : String} (v : Int32) : FP d own 11 29 (.int v) := ⟨_, rfl, ⟨.int, by decide +kernel, rfl, rfl⟩, Or.inl rfl⟩
theorem fp_11_30 {d : MD} {own : String} (v : Int32) : FP d own 11 30 (.int v) := ⟨_, rfl, ⟨.int, by decide +kernel, rfl, rfl⟩, Or.inl rfl⟩
theorem fq_11_31 {d : MD} {own : String} (v : Option Nat) (h1 : d.y.name = "<init>") (h2 : (TX10 31).1 = own) : FP d own 11 31 (va_rf v) := ⟨_, rfl, ⟨(.array .boolean), by decide +kernel, by cases v <;> rfl, by cases v <;> rfl⟩, Or.inr ⟨rfl, h1, h2⟩⟩
theorem fq_11_32 {d : MD} {own : String} (v : Option Nat) (h1 : d.y.name = "<init>") (h2 : (TX10 32).1 = own) : FP d own 11 32 (va_rf v) := ⟨_, rfl, ⟨(.array .int), by decide +kernel, by cases v <;> rfl, by cases v <;> rfl⟩, Or.inr ⟨rfl, h1, h2⟩⟩
theorem fq_11_33 {d : MD} {own : String} (v : Option Nat) (h1 : d.y.name = "<init>") (h2 : (TX10 33).1 = own) : FP d own 11 33 (va_rf v) := ⟨_, rfl, ⟨(.array .int), by decide +kernel, by cases v <;> rfl, by cases v <;> rfl⟩, Or.inr ⟨rfl, h1, h2⟩⟩
theorem fq_11_34 {d : MD} {own : String} (v : Option Nat) (h1 : d.y.name = "<init>") (h2 : (TX10 34).1 = own) : FP d own 11 34 (va_rf v) := ⟨_, rfl, ⟨(.array .int), by decide +kernel, by cases v <;> rfl, by cases v <;> rfl⟩, Or.inr ⟨rfl, h1, h2⟩⟩
theorem fq_11_35 {d : MD} {own : String} (v : Option Nat) (h1 : d.y.name = "<init>") (h2 : (TX10 35).1 = own) : FP d own 11 35 (va_rf v) := ⟨_, rfl, ⟨(.array .int), by decide +kernel, by cases v <;> rfl, by cases v <;> rfl⟩, Or.inr ⟨rfl, h1, h2⟩⟩
theorem fq_11_36 {d : MD} {own : String} (v : Option Nat) (h1 : d.y.name = "<init>") (h2 : (TX10 36).1 = own) : FP d own 11 36 (va_rf v) := ⟨_, rfl, ⟨(.array .boolean), by decide +kernel, by cases v <;> rfl, by cases v <;> rfl⟩, Or.inr ⟨rfl, h1, h2⟩⟩
theorem fq_11_37 {d : MD} {own : String} (v : Option Nat) (h1 : d.y.name = "<init>") (h2 : (TX10 37).1 = own) : FP d own 11 37 (va_rf v) := ⟨_, rfl, ⟨(.array .int), by decide +kernel, by cases v <;> rfl, by cases v <;> rfl⟩, Or.inr ⟨rfl, h1, h2⟩⟩
theorem fq_11_38 {d : MD} {own : String} (v : Option Nat) (h1 : d.y.name = "<init>") (h2 : (TX10 38).1 = own) : FP d own 11 38 (va_rf v) := ⟨_, rfl, ⟨(.array .int), by decide +kernel, by cases v <;> rfl, by cases v <;> rfl⟩, Or.inr ⟨rfl, h1, h2⟩⟩
theorem fq_11_39 {d : MD} {own : String} (v : Option Nat) (h1 : d.y.name = "<init>") (h2 : (TX10 39).1 = own) : FP d own 11 39 (va_rf v) := ⟨_, rfl, ⟨(.array .int), by decide +kernel, by cases v <;> rfl, by cases v <;> rfl⟩, Or.inr ⟨rfl, h1, h2⟩⟩
theorem fq_11_40 {d : MD} {own : String} (v : Option Nat) (h1 : d.y.name = "<init>") (h2 : (TX10 40).1 = own) : FP d own 11 40 (va_rf v) := ⟨_, rfl, ⟨(.array .int), by decide +kernel, by cases v <;> rfl, by cases v <;> rfl⟩, Or.inr ⟨rfl, h1, h2⟩⟩
theorem fq_11_41 {d : MD} {own : String} (v : Option Nat) (h1 : d.y.name = "<init>") (h2 : (TX10 41).1 = own) : FP d own 11 41 (va_rf v) := ⟨_, rfl, ⟨(.array .int), by decide +kernel, by cases v <;> rfl, by cases v <;> rfl⟩, Or.inr ⟨rfl, h1, h2⟩⟩
theorem fq_11_42 {d : MD} {own : String} (v : Option Nat) (h1 : d.y.name = "<init>") (h2 : (TX10 42).1 = own) : FP d own 11 42 (va_rf v) := ⟨_, rfl, ⟨(.array .int), by decide +kernel, by cases v <;> rfl, by cases v <;> rfl⟩, Or.inr ⟨rfl, h1, h2⟩⟩
theorem fq_11_43 {d : MD} {own : String} (v : Option Nat) (h1 : d.y.name = "<init>") (h2 : (TX10 43).1 = own) : FP d own 11 43 (va_rf v) := ⟨_, rfl, ⟨(.array .int), by decide +kernel, by cases v <;> rfl, by cases v <;> rfl⟩, Or.inr ⟨rfl, h1, h2⟩⟩
end HeapRows
