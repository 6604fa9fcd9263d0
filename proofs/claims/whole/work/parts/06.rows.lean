/-! One instruction, one row -/
section Rows
variable {l : Launch} {g : GG} {d : MD} {mc ms : Nat} {own : String} {Post : Option AV → hS → Prop} {J : JJ} {pc : Nat} {lv : List (Nat × AV)} {st : List AV} {S : hS} {kc ns : Nat}
theorem r_iconst (C : Cx l g d mc ms own Post J) {n : Int} (v : Int32) (hd : decode d.b pc = .ok (.iconst n, 1)) (hv : Int32.ofInt n = v) (k : J (pc + 1) lv (vi v :: st) S kc ns) : J pc lv (st) S kc ns := by
  obtain ⟨p, e, s, m, args, below, meth, c, hx, hb, hml, hr, ho, hts, hlk, hK, hnm, Q0, hQ0, rfl⟩ := C
  intro H locs ls hH hL hl
  exact lv_iconst hx hb hd hv (k H locs ls hH hL hl)
theorem r_bipush (C : Cx l g d mc ms own Post J) {n : Int} (v : Int32) (hd : decode d.b pc = .ok (.bipush n, 2)) (hv : (Int8.ofInt n).toInt32 = v) (k : J (pc + 2) lv (vi v :: st) S kc ns) : J pc lv (st) S kc ns := by
  obtain ⟨p, e, s, m, args, below, meth, c, hx, hb, hml, hr, ho, hts, hlk, hK, hnm, Q0, hQ0, rfl⟩ := C
  intro H locs ls hH hL hl
  exact lv_bipush hx hb hd hv (k H locs ls hH hL hl)
theorem r_sipush (C : Cx l g d mc ms own Post J) {n : Int} (v : Int32) (hd : decode d.b pc = .ok (.sipush n, 3)) (hv : (Int16.ofInt n).toInt32 = v) (k : J (pc + 3) lv (vi v :: st) S kc ns) : J pc lv (st) S kc ns := by
  obtain ⟨p, e, s, m, args, below, meth, c, hx, hb, hml, hr, ho, hts, hlk, hK, hnm, Q0, hQ0, rfl⟩ := C
  intro H locs ls hH hL hl
  exact lv_sipush hx hb hd hv (k H locs ls hH hL hl)
theorem r_lconst (C : Cx l g d mc ms own Post J) {n : Fin 2} (v : Int64) (hd : decode d.b pc = .ok (.lconst n, 1)) (hv : Int64.ofNat (n : Nat) = v) (k : J (pc + 1) lv (vl v :: st) S kc ns) : J pc lv (st) S kc ns := by
  obtain ⟨p, e, s, m, args, below, meth, c, hx, hb, hml, hr, ho, hts, hlk, hK, hnm, Q0, hQ0, rfl⟩ := C
  intro H locs ls hH hL hl
  exact lv_lconst hx hb hd hv (k H locs ls hH hL hl)
theorem r_null (C : Cx l g d mc ms own Post J) (hd : decode d.b pc = .ok (.aconst_null, 1)) (k : J (pc + 1) lv (vr none :: st) S kc ns) : J pc lv (st) S kc ns := by
  obtain ⟨p, e, s, m, args, below, meth, c, hx, hb, hml, hr, ho, hts, hlk, hK, hnm, Q0, hQ0, rfl⟩ := C
  intro H locs ls hH hL hl
  exact lv_null hx hb hd (k H locs ls hH hL hl)
theorem r_ldc (C : Cx l g d mc ms own Post J) {i : Nat} {v : Int32} (hw : Cond.constant own i v ∈ Wd) (hd : decode d.b pc = .ok (.ldc i, 2)) (k : J (pc + 2) lv (vi v :: st) S kc ns) : J pc lv (st) S kc ns := by
  obtain ⟨p, e, s, m, args, below, meth, c, hx, hb, hml, hr, ho, hts, hlk, hK, hnm, Q0, hQ0, rfl⟩ := C
  intro H locs ls hH hL hl
  exact lv_ldc hx hb ho (hts _ hw) hd (k H locs ls hH hL hl)
theorem r_ldcw (C : Cx l g d mc ms own Post J) {i : Nat} {v : Int32} (hw : Cond.constant own i v ∈ Wd) (hd : decode d.b pc = .ok (.ldc_w i, 3)) (k : J (pc + 3) lv (vi v :: st) S kc ns) : J pc lv (st) S kc ns := by
  obtain ⟨p, e, s, m, args, below, meth, c, hx, hb, hml, hr, ho, hts, hlk, hK, hnm, Q0, hQ0, rfl⟩ := C
  intro H locs ls hH hL hl
  exact lv_ldcw hx hb ho (hts _ hw) hd (k H locs ls hH hL hl)
theorem r_ldc2 (C : Cx l g d mc ms own Post J) {i : Nat} {v : Int64} (hw : Cond.constantLong own i v ∈ Wd) (hd : decode d.b pc = .ok (.ldc2_w i, 3)) (k : J (pc + 3) lv (vl v :: st) S kc ns) : J pc lv (st) S kc ns := by
  obtain ⟨p, e, s, m, args, below, meth, c, hx, hb, hml, hr, ho, hts, hlk, hK, hnm, Q0, hQ0, rfl⟩ := C
  intro H locs ls hH hL hl
  exact lv_ldc2 hx hb ho (hts _ hw) hd (k H locs ls hH hL hl)
theorem r_iload_n (C : Cx l g d mc ms own Post J) {n : Fin 4} {x : Int32} (hd : decode d.b pc = .ok (.iload_n n, 1)) (h : lg lv n = some (vi x)) (k : J (pc + 1) lv (vi x :: st) S kc ns) : J pc lv (st) S kc ns := by
  obtain ⟨p, e, s, m, args, below, meth, c, hx, hb, hml, hr, ho, hts, hlk, hK, hnm, Q0, hQ0, rfl⟩ := C
  intro H locs ls hH hL hl
  exact lv_iload_n hx hb hd rfl (lg_has hl h) (k H locs ls hH hL hl)
theorem r_iload (C : Cx l g d mc ms own Post J) {n : Nat} {x : Int32} (hd : decode d.b pc = .ok (.iload n, 2)) (h : lg lv n = some (vi x)) (k : J (pc + 2) lv (vi x :: st) S kc ns) : J pc lv (st) S kc ns := by
  obtain ⟨p, e, s, m, args, below, meth, c, hx, hb, hml, hr, ho, hts, hlk, hK, hnm, Q0, hQ0, rfl⟩ := C
  intro H locs ls hH hL hl
  exact lv_iload hx hb hd (lg_has hl h) (k H locs ls hH hL hl)
theorem r_lload_n (C : Cx l g d mc ms own Post J) {n : Fin 4} {x : Int64} (hd : decode d.b pc = .ok (.lload_n n, 1)) (h : lg lv n = some (vl x)) (k : J (pc + 1) lv (vl x :: st) S kc ns) : J pc lv (st) S kc ns := by
  obtain ⟨p, e, s, m, args, below, meth, c, hx, hb, hml, hr, ho, hts, hlk, hK, hnm, Q0, hQ0, rfl⟩ := C
  intro H locs ls hH hL hl
  exact lv_lload_n hx hb hd rfl (lg_has hl h) (k H locs ls hH hL hl)
theorem r_lload (C : Cx l g d mc ms own Post J) {n : Nat} {x : Int64} (hd : decode d.b pc = .ok (.lload n, 2)) (h : lg lv n = some (vl x)) (k : J (pc + 2) lv (vl x :: st) S kc ns) : J pc lv (st) S kc ns := by
  obtain ⟨p, e, s, m, args, below, meth, c, hx, hb, hml, hr, ho, hts, hlk, hK, hnm, Q0, hQ0, rfl⟩ := C
  intro H locs ls hH hL hl
  exact lv_lload hx hb hd (lg_has hl h) (k H locs ls hH hL hl)
theorem r_aload_n (C : Cx l g d mc ms own Post J) {n : Fin 4} {x : Option Nat} (hd : decode d.b pc = .ok (.aload_n n, 1)) (h : lg lv n = some (vr x)) (k : J (pc + 1) lv (vr x :: st) S kc ns) : J pc lv (st) S kc ns := by
  obtain ⟨p, e, s, m, args, below, meth, c, hx, hb, hml, hr, ho, hts, hlk, hK, hnm, Q0, hQ0, rfl⟩ := C
  intro H locs ls hH hL hl
  cases x with
  | none => exact lv_aload_nN hx hb hd rfl (lg_has hl h) (k H locs ls hH hL hl)
  | some a => exact lv_aload_n hx hb hd rfl (lg_has hl h) (k H locs ls hH hL hl)
theorem r_aload (C : Cx l g d mc ms own Post J) {n : Nat} {x : Option Nat} (hd : decode d.b pc = .ok (.aload n, 2)) (h : lg lv n = some (vr x)) (k : J (pc + 2) lv (vr x :: st) S kc ns) : J pc lv (st) S kc ns := by
  obtain ⟨p, e, s, m, args, below, meth, c, hx, hb, hml, hr, ho, hts, hlk, hK, hnm, Q0, hQ0, rfl⟩ := C
  intro H locs ls hH hL hl
  cases x with
  | none => exact lv_aloadN hx hb hd (lg_has hl h) (k H locs ls hH hL hl)
  | some a => exact lv_aload hx hb hd (lg_has hl h) (k H locs ls hH hL hl)
theorem r_istore_n (C : Cx l g d mc ms own Post J) {n : Fin 4} {x : Int32} (hd : decode d.b pc = .ok (.istore_n n, 1)) (hn : (n : Nat) < d.l) {lv2 : List (Nat × AV)} (h2 : ls1 lv n (vi x) = lv2) (k : J (pc + 1) lv2 st S kc ns) : J pc lv (vi x :: st) S kc ns := by
  obtain ⟨p, e, s, m, args, below, meth, c, hx, hb, hml, hr, ho, hts, hlk, hK, hnm, Q0, hQ0, rfl⟩ := C
  intro H locs ls hH hL hl
  subst h2
  exact lv_istore_n hx hb hd rfl hl hn (ls1_cv lv n (vi x)).symm (fun ls2 hl2 => k H locs ls2 hH hL hl2)
theorem r_istore (C : Cx l g d mc ms own Post J) {n : Nat} {x : Int32} (hd : decode d.b pc = .ok (.istore n, 2)) (hn : (n : Nat) < d.l) {lv2 : List (Nat × AV)} (h2 : ls1 lv n (vi x) = lv2) (k : J (pc + 2) lv2 st S kc ns) : J pc lv (vi x :: st) S kc ns := by
  obtain ⟨p, e, s, m, args, below, meth, c, hx, hb, hml, hr, ho, hts, hlk, hK, hnm, Q0, hQ0, rfl⟩ := C
  intro H locs ls hH hL hl
  subst h2
  exact lv_istore hx hb hd hl hn (ls1_cv lv n (vi x)).symm (fun ls2 hl2 => k H locs ls2 hH hL hl2)
theorem r_lstore_n (C : Cx l g d mc ms own Post J) {n : Fin 4} {x : Int64} (hd : decode d.b pc = .ok (.lstore_n n, 1)) (hn : (n : Nat) + 1 < d.l) {lv2 : List (Nat × AV)} (h2 : ls2 lv n (vl x) = lv2) (k : J (pc + 1) lv2 st S kc ns) : J pc lv (vl x :: st) S kc ns := by
  obtain ⟨p, e, s, m, args, below, meth, c, hx, hb, hml, hr, ho, hts, hlk, hK, hnm, Q0, hQ0, rfl⟩ := C
  intro H locs ls hH hL hl
  subst h2
  exact lv_lstore_n hx hb hd rfl hl hn (ls2_cv lv n (vl x)).symm (fun ls2 hl2 => k H locs ls2 hH hL hl2)
theorem r_lstore (C : Cx l g d mc ms own Post J) {n : Nat} {x : Int64} (hd : decode d.b pc = .ok (.lstore n, 2)) (hn : (n : Nat) + 1 < d.l) {lv2 : List (Nat × AV)} (h2 : ls2 lv n (vl x) = lv2) (k : J (pc + 2) lv2 st S kc ns) : J pc lv (vl x :: st) S kc ns := by
  obtain ⟨p, e, s, m, args, below, meth, c, hx, hb, hml, hr, ho, hts, hlk, hK, hnm, Q0, hQ0, rfl⟩ := C
  intro H locs ls hH hL hl
  subst h2
  exact lv_lstore hx hb hd hl hn (ls2_cv lv n (vl x)).symm (fun ls2 hl2 => k H locs ls2 hH hL hl2)
theorem r_astore_n (C : Cx l g d mc ms own Post J) {n : Fin 4} {x : Option Nat} (hd : decode d.b pc = .ok (.astore_n n, 1)) (hn : (n : Nat) < d.l) {lv2 : List (Nat × AV)} (h2 : ls1 lv n (vr x) = lv2) (k : J (pc + 1) lv2 st S kc ns) : J pc lv (vr x :: st) S kc ns := by
  obtain ⟨p, e, s, m, args, below, meth, c, hx, hb, hml, hr, ho, hts, hlk, hK, hnm, Q0, hQ0, rfl⟩ := C
  intro H locs ls hH hL hl
  subst h2
  cases x with
  | none => exact lv_astore_nN hx hb hd rfl hl hn (ls1_cv lv n (vr none)).symm (fun ls2 hl2 => k H locs ls2 hH hL hl2)
  | some a => exact lv_astore_n hx hb hd rfl hl hn (ls1_cv lv n (vr (some a))).symm (fun ls2 hl2 => k H locs ls2 hH hL hl2)
theorem r_astore (C : Cx l g d mc ms own Post J) {n : Nat} {x : Option Nat} (hd : decode d.b pc = .ok (.astore n, 2)) (hn : (n : Nat) < d.l) {lv2 : List (Nat × AV)} (h2 : ls1 lv n (vr x) = lv2) (k : J (pc + 2) lv2 st S kc ns) : J pc lv (vr x :: st) S kc ns := by
  obtain ⟨p, e, s, m, args, below, meth, c, hx, hb, hml, hr, ho, hts, hlk, hK, hnm, Q0, hQ0, rfl⟩ := C
  intro H locs ls hH hL hl
  subst h2
  cases x with
  | none => exact lv_astoreN hx hb hd hl hn (ls1_cv lv n (vr none)).symm (fun ls2 hl2 => k H locs ls2 hH hL hl2)
  | some a => exact lv_astore hx hb hd hl hn (ls1_cv lv n (vr (some a))).symm (fun ls2 hl2 => k H locs ls2 hH hL hl2)
theorem r_iinc (C : Cx l g d mc ms own Post J) {n : Nat} {i : Int} {x : Int32} (v : Int32) (hd : decode d.b pc = .ok (.iinc n i, 3)) (h : lg lv n = some (vi x)) (hv : x + Int32.ofInt i = v) (hn : n < d.l) {lv2 : List (Nat × AV)} (h2 : ls1 lv n (vi v) = lv2) (k : J (pc + 3) lv2 st S kc ns) : J pc lv st S kc ns := by
  obtain ⟨p, e, s, m, args, below, meth, c, hx, hb, hml, hr, ho, hts, hlk, hK, hnm, Q0, hQ0, rfl⟩ := C
  intro H locs ls hH hL hl
  subst h2
  obtain ⟨q, hq⟩ := List.getElem?_of_mem (show (n, Value.int x) ∈ lv.map cvL from List.mem_map.mpr ⟨(n, vi x), lg_mem h, rfl⟩)
  exact lv_iinc hx hb hd hl hq hv hn (ls1_cv lv n (vi v)).symm (fun ls2 hl2 => k H locs ls2 hH hL hl2)
theorem r_iadd (C : Cx l g d mc ms own Post J) {x y : Int32} (hd : decode d.b pc = .ok (.iadd, 1)) (k : J (pc + 1) lv (vi (x + y) :: st) S kc ns) : J pc lv (vi y :: vi x :: st) S kc ns := by
  obtain ⟨p, e, s, m, args, below, meth, c, hx, hb, hml, hr, ho, hts, hlk, hK, hnm, Q0, hQ0, rfl⟩ := C
  intro H locs ls hH hL hl
  exact lv_iadd hx hb hd (k H locs ls hH hL hl)
theorem r_isub (C : Cx l g d mc ms own Post J) {x y : Int32} (hd : decode d.b pc = .ok (.isub, 1)) (k : J (pc + 1) lv (vi (x - y) :: st) S kc ns) : J pc lv (vi y :: vi x :: st) S kc ns := by
  obtain ⟨p, e, s, m, args, below, meth, c, hx, hb, hml, hr, ho, hts, hlk, hK, hnm, Q0, hQ0, rfl⟩ := C
  intro H locs ls hH hL hl
  exact lv_isub hx hb hd (k H locs ls hH hL hl)
theorem r_imul (C : Cx l g d mc ms own Post J) {x y : Int32} (hd : decode d.b pc = .ok (.imul, 1)) (k : J (pc + 1) lv (vi (x * y) :: st) S kc ns) : J pc lv (vi y :: vi x :: st) S kc ns := by
  obtain ⟨p, e, s, m, args, below, meth, c, hx, hb, hml, hr, ho, hts, hlk, hK, hnm, Q0, hQ0, rfl⟩ := C
  intro H locs ls hH hL hl
  exact lv_imul hx hb hd (k H locs ls hH hL hl)
theorem r_iand (C : Cx l g d mc ms own Post J) {x y : Int32} (hd : decode d.b pc = .ok (.iand, 1)) (k : J (pc + 1) lv (vi (x &&& y) :: st) S kc ns) : J pc lv (vi y :: vi x :: st) S kc ns := by
  obtain ⟨p, e, s, m, args, below, meth, c, hx, hb, hml, hr, ho, hts, hlk, hK, hnm, Q0, hQ0, rfl⟩ := C
  intro H locs ls hH hL hl
  exact lv_iand hx hb hd (k H locs ls hH hL hl)
theorem r_ior (C : Cx l g d mc ms own Post J) {x y : Int32} (hd : decode d.b pc = .ok (.ior, 1)) (k : J (pc + 1) lv (vi (x ||| y) :: st) S kc ns) : J pc lv (vi y :: vi x :: st) S kc ns := by
  obtain ⟨p, e, s, m, args, below, meth, c, hx, hb, hml, hr, ho, hts, hlk, hK, hnm, Q0, hQ0, rfl⟩ := C
  intro H locs ls hH hL hl
  exact lv_ior hx hb hd (k H locs ls hH hL hl)
theorem r_ixor (C : Cx l g d mc ms own Post J) {x y : Int32} (hd : decode d.b pc = .ok (.ixor, 1)) (k : J (pc + 1) lv (vi (x ^^^ y) :: st) S kc ns) : J pc lv (vi y :: vi x :: st) S kc ns := by
  obtain ⟨p, e, s, m, args, below, meth, c, hx, hb, hml, hr, ho, hts, hlk, hK, hnm, Q0, hQ0, rfl⟩ := C
  intro H locs ls hH hL hl
  exact lv_ixor hx hb hd (k H locs ls hH hL hl)
theorem r_ishl (C : Cx l g d mc ms own Post J) {x y : Int32} (hd : decode d.b pc = .ok (.ishl, 1)) (k : J (pc + 1) lv (vi (x <<< (y &&& 31)) :: st) S kc ns) : J pc lv (vi y :: vi x :: st) S kc ns := by
  obtain ⟨p, e, s, m, args, below, meth, c, hx, hb, hml, hr, ho, hts, hlk, hK, hnm, Q0, hQ0, rfl⟩ := C
  intro H locs ls hH hL hl
  exact lv_ishl hx hb hd (k H locs ls hH hL hl)
theorem r_ishr (C : Cx l g d mc ms own Post J) {x y : Int32} (hd : decode d.b pc = .ok (.ishr, 1)) (k : J (pc + 1) lv (vi (x >>> (y &&& 31)) :: st) S kc ns) : J pc lv (vi y :: vi x :: st) S kc ns := by
  obtain ⟨p, e, s, m, args, below, meth, c, hx, hb, hml, hr, ho, hts, hlk, hK, hnm, Q0, hQ0, rfl⟩ := C
  intro H locs ls hH hL hl
  exact lv_ishr hx hb hd (k H locs ls hH hL hl)
theorem r_idiv (C : Cx l g d mc ms own Post J) {x y : Int32} (hd : decode d.b pc = .ok (.idiv, 1)) (hne : ¬ y = 0) (k : J (pc + 1) lv (vi (x / y) :: st) S kc ns) : J pc lv (vi y :: vi x :: st) S kc ns := by
  obtain ⟨p, e, s, m, args, below, meth, c, hx, hb, hml, hr, ho, hts, hlk, hK, hnm, Q0, hQ0, rfl⟩ := C
  intro H locs ls hH hL hl
  exact lv_idiv hx hb hd hne (k H locs ls hH hL hl)
theorem r_irem (C : Cx l g d mc ms own Post J) {x y : Int32} (hd : decode d.b pc = .ok (.irem, 1)) (hne : ¬ y = 0) (k : J (pc + 1) lv (vi (x - x / y * y) :: st) S kc ns) : J pc lv (vi y :: vi x :: st) S kc ns := by
  obtain ⟨p, e, s, m, args, below, meth, c, hx, hb, hml, hr, ho, hts, hlk, hK, hnm, Q0, hQ0, rfl⟩ := C
  intro H locs ls hH hL hl
  exact lv_irem hx hb hd hne (k H locs ls hH hL hl)
theorem r_ineg (C : Cx l g d mc ms own Post J) {x : Int32} (hd : decode d.b pc = .ok (.ineg, 1)) (k : J (pc + 1) lv (vi (-x) :: st) S kc ns) : J pc lv (vi x :: st) S kc ns := by
  obtain ⟨p, e, s, m, args, below, meth, c, hx, hb, hml, hr, ho, hts, hlk, hK, hnm, Q0, hQ0, rfl⟩ := C
  intro H locs ls hH hL hl
  exact lv_ineg hx hb hd (k H locs ls hH hL hl)
theorem r_ladd (C : Cx l g d mc ms own Post J) {x y : Int64} (hd : decode d.b pc = .ok (.ladd, 1)) (k : J (pc + 1) lv (vl (x + y) :: st) S kc ns) : J pc lv (vl y :: vl x :: st) S kc ns := by
  obtain ⟨p, e, s, m, args, below, meth, c, hx, hb, hml, hr, ho, hts, hlk, hK, hnm, Q0, hQ0, rfl⟩ := C
  intro H locs ls hH hL hl
  exact lv_ladd hx hb hd (k H locs ls hH hL hl)
theorem r_lsub (C : Cx l g d mc ms own Post J) {x y : Int64} (hd : decode d.b pc = .ok (.lsub, 1)) (k : J (pc + 1) lv (vl (x - y) :: st) S kc ns) : J pc lv (vl y :: vl x :: st) S kc ns := by
  obtain ⟨p, e, s, m, args, below, meth, c, hx, hb, hml, hr, ho, hts, hlk, hK, hnm, Q0, hQ0, rfl⟩ := C
  intro H locs ls hH hL hl
  exact lv_lsub hx hb hd (k H locs ls hH hL hl)
theorem r_lmul (C : Cx l g d mc ms own Post J) {x y : Int64} (hd : decode d.b pc = .ok (.lmul, 1)) (k : J (pc + 1) lv (vl (x * y) :: st) S kc ns) : J pc lv (vl y :: vl x :: st) S kc ns := by
  obtain ⟨p, e, s, m, args, below, meth, c, hx, hb, hml, hr, ho, hts, hlk, hK, hnm, Q0, hQ0, rfl⟩ := C
  intro H locs ls hH hL hl
  exact lv_lmul hx hb hd (k H locs ls hH hL hl)
theorem r_land (C : Cx l g d mc ms own Post J) {x y : Int64} (hd : decode d.b pc = .ok (.land, 1)) (k : J (pc + 1) lv (vl (x &&& y) :: st) S kc ns) : J pc lv (vl y :: vl x :: st) S kc ns := by
  obtain ⟨p, e, s, m, args, below, meth, c, hx, hb, hml, hr, ho, hts, hlk, hK, hnm, Q0, hQ0, rfl⟩ := C
  intro H locs ls hH hL hl
  exact lv_land hx hb hd (k H locs ls hH hL hl)
theorem r_lor (C : Cx l g d mc ms own Post J) {x y : Int64} (hd : decode d.b pc = .ok (.lor, 1)) (k : J (pc + 1) lv (vl (x ||| y) :: st) S kc ns) : J pc lv (vl y :: vl x :: st) S kc ns := by
  obtain ⟨p, e, s, m, args, below, meth, c, hx, hb, hml, hr, ho, hts, hlk, hK, hnm, Q0, hQ0, rfl⟩ := C
  intro H locs ls hH hL hl
  exact lv_lor hx hb hd (k H locs ls hH hL hl)
theorem r_lrem (C : Cx l g d mc ms own Post J) {x y : Int64} (hd : decode d.b pc = .ok (.lrem, 1)) (hne : ¬ y = 0) (k : J (pc + 1) lv (vl (x - x / y * y) :: st) S kc ns) : J pc lv (vl y :: vl x :: st) S kc ns := by
  obtain ⟨p, e, s, m, args, below, meth, c, hx, hb, hml, hr, ho, hts, hlk, hK, hnm, Q0, hQ0, rfl⟩ := C
  intro H locs ls hH hL hl
  exact lv_lrem hx hb hd hne (k H locs ls hH hL hl)
theorem r_iushr (C : Cx l g d mc ms own Post J) {x y : Int32} (hd : decode d.b pc = .ok (.iushr, 1)) (k : J (pc + 1) lv (vi (x.toUInt32 >>> (y.toUInt32 &&& Int32.toUInt32 31)).toInt32 :: st) S kc ns) : J pc lv (vi y :: vi x :: st) S kc ns := by
  obtain ⟨p, e, s, m, args, below, meth, c, hx, hb, hml, hr, ho, hts, hlk, hK, hnm, Q0, hQ0, rfl⟩ := C
  intro H locs ls hH hL hl
  exact lv_iushr hx hb hd rfl (k H locs ls hH hL hl)
theorem r_lushr (C : Cx l g d mc ms own Post J) {x : Int64} {y : Int32} (hd : decode d.b pc = .ok (.lushr, 1)) (k : J (pc + 1) lv (vl (x.toUInt64 >>> (y.toInt64.toUInt64 &&& Int64.toUInt64 63)).toInt64 :: st) S kc ns) : J pc lv (vi y :: vl x :: st) S kc ns := by
  obtain ⟨p, e, s, m, args, below, meth, c, hx, hb, hml, hr, ho, hts, hlk, hK, hnm, Q0, hQ0, rfl⟩ := C
  intro H locs ls hH hL hl
  exact lv_lushr hx hb hd rfl (k H locs ls hH hL hl)
theorem r_lshl (C : Cx l g d mc ms own Post J) {x : Int64} {y : Int32} (hd : decode d.b pc = .ok (.lshl, 1)) (k : J (pc + 1) lv (vl (x <<< (y.toInt64 &&& 63)) :: st) S kc ns) : J pc lv (vi y :: vl x :: st) S kc ns := by
  obtain ⟨p, e, s, m, args, below, meth, c, hx, hb, hml, hr, ho, hts, hlk, hK, hnm, Q0, hQ0, rfl⟩ := C
  intro H locs ls hH hL hl
  exact lv_lshl hx hb hd rfl (k H locs ls hH hL hl)
theorem r_lshr (C : Cx l g d mc ms own Post J) {x : Int64} {y : Int32} (hd : decode d.b pc = .ok (.lshr, 1)) (k : J (pc + 1) lv (vl (x >>> (y.toInt64 &&& 63)) :: st) S kc ns) : J pc lv (vi y :: vl x :: st) S kc ns := by
  obtain ⟨p, e, s, m, args, below, meth, c, hx, hb, hml, hr, ho, hts, hlk, hK, hnm, Q0, hQ0, rfl⟩ := C
  intro H locs ls hH hL hl
  exact lv_lshr hx hb hd rfl (k H locs ls hH hL hl)
theorem r_i2l (C : Cx l g d mc ms own Post J) {x : Int32} (hd : decode d.b pc = .ok (.i2l, 1)) (k : J (pc + 1) lv (vl x.toInt64 :: st) S kc ns) : J pc lv (vi x :: st) S kc ns := by
  obtain ⟨p, e, s, m, args, below, meth, c, hx, hb, hml, hr, ho, hts, hlk, hK, hnm, Q0, hQ0, rfl⟩ := C
  intro H locs ls hH hL hl
  exact lv_i2l hx hb hd rfl (k H locs ls hH hL hl)
theorem r_l2i (C : Cx l g d mc ms own Post J) {x : Int64} (hd : decode d.b pc = .ok (.l2i, 1)) (k : J (pc + 1) lv (vi x.toInt32 :: st) S kc ns) : J pc lv (vl x :: st) S kc ns := by
  obtain ⟨p, e, s, m, args, below, meth, c, hx, hb, hml, hr, ho, hts, hlk, hK, hnm, Q0, hQ0, rfl⟩ := C
  intro H locs ls hH hL hl
  exact lv_l2i hx hb hd rfl (k H locs ls hH hL hl)
theorem r_i2b (C : Cx l g d mc ms own Post J) {x : Int32} (hd : decode d.b pc = .ok (.i2b, 1)) (k : J (pc + 1) lv (vi x.toInt8.toInt32 :: st) S kc ns) : J pc lv (vi x :: st) S kc ns := by
  obtain ⟨p, e, s, m, args, below, meth, c, hx, hb, hml, hr, ho, hts, hlk, hK, hnm, Q0, hQ0, rfl⟩ := C
  intro H locs ls hH hL hl
  exact lv_i2b hx hb hd rfl (k H locs ls hH hL hl)
theorem r_dup (C : Cx l g d mc ms own Post J) {x : AV} (hd : decode d.b pc = .ok (.dup, 1)) (h : c2 x = false) (k : J (pc + 1) lv (x :: x :: st) S kc ns) : J pc lv (x :: st) S kc ns := by
  obtain ⟨p, e, s, m, args, below, meth, c, hx, hb, hml, hr, ho, hts, hlk, hK, hnm, Q0, hQ0, rfl⟩ := C
  intro H locs ls hH hL hl
  exact lv_dup hx hb hd (cat_1 h) (k H locs ls hH hL hl)
theorem r_pop (C : Cx l g d mc ms own Post J) {x : AV} (hd : decode d.b pc = .ok (.pop, 1)) (h : c2 x = false) (k : J (pc + 1) lv (st) S kc ns) : J pc lv (x :: st) S kc ns := by
  obtain ⟨p, e, s, m, args, below, meth, c, hx, hb, hml, hr, ho, hts, hlk, hK, hnm, Q0, hQ0, rfl⟩ := C
  intro H locs ls hH hL hl
  exact lv_pop hx hb hd (cat_1 h) (k H locs ls hH hL hl)
theorem r_dup2 (C : Cx l g d mc ms own Post J) {x y : AV} (hd : decode d.b pc = .ok (.dup2, 1)) (h : c2 x = false) (h2 : c2 y = false) (k : J (pc + 1) lv (x :: y :: x :: y :: st) S kc ns) : J pc lv (x :: y :: st) S kc ns := by
  obtain ⟨p, e, s, m, args, below, meth, c, hx, hb, hml, hr, ho, hts, hlk, hK, hnm, Q0, hQ0, rfl⟩ := C
  intro H locs ls hH hL hl
  exact lv_dup2_11 hx hb hd (cat_1 h) (cat_1 h2) (k H locs ls hH hL hl)
theorem r_dup_x1 (C : Cx l g d mc ms own Post J) {x y : AV} (hd : decode d.b pc = .ok (.dup_x1, 1)) (h : c2 x = false) (h2 : c2 y = false) (k : J (pc + 1) lv (x :: y :: x :: st) S kc ns) : J pc lv (x :: y :: st) S kc ns := by
  obtain ⟨p, e, s, m, args, below, meth, c, hx, hb, hml, hr, ho, hts, hlk, hK, hnm, Q0, hQ0, rfl⟩ := C
  intro H locs ls hH hL hl
  exact lv_dup_x1 hx hb hd (cat_1 h) (cat_1 h2) (k H locs ls hH hL hl)
theorem r_lcmp (C : Cx l g d mc ms own Post J) {x y : Int64} (hd : decode d.b pc = .ok (.lcmp, 1)) (k : J (pc + 1) lv (vi (lg_cmp x y) :: st) S kc ns) : J pc lv (vl y :: vl x :: st) S kc ns := by
  obtain ⟨p, e, s, m, args, below, meth, c, hx, hb, hml, hr, ho, hts, hlk, hK, hnm, Q0, hQ0, rfl⟩ := C
  intro H locs ls hH hL hl
  exact W.lcmp hx hb hd (k H locs ls hH hL hl)
theorem r_goto (C : Cx l g d mc ms own Post J) {off : Int} {tgt : Nat} (hd : decode d.b pc = .ok (.goto off, 3)) (ht : (pc : Int) + off = (tgt : Int)) (k : J tgt lv (st) S kc ns) : J pc lv (st) S kc ns := by
  obtain ⟨p, e, s, m, args, below, meth, c, hx, hb, hml, hr, ho, hts, hlk, hK, hnm, Q0, hQ0, rfl⟩ := C
  intro H locs ls hH hL hl
  exact lv_goto hx hb hd ht (k H locs ls hH hL hl)
theorem r_if_eq (C : Cx l g d mc ms own Post J) {x : Int32} {off : Int} {tgt : Nat} (hd : decode d.b pc = .ok (.ifCond .eq off, 3)) (ht : (pc : Int) + off = (tgt : Int)) (kt : x = 0 → J tgt lv st S kc ns) (kf : ¬ x = 0 → J (pc + 3) lv st S kc ns) : J pc lv (vi x :: st) S kc ns := by
  obtain ⟨p, e, s, m, args, below, meth, c, hx, hb, hml, hr, ho, hts, hlk, hK, hnm, Q0, hQ0, rfl⟩ := C
  intro H locs ls hH hL hl
  exact lv_if_eq hx hb hd ht (fun q => kt q H locs ls hH hL hl) (fun q => kf q H locs ls hH hL hl)
theorem r_icmp_eq (C : Cx l g d mc ms own Post J) {x y : Int32} {off : Int} {tgt : Nat} (hd : decode d.b pc = .ok (.if_icmp .eq off, 3)) (ht : (pc : Int) + off = (tgt : Int)) (kt : x = y → J tgt lv st S kc ns) (kf : ¬ x = y → J (pc + 3) lv st S kc ns) : J pc lv (vi y :: vi x :: st) S kc ns := by
  obtain ⟨p, e, s, m, args, below, meth, c, hx, hb, hml, hr, ho, hts, hlk, hK, hnm, Q0, hQ0, rfl⟩ := C
  intro H locs ls hH hL hl
  exact lv_icmp_eq hx hb hd ht (fun q => kt q H locs ls hH hL hl) (fun q => kf q H locs ls hH hL hl)
theorem r_if_ne (C : Cx l g d mc ms own Post J) {x : Int32} {off : Int} {tgt : Nat} (hd : decode d.b pc = .ok (.ifCond .ne off, 3)) (ht : (pc : Int) + off = (tgt : Int)) (kt : ¬ x = 0 → J tgt lv st S kc ns) (kf : x = 0 → J (pc + 3) lv st S kc ns) : J pc lv (vi x :: st) S kc ns := by
  obtain ⟨p, e, s, m, args, below, meth, c, hx, hb, hml, hr, ho, hts, hlk, hK, hnm, Q0, hQ0, rfl⟩ := C
  intro H locs ls hH hL hl
  exact lv_if_ne hx hb hd ht (fun q => kt q H locs ls hH hL hl) (fun q => kf q H locs ls hH hL hl)
theorem r_icmp_ne (C : Cx l g d mc ms own Post J) {x y : Int32} {off : Int} {tgt : Nat} (hd : decode d.b pc = .ok (.if_icmp .ne off, 3)) (ht : (pc : Int) + off = (tgt : Int)) (kt : ¬ x = y → J tgt lv st S kc ns) (kf : x = y → J (pc + 3) lv st S kc ns) : J pc lv (vi y :: vi x :: st) S kc ns := by
  obtain ⟨p, e, s, m, args, below, meth, c, hx, hb, hml, hr, ho, hts, hlk, hK, hnm, Q0, hQ0, rfl⟩ := C
  intro H locs ls hH hL hl
  exact lv_icmp_ne hx hb hd ht (fun q => kt q H locs ls hH hL hl) (fun q => kf q H locs ls hH hL hl)
theorem r_if_lt (C : Cx l g d mc ms own Post J) {x : Int32} {off : Int} {tgt : Nat} (hd : decode d.b pc = .ok (.ifCond .lt off, 3)) (ht : (pc : Int) + off = (tgt : Int)) (kt : x < 0 → J tgt lv st S kc ns) (kf : ¬ x < 0 → J (pc + 3) lv st S kc ns) : J pc lv (vi x :: st) S kc ns := by
  obtain ⟨p, e, s, m, args, below, meth, c, hx, hb, hml, hr, ho, hts, hlk, hK, hnm, Q0, hQ0, rfl⟩ := C
  intro H locs ls hH hL hl
  exact lv_if_lt hx hb hd ht (fun q => kt q H locs ls hH hL hl) (fun q => kf q H locs ls hH hL hl)
theorem r_icmp_lt (C : Cx l g d mc ms own Post J) {x y : Int32} {off : Int} {tgt : Nat} (hd : decode d.b pc = .ok (.if_icmp .lt off, 3)) (ht : (pc : Int) + off = (tgt : Int)) (kt : x < y → J tgt lv st S kc ns) (kf : ¬ x < y → J (pc + 3) lv st S kc ns) : J pc lv (vi y :: vi x :: st) S kc ns := by
  obtain ⟨p, e, s, m, args, below, meth, c, hx, hb, hml, hr, ho, hts, hlk, hK, hnm, Q0, hQ0, rfl⟩ := C
  intro H locs ls hH hL hl
  exact lv_icmp_lt hx hb hd ht (fun q => kt q H locs ls hH hL hl) (fun q => kf q H locs ls hH hL hl)
theorem r_if_ge (C : Cx l g d mc ms own Post J) {x : Int32} {off : Int} {tgt : Nat} (hd : decode d.b pc = .ok (.ifCond .ge off, 3)) (ht : (pc : Int) + off = (tgt : Int)) (kt : 0 ≤ x → J tgt lv st S kc ns) (kf : ¬ 0 ≤ x → J (pc + 3) lv st S kc ns) : J pc lv (vi x :: st) S kc ns := by
  obtain ⟨p, e, s, m, args, below, meth, c, hx, hb, hml, hr, ho, hts, hlk, hK, hnm, Q0, hQ0, rfl⟩ := C
  intro H locs ls hH hL hl
  exact lv_if_ge hx hb hd ht (fun q => kt q H locs ls hH hL hl) (fun q => kf q H locs ls hH hL hl)
theorem r_icmp_ge (C : Cx l g d mc ms own Post J) {x y : Int32} {off : Int} {tgt : Nat} (hd : decode d.b pc = .ok (.if_icmp .ge off, 3)) (ht : (pc : Int) + off = (tgt : Int)) (kt : y ≤ x → J tgt lv st S kc ns) (kf : ¬ y ≤ x → J (pc + 3) lv st S kc ns) : J pc lv (vi y :: vi x :: st) S kc ns := by
  obtain ⟨p, e, s, m, args, below, meth, c, hx, hb, hml, hr, ho, hts, hlk, hK, hnm, Q0, hQ0, rfl⟩ := C
  intro H locs ls hH hL hl
  exact lv_icmp_ge hx hb hd ht (fun q => kt q H locs ls hH hL hl) (fun q => kf q H locs ls hH hL hl)
theorem r_if_gt (C : Cx l g d mc ms own Post J) {x : Int32} {off : Int} {tgt : Nat} (hd : decode d.b pc = .ok (.ifCond .gt off, 3)) (ht : (pc : Int) + off = (tgt : Int)) (kt : 0 < x → J tgt lv st S kc ns) (kf : ¬ 0 < x → J (pc + 3) lv st S kc ns) : J pc lv (vi x :: st) S kc ns := by
  obtain ⟨p, e, s, m, args, below, meth, c, hx, hb, hml, hr, ho, hts, hlk, hK, hnm, Q0, hQ0, rfl⟩ := C
  intro H locs ls hH hL hl
  exact lv_if_gt hx hb hd ht (fun q => kt q H locs ls hH hL hl) (fun q => kf q H locs ls hH hL hl)
theorem r_icmp_gt (C : Cx l g d mc ms own Post J) {x y : Int32} {off : Int} {tgt : Nat} (hd : decode d.b pc = .ok (.if_icmp .gt off, 3)) (ht : (pc : Int) + off = (tgt : Int)) (kt : y < x → J tgt lv st S kc ns) (kf : ¬ y < x → J (pc + 3) lv st S kc ns) : J pc lv (vi y :: vi x :: st) S kc ns := by
  obtain ⟨p, e, s, m, args, below, meth, c, hx, hb, hml, hr, ho, hts, hlk, hK, hnm, Q0, hQ0, rfl⟩ := C
  intro H locs ls hH hL hl
  exact lv_icmp_gt hx hb hd ht (fun q => kt q H locs ls hH hL hl) (fun q => kf q H locs ls hH hL hl)
theorem r_if_le (C : Cx l g d mc ms own Post J) {x : Int32} {off : Int} {tgt : Nat} (hd : decode d.b pc = .ok (.ifCond .le off, 3)) (ht : (pc : Int) + off = (tgt : Int)) (kt : x ≤ 0 → J tgt lv st S kc ns) (kf : ¬ x ≤ 0 → J (pc + 3) lv st S kc ns) : J pc lv (vi x :: st) S kc ns := by
  obtain ⟨p, e, s, m, args, below, meth, c, hx, hb, hml, hr, ho, hts, hlk, hK, hnm, Q0, hQ0, rfl⟩ := C
  intro H locs ls hH hL hl
  exact lv_if_le hx hb hd ht (fun q => kt q H locs ls hH hL hl) (fun q => kf q H locs ls hH hL hl)
theorem r_icmp_le (C : Cx l g d mc ms own Post J) {x y : Int32} {off : Int} {tgt : Nat} (hd : decode d.b pc = .ok (.if_icmp .le off, 3)) (ht : (pc : Int) + off = (tgt : Int)) (kt : x ≤ y → J tgt lv st S kc ns) (kf : ¬ x ≤ y → J (pc + 3) lv st S kc ns) : J pc lv (vi y :: vi x :: st) S kc ns := by
  obtain ⟨p, e, s, m, args, below, meth, c, hx, hb, hml, hr, ho, hts, hlk, hK, hnm, Q0, hQ0, rfl⟩ := C
  intro H locs ls hH hL hl
  exact lv_icmp_le hx hb hd ht (fun q => kt q H locs ls hH hL hl) (fun q => kf q H locs ls hH hL hl)
theorem r_acmp_eq (C : Cx l g d mc ms own Post J) {x y : Option Nat} {off : Int} {tgt : Nat} (hd : decode d.b pc = .ok (.if_acmp .eq off, 3)) (ht : (pc : Int) + off = (tgt : Int)) (kt : x = y → J tgt lv st S kc ns) (kf : ¬ x = y → J (pc + 3) lv st S kc ns) : J pc lv (vr y :: vr x :: st) S kc ns := by
  obtain ⟨p, e, s, m, args, below, meth, c, hx, hb, hml, hr, ho, hts, hlk, hK, hnm, Q0, hQ0, rfl⟩ := C
  intro H locs ls hH hL hl
  exact lv_acmp_eq hx hb hd ht (fun q => kt q H locs ls hH hL hl) (fun q => kf q H locs ls hH hL hl)
theorem r_acmp_ne (C : Cx l g d mc ms own Post J) {x y : Option Nat} {off : Int} {tgt : Nat} (hd : decode d.b pc = .ok (.if_acmp .ne off, 3)) (ht : (pc : Int) + off = (tgt : Int)) (kt : ¬ x = y → J tgt lv st S kc ns) (kf : x = y → J (pc + 3) lv st S kc ns) : J pc lv (vr y :: vr x :: st) S kc ns := by
  obtain ⟨p, e, s, m, args, below, meth, c, hx, hb, hml, hr, ho, hts, hlk, hK, hnm, Q0, hQ0, rfl⟩ := C
  intro H locs ls hH hL hl
  exact lv_acmp_ne hx hb hd ht (fun q => kt q H locs ls hH hL hl) (fun q => kf q H locs ls hH hL hl)
theorem r_ifnull (C : Cx l g d mc ms own Post J) {x : Option Nat} {off : Int} {tgt : Nat} (hd : decode d.b pc = .ok (.ifnull off, 3)) (ht : (pc : Int) + off = (tgt : Int)) (kt : x = none → J tgt lv st S kc ns) (kf : ∀ a, x = some a → J (pc + 3) lv st S kc ns) : J pc lv (vr x :: st) S kc ns := by
  obtain ⟨p, e, s, m, args, below, meth, c, hx, hb, hml, hr, ho, hts, hlk, hK, hnm, Q0, hQ0, rfl⟩ := C
  intro H locs ls hH hL hl
  cases x with
  | none => exact lv_ifnullN hx hb hd ht (kt rfl H locs ls hH hL hl)
  | some a => exact lv_ifnull hx hb hd (kf a rfl H locs ls hH hL hl)
theorem r_ifnonnull (C : Cx l g d mc ms own Post J) {x : Option Nat} {off : Int} {tgt : Nat} (hd : decode d.b pc = .ok (.ifnonnull off, 3)) (ht : (pc : Int) + off = (tgt : Int)) (kt : ∀ a, x = some a → J tgt lv st S kc ns) (kf : x = none → J (pc + 3) lv st S kc ns) : J pc lv (vr x :: st) S kc ns := by
  obtain ⟨p, e, s, m, args, below, meth, c, hx, hb, hml, hr, ho, hts, hlk, hK, hnm, Q0, hQ0, rfl⟩ := C
  intro H locs ls hH hL hl
  cases x with
  | none => exact lv_ifnonnullN hx hb hd (kf rfl H locs ls hH hL hl)
  | some a => exact lv_ifnonnull hx hb hd ht (kt a rfl H locs ls hH hL hl)
theorem r_swOut (C : Cx l g d mc ms own Post J) {dflt lo hi : Int} {offs : Array Int} {len : Nat} {x : Int32} {tgt : Nat} (hd : decode d.b pc = .ok (.tableswitch dflt lo hi offs, len)) (h : x.toInt < lo ∨ hi < x.toInt) (ht : (pc : Int) + dflt = (tgt : Int)) (k : J tgt lv (st) S kc ns) : J pc lv (vi x :: st) S kc ns := by
  obtain ⟨p, e, s, m, args, below, meth, c, hx, hb, hml, hr, ho, hts, hlk, hK, hnm, Q0, hQ0, rfl⟩ := C
  intro H locs ls hH hL hl
  exact lv_tableOut hx hb hd h ht (k H locs ls hH hL hl)
theorem r_swIn (C : Cx l g d mc ms own Post J) {dflt lo hi : Int} {offs : Array Int} {len : Nat} {x : Int32} {off : Int} {tgt : Nat} (hd : decode d.b pc = .ok (.tableswitch dflt lo hi offs, len)) (h1 : ¬ x.toInt < lo) (h2 : ¬ hi < x.toInt) (ho2 : offs[(x.toInt - lo).toNat]? = some off) (ht : (pc : Int) + off = (tgt : Int)) (k : J tgt lv (st) S kc ns) : J pc lv (vi x :: st) S kc ns := by
  obtain ⟨p, e, s, m, args, below, meth, c, hx, hb, hml, hr, ho, hts, hlk, hK, hnm, Q0, hQ0, rfl⟩ := C
  intro H locs ls hH hL hl
  exact lv_tableIn hx hb hd h1 h2 ho2 ht (k H locs ls hH hL hl)
theorem r_lookup (C : Cx l g d mc ms own Post J) {dflt : Int} {ps : Array (Int × Int)} {len : Nat} {x : Int32} {off : Int} {tgt : Nat} (hd : decode d.b pc = .ok (.lookupswitch dflt ps, len)) (hp : (ps.toList.zip (ps.toList.drop 1)).all (fun (a, next) => a.1 < next.1) = true) (ho2 : Op.lookupswitch.offset ps.toList dflt x.toInt = off) (ht : (pc : Int) + off = (tgt : Int)) (k : J tgt lv (st) S kc ns) : J pc lv (vi x :: st) S kc ns := by
  obtain ⟨p, e, s, m, args, below, meth, c, hx, hb, hml, hr, ho, hts, hlk, hK, hnm, Q0, hQ0, rfl⟩ := C
  intro H locs ls hH hL hl
  exact lv_lookup hx hb hd hp ho2 ht (k H locs ls hH hL hl)
theorem r_iret (C : Cx l g d mc ms own Post J) {x : Int32} (hd : decode d.b pc = .ok (.ireturn, 1)) (hr0 : d.r = some .int) (h1 : kc ≤ mc) (h2 : ns ≤ ms) (hq : Post (some (vi x)) S) : J pc lv [vi x] S kc ns := by
  obtain ⟨p, e, s, m, args, below, meth, c, hx, hb, hml, hr, ho, hts, hlk, hK, hnm, Q0, hQ0, rfl⟩ := C
  intro H locs ls hH hL hl
  refine W_mono hQ0 (W.widen (k := mc) (n := ms) h1 h2 ?_)
  exact W.iret hx hb (hr.trans hr0) (fun t ht hW => ⟨_, S, rfl, hq, KK.moved hW hK, by rw [ht]; exact hH⟩) hL hd
theorem r_zret (C : Cx l g d mc ms own Post J) {x : Int32} (hd : decode d.b pc = .ok (.ireturn, 1)) (hr0 : d.r = some .boolean) (hz : x = 0 ∨ x = 1) (h1 : kc ≤ mc) (h2 : ns ≤ ms) (hq : Post (some (vi x)) S) : J pc lv [vi x] S kc ns := by
  obtain ⟨p, e, s, m, args, below, meth, c, hx, hb, hml, hr, ho, hts, hlk, hK, hnm, Q0, hQ0, rfl⟩ := C
  intro H locs ls hH hL hl
  refine W_mono hQ0 (W.widen (k := mc) (n := ms) h1 h2 ?_)
  exact W.zret hx hb (hr.trans hr0) (by rcases hz with rfl | rfl <;> rfl) (fun t ht hW => ⟨_, S, rfl, hq, KK.moved hW hK, by rw [ht]; exact hH⟩) hL hd
theorem r_lret (C : Cx l g d mc ms own Post J) {x : Int64} (hd : decode d.b pc = .ok (.lreturn, 1)) (hr0 : d.r = some .long) (h1 : kc ≤ mc) (h2 : ns ≤ ms) (hq : Post (some (vl x)) S) : J pc lv [vl x] S kc ns := by
  obtain ⟨p, e, s, m, args, below, meth, c, hx, hb, hml, hr, ho, hts, hlk, hK, hnm, Q0, hQ0, rfl⟩ := C
  intro H locs ls hH hL hl
  refine W_mono hQ0 (W.widen (k := mc) (n := ms) h1 h2 ?_)
  exact W.lret hx hb (hr.trans hr0) (fun t ht hW => ⟨_, S, rfl, hq, KK.moved hW hK, by rw [ht]; exact hH⟩) hL hd
theorem r_ret (C : Cx l g d mc ms own Post J) (hd : decode d.b pc = .ok (.return_, 1)) (hr0 : d.r = none) (h1 : kc ≤ mc) (h2 : ns ≤ ms) (hq : Post none S) : J pc lv [] S kc ns := by
  obtain ⟨p, e, s, m, args, below, meth, c, hx, hb, hml, hr, ho, hts, hlk, hK, hnm, Q0, hQ0, rfl⟩ := C
  intro H locs ls hH hL hl
  refine W_mono hQ0 (W.widen (k := mc) (n := ms) h1 h2 ?_)
  exact W.vret hx hb (hr.trans hr0) (fun t ht hW => ⟨_, S, rfl, hq, KK.moved hW hK, by rw [ht]; exact hH⟩) hL hd
theorem r_aret (C : Cx l g d mc ms own Post J) {x : Option Nat} {rt : FieldType} (hd : decode d.b pc = .ok (.areturn, 1)) (hr0 : d.r = some rt) (hrt : (∃ n, rt = .object n) ∨ ∃ t, rt = .array t) (h1 : kc ≤ mc) (h2 : ns ≤ ms) (hq : Post (some (vr x)) S) : J pc lv [vr x] S kc ns := by
  obtain ⟨p, e, s, m, args, below, meth, c, hx, hb, hml, hr, ho, hts, hlk, hK, hnm, Q0, hQ0, rfl⟩ := C
  intro H locs ls hH hL hl
  refine W_mono hQ0 (W.widen (k := mc) (n := ms) h1 h2 ?_)
  exact W.aret (v := va_rf x) hx hb (hr.trans hr0) hrt (by cases x; exact Or.inl rfl; exact Or.inr ⟨_, rfl⟩) (fun t ht hW => ⟨_, S, rfl, hq, KK.moved hW hK, by rw [ht]; exact hH⟩) hL hd
theorem r_widen (C : Cx l g d mc ms own Post J) {k2 n2 : Nat} (h1 : kc ≤ k2) (h2 : ns ≤ n2) (k : J pc lv st S k2 n2) : J pc lv st S kc ns := by
  obtain ⟨p, e, s, m, args, below, meth, c, hx, hb, hml, hr, ho, hts, hlk, hK, hnm, Q0, hQ0, rfl⟩ := C
  intro H locs ls hH hL hl
  exact W.widen h1 h2 (k H locs ls hH hL hl)
/-- fewer locals, in any order -/
theorem r_lv (C : Cx l g d mc ms own Post J) (lv2 : List (Nat × AV)) (h : lv2.map (fun q => lg lv q.1) = lv2.map (fun q => some q.2)) (k : J pc lv2 st S kc ns) : J pc lv st S kc ns := by
  obtain ⟨p, e, s, m, args, below, meth, c, hx, hb, hml, hr, ho, hts, hlk, hK, hnm, Q0, hQ0, rfl⟩ := C
  intro H locs ls hH hL hl
  refine k H locs ls hH hL ⟨hl.1, hl.2.1, fun q hq => ?_⟩
  obtain ⟨z, hz, rfl⟩ := List.mem_map.mp hq
  exact lg_has hl (List.map_inj_left.mp h z hz)
end Rows
