/-! Methods that throw, and those that catch what they throw -/
section Find
variable {e : Env} {f : JFrame} {a : Addr} {cell : Cell}
/-- how a row of a table takes (b), or leaves, a thing of the class k -/
def fh_row (pl : Platform) (s0 : State) (dc k : ClassId) (b : Bool) (x : ExceptionTableEntry) : Prop := x.catchType ≠ 0 ∧ ∃ c, s0.vm.ClassLinks pl dc x.catchType c ∧ s0.vm.assignable k c = b
theorem fh_step {s0 S : State} {x : ExceptionTableEntry} {b : Bool} (hW : s0.WarmedH S.vm) (hcell : S.heap[a]? = some cell) (hobj : cell.vm.isStatics = false) (hk : ∃ k, s0.vm.classes[cell.cls]? = some k) (hx : covers x f.pc = true) (hr : fh_row e.platform s0 f.method.cls cell.cls b x) :
    ∃ vm', s0.WarmedH vm' ∧ ∀ (t : List ExceptionTableEntry) (Q : Handler → Pre) (E : CtlPost) (d : Bool) (acts : List Action), wp (findHandler.go f a (x :: t)) Q E e d acts S ↔ (if b = true then Q (.found x.handlerPc) d acts (S.setVm vm') else wp (findHandler.go f a t) Q E e d acts (S.setVm vm')) := by
  obtain ⟨h0, c, hl, hb⟩ := hr
  obtain ⟨k0, hk0⟩ := hk
  obtain ⟨dk, _, _, kt, hd, _, _, _, _, hkt, _, hopen⟩ := hl.here
  refine ⟨S.vm.noted f.method.cls x.catchType (.cls c), hW.noted hd hopen (State.rightAt_cls hl), fun t Q E d acts => ?_⟩
  have hx2 := hx
  simp only [covers] at hx2
  obtain ⟨ha, ht⟩ := (resolveClass_links e.toSetting (hW.classLinks hl)).op (op := VmOp.resolveClass f.method.cls x.catchType) rfl
  have hal : S.vm.Alike (S.vm.noted f.method.cls x.catchType (.cls c)) := (Vm.Alike.refl S.vm).noted _ _ _
  obtain ⟨k1, hk1, -⟩ := hW.alike.2.2 _ _ hk0
  obtain ⟨k2, hk2, -⟩ := hW.alike.2.2 _ _ hkt
  obtain ⟨k1', hk1', -⟩ := hal.2.2 _ _ hk1
  obtain ⟨k2', hk2', -⟩ := hal.2.2 _ _ hk2
  have hno : (S.vm.noted f.method.cls x.catchType (.cls c)).assignable cell.cls c = b := by rw [hal.assignable, hW.alike.assignable]; exact hb
  have hobj2 := VmData.ne_statics_of hobj
  cases b <;> simp [findHandler.go, hx2, h0, ha, ht, hcell, hobj2, hk1', hk2', hno, VmOp.dirties, VmOp.acts]
theorem fh_find {s0 : State} {x : ExceptionTableEntry} {suf : List ExceptionTableEntry} (hobj : cell.vm.isStatics = false) (hk : ∃ k, s0.vm.classes[cell.cls]? = some k) (hx : covers x f.pc = true) (hr : fh_row e.platform s0 f.method.cls cell.cls true x) :
    ∀ (pre : List ExceptionTableEntry) (S : State), s0.WarmedH S.vm → S.heap[a]? = some cell → (∀ z ∈ pre, covers z f.pc = true ∧ fh_row e.platform s0 f.method.cls cell.cls false z) →
      ∃ vm', s0.WarmedH vm' ∧ ∀ (Q : Handler → Pre) (E : CtlPost) (d : Bool) (acts : List Action), wp (findHandler.go f a (pre ++ x :: suf)) Q E e d acts S ↔ Q (.found x.handlerPc) d acts (S.setVm vm')
  | [], S, hW, hc, _ => by
    obtain ⟨vm', h1, h2⟩ := fh_step hW hc hobj hk hx hr
    exact ⟨vm', h1, fun Q E d acts => by rw [List.nil_append, h2 suf Q E d acts, if_pos rfl]⟩
  | z :: pre, S, hW, hc, hp => by
    obtain ⟨vm1, h1, h2⟩ := fh_step hW hc hobj hk (hp z List.mem_cons_self).1 (hp z List.mem_cons_self).2
    obtain ⟨vm', h3, h4⟩ := fh_find hobj hk hx hr pre (S.setVm vm1) h1 hc (fun y hy => hp y (List.mem_cons_of_mem _ hy))
    exact ⟨vm', h3, fun Q E d acts => by
      rw [List.cons_append, h2 (pre ++ x :: suf) Q E d acts, if_neg (by decide), h4 Q E d acts]
      rfl⟩
end Find
section Catch
variable {p : Program} {l : Launch} {e : Env} {R : Room} {s : State} {m : MethodId} {args : Array Value} {below : List Frame} {meth : Method} {c : Code} {H : Heap} {locs : List Loc} {cells slots : Nat} {Q : State → Prop} {pc : Nat} {ls : Array Slot} {rest : List Value}
theorem sv_sf (u : State) (vm' : Vm) (F G : List Frame) : ((u.setFrames F).setVm vm').setFrames G = (u.setVm vm').setFrames G := by
  have h1 : (u.setFrames F).setVm vm' = (u.setVm vm').setFrames F := rfl
  rw [h1, State.setFrames_setFrames]
/-- caught by the row x; the rows ahead of it leave it -/
theorem ct_catch {own name E : String} {ce : Cell} {q : Addr} (hown : s.vm.findClass own = some m.cls) (pre : List ExceptionTableEntry) (x : ExceptionTableEntry) (suf : List ExceptionTableEntry) (hsplit : c.exceptionTable.toList = pre ++ x :: suf)
    (hpass : ∀ z ∈ pre, covers z pc = true ∧ z.catchType ≠ 0 ∧ ∃ nm : String, (Cond.classLink own z.catchType nm).before args s = true ∧ va_Nc E nm s) (hx : covers x pc = true) (h0 : x.catchType ≠ 0)
    (hlink : (Cond.classLink own x.catchType name).before args s = true) (hcast : (Cond.castable E name).before args s = true) (hcell : H[q]? = some ce) (hv : ce.vm = .none) (hcl : s.vm.findClass E = some ce.cls)
    (kk : W p l e R s m args below meth c H locs cells slots Q (F0 m x.handlerPc ls [.ref q])) : vx_W p l e R s m args below meth c H locs cells slots Q (F0 m pc ls rest) q := by
  intro T hT X
  have hpl : e.platform.magicAccessors = ({} : Platform).magicAccessors := by rw [X.admits.platform]
  obtain ⟨c3, c4, hc3, hc4, hasg⟩ := Cond.castable_spec hcast
  cases Option.some.inj (hc3.symm.trans hcl)
  obtain ⟨c5, hc5, hcl5⟩ := Cond.classLink_spec hown hlink e.platform hpl
  cases Option.some.inj (hc4.symm.trans hc5)
  have hobj : ce.vm.isStatics = false := by rw [hv]; rfl
  have hk : ∃ k, s.vm.classes[ce.cls]? = some k := by obtain ⟨k9, h9, -⟩ := Vm.findClass_spec hcl; exact ⟨k9, h9⟩
  obtain ⟨vm', hW', hf⟩ := fh_find (e := e) (f := F0 m pc ls rest) (a := q) (s0 := s) (suf := suf) hobj hk hx ⟨h0, c4, hcl5, hasg⟩ pre ((T.setTop (F0 m pc ls rest)).pushFrame (.throwing q)) X.warmed (by show T.heap[q]? = _; rw [hT]; exact hcell) (fun z hz => by
    obtain ⟨h1, h2, nm, h3, h4⟩ := hpass z hz
    obtain ⟨c6, hc6, hcl6⟩ := Cond.classLink_spec hown h3 e.platform hpl
    obtain ⟨a8, b8, g1, g2, g3⟩ := h4
    cases Option.some.inj (g1.symm.trans hcl)
    cases Option.some.inj (g2.symm.trans hc6)
    exact ⟨h1, h2, _, hcl6, g3⟩)
  obtain ⟨t, a1, b1⟩ := kk (T.setVm vm') hT (X.noted hW')
  refine ⟨t, ?_, b1⟩
  have h : At T m c below := X.here
  obtain ⟨hgo, hw⟩ := h.throwing (g := F0 m pc ls rest) q
  refine Steps.head hgo hw ?_
  rw [stepThread_throwing (frames_entered h.top _)]
  have hfi : ∀ (Q : Handler → Pre) (E : CtlPost) (d : Bool) (acts : List Action), wp (findHandler (F0 m pc ls rest) q) Q E e d acts ((T.setTop (F0 m pc ls rest)).pushFrame (.throwing q)) ↔ Q (.found x.handlerPc) d acts (((T.setTop (F0 m pc ls rest)).pushFrame (.throwing q)).setVm vm') := fun Q E d acts => by
    rw [W.findHandler_eq (meth := meth) (code := c) (by show T.vm.method? m = _; exact X.method') X.code, hsplit]
    exact hf Q E d acts
  have hst : (stepThrowing e ((T.setTop (F0 m pc ls rest)).pushFrame (.throwing q)) q (.java (F0 m pc ls rest) :: T.frames.tail)).1 = (((T.setTop (F0 m pc ls rest)).pushFrame (.throwing q)).setVm vm').setFrames (.java (F0 m x.handlerPc ls [.ref q]) :: T.frames.tail) := by
    simp only [stepThrowing, searchFrame, vmDo]
    generalize hr : Sem.go _ e false [] _ = res
    obtain ⟨as, rfl, ha⟩ := Sem.eq_ok_of hr (a := Handler.found x.handlerPc) (s' := ((T.setTop (F0 m pc ls rest)).pushFrame (.throwing q)).setVm vm') (acts' := []) (by simp [hfi _ _ _ _])
    rfl
  rw [hst]
  obtain ⟨g₀, hg⟩ := Option.isSome_iff_exists.mp h.top
  obtain ⟨r, hr⟩ := State.topJava?_eq_some.mp hg
  have hr' : (T.setVm vm').frames = .java g₀ :: r := hr
  rw [State.setTop_of_frames _ hr'] at a1
  rw [hr, List.tail_cons, State.pushFrame, sv_sf, State.setTop_of_frames _ hr, sv_sf]
  exact a1
end Catch
