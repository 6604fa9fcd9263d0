/-! NoSuchElementException: its constructor names its parent's by another entry (13) than the other exceptions' do (7), so the throw is walked by itself -/
def rx13 : ByteArray := ⟨#[0x2a, 0x2b, 0xb7, 0x00, 0x0d, 0xb1]⟩
def nsT (own : String) (ic : Nat) : List Cond := [.methodLink own ic (Bundle.initS En), .instantiable En 6, .selects En Bundle.tFill0 Bundle.tFill0, .selects En Bundle.tFill Bundle.tFill,
   .lays En Bundle.tN "cause" "Ljava/lang/Throwable;", .lays En Bundle.tN "stackTrace" Bundle.steD, .lays En Bundle.tN "suppressedExceptions" Bundle.listD, .lays En Bundle.tN "detailMessage" "Ljava/lang/String;",
   .isRef (.static Bundle.tN "UNASSIGNED_STACK" Bundle.steD), .isRef (.static Bundle.tN "SUPPRESSED_SENTINEL" Bundle.listD),
   .fieldLink Bundle.tN 198 Bundle.tN "backtrace" "Ljava/lang/Object;", .lays Bundle.tN Bundle.tN "backtrace" "Ljava/lang/Object;", .lays En Bundle.tN "backtrace" "Ljava/lang/Object;"]
def nsA (own : String) (ic : Nat) : List Cond := Bundle.throwableAtoms ++ (Bundle.throwableSAtoms ++ (Bundle.passSAtoms En "java/lang/RuntimeException" 13 rx13 ++ (Bundle.chainSAtoms "java/lang/RuntimeException" ["java/lang/Exception"] ++ nsT own ic)))
section NS
variable {p : Program} {l : Launch} {e : Env} {R : Room} {s : State} {m : MethodId} {args : Array Value} {below : List Frame} {meth : Method} {c : Code} {U0 : State} {cells slots : Nat}
set_option maxHeartbeats 2000000 in
theorem ns_ctor (X : Stand p l e R s m args below meth c U0 [] cells slots) (hexec : p.tables.exec = Jvm.exec) (htr : e.platform.stackTraces = false) {own : String} {ic : Nat} (hown : s.vm.findClass own = some m.cls)
    (h : ∀ w ∈ nsA own ic, w.before args s = true) {a : Addr} {cX : ClassId} {kX : Class} (hfX : s.vm.findClass En = some cX) (hkX : s.vm.classes[cX]? = some kX) (hcell : U0.heap[a]? = some (freshCell cX kX)) (hnew : s.heap.size ≤ a)
    {msg : Value} (hmsg : msg.isRef = true) {g : JFrame} (hg : g.method = m) (hsize : g.locals.size = c.maxLocals) (hlocked : g.locked = none) (hentered : g.entered = []) {rest : List Value} (hstack : g.stack = msg :: .ref a :: .ref a :: rest)
    (hd6 : decode c.code g.pc = .ok (.invokespecial ic, 3)) (hd9 : decode c.code (g.pc + 3) = .ok (.athrow, 1)) (hout : ∀ x ∈ c.exceptionTable.toList, covers x (g.pc + 3) = false)
    (hRf : 5 < R.frames) (hRl : 2 * g.monitorRoom + ((Value.ref a :: rest).map fun v => v.category).sum + 81 ≤ R.locals) (hlocks : meth.locks = false) :
    ∃ U : State, Steps p.tables e below (U0.setTop g) U ∧ U.status = .running ∧ Ended U below (.threw a) ∧ s.WarmedH U.vm ∧ s.sameButNew ({ U with vm := s.vm } : State) [] cells slots ∧
      ∃ ce, U.heap[a]? = some ce ∧ s.vm.findClass En = some ce.cls ∧ ce.vm = .none := by
  have ho : e.platform.frameOwnsMonitors = true := by rw [X.admits.platform]
  have hfin : e.platform.finalization = false := by rw [X.admits.platform]
  have hpl : e.platform.magicAccessors = ({} : Platform).magicAccessors := by rw [X.admits.platform]
  have t1 : ∀ w ∈ Bundle.throwableAtoms, w.before args s = true := fun w hw => h w (by unfold nsA; exact List.mem_append_left _ hw)
  have t2 : ∀ w ∈ Bundle.throwableSAtoms, w.before args s = true := fun w hw => h w (by unfold nsA; exact List.mem_append_right _ (List.mem_append_left _ hw))
  have t3 : ∀ w ∈ Bundle.passSAtoms En "java/lang/RuntimeException" 13 rx13, w.before args s = true := fun w hw => h w (by unfold nsA; exact List.mem_append_right _ (List.mem_append_right _ (List.mem_append_left _ hw)))
  have t4 : ∀ w ∈ Bundle.chainSAtoms "java/lang/RuntimeException" ["java/lang/Exception"], w.before args s = true := fun w hw => h w (by unfold nsA; exact List.mem_append_right _ (List.mem_append_right _ (List.mem_append_right _ (List.mem_append_left _ hw))))
  have t5 : ∀ w ∈ nsT own ic, w.holds args s none s [] = true := fun w hw => h w (by unfold nsA; exact List.mem_append_right _ (List.mem_append_right _ (List.mem_append_right _ (List.mem_append_right _ hw))))
  obtain ⟨T, Z0, L, -, Y⟩ := ThrowableC.of_atoms (args := args) ho hfin hpl t1
  obtain ⟨Z, M, LZ, LM, hnZ⟩ := Init0T.ofS_atoms (args := args) hpl L Y t2
  obtain ⟨P1, L1, hP1m, hP1s⟩ := PassC.ofS_atoms (args := args) (s := s) hpl (X := En) (Y := "java/lang/RuntimeException") (index := 13) (bytes := rx13) (by decide +kernel) (by decide +kernel) (by decide +kernel) (by decide +kernel) (by decide +kernel) (by decide +kernel) t3
  obtain ⟨P2, Ps, hlen, L2, hL, hP2m, hsup, hpass⟩ := Bundle.chainS (args := args) hpl hnZ ["java/lang/Exception"] "java/lang/RuntimeException" (by decide +kernel) (by decide +kernel) t4
  have hlink1 : P1.sup = P2.m := Option.some.inj (hP1s.symm.trans hP2m)
  have hfound : s.vm.findClass En = some P1.m.cls := findClass_of_methodNamed hP1m
  cases Option.some.inj (hfX.symm.trans hfound)
  obtain ⟨c1, kX', hc1, hk, hord, -, -, hn6⟩ := Cond.instantiable_spec (t5 (.instantiable En 6) (by simp [nsT]))
  cases Option.some.inj (hc1.symm.trans hfound)
  cases Option.some.inj (hkX.symm.trans hk)
  have sel : ∀ (y : MethodName) (z : MethodId), y.cls ≠ "java/lang/invoke/MethodHandle" ∧ y.cls ≠ "java/lang/invoke/VarHandle" → s.methodNamed? y = some z → (Cond.selects En y y).holds args s none s [] = true → selectMethod e.platform s.vm P1.m.cls z = .method z := by
    intro y z hy hz hw
    obtain ⟨c2, r2, m2, q1, q2, q3, q4, -⟩ := Cond.selects_spec hw
    cases Option.some.inj (q1.symm.trans hfound)
    cases Option.some.inj (q2.symm.trans (State.methodFound?_of_named hz hy))
    cases Option.some.inj (q3.symm.trans hz)
    rw [Launch.admits_selectMethod X.admits]
    exact q4
  have hsel0 := sel _ T.fill0 (by decide) Y.fill0 (t5 (.selects En Bundle.tFill0 Bundle.tFill0) (by simp [nsT]))
  have hselF := sel _ T.fill (by decide) Y.fill (t5 (.selects En Bundle.tFill Bundle.tFill) (by simp [nsT]))
  obtain ⟨cellS0, hcS0, hiss⟩ := Y.statics
  obtain ⟨u0, hu0⟩ := Cond.staticRefV Y.unassigned L.unassignedStatic L.statics hcS0 hiss (t5 (.isRef (.static Bundle.tN "UNASSIGNED_STACK" Bundle.steD)) (by simp [nsT]))
  obtain ⟨sen, hsen⟩ := Cond.staticRefV Y.sentinel L.sentinelStatic L.statics hcS0 hiss (t5 (.isRef (.static Bundle.tN "SUPPRESSED_SENTINEL" Bundle.listD)) (by simp [nsT]))
  obtain ⟨ci198, i198, fB, hk198, hg198, ha198, hsB, -, hnB, htB, hffB⟩ := Cond.ownField (t := .object "java/lang/Object") Y.found L.cls (by decide +kernel) (t5 (.fieldLink Bundle.tN 198 Bundle.tN "backtrace" "Ljava/lang/Object;") (by simp [nsT])) (t5 (.lays Bundle.tN Bundle.tN "backtrace" "Ljava/lang/Object;") (by simp [nsT])) e.platform hpl
  obtain ⟨cellS, hcS', heS, -, hkeep⟩ := X.same.2.2.2.2.2 T.aS cellS0 hcS0
  have hcellS : U0.heap[T.aS]? = some cellS := hcS'
  have hout' : ∀ i, (⟨T.aS, i⟩ : Loc) ∉ ([] : List Loc) := fun i hmem => by cases hmem
  have hknownS : cellS.vm ≠ .unknown := by
    rw [heS]
    intro hu
    rw [show cellS0.vm = .unknown from hu] at hiss
    cases hiss
  have hneS : T.aS ≠ a := Nat.ne_of_lt (Nat.lt_of_lt_of_le (Array.getElem?_eq_some_iff.mp hcS0).1 hnew)
  obtain ⟨iM, hffM⟩ := Y.msg
  obtain ⟨tyC, dC, hdC, hdnC⟩ := Cond.laysAt hfound hk Y.cause (t5 (.lays En Bundle.tN "cause" "Ljava/lang/Throwable;") (by simp [nsT]))
  obtain ⟨tyS, dS, hdS, hdnS⟩ := Cond.laysAt hfound hk Y.stack (t5 (.lays En Bundle.tN "stackTrace" Bundle.steD) (by simp [nsT]))
  obtain ⟨tyP, dP, hdP, hdnP⟩ := Cond.laysAt hfound hk Y.supp (t5 (.lays En Bundle.tN "suppressedExceptions" Bundle.listD) (by simp [nsT]))
  obtain ⟨tyM, dM, hdM, hdnM⟩ := Cond.laysAt hfound hk hffM (t5 (.lays En Bundle.tN "detailMessage" "Ljava/lang/String;") (by simp [nsT]))
  obtain ⟨tyB, dB, hdB, hdnB⟩ := Cond.laysAt hfound hk hffB (t5 (.lays En Bundle.tN "backtrace" "Ljava/lang/Object;") (by simp [nsT]))
  have bC := Cond.laysApart hdB hdC hdnB hdnC (by rw [hnB, Y.causeName]; decide)
  have bS := Cond.laysApart hdB hdS hdnB hdnS (by rw [hnB, Y.stackName]; decide)
  have bP := Cond.laysApart hdB hdP hdnB hdnP (by rw [hnB, Y.suppName]; decide)
  have hskip : SkipFacts T e.platform s (fun u => u) u0 ((preparedCellV T.toThrowableT (freshCell P1.m.cls kX) a u0 sen).withEntry U0.cur) :=
    ⟨{ ci198 := ci198, i198 := i198, fBack := fB }, ⟨hk198, hg198, ha198, hsB⟩, by
      have := fresh_default (c := P1.m.cls) tyB
      rw [htB] at this
      simpa [preparedCellV, Cell.setSlot, Cell.withEntry, Array.getElem?_setIfInBounds, bC, bS, bP, bC.symm, bS.symm, bP.symm, defaultValue] using this, fun _ _ => rfl⟩
  obtain ⟨tm, methC, cdC, kC, vm₁, hnC, -, -, -, -, -, -, -, hW₁, st1⟩ := Steps.initColdS (tb := p.tables) (e := e) (below := below) (s := s) (U := U0) X.here hexec X.warmed hpl hown (t := Bundle.initS En) rfl rfl (by decide +kernel)
    (t5 (.methodLink own ic (Bundle.initS En)) (by simp [nsT])) (t3 (.instanceMethod (Bundle.initS En)) (by simp [Bundle.passSAtoms])) (bytes := rx13) (maxL := 2) (t3 (.code (Bundle.initS En) rx13 2 none) (by simp [Bundle.passSAtoms]))
    (f := g) hg (a := a) (msg := msg) (rest := .ref a :: rest) hstack hd6
  cases Option.some.inj (hnC.symm.trans hP1m)
  have X₁ := X.noted hW₁
  have hlen2 : (P1 :: P2 :: Ps).length = 3 := by simp [hlen]
  obtain ⟨vm₂, X₂, st2⟩ := X₁.ctorMessageOffV hexec (g := { g with stack := .ref a :: rest }) hg hsize T L Z LZ M LM (P1 :: P2 :: Ps)
    (fun P hP => by
      rcases List.mem_cons.mp hP with rfl | hP
      · exact L1
      · rcases List.mem_cons.mp hP with rfl | hP
        · exact L2
        · exact hL P hP) ⟨hlink1, hsup, hpass⟩ (u0 := u0) (sen := sen) (self := a) hmsg (cell := freshCell P1.m.cls kX) (cellS := cellS)
    hcell (fun _ => by simp) (by simp) rfl rfl hsel0 hselF hcellS hneS hknownS (by rw [hkeep _ (hout' _)]; exact hu0) (by rw [hkeep _ (hout' _)]; exact hsen)
    (Takes.of_laid hk hord tyC (by rw [Y.causeType]; rfl)) (Takes.of_laid hk hord tyS (by rw [Y.stackType]; exact fits_refV_array _ u0)) (Takes.of_laid hk hord tyP (by rw [Y.suppType]; exact fits_refV_object _ sen))
    (Takes.of_laid hk hord tyM (by rw [Y.msgType]; exact fits_refV_object _ ⟨msg, hmsg⟩)) Y.objLocals hskip htr [] hd6
    (by rw [hlen2]; omega) (by rw [hlen2]; exact hRl)
  obtain ⟨hwalk, hrun, hended, hWU, hsame⟩ := X₂.athrowLeaves hexec (g := { g with stack := .ref a :: rest, pc := g.pc + 3 }) hg hlocked hentered hout (a := a) (rest := rest) rfl hd9
  have hlt : a < ((U0.setVm vm₁).setVm vm₂).heap.size := (Array.getElem?_eq_some_iff.mp hcell).1
  have hU := heapAt_setCell_self (s := (U0.setVm vm₁).setVm vm₂) (plainBareV T.toThrowableT (freshCell P1.m.cls kX) a u0 sen msg) hlt
  refine ⟨_, st1 _ (fun acts => ?_), hrun, hended, hWU, hsame.weaken (fun y hy hlt' => ?_) (Nat.le_refl _) (Nat.le_refl _), _, hU, hfound, rfl⟩
  · rw [doInvoke_state]
    exact st2 _ hwalk
  · rcases List.mem_append.mp hy with h1 | h1
    · exact h1
    · exfalso
      have hb : y.base = a := by
        simp only [List.mem_cons, List.not_mem_nil, or_false] at h1
        rcases h1 with rfl | rfl | rfl | rfl | rfl <;> rfl
      rw [hb] at hlt'
      exact Nat.not_lt.mpr hnew hlt'
end NS
