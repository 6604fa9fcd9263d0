/-! Methods with a table of their own: the law's helpers -/
abbrev HT : Type := List (Nat × Nat × Nat × Nat)
def wsH (d : MD) (hh : HT) : List Cond := Cond.codeWith d.y d.b d.l d.r hh :: Wd
section SpH
variable {l : Launch} {g : GG} {d : MD} {hh : HT} {mc ms : Nat} {own E : String} {PX : hS → Prop} {Post : Option AV → hS → Prop} {J : JJ} {pc : Nat} {lv : List (Nat × AV)} {st stk : List AV} {S : hS} {kc ns : Nat}
theorem met_ofWH {y : MethodName} {ws ws' : List Cond} {rm : Room} {Pc : Array Value → State → Prop} {Qc : Array Value → State → Outcome → State → Prop} {free : Addr → Prop} {cc : ByteArray} {maxL : Nat} {ret : Option FieldType}
    (hy : plainName y.cls = true) (hw : ws = Cond.codeWith y cc maxL ret hh :: ws')
    (body : ∀ p e s m args below meth c s₁, BodyLoose p l y (headSpec ws rm) cc maxL ret e s m args below meth c s₁ → c.maxLocals = maxL → Pc args s →
      W p l e (headSpec ws rm).room s m args below meth c s.heap [] 0 0 (MQ below Qc args s mc ms free) (entryFrame m args maxL)) : Met l y ws rm Pc Qc mc ms free := by
  refine MetFree.of_bodyS (code := cc) (maxLocals := maxL) (ret := ret) hy ?_ ?_
  · intro args s m h hn
    obtain ⟨m9, meth, c, hn9, h1, h2, h3, h4, -, h5, h6, -⟩ := Cond.codeWith_spec (atoms_spec (ws := ws) h _ (by rw [hw]; exact List.mem_cons_self))
    cases hn.symm.trans hn9
    exact ⟨meth, c, h1, h2, h3, h4, h5, h6⟩
  · intro p e s m args below meth c s₁ B hml hP _
    have hh0 : s₁.heap = s.heap := by rw [B.state]; rfl
    obtain ⟨t, a1, o, b1, b2, b3⟩ := body p e s m args below meth c s₁ B hml hP s₁ hh0 (Stand.of_body B)
    exact ⟨t, o, a1, b1, b2, ⟨b3.1, b3.2⟩⟩
/-- THE CONTRACT of a method with a table: it returns -/
def SpH (l : Launch) (g : GG) (d : MD) (hh : HT) (mc ms : Nat) (av : List AV) (S : hS) (Post : Option AV → hS → Prop) : Prop :=
  Met l d.y (wsH d hh) (d.rm mc ms) (va_Pc (av.map cv) (fun U => KK g U ∧ HP g S U.heap)) (QQ g Post) mc ms (AA g)
def CxH (l : Launch) (g : GG) (d : MD) (hh : HT) (mc ms : Nat) (own : String) (Post : Option AV → hS → Prop) (J : JJ) : Prop :=
  ∃ (p : Program) (e : Env) (s : State) (m : MethodId) (args : Array Value) (below : List Frame) (meth : Method) (c : Code),
    p.tables.exec = Jvm.exec ∧ c.code = d.b ∧ c.maxLocals = d.l ∧ meth.sig.returnType = d.r ∧ s.vm.findClass own = some m.cls ∧ (∀ w ∈ Wd, w.before args s = true) ∧ meth.locks = false ∧ KK g s ∧ meth.name = d.y.name ∧ c.exceptionTable.toList = tableOf hh ∧
    J = fun pc lv st S k n => ∀ (H : Heap) (locs : List Loc) (ls : Array Slot), HP g S H → LO g locs → lv_has ls d.l (lv.map cvL) →
      W p l e (d.rm mc ms) s m args below meth c H locs k n (MQ below (QQ g Post) args s mc ms (AA g)) (F0 m pc ls (st.map cv))
theorem CxH.cx (C : CxH l g d hh mc ms own Post J) : Cx l g d mc ms own Post J := by
  obtain ⟨p, e, s, m, args, below, meth, c, hx, hb, hml, hr, ho, hts, hlk, hK, hnm, hex, rfl⟩ := C
  exact ⟨p, e, s, m, args, below, meth, c, hx, hb, hml, hr, ho, hts, hlk, hK, hnm, _, fun _ h => h, rfl⟩
theorem SpH.start {av : List AV} (lv : List (Nat × AV)) (hy : plainName d.y.cls = true) (ho : d.y.cls = own) (hl : lv.map cvL = lv_args 0 (av.map cv)) (hn : (lg_sl (av.map cv)).length ≤ d.l)
    (body : ∀ J : JJ, CxH l g d hh mc ms own Post J → J 0 lv [] S 0 0) : SpH l g d hh mc ms av S Post := by
  refine met_ofWH (hh := hh) (cc := d.b) (maxL := d.l) (ret := d.r) hy rfl ?_
  intro p e s m args below meth c s₁ B hml hv
  obtain ⟨rfl, hK, hH⟩ := hv
  have hts := atoms_spec (ws := wsH d hh) B.pre
  have hown : s.vm.findClass own = some m.cls := by rw [← ho]; exact findClass_of_methodNamed B.named
  have hnm : meth.name = d.y.name := (name_of_methodNamed B.named B.method).1
  have hex := vx_table (x := d.y) B (hts _ List.mem_cons_self)
  have hl0 := lv_entry (av.map cv) (n := d.l) hn
  rw [← hl] at hl0
  rw [lg_entry_eq]
  exact body _ ⟨p, e, s, m, (av.map cv).toArray, below, meth, c, B.exec, B.bytes, hml, B.returns, hown, fun w h => hts w (List.mem_cons_of_mem _ h), B.notSynchronized, hK, hnm, hex, rfl⟩ s.heap [] _ hH (fun _ h => by simp at h) hl0
/-- a method is called that throws; the row x takes it, those ahead leave it -/
theorem r_callVT (C : CxH l g d hh mc ms own Post J) {d2 : MD} {mc2 ms2 n idx ci a : Nat} {r : vw_C} {As : List AV} (hs : SpT l g d2 mc2 ms2 (vr (some a) :: As) S E PX) (hm : MI d2 n) (hw : Cond.methodLink own idx d2.y ∈ Wd) (hd : decode d.b pc = .ok (.invokevirtual idx, 3)) (hc : vwCl[ci]? = some r) (hC : d2.y.cls = r.1) (hk : sK S a = ci + 1) (hn : As.length = n)
    (hR : d2.2.2.2.2.1 + 1 ≤ d.2.2.2.2.1 ∧ 8 + (d2.l + 11) + d2.2.2.2.2.2 ≤ d.2.2.2.2.2) (hst : stk = As.reverse ++ vr (some a) :: st) (hW : ((st.map cv).map fun v => v.category).sum ≤ 8) (h1 : kc + mc2 ≤ mc) (h2 : ns + ms2 ≤ ms)
    (pre : HT) (x : Nat × Nat × Nat × Nat) (suf : HT) (hsp : hh = pre ++ x :: suf) (hpass : ∀ z ∈ pre, (z.1 ≤ pc ∧ pc < z.2.1) ∧ z.2.2.2 ≠ 0 ∧ ∃ nm : String, Cond.classLink own z.2.2.2 nm ∈ Wd ∧ Cond.not (.castable E nm) ∈ flatC (Jvm.Cond.and given_1 narrow_1))
    (hx : x.1 ≤ pc ∧ pc < x.2.1) (h0 : x.2.2.2 ≠ 0) (hlink : Cond.classLink own x.2.2.2 E ∈ Wd) (hcast : Cond.castable E E ∈ lw_tbl)
    (kk : ∀ q S', PX S' → J x.2.2.1 lv [vr (some q)] S' (kc + mc2) (ns + ms2)) : J pc lv stk S kc ns := by
  obtain ⟨p, e, s, m, args, below, meth, c, hx9, hb, hml, hr, ho, hts, hlk, hK, hnm, hex, rfl⟩ := C
  intro H locs ls hH hL hl
  obtain ⟨-, hci, -⟩ := cl_ok ci r hc
  obtain ⟨w1, w2, w3, w4, w5⟩ := hm
  subst hst
  have cb : CallB (d.rm mc ms) s args own idx d2.y d2.b d2.l d2.r (wsM d2) (d2.rm mc2 ms2) mc2 ms2 n := callB_of n hts (good_ws w4) rfl rfl rfl (hts _ w3) (hts _ hw) w5 hR
  have hrecv := va_recv hK.K (HP.obj hH hk hci) hc (q0 := 0) rfl
  have run : vx_Run p l e (d.rm mc ms) s m args below meth c H locs kc ns mc2 ms2 (F0 m pc ls ((As.reverse ++ vr (some a) :: st).map cv)) (st.map cv) (fun _ _ _ => False) (XT g E PX) (AA g) := by
    refine vx_runV (C := d2.y.cls) (b := a) (As := As.map cv) (rest := st.map cv) (Qc := fun _ _ _ _ => False) ⟨hx9, hb, hml, ho, hts⟩ hs ⟨cb, hts _ w1, hts _ w2⟩ ⟨blind S _, ?_, ?_⟩ rfl ?_ hl.1 ?_ ?_ hd ⟨h1, h2⟩
    · obtain ⟨cell, q1, q2, q3⟩ := hrecv
      exact ⟨cell, q1, q2, by rw [hC]; exact q3⟩
    · intro U hU hWU
      exact ⟨rfl, KK.moved hWU hK, by rw [hU]; exact hH⟩
    · rw [List.length_map]; exact hn
    · show (As.reverse ++ vr (some a) :: st).map cv = (As.map cv).reverse ++ .ref a :: st.map cv
      simp [List.map_append, List.map_reverse]
      rfl
    · exact lv_room hW
  intro T hT X
  rcases run T hT X with ⟨v, st₀, t, T', L, h0', X', hLL, e1, e2, hf, -⟩ | ⟨q, st₀, t, T', L, E', ce, h0', X', hLL, e1, e2, ⟨rfl, S', hp, hH1⟩, hce, hcv, hcl, stp⟩
  · exact hf.elim
  · have hpre : ∀ z ∈ tableOf pre, covers z pc = true ∧ z.catchType ≠ 0 ∧ ∃ nm : String, (Cond.classLink own z.catchType nm).before args s = true ∧ va_Nc E' nm s := by
      intro z hz
      obtain ⟨y, hy, rfl⟩ := List.mem_map.mp hz
      obtain ⟨⟨g1, g2⟩, g3, nm, g4, g5⟩ := hpass y hy
      exact ⟨by simp [covers, g1, g2], g3, nm, hts _ g4, va_Nc.moved hK.1.alike (va_Nc.of (flat_of_before _ hK.2.2.1 _ g5))⟩
    obtain ⟨t2, a1, b1⟩ := ct_catch (H := T'.heap) (locs := locs ++ L) (cells := kc + mc2) (slots := ns + ms2) (pc := pc) (ls := ls) (rest := st.map cv) ho (tableOf pre) ⟨x.1, x.2.1, x.2.2.1, x.2.2.2⟩ (tableOf suf) (by rw [hex, hsp]; simp [tableOf]) hpre (by simp [covers, hx.1, hx.2]) h0 (hts _ hlink) (ca_moved hK.1.alike (hK.2.1 _ hcast)) (by rw [e1]; exact hce) hcv hcl
      (kk q S' hp T'.heap (locs ++ L) ls (by rw [e1]; exact hH1) (fun y hy => (List.mem_append.mp hy).elim (hL y) (hLL y)) hl) T' rfl X'
    exact ⟨t2, stp.trans a1, b1⟩
/-- what the tables say of a helper -/
def MSH (d : MD) (hh : HT) (n : Nat) : Prop := Cond.static d.y ∈ Wd ∧ Cond.initialized d.y.cls ∈ Wd ∧ Cond.codeWith d.y d.b d.l d.r hh ∈ Wd ∧ (d.y.cls ≠ "java/lang/invoke/MethodHandle" ∧ d.y.cls ≠ "java/lang/invoke/VarHandle" ∧ (parseMethodDescriptor d.y.desc).map (fun d => d.parameters.length) = some n)
theorem good_wh {d2 : MD} {hh : HT} (h : Cond.codeWith d2.y d2.b d2.l d2.r hh ∈ Wd) : GoodIn Wd (wsH d2 hh) := fun w hw => by
  have hm : w ∈ Wd := (List.mem_cons.mp hw).elim (fun e => e ▸ h) (fun h => h)
  exact ⟨hm, good_of_word (wd_good w hm)⟩
theorem r_callH (C : Cx l g d mc ms own Post J) {d2 : MD} {hh2 : HT} {mc2 ms2 n idx : Nat} {As : List AV} {P2 : Option AV → hS → Prop} (hs : SpH l g d2 hh2 mc2 ms2 As S P2) (hm : MSH d2 hh2 n) (hw : Cond.methodLink own idx d2.y ∈ Wd) (hd : decode d.b pc = .ok (.invokestatic idx, 3)) (hn : As.length = n)
    (hR : d2.2.2.2.2.1 + 1 ≤ d.2.2.2.2.1 ∧ 8 + (d2.l + 11) + d2.2.2.2.2.2 ≤ d.2.2.2.2.2) (hst : stk = As.reverse ++ st) (hW : ((st.map cv).map fun v => v.category).sum ≤ 8) (h1 : kc + mc2 ≤ mc) (h2 : ns + ms2 ≤ ms)
    (kk : ∀ r S', P2 r S' → J (pc + 3) lv (r.toList ++ st) S' (kc + mc2) (ns + ms2)) : J pc lv stk S kc ns := by
  obtain ⟨p, e, s, m, args, below, meth, c, hx, hb, hml, hr, ho, hts, hlk, hK, hnm, Q0, hQ0, rfl⟩ := C
  intro H locs ls hH hL hl
  obtain ⟨w1, w3, w4, w5, w6, w7⟩ := hm
  subst hst
  have cw : vx_CSW (d.rm mc ms) s args own idx d2.y d2.b d2.l d2.r hh2 (wsH d2 hh2) (d2.rm mc2 ms2) mc2 ms2 n :=
    ⟨⟨rfl, rfl, hR.1, hR.2, pay_in hts (good_wh w4), List.mem_cons_self⟩, hts _ w4, hts _ w3, ⟨w5, w6⟩, fun sig h => by rw [h] at w7; exact (Option.some.inj w7).symm, hts _ hw, hts _ w1⟩
  refine back hK hL (st := st) (vx_runSW (As := As.map cv) (rest := st.map cv) ⟨hx, hb, hml, ho, hts⟩ hs cw ⟨blind S _, ?_⟩ rfl ?_ hl.1 ?_ ?_ hd ⟨h1, h2⟩) ?_
  · intro U hU hWU
    exact ⟨rfl, KK.moved hWU hK, by rw [hU]; exact hH⟩
  · rw [List.length_map]; exact hn
  · show (As.reverse ++ st).map cv = (As.map cv).reverse ++ st.map cv
    simp [List.map_append, List.map_reverse]
  · exact lv_room hW
  · intro r S' H1 locs1 hp hH1 hL1
    exact kk r S' hp H1 locs1 ls hH1 hL1 hl
end SpH
