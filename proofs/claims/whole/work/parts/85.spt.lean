/-! Contracts of methods that throw; of methods with a table of their own -/
theorem dc_moved {y : MethodName} {A B : Array Value} {u U : State} (hvm : u.vm.Alike U.vm) (h : (Cond.declares y).before A u = true) : (Cond.declares y).before B U = true := by
  have h1 : (Cond.declares y).before A (u.setVm U.vm) = true := by
    rw [Cond.declares_setVm hvm]
    exact h
  have e := Cond.onTables_vm (A := A) (A' := B) (U := u) (U' := U) U.vm (Cond.declares y) rfl
  have hU : U.setVm U.vm = U := rfl
  rw [hU] at e
  rw [← e]
  exact h1
def is_dc : Cond → Bool := fun w => match w with
  | .declares _ => true
  | .castable _ _ => true
  | _ => false
theorem ca_moved {a b : String} {A B : Array Value} {u U : State} (hvm : u.vm.Alike U.vm) (h : (Cond.castable a b).before A u = true) : (Cond.castable a b).before B U = true := by
  obtain ⟨c3, c4, h1, h2, h3⟩ := Cond.castable_spec h
  have g1 : U.vm.findClass a = some c3 := by rw [hvm.findClass]; exact h1
  have g2 : U.vm.findClass b = some c4 := by rw [hvm.findClass]; exact h2
  have g3 : U.vm.assignable c3 c4 = true := by rw [hvm.assignable]; exact h3
  simp [Cond.before, Cond.holds, Cond.value, g1, g2, g3]
def xN : List String := ["java/lang/RuntimeException", "java/lang/Exception"]
/-- a kind of exception: its class, its constructor -/
def XC (E : String) (ik ic : Nat) : Prop := Bundle.fit E = true ∧ Cond.classLink RX9 ik E ∈ Wd ∧ Cond.initialized E ∈ Wd ∧ (vx_atS RX9 ic E xN).all (fun w => decide (w ∈ lw_tbl) && (goodWord w || is_dc w)) = true
/-- a text -/
def XS (k : Nat) (tx : String) : Prop := Cond.stringRef RX9 k tx ∈ lw_tbl ∧ Cond.exactly (.string RX9 k) "java/lang/String" ∈ flatC (Jvm.Cond.and given_1 narrow_1)
theorem lw_at (i : Nat) {w : Cond} (h : tables_1[i]? = some w) : w ∈ lw_tbl := List.mem_append_right _ (List.mem_of_getElem? h)
def Ea : String := "java/lang/IllegalArgumentException"
set_option maxRecDepth 20000 in
theorem xc_a : XC Ea 84 88 := ⟨by decide +kernel, wd_at 655 (by decide +kernel) rfl, wd_at 19 (by decide +kernel) rfl, by decide +kernel⟩
def Es : String := "java/lang/IllegalStateException"
set_option maxRecDepth 20000 in
theorem xc_s : XC Es 118 122 := ⟨by decide +kernel, wd_at 805 (by decide +kernel) rfl, wd_at 23 (by decide +kernel) rfl, by decide +kernel⟩
def En : String := "java/util/NoSuchElementException"
def Ei : String := "java/lang/IndexOutOfBoundsException"
set_option maxRecDepth 20000 in
theorem xc_i : XC Ei 183 187 := ⟨by decide +kernel, wd_at 965 (by decide +kernel) rfl, wd_at 26 (by decide +kernel) rfl, by decide +kernel⟩
set_option maxRecDepth 20000 in
theorem xs_86 : XS 86 "the tape does not have so many bytes" := ⟨lw_at 697 (by decide +kernel), by decide +kernel⟩
set_option maxRecDepth 20000 in
theorem xs_107 : XS 107 "these bytes are no transaction" := ⟨lw_at 804 (by decide +kernel), by decide +kernel⟩
set_option maxRecDepth 20000 in
theorem xs_120 : XS 120 "a transaction with this ID is known" := ⟨lw_at 814 (by decide +kernel), by decide +kernel⟩
set_option maxRecDepth 20000 in
theorem xs_127 : XS 127 "no more transactions can be known" := ⟨lw_at 825 (by decide +kernel), by decide +kernel⟩
set_option maxRecDepth 20000 in
theorem xs_149 : XS 149 "no transaction is left to poll about" := ⟨lw_at 898 (by decide +kernel), by decide +kernel⟩
set_option maxRecDepth 20000 in
theorem xs_156 : XS 156 "too many polls are open" := ⟨lw_at 905 (by decide +kernel), by decide +kernel⟩
set_option maxRecDepth 20000 in
theorem xs_161 : XS 161 "too few peers have a weight" := ⟨lw_at 910 (by decide +kernel), by decide +kernel⟩
set_option maxRecDepth 20000 in
theorem xs_185 : XS 185 "no such open poll" := ⟨lw_at 974 (by decide +kernel), by decide +kernel⟩
set_option maxRecDepth 20000 in
theorem xs_196 : XS 196 "no such peer of the sample" := ⟨lw_at 981 (by decide +kernel), by decide +kernel⟩
set_option maxRecDepth 20000 in
theorem xs_202 : XS 202 "the peer is not of the sample" := ⟨lw_at 993 (by decide +kernel), by decide +kernel⟩
set_option maxRecDepth 20000 in
theorem xs_208 : XS 208 "the peer has said something" := ⟨lw_at 994 (by decide +kernel), by decide +kernel⟩
set_option maxRecDepth 20000 in
theorem xs_227 : XS 227 "no such what" := ⟨lw_at 1006 (by decide +kernel), by decide +kernel⟩
set_option maxRecDepth 20000 in
theorem xs_261 : XS 261 "no such held transaction" := ⟨lw_at 1029 (by decide +kernel), by decide +kernel⟩
set_option maxRecDepth 20000 in
theorem xs_267 : XS 267 "no such output" := ⟨lw_at 1031 (by decide +kernel), by decide +kernel⟩
set_option maxRecDepth 20000 in
theorem xs_313 : XS 313 "no such choice or colour" := ⟨lw_at 1040 (by decide +kernel), by decide +kernel⟩
set_option maxRecDepth 20000 in
theorem xs_321 : XS 321 "no such choice, or it is decided" := ⟨lw_at 1048 (by decide +kernel), by decide +kernel⟩
set_option maxRecDepth 20000 in
theorem xs_323 : XS 323 "no such colour, or no votes" := ⟨lw_at 1049 (by decide +kernel), by decide +kernel⟩
set_option maxRecDepth 20000 in
theorem xs_328 : XS 328 "too many votes in this round" := ⟨lw_at 1050 (by decide +kernel), by decide +kernel⟩
section SpT
variable {l : Launch} {g : GG} {d : MD} {mc ms : Nat} {own E : String} {PX : hS → Prop} {Post : Option AV → hS → Prop} {J : JJ} {pc : Nat} {lv : List (Nat × AV)} {st stk : List AV} {S : hS} {kc ns : Nat}
def XT (g : GG) (E0 : String) (PX : hS → Prop) : String → State → State → Prop := fun E _ t => E = E0 ∧ ∃ S', PX S' ∧ HP g S' t.heap
/-- THE CONTRACT of a method that throws an E: the heap is then as PX says -/
def SpT (l : Launch) (g : GG) (d : MD) (mc ms : Nat) (av : List AV) (S : hS) (E : String) (PX : hS → Prop) : Prop :=
  vx_Met l d.y (wsM d) (d.rm mc ms) (va_Pc (av.map cv) (fun U => KK g U ∧ HP g S U.heap)) (fun _ _ _ _ => False) (XT g E PX) mc ms (AA g)
def CxT (l : Launch) (g : GG) (d : MD) (mc ms : Nat) (own E : String) (PX : hS → Prop) (J : JJ) : Prop :=
  ∃ (p : Program) (e : Env) (s : State) (m : MethodId) (args : Array Value) (below : List Frame) (meth : Method) (c : Code),
    p.tables.exec = Jvm.exec ∧ c.code = d.b ∧ c.maxLocals = d.l ∧ meth.sig.returnType = d.r ∧ s.vm.findClass own = some m.cls ∧ (∀ w ∈ Wd, w.before args s = true) ∧ meth.locks = false ∧ KK g s ∧ meth.name = d.y.name ∧ (∀ x ∈ c.exceptionTable.toList, False) ∧
    J = fun pc lv st S k n => ∀ (H : Heap) (locs : List Loc) (ls : Array Slot), HP g S H → LO g locs → lv_has ls d.l (lv.map cvL) →
      W p l e (d.rm mc ms) s m args below meth c H locs k n (vx_MQ below (fun _ _ _ _ => False) (XT g E PX) args s mc ms (AA g)) (F0 m pc ls (st.map cv))
theorem CxT.cx (C : CxT l g d mc ms own E PX J) : Cx l g d mc ms own (fun _ _ => False) J := by
  obtain ⟨p, e, s, m, args, below, meth, c, hx, hb, hml, hr, ho, hts, hlk, hK, hnm, hex, rfl⟩ := C
  exact ⟨p, e, s, m, args, below, meth, c, hx, hb, hml, hr, ho, hts, hlk, hK, hnm, _, fun t h => by
    obtain ⟨o, h1, h2, ⟨r, S, -, hf, -⟩, -⟩ := h
    exact hf.elim, rfl⟩
theorem SpT.mono {av : List AV} {PX2 : hS → Prop} (h : SpT l g d mc ms av S E PX) (hq : ∀ S', PX S' → PX2 S') : SpT l g d mc ms av S E PX2 := by
  intro p e a1 a2 a3 s m args below h1 h2 h3 h4
  obtain ⟨n, o, b1, b2, b3, hQ⟩ := h p e a1 a2 a3 s m args below h1 h2 h3 h4
  refine ⟨n, o, b1, b2, b3, ?_⟩
  rcases hQ with ⟨hf, -⟩ | ⟨q, h5, E5, ce, L, ⟨h6, S', h7, h8⟩, h9⟩
  · exact hf.elim
  · exact Or.inr ⟨q, h5, E5, ce, L, ⟨h6, S', hq S' h7, h8⟩, h9⟩
theorem SpT.start {av : List AV} (lv : List (Nat × AV)) (hy : plainName d.y.cls = true) (ho : d.y.cls = own) (hl : lv.map cvL = lv_args 0 (av.map cv)) (hn : (lg_sl (av.map cv)).length ≤ d.l)
    (body : ∀ J : JJ, CxT l g d mc ms own E PX J → J 0 lv [] S 0 0) : SpT l g d mc ms av S E PX := by
  refine vx_ofW (cc := d.b) (maxL := d.l) (ret := d.r) hy rfl ?_
  intro p e s m args below meth c s₁ B hml hex hv
  obtain ⟨rfl, hK, hH⟩ := hv
  have hts := atoms_spec (ws := wsM d) B.pre
  have hown : s.vm.findClass own = some m.cls := by rw [← ho]; exact findClass_of_methodNamed B.named
  have hnm : meth.name = d.y.name := (name_of_methodNamed B.named B.method).1
  have hl0 := lv_entry (av.map cv) (n := d.l) hn
  rw [← hl] at hl0
  rw [lg_entry_eq]
  exact body _ ⟨p, e, s, m, (av.map cv).toArray, below, meth, c, B.exec, B.bytes, hml, B.returns, hown, fun w h => hts w (List.mem_cons_of_mem _ h), B.notSynchronized, hK, hnm, hex, rfl⟩ s.heap [] _ hH (fun _ h => by simp at h) hl0
theorem HP.grown {H H1 : Heap} (h : HP g S H) (hz : H.size ≤ H1.size) (hq : ∀ q : Nat, q < H.size → H1[q]? = H[q]?) : HP g S H1 := by
  obtain ⟨L, h1, h2, h3, h4, h5, h6⟩ := h
  exact ⟨L, h1, h2.kept (fun k q hk => hq q.1 ((h2 k q hk).lt)), h3, Nat.le_trans h4 hz, fun q hq1 hq2 => by rw [hq q (Nat.lt_of_lt_of_le hq1 h4)]; exact h5 q hq1 hq2, h6⟩
theorem str_at {s : State} (hK : KK g s) {k : Nat} {tx : String} (h : XS k tx) : ∃ sa : Nat, vk_R RX9 k tx sa s := by
  obtain ⟨a, -, -, -, ha, -⟩ := Cond.exactly_spec (flat_of_before _ hK.2.2.1 _ h.2)
  exact ⟨a, (vk_R.of (hK.2.1 _ h.1) ha).warm hK.1⟩
theorem zq_at {s : State} (hK : KK g s) : vx_Zq Bundle.tN "UNASSIGNED_STACK" Bundle.steD (AA g) s (gH g) ∧ vx_Zq Bundle.tN "SUPPRESSED_SENTINEL" Bundle.listD (AA g) s (gH g) :=
  ⟨vx_Zq.moved hK.1.alike (vx_Zqof (hK.2.1 _ (lw_at 682 (by decide +kernel))) (hK.2.1 _ (lw_at 16 (by decide +kernel))) (flat_of_before _ hK.2.2.1 _ (by decide +kernel)) (fun a h => Nat.not_le.mpr h)),
   vx_Zq.moved hK.1.alike (vx_Zqof (hK.2.1 _ (lw_at 684 (by decide +kernel))) (hK.2.1 _ (lw_at 16 (by decide +kernel))) (flat_of_before _ hK.2.2.1 _ (by decide +kernel)) (fun a h => Nat.not_le.mpr h))⟩
theorem ats_at {s : State} {args : Array Value} (hK : KK g s) {ik ic : Nat} (h : XC E ik ic) : (∀ w ∈ vx_atS RX9 ic E xN, w.before args s = true) ∧ ∀ w ∈ vx_atS RX9 ic E xN, vx_ot w = true := by
  have h4 := h.2.2.2
  have ha : ∀ w ∈ vx_atS RX9 ic E xN, w ∈ lw_tbl ∧ (goodWord w = true ∨ is_dc w = true) := fun w hw => by
    have := List.all_eq_true.mp h4 w hw
    simpa [Bool.and_eq_true, Bool.or_eq_true] using this
  refine ⟨fun w hw => ?_, fun w hw => ?_⟩
  · obtain ⟨h1, h2 | h2⟩ := ha w hw
    · exact word_at hK.1 (good_of_word h2) (hK.2.1 w h1)
    · have h5 := hK.2.1 w h1
      cases w <;> first | (exact dc_moved hK.1.alike h5) | (exact ca_moved hK.1.alike h5) | cases h2
  · obtain ⟨h1, h2 | h2⟩ := ha w hw
    · unfold vx_ot
      rw [h2, Bool.or_true]
    · cases w <;> first | rfl | cases h2
theorem ot_good {w : Cond} (h : w ∈ Wd) : vx_ot w = true := by
  unfold vx_ot
  rw [wd_good w h, Bool.or_true]
theorem r_throw (C : CxT l g d mc ms RX9 E PX J) (hl : l.stackTraces = false) {ik is ic : Nat} {tx : String} (hx : XC E ik ic) (hs : XS is tx) (d0 : decode d.b pc = .ok (.new ik, 3)) (d3 : decode d.b (pc + 3) = .ok (.dup, 1)) (d4 : decode d.b (pc + 4) = .ok (.ldc is, 2)) (d6 : decode d.b (pc + 6) = .ok (.invokespecial ic, 3)) (d9 : decode d.b (pc + 9) = .ok (.athrow, 1))
    (hf : 5 < d.2.2.2.2.1) (hlo : ((st.map cv).map fun v => v.category).sum + 82 ≤ d.2.2.2.2.2) (h1 : kc + 1 ≤ mc) (h2 : ns + 6 ≤ ms) (hp : PX S) : J pc lv st S kc ns := by
  obtain ⟨p, e, s, m, args, below, meth, c, he, hb, hml, hr, ho, hts, hlk, hK, hnm, hex, rfl⟩ := C
  intro H locs ls hH hL hlv
  obtain ⟨sa, hsa⟩ := str_at hK hs
  obtain ⟨a1, a2⟩ := ats_at (args := args) hK hx
  refine vx_throwS (H0 := gH g) (A := AA g) (names := xN) he hb hl ho hx.1 (by decide +kernel) (hts _ hx.2.1) (hts _ hx.2.2.1) hsa a1 ?_ (zq_at hK).1 (zq_at hK).2 (HP.S hH hL) (hlv.1.trans hml.symm) d0 d3 d4 d6 d9 (fun x h => (hex x h).elim) hf hlo h1 h2 hlk ?_ hL h1 h2
  · intro w hw
    rcases List.mem_cons.mp hw with rfl | hw
    · exact ot_good hx.2.1
    · rcases List.mem_cons.mp hw with rfl | hw
      · exact ot_good hx.2.2.1
      · exact a2 w hw
  · intro t _ hz hq
    exact ⟨rfl, S, hp, HP.grown hH hz hq⟩
theorem r_throwW (C : CxT l g d mc ms RX9 E PX J) (hl : l.stackTraces = false) {ik is ic : Nat} {tx : String} (hx : XC E ik ic) (hs : XS is tx) (d0 : decode d.b pc = .ok (.new ik, 3)) (d3 : decode d.b (pc + 3) = .ok (.dup, 1)) (d4 : decode d.b (pc + 4) = .ok (.ldc_w is, 3)) (d7 : decode d.b (pc + 7) = .ok (.invokespecial ic, 3)) (d10 : decode d.b (pc + 10) = .ok (.athrow, 1))
    (hf : 5 < d.2.2.2.2.1) (hlo : ((st.map cv).map fun v => v.category).sum + 82 ≤ d.2.2.2.2.2) (h1 : kc + 1 ≤ mc) (h2 : ns + 6 ≤ ms) (hp : PX S) : J pc lv st S kc ns := by
  obtain ⟨p, e, s, m, args, below, meth, c, he, hb, hml, hr, ho, hts, hlk, hK, hnm, hex, rfl⟩ := C
  intro H locs ls hH hL hlv
  obtain ⟨sa, hsa⟩ := str_at hK hs
  obtain ⟨a1, a2⟩ := ats_at (args := args) hK hx
  refine vx_throwSW (H0 := gH g) (A := AA g) (names := xN) he hb hl ho hx.1 (by decide +kernel) (hts _ hx.2.1) (hts _ hx.2.2.1) hsa a1 ?_ (zq_at hK).1 (zq_at hK).2 (HP.S hH hL) (hlv.1.trans hml.symm) d0 d3 d4 d7 d10 (fun x h => (hex x h).elim) hf hlo h1 h2 hlk ?_ hL h1 h2
  · intro w hw
    rcases List.mem_cons.mp hw with rfl | hw
    · exact ot_good hx.2.1
    · rcases List.mem_cons.mp hw with rfl | hw
      · exact ot_good hx.2.2.1
      · exact a2 w hw
  · intro t _ hz hq
    exact ⟨rfl, S, hp, HP.grown hH hz hq⟩
end SpT
