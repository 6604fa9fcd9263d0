/-! The walk's judgement: J pc lv st S k n -/
abbrev AV : Type := Int32 ⊕ (Int64 ⊕ Option Nat)
abbrev vi (x : Int32) : AV := Sum.inl x
abbrev vl (x : Int64) : AV := Sum.inr (Sum.inl x)
abbrev vr (x : Option Nat) : AV := Sum.inr (Sum.inr x)
def cv (v : AV) : Value := match v with
  | .inl x => .int x
  | .inr (.inl x) => .long x
  | .inr (.inr r) => va_rf r
abbrev cvL (q : Nat × AV) : Nat × Value := (q.1, cv q.2)
/-- two words -/
def c2 (v : AV) : Bool := match v with
  | .inr (.inl _) => true
  | _ => false
theorem c2_cat (v : AV) : ((cv v).category == 2) = c2 v := by
  rcases v with x | x | r
  · rfl
  · rfl
  · cases r <;> rfl
theorem cat_1 {v : AV} (h : c2 v = false) : (cv v).category = 1 := by
  rcases v with x | x | r
  · rfl
  · cases h
  · cases r <;> rfl
def lg (lv : List (Nat × AV)) (i : Nat) : Option AV := (lv.find? (fun q => q.1 == i)).map (fun q => q.2)
theorem lg_mem {lv : List (Nat × AV)} {i : Nat} {v : AV} (h : lg lv i = some v) : (i, v) ∈ lv := by
  unfold lg at h
  obtain ⟨q, h1, h2⟩ := Option.map_eq_some_iff.mp h
  have h3 := List.find?_some h1
  have h4 := List.mem_of_find?_eq_some h1
  have h5 : q.1 = i := by simpa using h3
  rw [← h2, ← h5]
  exact h4
/-- a local is set: sorted by place -/
def ls1 (lv : List (Nat × AV)) (i : Nat) (v : AV) : List (Nat × AV) := (i, v) :: lv.filter (fun q => !(q.1 == i) && !(q.1 + 1 == i && c2 q.2))
def ls2 (lv : List (Nat × AV)) (i : Nat) (v : AV) : List (Nat × AV) := (i, v) :: lv.filter (fun q => !(q.1 == i) && (!(q.1 == i + 1) && !(q.1 + 1 == i && c2 q.2)))
theorem ls1_cv (lv : List (Nat × AV)) (i : Nat) (v : AV) : (ls1 lv i v).map cvL = (i, cv v) :: (lv.map cvL).filter (fun q => !(q.1 == i) && !(q.1 + 1 == i && q.2.category == 2)) := by
  unfold ls1
  rw [List.map_cons, List.filter_map]
  congr 2
  apply List.filter_congr
  intro x _
  simp only [Function.comp, cvL, c2_cat]
theorem ls2_cv (lv : List (Nat × AV)) (i : Nat) (v : AV) : (ls2 lv i v).map cvL = (i, cv v) :: (lv.map cvL).filter (fun q => !(q.1 == i) && (!(q.1 == i + 1) && !(q.1 + 1 == i && q.2.category == 2))) := by
  unfold ls2
  rw [List.map_cons, List.filter_map]
  congr 2
  apply List.filter_congr
  intro x _
  simp only [Function.comp, cvL, c2_cat]
theorem lg_has {ls : Array Slot} {n : Nat} {lv : List (Nat × AV)} {i : Nat} {v : AV} (hl : lv_has ls n (lv.map cvL)) (h : lg lv i = some v) : ls[i]? = some (.val (cv v)) := hl.2.2 (i, cv v) (List.mem_map.mpr ⟨(i, v), lg_mem h, rfl⟩)
theorem W_mono {p : Program} {l : Launch} {e : Env} {R : Room} {s : State} {m : MethodId} {args : Array Value} {below : List Frame} {meth : Method} {c : Code} {H : Heap} {locs : List Loc} {k n : Nat} {Q Q' : State → Prop} {f : JFrame} (h : ∀ t, Q t → Q' t) (w : W p l e R s m args below meth c H locs k n Q f) : W p l e R s m args below meth c H locs k n Q' f := fun T hT X => by
  obtain ⟨t, a, b⟩ := w T hT X
  exact ⟨t, a, h t b⟩
abbrev JJ : Type := Nat → List (Nat × AV) → List AV → hS → Nat → Nat → Prop
/-- what is known of a state's tables, and of three constant arrays: 0 ArrayList's empty one, 1 and 2 the digest's -/
def stN : Nat → String × String × String := fun j => match j with
  | 0 => (RJx4a65c, "DEFAULTCAPACITY_EMPTY_ELEMENTDATA", "[Ljava/lang/Object;")
  | 1 => (RX1, "START", "[I")
  | _ => (RX1, "ROUND", "[I")
/-- what holds at the law's beginning -/
def FC (g : GG) : Prop := (∀ w ∈ lw_tbl, w.before (gA g) (gS g) = true) ∧ (Jvm.Cond.and given_1 narrow_1).before (gA g) (gS g) = true ∧ va_K g.1 vwCl (tysF g) (gS g) ∧ (∀ j, j < 3 → va_Z (stN j).1 (stN j).2.1 (stN j).2.2 (.ref (gT g j)) (AA g) (gS g) (gH g))
def KK (g : GG) (U : State) : Prop := (gS g).WarmedH U.vm ∧ FC g
theorem KK.moved {g : GG} {u U : State} (hW : u.WarmedH U.vm) (h : KK g u) : KK g U := ⟨State.WarmedH.trans h.1 hW, h.2⟩
theorem KK.K {g : GG} {U : State} (h : KK g U) : va_K g.1 vwCl (tysF g) U := va_K.moved h.1.alike h.2.2.2.1
theorem KK.Z {g : GG} {U : State} (h : KK g U) {j : Nat} (hj : j < 3) : va_Z (stN j).1 (stN j).2.1 (stN j).2.2 (.ref (gT g j)) (AA g) U (gH g) := (h.2.2.2.2 j hj).moved h.1.alike
def QQ (g : GG) (Post : Option AV → hS → Prop) : Array Value → State → Outcome → State → Prop := fun _ _ oc t => ∃ (r : Option AV) (S : hS), oc = .returned (r.map cv) ∧ Post r S ∧ KK g t ∧ HP g S t.heap
def wsM (d : MD) : List Cond := Cond.code d.y d.b d.l d.r :: Wd
/-- THE CONTRACT of a method that returns: from the arguments av in the heap S it comes back with what Post says; mc cells of ms slots at most are new -/
def Sp (l : Launch) (g : GG) (d : MD) (mc ms : Nat) (av : List AV) (S : hS) (Post : Option AV → hS → Prop) : Prop :=
  Met l d.y (wsM d) (d.rm mc ms) (va_Pc (av.map cv) (fun U => KK g U ∧ HP g S U.heap)) (QQ g Post) mc ms (AA g)
/-- the walk of a body, its surroundings out of sight -/
def Cx (l : Launch) (g : GG) (d : MD) (mc ms : Nat) (own : String) (Post : Option AV → hS → Prop) (J : JJ) : Prop :=
  ∃ (p : Program) (e : Env) (s : State) (m : MethodId) (args : Array Value) (below : List Frame) (meth : Method) (c : Code),
    p.tables.exec = Jvm.exec ∧ c.code = d.b ∧ c.maxLocals = d.l ∧ meth.sig.returnType = d.r ∧ s.vm.findClass own = some m.cls ∧ (∀ w ∈ Wd, w.before args s = true) ∧ meth.locks = false ∧ KK g s ∧ meth.name = d.y.name ∧ ∃ Q0 : State → Prop, (∀ t, MQ below (QQ g Post) args s mc ms (AA g) t → Q0 t) ∧
    J = fun pc lv st S k n => ∀ (H : Heap) (locs : List Loc) (ls : Array Slot), HP g S H → LO g locs → lv_has ls d.l (lv.map cvL) →
      W p l e (d.rm mc ms) s m args below meth c H locs k n Q0 (F0 m pc ls (st.map cv))
theorem Sp.mono {l : Launch} {g : GG} {d : MD} {mc ms : Nat} {av : List AV} {S : hS} {P Q : Option AV → hS → Prop} (h : Sp l g d mc ms av S P) (hq : ∀ r S', P r S' → Q r S') : Sp l g d mc ms av S Q := by
  intro p e a1 a2 a3 s m args below h1 h2 h3 h4
  obtain ⟨n, o, b1, b2, b3, ⟨r, S', c1, c2, c3, c4⟩, b5⟩ := h p e a1 a2 a3 s m args below h1 h2 h3 h4
  exact ⟨n, o, b1, b2, b3, ⟨r, S', c1, hq r S' c2, c3, c4⟩, b5⟩
/-- a body's walk from its entry gives the contract -/
theorem Sp.start {l : Launch} {g : GG} {d : MD} {mc ms : Nat} {av : List AV} {S : hS} {Post : Option AV → hS → Prop} {own : String} (lv : List (Nat × AV)) (hy : plainName d.y.cls = true) (ho : d.y.cls = own) (hl : lv.map cvL = lv_args 0 (av.map cv)) (hn : (lg_sl (av.map cv)).length ≤ d.l)
    (body : ∀ J : JJ, Cx l g d mc ms own Post J → J 0 lv [] S 0 0) : Sp l g d mc ms av S Post := by
  refine Met.ofW (cc := d.b) (maxL := d.l) (ret := d.r) hy rfl ?_
  intro p e s m args below meth c s₁ B hml hv
  obtain ⟨rfl, hK, hH⟩ := hv
  have hts := atoms_spec (ws := wsM d) B.pre
  have hown : s.vm.findClass own = some m.cls := by rw [← ho]; exact findClass_of_methodNamed B.named
  have hnm : meth.name = d.y.name := (name_of_methodNamed B.named B.method).1
  have hl0 := lv_entry (av.map cv) (n := d.l) hn
  rw [← hl] at hl0
  rw [lg_entry_eq]
  exact body _ ⟨p, e, s, m, (av.map cv).toArray, below, meth, c, B.exec, B.bytes, hml, B.returns, hown, fun w h => hts w (List.mem_cons_of_mem _ h), B.notSynchronized, hK, hnm, _, fun _ h => h, rfl⟩ s.heap [] _ hH (fun _ h => by simp at h) hl0
