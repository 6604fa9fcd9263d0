/-! 'throw new NoSuchElementException(text)' -/
def nsW : List Cond := (nsA RX9 151).filter vx_no
set_option maxRecDepth 20000 in
theorem nsW_ok : nsW.all (fun w => decide (w ∈ lw_tbl) && (goodWord w || is_dc w)) = true := by decide +kernel
theorem ats_l {g : GG} {s : State} {args : Array Value} {L : List Cond} (hK : KK g s) (h4 : L.all (fun w => decide (w ∈ lw_tbl) && (goodWord w || is_dc w)) = true) : (∀ w ∈ L, w.before args s = true) ∧ ∀ w ∈ L, vx_ot w = true := by
  have ha : ∀ w ∈ L, w ∈ lw_tbl ∧ (goodWord w = true ∨ is_dc w = true) := fun w hw => by
    have := List.all_eq_true.mp h4 w hw
    simpa [Bool.and_eq_true, Bool.or_eq_true] using this
  refine ⟨fun w hw => ?_, fun w hw => ?_⟩
  · obtain ⟨h1, h2 | h2⟩ := ha w hw
    · exact word_at hK.1 (good_of_word h2) (hK.2.1 w h1)
    · have h5 := hK.2.1 w h1
      cases w <;> first | (exact dc_moved hK.1.alike h5) | (exact ca_moved hK.1.alike h5) | cases h2
  · obtain ⟨h1, h2 | h2⟩ := ha w hw
    · unfold vx_ot
      rw [h2, Bool.or_true]
    · cases w <;> first | rfl | cases h2
section ThrowN
variable {l : Launch} {g : GG} {d : MD} {mc ms : Nat} {PX : hS → Prop} {J : JJ} {pc : Nat} {lv : List (Nat × AV)} {st : List AV} {S : hS} {kc ns : Nat}
set_option maxRecDepth 4000 in
theorem r_throwN (C : CxT l g d mc ms RX9 En PX J) (hl : l.stackTraces = false) {is : Nat} {tx : String} (hs : XS is tx) (d0 : decode d.b pc = .ok (.new 147, 3)) (d3 : decode d.b (pc + 3) = .ok (.dup, 1)) (d4 : decode d.b (pc + 4) = .ok (.ldc is, 2)) (d6 : decode d.b (pc + 6) = .ok (.invokespecial 151, 3)) (d9 : decode d.b (pc + 9) = .ok (.athrow, 1))
    (hf : 5 < d.2.2.2.2.1) (hlo : ((st.map cv).map fun v => v.category).sum + 82 ≤ d.2.2.2.2.2) (h1 : kc + 1 ≤ mc) (h2 : ns + 6 ≤ ms) (hp : PX S) : J pc lv st S kc ns := by
  obtain ⟨p, e, s, m, args, below, meth, c, hexec, hb, hml, hr, ho, hts, hlk, hK, hnm, hex, rfl⟩ := C
  intro H locs ls hH hL hlv
  obtain ⟨sa, hstr⟩ := str_at hK hs
  have hS := HP.S hH hL
  intro T hT X
  have htr : e.platform.stackTraces = false := (show e.platform.stackTraces = l.stackTraces by rw [X.admits.platform]).trans hl
  have Y := vx_rebase X (R' := { frames := (d.rm mc ms).frames, locals := (d.rm mc ms).locals, cells := 1, slots := 6 }) (Nat.le_refl _) (Nat.le_refl _) h1 h2
  obtain ⟨s', hA⟩ : ∃ z, z = (T.setVm s.vm).setFrames (.invoking m args :: below) := ⟨_, rfl⟩
  rw [← hA] at Y
  have hvm : s'.vm = s.vm := by rw [hA]; rfl
  have hhp : s'.heap = H := by rw [hA]; exact hT
  have hW0 : s.WarmedH s'.vm := by rw [hvm]; exact State.WarmedH.refl s
  have hK' : KK g s' := KK.moved hW0 hK
  have hU' : vx_Zq Bundle.tN "UNASSIGNED_STACK" Bundle.steD (AA g) s' s'.heap := by rw [hhp]; exact (zq_at hK').1.kept hS.2.1
  have hN' : vx_Zq Bundle.tN "SUPPRESSED_SENTINEL" Bundle.listD (AA g) s' s'.heap := by rw [hhp]; exact (zq_at hK').2.kept hS.2.1
  have h : ∀ w ∈ nsA RX9 151, w.before args s' = true := vx_own (ats_l hK' nsW_ok).1 (vx_isRefq hU'.1) (vx_isRefq hN'.1) hU'.2.word hN'.2.word
  have hown' : s'.vm.findClass RX9 = some m.cls := by rw [hvm]; exact ho
  have hts' : ∀ w ∈ Wd, w.before args s' = true := fun w hw => vx_ot_at hW0 hvm.symm (ot_good hw) (hts w hw)
  have hins : (Cond.instantiable En 6).before args s' = true := h _ (by unfold nsA; exact List.mem_append_right _ (List.mem_append_right _ (List.mem_append_right _ (List.mem_append_right _ (by simp [nsT])))))
  obtain ⟨vm₁, cX, kX, hfX, hkX, -, -, X₁, st1⟩ := Y.newCold hexec (own := RX9) (C := En) (index := 147) (n := 6) hown' (hts' _ (wd_at 889 (by decide +kernel) rfl)) hins (hts' _ (wd_at 24 (by decide +kernel) rfl))
    (g := F0 m pc ls (st.map cv)) rfl (by rw [hb]; exact d0) (Nat.le_refl _) (Nat.le_refl _)
  generalize hT1 : (T.setVm vm₁).pushCell { cls := cX, slots := kX.instanceTypes.map defaultValue, vm := .none } = T1 at X₁ st1
  have hcat : (Value.ref T.heap.size).category = 1 := rfl
  have hcellA : T1.heap[T.heap.size]? = some (freshCell cX kX) := by rw [← hT1]; exact State.heap_pushCell_size _ _
  have d3' : decode c.code (pc + 3) = .ok (.dup, 1) := by rw [hb]; exact d3
  have d4' : decode c.code (pc + 4) = .ok (.ldc is, 2) := by rw [hb]; exact d4
  have hstr' : vk_R RX9 is tx sa s' := vk_R.warm hW0 hstr
  obtain ⟨U, hsteps, hrun, hend, hW, hsame, ce, hce, hcl', hcv⟩ := ns_ctor X₁ hexec htr (own := RX9) (ic := 151) hown' h hfX hkX hcellA (by rw [hhp, hT]; exact Nat.le_refl _) (msg := .ref sa) rfl
    (g := { method := m, pc := pc + 6, locals := ls, stack := .ref sa :: .ref T.heap.size :: .ref T.heap.size :: st.map cv, locked := none }) rfl (hlv.1.trans hml.symm) rfl rfl (rest := st.map cv) rfl
    (by rw [hb]; exact d6) (by rw [hb]; exact d9) (fun x hx => (hex x hx).elim) hf (by
      simp only [List.map_cons, List.sum_cons, hcat]
      show 2 * 0 + _ + 81 ≤ d.2.2.2.2.2
      omega) hlk
  obtain ⟨f1, f2⟩ := vx_frame hsame
  rw [hhp] at f1 f2
  have hWs : s.WarmedH U.vm := State.WarmedH.trans hW0 hW
  have hcl : s.vm.findClass En = some ce.cls := by
    rw [hvm] at hcl'
    exact hcl'
  have hall : s.sameButNew ({ U with vm := s.vm } : State) locs mc ms := by
    subst hA
    obtain ⟨e1, e2⟩ := hsame
    rw [State.setFrames_setFrames] at e1
    have h2' : (T.setVm s.vm).sameButNew ({ U with vm := s.vm } : State) [] (0 + 1) (0 + 6) := ⟨e1, e2⟩
    have h3 := X.same.trans h2'
    rw [List.append_nil] at h3
    exact h3.mono h1 h2
  refine ⟨U, ?_, .threw T.heap.size, hrun, hend, Or.inr ⟨T.heap.size, rfl, En, ce, locs, ⟨rfl, S, hp, HP.grown hH f1 (fun q hq => f2 q hq (fun z hz => nomatch hz))⟩, hce, hcv, hcl, hWs, hall, hL⟩⟩
  refine st1 _ ?_
  show Steps p.tables e below (T1.setTop { method := m, pc := pc + 3, locals := ls, stack := .ref T.heap.size :: st.map cv, locked := none }) _
  jvm_step X₁.here [X₁.here.top, hexec, d3', Value.category]
  exact X₁.ldcString hexec (own := RX9) (text := tx) (index := is) (a := sa) hown' hstr'.1 hstr'.2
    (g := { method := m, pc := pc + 4, locals := ls, stack := .ref T.heap.size :: .ref T.heap.size :: st.map cv, locked := none }) rfl d4' _ hsteps
end ThrowN
