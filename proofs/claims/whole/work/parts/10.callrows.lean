/-! Calls -/
section CallRows2
variable {l : Launch} {g : GG} {d : MD} {mc ms : Nat} {own : String} {Post : Option AV → hS → Prop} {J : JJ} {pc : Nat} {lv : List (Nat × AV)} {st stk : List AV} {S : hS} {kc ns : Nat}
theorem wd_good : ∀ w ∈ Wd, goodWord w = true := fun _ h => (List.mem_filter.mp h).2
theorem good_ws {d2 : MD} (h : Cond.code d2.y d2.b d2.l d2.r ∈ Wd) : GoodIn Wd (wsM d2) := fun w hw => by
  have hm : w ∈ Wd := (List.mem_cons.mp hw).elim (fun e => e ▸ h) (fun h => h)
  exact ⟨hm, good_of_word (wd_good w hm)⟩
theorem blind (S : hS) (av : List AV) : FrameBlind (va_Pc (av.map cv) (fun U => KK g U ∧ HP g S U.heap)) := fun a U gg mk h => ⟨h.1, h.2.1, h.2.2⟩
/-- what comes back from a call -/
theorem back {p : Program} {e : Env} {R : Room} {s : State} {m : MethodId} {args : Array Value} {below : List Frame} {meth : Method} {c : Code} {H : Heap} {locs : List Loc} {ls : Array Slot} {Q : State → Prop} {P2 : Option AV → hS → Prop} {mc2 ms2 : Nat} {a : Array Value} {st0 : List Value} (hK : KK g s) (hL : LO g locs)
    (hr : va_Run p l e R s m args below meth c H locs kc ns mc2 ms2 (F0 m pc ls st0) (st.map cv) (QQ g P2 a) (AA g))
    (kk : ∀ r S' H1 locs1, P2 r S' → HP g S' H1 → LO g locs1 → W p l e R s m args below meth c H1 locs1 (kc + mc2) (ns + ms2) Q (F0 m (pc + 3) ls ((r.toList ++ st).map cv))) : W p l e R s m args below meth c H locs kc ns Q (F0 m pc ls st0) := by
  intro T hT X
  obtain ⟨v, st₀, t, T', L, h0, X', hLL, e1, e2, ⟨r, S', hv, hp, hk, hH⟩, stp⟩ := hr T hT X
  cases hv
  obtain ⟨t2, a1, b1⟩ := kk r S' T'.heap (locs ++ L) hp (by rw [e1]; exact hH) (fun x hx => (List.mem_append.mp hx).elim (hL x) (hLL x)) T' rfl X'
  refine ⟨t2, stp t2 ?_, b1⟩
  have e : ((r.toList ++ st).map cv) = (r.map cv).toList ++ st.map cv := by cases r <;> simp
  rw [e] at a1
  exact a1
theorem r_callV (C : Cx l g d mc ms own Post J) {d2 : MD} {mc2 ms2 n idx ci a : Nat} {r : vw_C} {As : List AV} {P2 : Option AV → hS → Prop} (hs : Sp l g d2 mc2 ms2 (vr (some a) :: As) S P2) (hm : MI d2 n) (hw : Cond.methodLink own idx d2.y ∈ Wd) (hd : decode d.b pc = .ok (.invokevirtual idx, 3)) (hc : vwCl[ci]? = some r) (hC : d2.y.cls = r.1) (hk : sK S a = ci + 1) (hn : As.length = n)
    (hR : d2.2.2.2.2.1 + 1 ≤ d.2.2.2.2.1 ∧ 8 + (d2.l + 11) + d2.2.2.2.2.2 ≤ d.2.2.2.2.2) (hst : stk = As.reverse ++ vr (some a) :: st) (hW : ((st.map cv).map fun v => v.category).sum ≤ 8) (h1 : kc + mc2 ≤ mc) (h2 : ns + ms2 ≤ ms)
    (kk : ∀ r S', P2 r S' → J (pc + 3) lv (r.toList ++ st) S' (kc + mc2) (ns + ms2)) : J pc lv stk S kc ns := by
  obtain ⟨p, e, s, m, args, below, meth, c, hx, hb, hml, hr, ho, hts, hlk, hK, hnm, Q0, hQ0, rfl⟩ := C
  intro H locs ls hH hL hl
  obtain ⟨-, hci, -⟩ := cl_ok ci r hc
  obtain ⟨w1, w2, w3, w4, w5⟩ := hm
  subst hst
  have cb : CallB (d.rm mc ms) s args own idx d2.y d2.b d2.l d2.r (wsM d2) (d2.rm mc2 ms2) mc2 ms2 n := callB_of n hts (good_ws w4) rfl rfl rfl (hts _ w3) (hts _ hw) w5 hR
  have hrecv := va_recv hK.K (HP.obj hH hk hci) hc (q0 := 0) rfl
  refine back hK hL (st := st) (va_runV (C := d2.y.cls) (b := a) (As := As.map cv) (rest := st.map cv) ⟨hx, hb, hml, ho, hts⟩ hs ⟨cb, hts _ w1, hts _ w2⟩ ⟨blind S _, ?_, ?_⟩ rfl ?_ hl.1 ?_ ?_ hd ⟨h1, h2⟩) ?_
  · obtain ⟨cell, q1, q2, q3⟩ := hrecv
    exact ⟨cell, q1, q2, by rw [hC]; exact q3⟩
  · intro U hU hWU
    exact ⟨rfl, KK.moved hWU hK, by rw [hU]; exact hH⟩
  · rw [List.length_map]; exact hn
  · show (As.reverse ++ vr (some a) :: st).map cv = (As.map cv).reverse ++ .ref a :: st.map cv
    simp [List.map_append, List.map_reverse]
    rfl
  · exact lv_room hW
  · intro r S' H1 locs1 hp hH1 hL1
    exact kk r S' hp H1 locs1 ls hH1 hL1 hl
theorem r_callS (C : Cx l g d mc ms own Post J) {d2 : MD} {mc2 ms2 n idx : Nat} {As : List AV} {P2 : Option AV → hS → Prop} (hs : Sp l g d2 mc2 ms2 As S P2) (hm : MS d2 n) (hw : Cond.methodLink own idx d2.y ∈ Wd) (hd : decode d.b pc = .ok (.invokestatic idx, 3)) (hn : As.length = n)
    (hR : d2.2.2.2.2.1 + 1 ≤ d.2.2.2.2.1 ∧ 8 + (d2.l + 11) + d2.2.2.2.2.2 ≤ d.2.2.2.2.2) (hst : stk = As.reverse ++ st) (hW : ((st.map cv).map fun v => v.category).sum ≤ 8) (h1 : kc + mc2 ≤ mc) (h2 : ns + ms2 ≤ ms)
    (kk : ∀ r S', P2 r S' → J (pc + 3) lv (r.toList ++ st) S' (kc + mc2) (ns + ms2)) : J pc lv stk S kc ns := by
  obtain ⟨p, e, s, m, args, below, meth, c, hx, hb, hml, hr, ho, hts, hlk, hK, hnm, Q0, hQ0, rfl⟩ := C
  intro H locs ls hH hL hl
  obtain ⟨w1, w3, w4, w5⟩ := hm
  subst hst
  have cb : CallB (d.rm mc ms) s args own idx d2.y d2.b d2.l d2.r (wsM d2) (d2.rm mc2 ms2) mc2 ms2 n := callB_of n hts (good_ws w4) rfl rfl rfl (hts _ w3) (hts _ hw) w5 hR
  refine back hK hL (st := st) (va_runS (As := As.map cv) (rest := st.map cv) ⟨hx, hb, hml, ho, hts⟩ hs ⟨cb, hts _ w1⟩ ⟨blind S _, ?_⟩ rfl ?_ hl.1 ?_ ?_ hd ⟨h1, h2⟩) ?_
  · intro U hU hWU
    exact ⟨rfl, KK.moved hWU hK, by rw [hU]; exact hH⟩
  · rw [List.length_map]; exact hn
  · show (As.reverse ++ st).map cv = (As.map cv).reverse ++ st.map cv
    simp [List.map_append, List.map_reverse]
  · exact lv_room hW
  · intro r S' H1 locs1 hp hH1 hL1
    exact kk r S' hp H1 locs1 ls hH1 hL1 hl
theorem r_callI (C : Cx l g d mc ms own Post J) {d2 : MD} {mc2 ms2 n idx a : Nat} {As : List AV} {P2 : Option AV → hS → Prop} (hs : Sp l g d2 mc2 ms2 (vr (some a) :: As) S P2) (hm : MC d2 n) (hw : Cond.methodLink own idx d2.y ∈ Wd) (hd : decode d.b pc = .ok (.invokespecial idx, 3)) (hn : As.length = n)
    (hR : d2.2.2.2.2.1 + 1 ≤ d.2.2.2.2.1 ∧ 8 + (d2.l + 11) + d2.2.2.2.2.2 ≤ d.2.2.2.2.2) (hst : stk = As.reverse ++ vr (some a) :: st) (hW : ((st.map cv).map fun v => v.category).sum ≤ 8) (h1 : kc + mc2 ≤ mc) (h2 : ns + ms2 ≤ ms)
    (kk : ∀ r S', P2 r S' → J (pc + 3) lv (r.toList ++ st) S' (kc + mc2) (ns + ms2)) : J pc lv stk S kc ns := by
  obtain ⟨p, e, s, m, args, below, meth, c, hx, hb, hml, hr, ho, hts, hlk, hK, hnm, Q0, hQ0, rfl⟩ := C
  intro H locs ls hH hL hl
  obtain ⟨w1, w2, w2b, w3, w4, w5⟩ := hm
  subst hst
  have cb : CallB (d.rm mc ms) s args own idx d2.y d2.b d2.l none (wsM d2) (d2.rm mc2 ms2) mc2 ms2 n := callB_of n hts (good_ws w4) (by rw [← w2b]; rfl) rfl rfl (hts _ w3) (hts _ hw) w5 hR
  refine back hK hL (st := st) (va_runI (b := a) (As := As.map cv) (rest := st.map cv) ⟨hx, hb, hml, ho, hts⟩ hs ⟨cb, w2, hts _ w1⟩ ⟨blind S _, ?_⟩ rfl ?_ hl.1 ?_ ?_ hd ⟨h1, h2⟩) ?_
  · intro U hU hWU
    exact ⟨rfl, KK.moved hWU hK, by rw [hU]; exact hH⟩
  · rw [List.length_map]; exact hn
  · show (As.reverse ++ vr (some a) :: st).map cv = (As.map cv).reverse ++ .ref a :: st.map cv
    simp [List.map_append, List.map_reverse]
    rfl
  · exact lv_room hW
  · intro r S' H1 locs1 hp hH1 hL1
    exact kk r S' hp H1 locs1 ls hH1 hL1 hl
end CallRows2
