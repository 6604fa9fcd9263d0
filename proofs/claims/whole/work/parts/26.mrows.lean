/-! Rows over the reference's memory: the heap is any that holds the graph M -/
theorem Gc.MO {E : List Nat} {S S' : hS} {mo : Nat} {G : Nat → Int32} (h : Gc E S S' mo G) : MO S' mo ↔ MO S mo := by
  obtain ⟨F, rfl, -⟩ := h
  exact Iff.rfl
section MRows
variable {l : Launch} {g : GG} {d : MD} {mc ms : Nat} {own : String} {Post : Option AV → hS → Prop} {J : JJ} {pc : Nat} {lv : List (Nat × AV)} {st : List AV} {S : hS} {kc ns : Nat} {mo : Nat} {M : MM} {n h : Nat}
theorem r_mA (C : Cx l g d mc ms own Post J) {idx k len : Nat} (hV : MV S mo M n h) (hd : decode d.b pc = .ok (.getfield idx, 3)) (hf : FL own idx 11 k 1 (1100 + k)) (hm : (k, len) ∈ marrs) (kk : J (pc + 3) lv (vr (some (ma S mo k)) :: st) S kc ns) : J pc lv (vr (some mo) :: st) S kc ns :=
  r_getR C hd hf hV.1.1 (hV.1.2 k len hm).1 kk
/-- a number: known, held -/
theorem r_mn (C : Cx l g d mc ms own Post J) {idx : Nat} (hV : MV S mo M n h) (hd : decode d.b pc = .ok (.getfield idx, 3)) (hf : FL own idx 11 9 0 1109) (kk : J (pc + 3) lv (vi (nI n) :: st) S kc ns) : J pc lv (vr (some mo) :: st) S kc ns := by
  refine r_getI C hd hf hV.1.1 ?_
  rw [hV.2.1]
  exact kk
theorem r_mh (C : Cx l g d mc ms own Post J) {idx : Nat} (hV : MV S mo M n h) (hd : decode d.b pc = .ok (.getfield idx, 3)) (hf : FL own idx 11 17 0 1117) (kk : J (pc + 3) lv (vi (nI h) :: st) S kc ns) : J pc lv (vr (some mo) :: st) S kc ns := by
  refine r_getI C hd hf hV.1.1 ?_
  rw [hV.2.2.1]
  exact kk
theorem r_mI (C : Cx l g d mc ms own Post J) {idx k : Nat} (hV : MV S mo M n h) (hd : decode d.b pc = .ok (.getfield idx, 3)) (hf : FL own idx 11 k 0 (1100 + k)) (kk : J (pc + 3) lv (vi (Gs S mo k) :: st) S kc ns) : J pc lv (vr (some mo) :: st) S kc ns := r_getI C hd hf hV.1.1 kk
theorem r_mL (C : Cx l g d mc ms own Post J) {k len i : Nat} (hV : MV S mo M n h) (hd : decode d.b pc = .ok (.iaload, 1)) (hk : k ∈ gk) (h30 : 30 ≤ mkd k ∧ mkd k < 80) (hm : (k, len) ∈ marrs) (hi : i < len) (hl2 : len ≤ 8000) (kk : J (pc + 1) lv (vi (M k i) :: st) S kc ns) : J pc lv (vi (nI i) :: vr (some (ma S mo k)) :: st) S kc ns := by
  refine r_iald C hd (hV.1.2 k len hm).2.1 h30 (hV.1.2 k len hm).2.2 (vp_in_nI hi (by omega)) (nI_clamp (by omega)) ?_
  rw [hV.e k hk]
  exact kk
theorem r_mLz (C : Cx l g d mc ms own Post J) {k len i : Nat} (hV : MV S mo M n h) (hd : decode d.b pc = .ok (.baload, 1)) (hk : k ∈ gk) (h30 : 85 ≤ mkd k ∧ mkd k < 100) (hm : (k, len) ∈ marrs) (hi : i < len) (hl2 : len ≤ 8000) (kk : J (pc + 1) lv (vi (M k i) :: st) S kc ns) : J pc lv (vi (nI i) :: vr (some (ma S mo k)) :: st) S kc ns := by
  refine r_zald C hd (hV.1.2 k len hm).2.1 h30 (hV.1.2 k len hm).2.2 (vp_in_nI hi (by omega)) (nI_clamp (by omega)) ?_
  rw [hV.e k hk]
  exact kk
theorem r_mS (C : Cx l g d mc ms own Post J) {k len i : Nat} {x : Int32} (hV : MV S mo M n h) (hd : decode d.b pc = .ok (.iastore, 1)) (hk : k ∈ gk) (hk2 : k ≠ 10 ∧ k ≠ 11 ∧ k ≠ 16) (h30 : 30 ≤ mkd k ∧ mkd k < 80) (hm : (k, len) ∈ marrs) (hi : i < len) (hl2 : len ≤ 8000) (kk : ∀ S2, Gch S S2 mo (Gs S mo) → MV S2 mo (um M k i x) n h → J (pc + 1) lv st S2 kc ns) : J pc lv (vi x :: vi (nI i) :: vr (some (ma S mo k)) :: st) S kc ns := by
  refine r_iast C hd (hV.1.2 k len hm).2.1 h30 (hV.1.2 k len hm).2.2 (vp_in_nI hi (by omega)) (nI_clamp (by omega)) ?_
  rw [hV.e k hk]
  exact kk _ (Gc.put (gk_mks hk) (Or.inl hk)) (hV.put hk hk2.1 hk2.2.1 hk2.2.2)
theorem r_mSz (C : Cx l g d mc ms own Post J) {k len i : Nat} {x : Int32} (hV : MV S mo M n h) (hd : decode d.b pc = .ok (.bastore, 1)) (hk : k ∈ gk) (hk2 : k ≠ 10 ∧ k ≠ 11 ∧ k ≠ 16) (h30 : 85 ≤ mkd k ∧ mkd k < 100) (hm : (k, len) ∈ marrs) (hi : i < len) (hl2 : len ≤ 8000) (hz : x = 0 ∨ x = 1) (kk : ∀ S2, Gch S S2 mo (Gs S mo) → MV S2 mo (um M k i x) n h → J (pc + 1) lv st S2 kc ns) : J pc lv (vi x :: vi (nI i) :: vr (some (ma S mo k)) :: st) S kc ns := by
  refine r_zast C hd (hV.1.2 k len hm).2.1 h30 (hV.1.2 k len hm).2.2 (vp_in_nI hi (by omega)) (nI_clamp (by omega)) hz ?_
  rw [hV.e k hk]
  exact kk _ (Gc.put (gk_mks hk) (Or.inl hk)) (hV.put hk hk2.1 hk2.2.1 hk2.2.2)
/-- the marks: 20, 21 -/
theorem MV.mk2 {k : Nat} (hV : MV S mo M n h) (f : Nat → Int32) (hk : k = 20 ∨ k = 21) : MV (putI S (mkd k) (ma S mo k) f) mo M n h := by
  refine ⟨hV.1, hV.2.1, hV.2.2.1, fun j hj => ?_, hV.2.2.2.2⟩
  rw [← hV.2.2.2.1 j hj]
  refine aI_ne ?_
  simp only [gk, List.mem_cons, List.not_mem_nil, or_false] at hj
  rcases hk with rfl | rfl <;> rcases hj with rfl | rfl | rfl | rfl | rfl | rfl | rfl | rfl | rfl | rfl | rfl <;> decide
theorem r_mkL (C : Cx l g d mc ms own Post J) {k i : Nat} (hV : MV S mo M n h) (hd : decode d.b pc = .ok (.baload, 1)) (hk : k = 20 ∨ k = 21) (hi : i < 140) {b : Bool} (hb : mI S mo k i = bi b) (kk : J (pc + 1) lv (vi (bi b) :: st) S kc ns) : J pc lv (vi (nI i) :: vr (some (ma S mo k)) :: st) S kc ns := by
  have hm : (k, 140) ∈ marrs := by rcases hk with rfl | rfl <;> decide
  have h30 : 85 ≤ mkd k ∧ mkd k < 100 := by rcases hk with rfl | rfl <;> decide
  refine r_zald C hd (hV.1.2 k 140 hm).2.1 h30 (hV.1.2 k 140 hm).2.2 (vp_in_nI hi (by omega)) (nI_clamp (by omega)) ?_
  rw [show aI S (mkd k) (ma S mo k) i = bi b from hb]
  exact kk
theorem r_mkS (C : Cx l g d mc ms own Post J) {k i : Nat} {x : Int32} (hV : MV S mo M n h) (hd : decode d.b pc = .ok (.bastore, 1)) (hk : k = 20 ∨ k = 21) (hi : i < 140) (hz : x = 0 ∨ x = 1) (kk : ∀ S2, Gc [k] S S2 mo (Gs S mo) → MV S2 mo M n h → (∀ j, j ∈ mks → mI S2 mo j = uk (mI S mo) k (upd (mI S mo k) i x) j) → J (pc + 1) lv st S2 kc ns) : J pc lv (vi x :: vi (nI i) :: vr (some (ma S mo k)) :: st) S kc ns := by
  have hm : (k, 140) ∈ marrs := by rcases hk with rfl | rfl <;> decide
  have hm2 : k ∈ mks := by rcases hk with rfl | rfl <;> decide
  have h30 : 85 ≤ mkd k ∧ mkd k < 100 := by rcases hk with rfl | rfl <;> decide
  refine r_zast C hd (hV.1.2 k 140 hm).2.1 h30 (hV.1.2 k 140 hm).2.2 (vp_in_nI hi (by omega)) (nI_clamp (by omega)) hz ?_
  exact kk _ (Gc.put hm2 (Or.inr (by simp))) (hV.mk2 _ hk) (fun j hj => mI_put hm2 hj)
/-- any other array of the reference -/
theorem MV.mx {k : Nat} (hV : MV S mo M n h) (f : Nat → Int32) (hk : k ∈ mks) (hg : k ∉ gk) : MV (putI S (mkd k) (ma S mo k) f) mo M n h := by
  refine ⟨hV.1, hV.2.1, hV.2.2.1, fun j hj => ?_, hV.2.2.2.2⟩
  have hne : j ≠ k := fun e => hg (by rw [← e]; exact hj)
  rw [mI_put hk (gk_mks hj), uk_n hne]
  exact hV.2.2.2.1 j hj
theorem r_xL (C : Cx l g d mc ms own Post J) {k len i : Nat} (hV : MV S mo M n h) (hd : decode d.b pc = .ok (.iaload, 1)) (h30 : 30 ≤ mkd k ∧ mkd k < 80) (hm : (k, len) ∈ marrs) (hi : i < len) (hl2 : len ≤ 8000) (kk : J (pc + 1) lv (vi (mI S mo k i) :: st) S kc ns) : J pc lv (vi (nI i) :: vr (some (ma S mo k)) :: st) S kc ns :=
  r_iald C hd (hV.1.2 k len hm).2.1 h30 (hV.1.2 k len hm).2.2 (vp_in_nI hi (by omega)) (nI_clamp (by omega)) kk
theorem r_xLz (C : Cx l g d mc ms own Post J) {k len i : Nat} (hV : MV S mo M n h) (hd : decode d.b pc = .ok (.baload, 1)) (h30 : 85 ≤ mkd k ∧ mkd k < 100) (hm : (k, len) ∈ marrs) (hi : i < len) (hl2 : len ≤ 8000) (kk : J (pc + 1) lv (vi (mI S mo k i) :: st) S kc ns) : J pc lv (vi (nI i) :: vr (some (ma S mo k)) :: st) S kc ns :=
  r_zald C hd (hV.1.2 k len hm).2.1 h30 (hV.1.2 k len hm).2.2 (vp_in_nI hi (by omega)) (nI_clamp (by omega)) kk
theorem r_xS (C : Cx l g d mc ms own Post J) {k len i : Nat} {x : Int32} (hV : MV S mo M n h) (hd : decode d.b pc = .ok (.iastore, 1)) (hk : k ∈ mks) (hg : k ∉ gk) (h30 : 30 ≤ mkd k ∧ mkd k < 80) (hm : (k, len) ∈ marrs) (hi : i < len) (hl2 : len ≤ 8000) (kk : ∀ S2, Gc [k] S S2 mo (Gs S mo) → MV S2 mo M n h → (∀ j, j ∈ mks → mI S2 mo j = uk (mI S mo) k (upd (mI S mo k) i x) j) → J (pc + 1) lv st S2 kc ns) : J pc lv (vi x :: vi (nI i) :: vr (some (ma S mo k)) :: st) S kc ns :=
  r_iast C hd (hV.1.2 k len hm).2.1 h30 (hV.1.2 k len hm).2.2 (vp_in_nI hi (by omega)) (nI_clamp (by omega)) (kk _ (Gc.put hk (Or.inr (by simp))) (hV.mx _ hk hg) (fun j hj => mI_put hk hj))
theorem r_xSz (C : Cx l g d mc ms own Post J) {k len i : Nat} {x : Int32} (hV : MV S mo M n h) (hd : decode d.b pc = .ok (.bastore, 1)) (hk : k ∈ mks) (hg : k ∉ gk) (h30 : 85 ≤ mkd k ∧ mkd k < 100) (hm : (k, len) ∈ marrs) (hi : i < len) (hl2 : len ≤ 8000) (hz : x = 0 ∨ x = 1) (kk : ∀ S2, Gc [k] S S2 mo (Gs S mo) → MV S2 mo M n h → (∀ j, j ∈ mks → mI S2 mo j = uk (mI S mo) k (upd (mI S mo k) i x) j) → J (pc + 1) lv st S2 kc ns) : J pc lv (vi x :: vi (nI i) :: vr (some (ma S mo k)) :: st) S kc ns :=
  r_zast C hd (hV.1.2 k len hm).2.1 h30 (hV.1.2 k len hm).2.2 (vp_in_nI hi (by omega)) (nI_clamp (by omega)) hz (kk _ (Gc.put hk (Or.inr (by simp))) (hV.mx _ hk hg) (fun j hj => mI_put hk hj))
theorem MV.set {k : Nat} {v : Int32} (hV : MV S mo M n h) (h9 : k ≠ 9) (h17 : k ≠ 17) : MV (setI S (1100 + k) mo v) mo M n h := by
  have e : ∀ j, j ≠ k → sI (setI S (1100 + k) mo v) (1100 + j) mo = sI S (1100 + j) mo := by
    intro j hj
    show u2 S.2.1 (1100 + k) mo v (1100 + j) mo = _
    unfold u2
    rw [if_neg (by omega)]
    rfl
  exact ⟨hV.1, (e 9 h9.symm).trans hV.2.1, (e 17 h17.symm).trans hV.2.2.1, hV.2.2.2.1, hV.2.2.2.2⟩
theorem r_mP (C : Cx l g d mc ms own Post J) {idx k : Nat} {v : Int32} (hV : MV S mo M n h) (hd : decode d.b pc = .ok (.putfield idx, 3)) (hf : FL own idx 11 k 0 (1100 + k)) (hp : FP d own 11 k (.int v)) (hk : k ≠ 9 ∧ k ≠ 17) (kk : ∀ S2, Gc [] S S2 mo (upd (Gs S mo) k v) → MV S2 mo M n h → J (pc + 3) lv st S2 kc ns) : J pc lv (vi v :: vr (some mo) :: st) S kc ns :=
  r_putI C hd hf hp hV.1.1 (kk _ Gc.set (hV.set hk.1 hk.2))
/-- contracts again, the heap out of sight -/
theorem cv_mark {S S' : hS} {f : Nat → Int32} (e : S' = mkS S mo f) (hV : MV S mo M n h) : Gch S S' mo (Gs S mo) ∧ MV S' mo M n h := by
  subst e
  exact ⟨Gc.put (by decide) (Or.inr (by simp)), hV.mk f⟩
theorem cx_confidence {t : Nat} (hV : MV S mo M n h) (ht : t < n) : Sp l g mX10_confidence 0 0 [vr (some mo), vi (nI t)] S (fun r S' => r = some (vi (nI (conf M n h t))) ∧ Gch S S' mo (Gs S mo) ∧ MV S' mo M n h) :=
  (cm_confidence hV ht).mono (fun r S' q => by obtain ⟨q1, f, q2⟩ := q; exact ⟨q1, cv_mark q2 hV⟩)
theorem cx_bestOf {s : Nat} (hV : MV S mo M n h) (hs : s < 2000) : Sp l g mX10_bestOf 0 0 [vr (some mo), vi (nI s)] S (fun r S' => r = some (vi (oI (best M n h s))) ∧ Gch S S' mo (Gs S mo) ∧ MV S' mo M n h) :=
  (cm_bestOf hV hs).mono (fun r S' q => by obtain ⟨q1, f, q2⟩ := q; exact ⟨q1, cv_mark q2 hV⟩)
theorem cx_markAncestors {t : Nat} (hV : MV S mo M n h) (ht : Hp M n t) : Sp l g mX10_markAncestors 0 0 [vr (some mo), vi (nI t)] S (fun r S' => r = none ∧ Gch S S' mo (Gs S mo) ∧ MV S' mo M n h ∧ Bm (mI S' mo 20) (anc M n h t)) :=
  (cm_markAncestors hV ht).mono (fun r S' q => by
    obtain ⟨q1, f, q2, q3⟩ := q
    obtain ⟨h1, h2⟩ := cv_mark q2 hV
    refine ⟨q1, h1, h2, ?_⟩
    subst q2
    intro a ha
    rw [← q3 a ha]
    exact congrFun aI_pI a)
theorem cx_markDescendants {t : Nat} (hV : MV S mo M n h) (ht : t < n) : Sp l g mX10_markDescendants 0 0 [vr (some mo), vi (nI t)] S (fun r S' => r = none ∧ Gch S S' mo (Gs S mo) ∧ MV S' mo M n h ∧ Bm (mI S' mo 20) (desL M n t h)) :=
  (cm_markDescendants hV ht).mono (fun r S' q => by
    obtain ⟨q1, f, q2, q3⟩ := q
    obtain ⟨h1, h2⟩ := cv_mark q2 hV
    refine ⟨q1, h1, h2, ?_⟩
    subst q2
    intro a ha
    rw [← q3 a ha]
    exact congrFun aI_pI a)
end MRows
