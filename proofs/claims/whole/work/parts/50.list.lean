/-! The JDK: numbers, lists -/
theorem tyA_7 {k : Nat} (h : 104 ≤ k) : tyA (ac k) = .object "java/lang/Object" := by
  have : ac k = 7 := by unfold ac; rw [if_neg (by omega), if_neg (by omega), if_neg (by omega), if_neg (by omega), if_neg (by omega), if_neg (by omega), if_neg (by omega)]
  rw [this]
  rfl
theorem tyA_0 {k : Nat} (h : k < 30) : tyA (ac k) = .byte := by
  have : ac k = 0 := by unfold ac; rw [if_pos h]
  rw [this]
  rfl
theorem w_ac7 : Cond.methodLink RJ7 150 arraycopyName ∈ Wd := wd_at 303 (by decide +kernel) rfl
theorem w_acL : Cond.methodLink RJx4a65c 112 arraycopyName ∈ Wd := wd_at 453 (by decide +kernel) rfl
theorem w_acD : Cond.methodLink RX1 32 arraycopyName ∈ Wd := wd_at 795 (by decide +kernel) rfl
theorem w_fl0 : Cond.fieldLink RJx4a65c 39 (stN 0).1 (stN 0).2.1 (stN 0).2.2 ∈ Wd := wd_at 101 (by decide +kernel) rfl
theorem w_fl1 : Cond.fieldLink RX1 29 (stN 1).1 (stN 1).2.1 (stN 1).2.2 ∈ Wd := wd_at 793 (by decide +kernel) rfl
theorem w_fl2 : Cond.fieldLink RX1 38 (stN 2).1 (stN 2).2.1 (stN 2).2.2 ∈ Wd := wd_at 796 (by decide +kernel) rfl
theorem nI_half {x : Nat} (h : x < 2 ^ 31) : nI x >>> (nI 1 &&& 31) = nI (x / 2) := pk_shrN h _ 1 (by decide)
/-- a list at a: N of them, f i the i-th; its array is of the kind κ -/
def LE (g : GG) (S : hS) (a κ N e : Nat) (f : Nat → Nat) : Prop := sK S a = 1 ∧ sR S 1 a = some e ∧ ((e = gT g 0 ∧ N = 0) ∨ (sK S e = κ ∧ 10 ≤ sN S e ∧ sN S e ≤ 97 ∧ N ≤ sN S e ∧ ∀ i, i < N → aR S κ e i = some (f i)))
def LA (g : GG) (S : hS) (a κ N : Nat) (f : Nat → Nat) : Prop := sI S 2 a = nI N ∧ ∃ e, LE g S a κ N e f
/-- the list at a has grown: all else stands -/
def Au (S S' : hS) (a κ : Nat) : Prop :=
  (∀ b, sK S b ≠ 0 → sK S' b = sK S b) ∧ (∀ b, sK S b = 0 → sK S' b = 0 ∨ sK S' b = κ) ∧ (∀ f b, ¬ (b = a ∧ (f = 0 ∨ f = 2)) → sI S' f b = sI S f b) ∧ (∀ f b, ¬ (b = a ∧ f = 1) → sR S' f b = sR S f b) ∧ (∀ f b, sJ S' f b = sJ S f b) ∧
  (∀ b, sK S b ≠ 0 → sN S' b = sN S b) ∧ (∀ r b, sK S b ≠ 0 → aI S' r b = aI S r b) ∧ (∀ r b, sK S b ≠ 0 → aJ S' r b = aJ S r b) ∧ (∀ r b, sK S b ≠ 0 → r ≠ κ → aR S' r b = aR S r b)
section Math
variable {l : Launch} {g : GG} {d : MD} {mc ms : Nat} {own : String} {Post : Option AV → hS → Prop} {J : JJ} {pc : Nat} {lv : List (Nat × AV)} {st : List AV} {S : hS} {kc ns : Nat}
theorem r_mmax (C : Cx l g d mc ms own Post J) {idx x y : Nat} (hw : Cond.methodLink own idx Lib.Math.max.name ∈ Wd) (hd : decode d.b pc = .ok (.invokestatic idx, 3)) (hx' : x < 2 ^ 31) (hy : y < 2 ^ 31) (q1 : 1 ≤ d.2.2.2.2.1) (q2 : ((st.map cv).map fun v => v.category).sum + 13 ≤ d.2.2.2.2.2) (h1 : kc ≤ mc) (h2 : ns ≤ ms) (kk : J (pc + 3) lv (vi (nI (max x y)) :: st) S kc ns) : J pc lv (vi (nI y) :: vi (nI x) :: st) S kc ns := by
  obtain ⟨p, e, s, m, args, below, meth, c, hx, hb, hml, hr, ho, hts, hlk, hK, hnm, Q0, hQ0, rfl⟩ := C
  intro H locs ls hH hL hl
  have e1 : (if nI x < nI y then nI y else nI x) = nI (max x y) := by
    by_cases q : x < y
    · rw [if_pos (nI_lt q hy), show max x y = y by omega]
    · rw [if_neg (nI_nlt (by omega) hx'), show max x y = x by omega]
  refine va_mmax hx hb (by rw [hml]; exact hl.1.symm) ho (hts _ hw) (hts _ (wd_at 265 (by decide +kernel) rfl)) (hts _ (wd_at 13 (by decide +kernel) rfl)) (hts _ (wd_at 266 (by decide +kernel) rfl)) q1 q2 h1 h2 hd ?_
  rw [e1]
  exact kk H locs ls hH hL hl
theorem r_mmin (C : Cx l g d mc ms own Post J) {idx x y : Nat} (hw : Cond.methodLink own idx Lib.Math.min.name ∈ Wd) (hd : decode d.b pc = .ok (.invokestatic idx, 3)) (hx' : x < 2 ^ 31) (hy : y < 2 ^ 31) (q1 : 1 ≤ d.2.2.2.2.1) (q2 : ((st.map cv).map fun v => v.category).sum + 13 ≤ d.2.2.2.2.2) (h1 : kc ≤ mc) (h2 : ns ≤ ms) (kk : J (pc + 3) lv (vi (nI (min x y)) :: st) S kc ns) : J pc lv (vi (nI y) :: vi (nI x) :: st) S kc ns := by
  obtain ⟨p, e, s, m, args, below, meth, c, hx, hb, hml, hr, ho, hts, hlk, hK, hnm, Q0, hQ0, rfl⟩ := C
  intro H locs ls hH hL hl
  have e1 : (if nI y < nI x then nI y else nI x) = nI (min x y) := by
    by_cases q : y < x
    · rw [if_pos (nI_lt q hx'), show min x y = y by omega]
    · rw [if_neg (nI_nlt (by omega) hy), show min x y = x by omega]
  refine va_mmin hx hb (by rw [hml]; exact hl.1.symm) ho (hts _ hw) (hts _ (wd_at 301 (by decide +kernel) rfl)) (hts _ (wd_at 13 (by decide +kernel) rfl)) (hts _ (wd_at 302 (by decide +kernel) rfl)) q1 q2 h1 h2 hd ?_
  rw [e1]
  exact kk H locs ls hH hL hl
end Math
section Jdk
variable {l : Launch} {g : GG} {S S' S1 S2 : hS} {a κ N : Nat} {f : Nat → Nat}
theorem Au.rf : Au S S a κ := ⟨fun _ _ => rfl, fun _ h => Or.inl h, fun _ _ _ => rfl, fun _ _ _ => rfl, fun _ _ => rfl, fun _ _ => rfl, fun _ _ _ => rfl, fun _ _ _ => rfl, fun _ _ _ _ => rfl⟩
theorem Au.tr (hκ : 104 ≤ κ) (h1 : Au S S1 a κ) (h2 : Au S1 S2 a κ) : Au S S2 a κ := by
  obtain ⟨a1, a2, a3, a4, a5, a6, a7, a8, a9⟩ := h1
  obtain ⟨b1, b2, b3, b4, b5, b6, b7, b8, b9⟩ := h2
  have hn : ∀ b, sK S b ≠ 0 → sK S1 b ≠ 0 := fun b h => by rw [a1 b h]; exact h
  refine ⟨fun b h => (b1 b (hn b h)).trans (a1 b h), fun b h => ?_, fun f b h => (b3 f b h).trans (a3 f b h), fun f b h => (b4 f b h).trans (a4 f b h), fun f b => (b5 f b).trans (a5 f b), fun b h => (b6 b (hn b h)).trans (a6 b h), fun r b h => (b7 r b (hn b h)).trans (a7 r b h), fun r b h => (b8 r b (hn b h)).trans (a8 r b h), fun r b h q => (b9 r b (hn b h) q).trans (a9 r b h q)⟩
  rcases a2 b h with q | q
  · exact b2 b q
  · refine Or.inr ?_
    rw [b1 b (by omega), q]
theorem Au.si {k : Nat} {v : Int32} (hk : k = 0 ∨ k = 2) : Au S (setI S k a v) a κ := by
  refine ⟨fun _ _ => rfl, fun _ h => Or.inl h, fun f b h => ?_, fun _ _ _ => rfl, fun _ _ => rfl, fun _ _ => rfl, fun _ _ _ => rfl, fun _ _ _ => rfl, fun _ _ _ _ => rfl⟩
  show u2 S.2.1 k a v f b = S.2.1 f b
  unfold u2
  by_cases e1 : f = k
  · by_cases e2 : b = a
    · exact absurd ⟨e2, by rw [e1]; exact hk⟩ h
    · rw [if_pos e1, if_neg e2]
  · rw [if_neg e1]
theorem Au.sr {v : Option Nat} : Au S (setR S 1 a v) a κ := by
  refine ⟨fun _ _ => rfl, fun _ h => Or.inl h, fun _ _ _ => rfl, fun f b h => ?_, fun _ _ => rfl, fun _ _ => rfl, fun _ _ _ => rfl, fun _ _ _ => rfl, fun _ _ _ _ => rfl⟩
  show u2 S.2.2.1 1 a v f b = S.2.2.1 f b
  unfold u2
  by_cases e1 : f = 1
  · by_cases e2 : b = a
    · exact absurd ⟨e2, e1⟩ h
    · rw [if_pos e1, if_neg e2]
  · rw [if_neg e1]
theorem Au.na {q n : Nat} (hq : sK S q = 0) : Au S (newA S q κ n) a κ := by
  have hne : ∀ b, sK S b ≠ 0 → b ≠ q := fun b h e => h (by rw [e]; exact hq)
  refine ⟨fun b h => va_up_ne _ _ (hne b h), fun b h => ?_, fun _ _ _ => rfl, fun _ _ _ => rfl, fun _ _ => rfl, fun b h => va_up_ne _ _ (hne b h), fun r b h => if_neg (hne b h), fun r b h => if_neg (hne b h), fun r b h _ => if_neg (hne b h)⟩
  by_cases e : b = q
  · subst e
    exact Or.inr (va_up_self _ _ _)
  · exact Or.inl ((va_up_ne _ _ e).trans h)
theorem Au.pr {q : Nat} {F : Nat → Option Nat} : Au S (putR S κ q F) a κ := by
  refine ⟨fun _ _ => rfl, fun _ h => Or.inl h, fun _ _ _ => rfl, fun _ _ _ => rfl, fun _ _ => rfl, fun _ _ => rfl, fun _ _ _ => rfl, fun _ _ _ => rfl, fun r b _ h => ?_⟩
  show u2r S.2.2.2.2.2.2.2 κ q F r b = _
  unfold u2r
  rw [if_neg h]
  rfl
theorem sI_s {k b : Nat} {v : Int32} : sI (setI S k b v) k b = v := by
  show u2 S.2.1 k b v k b = v
  unfold u2
  rw [if_pos rfl, if_pos rfl]
theorem sI_n {k b f x : Nat} {v : Int32} (h : f ≠ k ∨ x ≠ b) : sI (setI S k b v) f x = sI S f x := by
  show u2 S.2.1 k b v f x = _
  unfold u2
  by_cases e : f = k
  · rw [if_pos e, if_neg (h.resolve_left (fun q => q e))]
    rfl
  · rw [if_neg e]
    rfl
theorem sR_s {k b : Nat} {v : Option Nat} : sR (setR S k b v) k b = v := by
  show u2 S.2.2.1 k b v k b = v
  unfold u2
  rw [if_pos rfl, if_pos rfl]
theorem sR_n {k b f x : Nat} {v : Option Nat} (h : f ≠ k ∨ x ≠ b) : sR (setR S k b v) f x = sR S f x := by
  show u2 S.2.2.1 k b v f x = _
  unfold u2
  by_cases e : f = k
  · rw [if_pos e, if_neg (h.resolve_left (fun q => q e))]
    rfl
  · rw [if_neg e]
    rfl
theorem sJ_s {k b : Nat} {v : Int64} : sJ (setJ S k b v) k b = v := by
  show u2 S.2.2.2.1 k b v k b = v
  unfold u2
  rw [if_pos rfl, if_pos rfl]
theorem sK_na {q k n b : Nat} (h : b ≠ q) : sK (newA S q k n) b = sK S b := va_up_ne _ _ h
theorem sK_nas {q k n : Nat} : sK (newA S q k n) q = k := va_up_self _ _ _
theorem sN_nas {q k n : Nat} : sN (newA S q k n) q = n := va_up_self _ _ _
theorem sN_na {q k n b : Nat} (h : b ≠ q) : sN (newA S q k n) b = sN S b := va_up_ne _ _ h
theorem aR_na {q k n b r : Nat} (h : b ≠ q) : aR (newA S q k n) r b = aR S r b := if_neg h
theorem aR_nas {q k n r : Nat} : aR (newA S q k n) r q = fun _ => none := if_pos rfl
theorem aI_na {q k n b r : Nat} (h : b ≠ q) : aI (newA S q k n) r b = aI S r b := if_neg h
theorem aI_nas {q k n r : Nat} : aI (newA S q k n) r q = fun _ => 0 := if_pos rfl
theorem aJ_na {q k n b r : Nat} (h : b ≠ q) : aJ (newA S q k n) r b = aJ S r b := if_neg h
theorem aJ_nas {q k n r : Nat} : aJ (newA S q k n) r q = fun _ => 0 := if_pos rfl
theorem aR_ps {k b : Nat} {F : Nat → Option Nat} : aR (putR S k b F) k b = F := by
  show u2r S.2.2.2.2.2.2.2 k b F k b = F
  unfold u2r
  rw [if_pos rfl, if_pos rfl]
theorem aR_pn {k b r x : Nat} {F : Nat → Option Nat} (h : r ≠ k ∨ x ≠ b) : aR (putR S k b F) r x = aR S r x := by
  show u2r S.2.2.2.2.2.2.2 k b F r x = _
  unfold u2r
  by_cases e : r = k
  · rw [if_pos e, if_neg (h.resolve_left (fun q => q e))]
    rfl
  · rw [if_neg e]
    rfl
theorem ne_kq {q b : Nat} (hq : sK S q = 0) (hb : sK S b ≠ 0) : b ≠ q := fun e => hb (by rw [e]; exact hq)
/-- another list stands -/
theorem LA.au {b κ2 N2 : Nat} {f2 : Nat → Nat} (hκ2 : 104 ≤ κ2) (h : LA g S b κ2 N2 f2) (hA : Au S S' a κ) (hb : b ≠ a) (hk : κ2 ≠ κ) : LA g S' b κ2 N2 f2 := by
  obtain ⟨h1, e, h2, h3, h4⟩ := h
  obtain ⟨a1, a2, a3, a4, a5, a6, a7, a8, a9⟩ := hA
  refine ⟨by rw [a3 2 b (fun q => hb q.1)]; exact h1, e, by rw [a1 b (by omega)]; exact h2, by rw [a4 1 b (fun q => hb q.1)]; exact h3, ?_⟩
  rcases h4 with h4 | ⟨h5, h6, h7, h8, h9⟩
  · exact Or.inl h4
  · have hne : sK S e ≠ 0 := by omega
    rw [a1 e hne, a6 e hne, a9 κ2 e hne hk]
    exact Or.inr ⟨h5, h6, h7, h8, h9⟩
theorem ct_chk3 {i n : Nat} (hi : i < n) (hn : n < 2 ^ 31) : Sp l g mJ3_checkIndex_8e157 0 0 [vi (nI i), vi (nI n), vr none] S (fun r S' => r = some (vi (nI i)) ∧ S' = S) := by
  refine Sp.start (own := RJ3) [(0, vi (nI i)), (1, vi (nI n)), (2, vr none)] (by decide +kernel) rfl rfl (Nat.le_of_ble_eq_true rfl) ?_
  intro J C
  refine r_iload_n (pc := 0) C dJ3_checkIndex_8e157_0 rfl ?_
  refine r_if_lt (pc := 1) (tgt := 9) C dJ3_checkIndex_8e157_1 (by decide) (fun c1 => ?_) (fun c1 => ?_)
  · exact absurd c1 (nI_pos (by omega))
  · refine r_iload_n (pc := 4) C dJ3_checkIndex_8e157_4 rfl ?_
    refine r_iload_n (pc := 5) C dJ3_checkIndex_8e157_5 rfl ?_
    refine r_icmp_lt (pc := 6) (tgt := 16) C dJ3_checkIndex_8e157_6 (by decide) (fun c6 => ?_) (fun c6 => ?_)
    · refine r_iload_n (pc := 16) C dJ3_checkIndex_8e157_16 rfl ?_
      refine r_iret (pc := 17) C dJ3_checkIndex_8e157_17 rfl (by omega) (by omega) ?_
      exact ⟨rfl, rfl⟩
    · exact absurd (nI_lt hi hn) c6
theorem ct_chk {i n : Nat} (hi : i < n) (hn : n < 2 ^ 31) : Sp l g mJ15_checkIndex_7cf53 0 0 [vi (nI i), vi (nI n)] S (fun r S' => r = some (vi (nI i)) ∧ S' = S) := by
  refine Sp.start (own := RJ15) [(0, vi (nI i)), (1, vi (nI n))] (by decide +kernel) rfl rfl (Nat.le_of_ble_eq_true rfl) ?_
  intro J C
  refine r_iload_n (pc := 0) C dJ15_checkIndex_7cf53_0 rfl ?_
  refine r_iload_n (pc := 1) C dJ15_checkIndex_7cf53_1 rfl ?_
  refine r_null (pc := 2) C dJ15_checkIndex_7cf53_2 ?_
  refine r_callS (pc := 3) C (ct_chk3 hi hn) iJ3_checkIndex_8e157 ml_RJ15_105 dJ15_checkIndex_7cf53_3 rfl (by decide) rfl (by simp [cv, Value.category, va_rf]) (by omega) (by omega) (fun r3 S3 h3 => ?_)
  obtain ⟨rfl, e3⟩ := h3
  subst S3
  dsimp only [Option.toList, List.cons_append, List.nil_append]
  refine r_iret (pc := 6) C dJ15_checkIndex_7cf53_6 rfl (by omega) (by omega) ?_
  exact ⟨rfl, rfl⟩
theorem ct_size (hL : LA g S a κ N f) : Sp l g mJx4a65c_size_8abf5 0 0 [vr (some a)] S (fun r S' => r = some (vi (nI N)) ∧ S' = S) := by
  obtain ⟨h1, e, hk, h3⟩ := hL
  refine Sp.start (own := RJx4a65c) [(0, vr (some a))] (by decide +kernel) rfl rfl (Nat.le_of_ble_eq_true rfl) ?_
  intro J C
  refine r_aload_n (pc := 0) C dJx4a65c_size_8abf5_0 rfl ?_
  refine r_getI (pc := 1) C dJx4a65c_size_8abf5_1 fx_RJx4a65c_48 (by assumption) ?_
  rw [h1]
  refine r_iret (pc := 4) C dJx4a65c_size_8abf5_4 rfl (by omega) (by omega) ?_
  exact ⟨rfl, rfl⟩
theorem ct_eld {i e : Nat} (hκ : 104 ≤ κ) (hL : LE g S a κ N e f) (hi : i < N) : Sp l g mJx4a65c_elementData_915e3 0 0 [vr (some a), vi (nI i)] S (fun r S' => r = some (vr (some (f i))) ∧ S' = S) := by
  obtain ⟨hk, h2, h3⟩ := hL
  rcases h3 with ⟨-, h3⟩ | ⟨h4, h5, h6, h7, h8⟩
  · omega
  refine Sp.start (own := RJx4a65c) [(0, vr (some a)), (1, vi (nI i))] (by decide +kernel) rfl rfl (Nat.le_of_ble_eq_true rfl) ?_
  intro J C
  refine r_aload_n (pc := 0) C dJx4a65c_elementData_915e3_0 rfl ?_
  refine r_getR (pc := 1) C dJx4a65c_elementData_915e3_1 fx_RJx4a65c_9 (by assumption) (by first | assumption | rfl) ?_
  refine r_iload_n (pc := 4) C dJx4a65c_elementData_915e3_4 rfl ?_
  refine r_aald (pc := 5) C dJx4a65c_elementData_915e3_5 h4 (by omega) rfl (vp_in_nI (by omega) (by omega)) (nI_clamp (by omega)) ?_
  rw [h8 i hi]
  refine r_aret (pc := 6) C dJx4a65c_elementData_915e3_6 rfl (Or.inl ⟨_, rfl⟩) (by omega) (by omega) ?_
  exact ⟨rfl, rfl⟩
theorem ct_get {i : Nat} (hκ : 104 ≤ κ) (hN : N < 2 ^ 31) (hL : LA g S a κ N f) (hi : i < N) : Sp l g mJx4a65c_get_915e3 0 0 [vr (some a), vi (nI i)] S (fun r S' => r = some (vr (some (f i))) ∧ S' = S) := by
  obtain ⟨h1, e, hL⟩ := hL
  have hk := hL.1
  refine Sp.start (own := RJx4a65c) [(0, vr (some a)), (1, vi (nI i))] (by decide +kernel) rfl rfl (Nat.le_of_ble_eq_true rfl) ?_
  intro J C
  refine r_iload_n (pc := 0) C dJx4a65c_get_915e3_0 rfl ?_
  refine r_aload_n (pc := 1) C dJx4a65c_get_915e3_1 rfl ?_
  refine r_getI (pc := 2) C dJx4a65c_get_915e3_2 fx_RJx4a65c_48 (by assumption) ?_
  rw [h1]
  refine r_callS (pc := 5) C (ct_chk hi hN) iJ15_checkIndex_7cf53 ml_RJx4a65c_118 dJx4a65c_get_915e3_5 rfl (by decide) rfl (by simp [cv, Value.category, va_rf]) (by omega) (by omega) (fun r5 S5 h5 => ?_)
  obtain ⟨rfl, e5⟩ := h5
  subst S5
  dsimp only [Option.toList, List.cons_append, List.nil_append]
  refine r_pop (pc := 8) C dJx4a65c_get_915e3_8 rfl ?_
  refine r_aload_n (pc := 9) C dJx4a65c_get_915e3_9 rfl ?_
  refine r_iload_n (pc := 10) C dJx4a65c_get_915e3_10 rfl ?_
  refine r_callV (pc := 11) C (ct_eld hκ hL hi) iJx4a65c_elementData_915e3 ml_RJx4a65c_123 dJx4a65c_get_915e3_11 (ci := 0) rfl rfl (by assumption) rfl (by decide) rfl (by simp [cv, Value.category, va_rf]) (by omega) (by omega) (fun r11 S11 h11 => ?_)
  obtain ⟨rfl, e11⟩ := h11
  subst S11
  dsimp only [Option.toList, List.cons_append, List.nil_append]
  refine r_aret (pc := 14) C dJx4a65c_get_915e3_14 rfl (Or.inl ⟨_, rfl⟩) (by omega) (by omega) ?_
  exact ⟨rfl, rfl⟩
theorem ct_newLength {x : Nat} (hx : x ≤ 200) (h10 : 10 ≤ x) : Sp l g mJ8_newLength_cabcc 0 0 [vi (nI x), vi (nI 1), vi (nI (x / 2))] S (fun r S' => r = some (vi (nI (x + x / 2))) ∧ S' = S) := by
  refine Sp.start (own := RJ8) [(0, vi (nI x)), (1, vi (nI 1)), (2, vi (nI (x / 2)))] (by decide +kernel) rfl rfl (Nat.le_of_ble_eq_true rfl) ?_
  intro J C
  refine r_iload_n (pc := 0) C dJ8_newLength_cabcc_0 rfl ?_
  refine r_iload_n (pc := 1) C dJ8_newLength_cabcc_1 rfl ?_
  refine r_iload_n (pc := 2) C dJ8_newLength_cabcc_2 rfl ?_
  refine r_mmax (pc := 3) C ml_RJ8_194 dJ8_newLength_cabcc_3 (by omega) (by omega) (by decide) (by simp [cv, Value.category, va_rf]; decide) (by omega) (by omega) ?_
  rw [show max 1 (x / 2) = x / 2 by omega]
  refine r_iadd (pc := 6) C dJ8_newLength_cabcc_6 ?_
  try simp only [nI_add, pk_mul]
  refine r_istore_n (pc := 7) C dJ8_newLength_cabcc_7 (by decide) rfl ?_
  refine r_iconst (pc := 8) C (nI 0) dJ8_newLength_cabcc_8 rfl ?_
  refine r_iload_n (pc := 9) C dJ8_newLength_cabcc_9 rfl ?_
  refine r_icmp_ge (pc := 10) (tgt := 21) C dJ8_newLength_cabcc_10 (by decide) (fun c10 => ?_) (fun c10 => ?_)
  · exact absurd c10 (nI_nle (by omega) (by omega))
  · refine r_iload_n (pc := 13) C dJ8_newLength_cabcc_13 rfl ?_
    refine r_ldc (pc := 14) C kc_RJ8_200 dJ8_newLength_cabcc_14 ?_
    refine r_icmp_gt (pc := 16) (tgt := 21) C dJ8_newLength_cabcc_16 (by decide) (fun c16 => ?_) (fun c16 => ?_)
    · exact absurd c16 (by rw [show ((2147483639 : Int32) < nI (x + x / 2)) = (nI 2147483639 < nI (x + x / 2)) from rfl, nI_ltI (by omega) (by omega)]; omega)
    · refine r_iload_n (pc := 19) C dJ8_newLength_cabcc_19 rfl ?_
      refine r_iret (pc := 20) C dJ8_newLength_cabcc_20 rfl (by omega) (by omega) ?_
      exact ⟨rfl, rfl⟩
/-- Arrays.copyOf of references: a longer one -/
theorem ct_copyO {e mi n : Nat} (hκ : 104 ≤ κ) (hM : MIR g mi) (hk : sK S e = κ) (hn : sN S e ≤ n) (hn2 : n ≤ 97) (hel : ∀ i, i < sN S e → ∀ y, aR S κ e i = some y → ∃ ci, (ci = 9 ∨ ci = 6) ∧ sK S y = ci + 1) : Sp l g mJ7_copyOf_6403c 1 100 [vr (some e), vi (nI n), vr (some mi)] S (fun r S' => ∃ q, sK S q = 0 ∧ r = some (vr (some q)) ∧ S' = putR (newA S q κ n) κ q (va_cpy (aR S κ e) (fun _ => none) 0 0 (sN S e))) := by
  refine Sp.start (own := RJ7) [(0, vr (some e)), (1, vi (nI n)), (2, vr (some mi))] (by decide +kernel) rfl rfl (Nat.le_of_ble_eq_true rfl) ?_
  intro J C
  refine r_aload_n (pc := 0) C dJ7_copyOf_6403c_0 rfl ?_
  refine r_ldcM (pc := 1) C kl_RJ7_110 hM dJ7_copyOf_6403c_1 ?_
  refine r_acmp_ne (pc := 3) (tgt := 13) C dJ7_copyOf_6403c_3 (by decide) (fun c3 => ?_) (fun c3 => ?_)
  · exact absurd rfl c3
  · refine r_iload_n (pc := 6) C dJ7_copyOf_6403c_6 rfl ?_
    refine r_newr (pc := 7) C κ dJ7_copyOf_6403c_7 (tyA_7 hκ) (by omega) kl_RJ7_2 (List.mem_append_right _ (List.mem_of_getElem? (i := 298) (by decide +kernel))) (nI_pos (by omega)) (nI_clamp (by omega)) (by omega) (by omega) (by omega) (fun q7 hq7 => ?_)
    have hne : e ≠ q7 := ne_kq hq7 (by omega)
    refine r_goto (pc := 10) (tgt := 24) C dJ7_copyOf_6403c_10 (by decide) ?_
    refine r_astore_n (pc := 24) C dJ7_copyOf_6403c_24 (by decide) rfl ?_
    refine r_aload_n (pc := 25) C dJ7_copyOf_6403c_25 rfl ?_
    refine r_iconst (pc := 26) C (nI 0) dJ7_copyOf_6403c_26 rfl ?_
    refine r_aload_n (pc := 27) C dJ7_copyOf_6403c_27 rfl ?_
    refine r_iconst (pc := 28) C (nI 0) dJ7_copyOf_6403c_28 rfl ?_
    refine r_aload_n (pc := 29) C dJ7_copyOf_6403c_29 rfl ?_
    refine r_alen (pc := 30) C dJ7_copyOf_6403c_30 (show sK (newA S q7 κ n) e = κ by rw [sK_na hne]; exact hk) (by first | decide | omega) ?_
    rw [sN_na hne]
    refine r_iload_n (pc := 31) C dJ7_copyOf_6403c_31 rfl ?_
    refine r_mmin (pc := 32) C ml_RJ7_304 dJ7_copyOf_6403c_32 (by omega) (by omega) (by decide) (by simp [cv, Value.category, va_rf]; decide) (by omega) (by omega) ?_
    rw [show min (sN S e) n = sN S e by omega]
    refine r_cpyR (pc := 35) C (a := q7) (b := e) w_ac7 dJ7_copyOf_6403c_35 sK_nas hκ (by rw [sK_na hne]; exact hk) hκ (nI_pos (by omega)) (nI_pos (by omega)) (nI_pos (by omega)) ?_ ?_ ?_ (by decide) (by decide) ?_
    · rw [nI_clamp (by omega), nI_clamp (by omega), sN_na hne]; omega
    · rw [nI_clamp (by omega), nI_clamp (by omega), sN_nas]; omega
    · intro i hi y hy
      rw [nI_clamp (by omega)] at hi
      rw [nI_clamp (by omega), Nat.zero_add, aR_na hne] at hy
      obtain ⟨ci, c1, c2⟩ := hel i hi y hy
      exact ⟨ci, c1, by rw [sK_na (ne_kq hq7 (by omega))]; exact c2⟩
    refine r_aload_n (pc := 38) C dJ7_copyOf_6403c_38 rfl ?_
    refine r_aret (pc := 39) C dJ7_copyOf_6403c_39 rfl (Or.inr ⟨_, rfl⟩) (by omega) (by omega) ?_
    exact ⟨q7, hq7, rfl, by rw [nI_clamp (by omega), nI_clamp (by omega), aR_na hne, aR_nas]⟩
theorem ct_copyO2 {e mi n : Nat} (hκ : 104 ≤ κ) (hM : MIR g mi) (hk : sK S e = κ) (hn : sN S e ≤ n) (hn2 : n ≤ 97) (hel : ∀ i, i < sN S e → ∀ y, aR S κ e i = some y → ∃ ci, (ci = 9 ∨ ci = 6) ∧ sK S y = ci + 1) : Sp l g mJ7_copyOf_1904c 1 100 [vr (some e), vi (nI n)] S (fun r S' => ∃ q, sK S q = 0 ∧ r = some (vr (some q)) ∧ S' = putR (newA S q κ n) κ q (va_cpy (aR S κ e) (fun _ => none) 0 0 (sN S e))) := by
  refine Sp.start (own := RJ7) [(0, vr (some e)), (1, vi (nI n))] (by decide +kernel) rfl rfl (Nat.le_of_ble_eq_true rfl) ?_
  intro J C
  refine r_aload_n (pc := 0) C dJ7_copyOf_1904c_0 rfl ?_
  refine r_iload_n (pc := 1) C dJ7_copyOf_1904c_1 rfl ?_
  refine r_aload_n (pc := 2) C dJ7_copyOf_1904c_2 rfl ?_
  refine r_getC (pc := 3) C w_gc5 hM hk hκ dJ7_copyOf_1904c_3 (by decide) (by simp [cv, Value.category, va_rf]; decide) ?_
  refine r_callS (pc := 6) C (ct_copyO hκ hM hk hn hn2 hel) iJ7_copyOf_6403c ml_RJ7_300 dJ7_copyOf_1904c_6 rfl (by decide) rfl (by simp [cv, Value.category, va_rf]) (by omega) (by omega) (fun r6 S6 h6 => ?_)
  obtain ⟨q, hq, rfl, e6⟩ := h6
  dsimp only [Option.toList, List.cons_append, List.nil_append]
  subst e6
  refine r_aret (pc := 9) C dJ7_copyOf_1904c_9 rfl (Or.inr ⟨_, rfl⟩) (by omega) (by omega) ?_
  exact ⟨q, hq, rfl, rfl⟩
def LF (g : GG) (S : hS) (a κ N e : Nat) (f : Nat → Nat) : Prop := sK S a = 1 ∧ sR S 1 a = some e ∧ ((e = gT g 0 ∧ N = 0) ∨ (sK S e = κ ∧ 10 ≤ N ∧ sN S e = N ∧ ∀ i, i < N → aR S κ e i = some (f i)))
/-- grown: its array is q now, with room -/
def GW (S S' : hS) (a κ N q : Nat) (f : Nat → Nat) : Prop := sR S' 1 a = some q ∧ sK S' q = κ ∧ (10 ≤ sN S' q ∧ sN S' q ≤ 97 ∧ N < sN S' q) ∧ (∀ i, i < N → aR S' κ q i = some (f i)) ∧ Au S S' a κ ∧ sI S' 2 a = sI S 2 a
theorem ct_grow {e mi : Nat} (hκ : 104 ≤ κ) (hN : N ≤ 64) (hM : MIR g mi) (hL : LF g S a κ N e f) (hel : ∀ i, i < N → ∃ ci, (ci = 9 ∨ ci = 6) ∧ sK S (f i) = ci + 1) : Sp l g mJx4a65c_grow_92f84 1 100 [vr (some a), vi (nI (N + 1))] S (fun r S' => ∃ q, r = some (vr (some q)) ∧ GW S S' a κ N q f) := by
  obtain ⟨hk, h2, h3⟩ := hL
  refine Sp.start (own := RJx4a65c) [(0, vr (some a)), (1, vi (nI (N + 1)))] (by decide +kernel) rfl rfl (Nat.le_of_ble_eq_true rfl) ?_
  intro J C
  rcases h3 with ⟨h3, h4⟩ | ⟨h4, h5, hf, h8⟩
  · subst h3
    subst h4
    refine r_aload_n (pc := 0) C dJx4a65c_grow_92f84_0 rfl ?_
    refine r_getR (pc := 1) C dJx4a65c_grow_92f84_1 fx_RJx4a65c_9 (by assumption) (by first | assumption | rfl) ?_
    refine r_tlen (pc := 4) C (fun U h => h.T0) dJx4a65c_grow_92f84_4 ?_
    refine r_istore_n (pc := 5) C dJx4a65c_grow_92f84_5 (by decide) rfl ?_
    refine r_iload_n (pc := 6) C dJx4a65c_grow_92f84_6 rfl ?_
    refine r_if_gt (pc := 7) (tgt := 20) C dJx4a65c_grow_92f84_7 (by decide) (fun c7 => ?_) (fun c7 => ?_)
    · exact absurd c7 (by decide)
    · refine r_aload_n (pc := 10) C dJx4a65c_grow_92f84_10 rfl ?_
      refine r_getR (pc := 11) C dJx4a65c_grow_92f84_11 fx_RJx4a65c_9 (by assumption) (by first | assumption | rfl) ?_
      refine r_gets (pc := 14) C 0 (by omega) w_fl0 dJx4a65c_grow_92f84_14 ?_
      refine r_acmp_eq (pc := 17) (tgt := 45) C dJx4a65c_grow_92f84_17 (by decide) (fun c17 => ?_) (fun c17 => ?_)
      · refine r_aload_n (pc := 45) C dJx4a65c_grow_92f84_45 rfl ?_
        refine r_bipush (pc := 46) C (nI 10) dJx4a65c_grow_92f84_46 rfl ?_
        refine r_iload_n (pc := 48) C dJx4a65c_grow_92f84_48 rfl ?_
        refine r_mmax (pc := 49) C ml_RJx4a65c_79 dJx4a65c_grow_92f84_49 (by omega) (by omega) (by decide) (by simp [cv, Value.category, va_rf]; decide) (by omega) (by omega) ?_
        refine r_newr (pc := 52) C κ dJx4a65c_grow_92f84_52 (tyA_7 hκ) (by omega) kl_RJx4a65c_7 (List.mem_append_right _ (List.mem_of_getElem? (i := 298) (by decide +kernel))) (nI_pos (by omega)) (n := 10) (nI_clamp (by omega)) (by omega) (by omega) (by omega) (fun q52 hq52 => ?_)
        have hne : a ≠ q52 := ne_kq hq52 (by omega)
        refine r_dup_x1 (pc := 55) C dJx4a65c_grow_92f84_55 rfl rfl ?_
        refine r_putR (pc := 56) C dJx4a65c_grow_92f84_56 fx_RJx4a65c_9 (fp_0_1 _) (show sK (newA S q52 κ 10) a = 1 by rw [sK_na hne]; exact hk) ?_
        refine r_aret (pc := 59) C dJx4a65c_grow_92f84_59 rfl (Or.inr ⟨_, rfl⟩) (by omega) (by omega) ?_
        have hz : sN (setR (newA S q52 κ 10) 1 a (some q52)) q52 = 10 := va_up_self _ _ _
        refine ⟨q52, rfl, sR_s, va_up_self _ _ _, ?_, fun i hi => absurd hi (by omega), (Au.na hq52).tr hκ Au.sr, rfl⟩
        show 10 ≤ sN (setR (newA S q52 κ 10) 1 a (some q52)) q52 ∧ sN (setR (newA S q52 κ 10) 1 a (some q52)) q52 ≤ 97 ∧ 0 < sN (setR (newA S q52 κ 10) 1 a (some q52)) q52
        rw [hz]
        omega
      · exact absurd rfl c17
  · have hf2 : sN S e ≤ 64 := by omega
    refine r_aload_n (pc := 0) C dJx4a65c_grow_92f84_0 rfl ?_
    refine r_getR (pc := 1) C dJx4a65c_grow_92f84_1 fx_RJx4a65c_9 (by assumption) (by first | assumption | rfl) ?_
    refine r_alen (pc := 4) C dJx4a65c_grow_92f84_4 h4 (by first | decide | omega) ?_
    refine r_istore_n (pc := 5) C dJx4a65c_grow_92f84_5 (by decide) rfl ?_
    refine r_iload_n (pc := 6) C dJx4a65c_grow_92f84_6 rfl ?_
    refine r_if_gt (pc := 7) (tgt := 20) C dJx4a65c_grow_92f84_7 (by decide) (fun c7 => ?_) (fun c7 => ?_)
    · refine r_iload_n (pc := 20) C dJx4a65c_grow_92f84_20 rfl ?_
      refine r_iload_n (pc := 21) C dJx4a65c_grow_92f84_21 rfl ?_
      refine r_iload_n (pc := 22) C dJx4a65c_grow_92f84_22 rfl ?_
      refine r_isub (pc := 23) C dJx4a65c_grow_92f84_23 ?_
      rw [show nI (N + 1) - nI (sN S e) = nI 1 from by rw [hf, ← nI_add, Int32.add_comm, Int32.add_sub_cancel]]
      refine r_iload_n (pc := 24) C dJx4a65c_grow_92f84_24 rfl ?_
      refine r_iconst (pc := 25) C (nI 1) dJx4a65c_grow_92f84_25 rfl ?_
      refine r_ishr (pc := 26) C dJx4a65c_grow_92f84_26 ?_
      rw [show nI (sN S e) >>> (nI 1 &&& 31) = nI (sN S e / 2) from nI_half (by omega)]
      refine r_callS (pc := 27) C (ct_newLength (x := sN S e) (by omega) (by omega)) iJ8_newLength_cabcc ml_RJx4a65c_73 dJx4a65c_grow_92f84_27 rfl (by decide) rfl (by simp [cv, Value.category, va_rf]) (by omega) (by omega) (fun r27 S27 h27 => ?_)
      obtain ⟨rfl, e27⟩ := h27
      subst S27
      dsimp only [Option.toList, List.cons_append, List.nil_append]
      refine r_istore_n (pc := 30) C dJx4a65c_grow_92f84_30 (by decide) rfl ?_
      refine r_aload_n (pc := 31) C dJx4a65c_grow_92f84_31 rfl ?_
      refine r_aload_n (pc := 32) C dJx4a65c_grow_92f84_32 rfl ?_
      refine r_getR (pc := 33) C dJx4a65c_grow_92f84_33 fx_RJx4a65c_9 (by assumption) (by first | assumption | rfl) ?_
      refine r_iload_n (pc := 36) C dJx4a65c_grow_92f84_36 rfl ?_
      refine r_callS (pc := 37) C (ct_copyO2 (e := e) (κ := κ) hκ hM h4 (by omega) (by omega) (fun i hi y hy => by rw [h8 i (by omega)] at hy; cases hy; exact hel i (by omega))) iJ7_copyOf_1904c ml_RJx4a65c_66 dJx4a65c_grow_92f84_37 rfl (by decide) rfl (by simp [cv, Value.category, va_rf]) (by omega) (by omega) (fun r37 S37 h37 => ?_)
      obtain ⟨q, hq, rfl, e37⟩ := h37
      dsimp only [Option.toList, List.cons_append, List.nil_append]
      subst e37
      have hne : a ≠ q := ne_kq hq (by omega)
      refine r_dup_x1 (pc := 40) C dJx4a65c_grow_92f84_40 rfl rfl ?_
      refine r_putR (pc := 41) C dJx4a65c_grow_92f84_41 fx_RJx4a65c_9 (fp_0_1 _) (show sK (putR (newA S q κ (sN S e + sN S e / 2)) κ q _) a = 1 from (va_up_ne _ _ hne).trans hk) ?_
      refine r_aret (pc := 44) C dJx4a65c_grow_92f84_44 rfl (Or.inr ⟨_, rfl⟩) (by omega) (by omega) ?_
      refine ⟨q, rfl, sR_s, va_up_self _ _ _, ?_, ?_, ((Au.na hq).tr hκ Au.pr).tr hκ Au.sr, rfl⟩
      · show 10 ≤ sN (newA S q κ (sN S e + sN S e / 2)) q ∧ sN (newA S q κ (sN S e + sN S e / 2)) q ≤ 97 ∧ N < sN (newA S q κ (sN S e + sN S e / 2)) q
        rw [sN_nas]; omega
      · intro i hi
        show aR (putR (newA S q κ (sN S e + sN S e / 2)) κ q (va_cpy (aR S κ e) (fun _ => none) 0 0 (sN S e))) κ q i = _
        rw [aR_ps]
        unfold va_cpy
        rw [if_pos (by omega), Nat.sub_zero, Nat.zero_add]
        exact h8 i hi
    · exact absurd (show nI 0 < nI (sN S e) from nI_lt (by omega) (by omega)) c7
theorem ct_grow0 {e mi : Nat} (hκ : 104 ≤ κ) (hN : N ≤ 64) (hM : MIR g mi) (hs : sI S 2 a = nI N) (hL : LF g S a κ N e f) (hel : ∀ i, i < N → ∃ ci, (ci = 9 ∨ ci = 6) ∧ sK S (f i) = ci + 1) : Sp l g mJx4a65c_grow_d5877 1 100 [vr (some a)] S (fun r S' => ∃ q, r = some (vr (some q)) ∧ GW S S' a κ N q f) := by
  have hk := hL.1
  refine Sp.start (own := RJx4a65c) [(0, vr (some a))] (by decide +kernel) rfl rfl (Nat.le_of_ble_eq_true rfl) ?_
  intro J C
  refine r_aload_n (pc := 0) C dJx4a65c_grow_d5877_0 rfl ?_
  refine r_aload_n (pc := 1) C dJx4a65c_grow_d5877_1 rfl ?_
  refine r_getI (pc := 2) C dJx4a65c_grow_d5877_2 fx_RJx4a65c_48 (by assumption) ?_
  rw [hs]
  refine r_iconst (pc := 5) C (nI 1) dJx4a65c_grow_d5877_5 rfl ?_
  refine r_iadd (pc := 6) C dJx4a65c_grow_d5877_6 ?_
  try simp only [nI_add, pk_mul]
  refine r_callV (pc := 7) C (ct_grow hκ hN hM hL hel) iJx4a65c_grow_92f84 ml_RJx4a65c_69 dJx4a65c_grow_d5877_7 (ci := 0) rfl rfl (by assumption) rfl (by decide) rfl (by simp [cv, Value.category, va_rf]) (by omega) (by omega) (fun r7 S7 h7 => ?_)
  obtain ⟨q, rfl, h7⟩ := h7
  dsimp only [Option.toList, List.cons_append, List.nil_append]
  refine r_aret (pc := 10) C dJx4a65c_grow_d5877_10 rfl (Or.inr ⟨_, rfl⟩) (by omega) (by omega) ?_
  exact ⟨q, rfl, h7⟩
/-- put at the end -/
theorem ct_add3 {e mi v : Nat} (hκ : 104 ≤ κ) (hN : N ≤ 64) (hM : MIR g mi) (hs : sI S 2 a = nI N) (hL : LE g S a κ N e f) (hel : ∀ i, i < N → ∃ ci, (ci = 9 ∨ ci = 6) ∧ sK S (f i) = ci + 1) (hv : ∃ ci, (ci = 9 ∨ ci = 6) ∧ sK S v = ci + 1) : Sp l g mJx4a65c_add_72be8 1 100 [vr (some a), vr (some v), vr (some e), vi (nI N)] S (fun r S' => r = none ∧ LA g S' a κ (N + 1) (va_up f N v) ∧ Au S S' a κ) := by
  obtain ⟨ci, hci, hvk⟩ := hv
  have hk := hL.1
  have fin : ∀ S1 q, sK S1 a = 1 → sR S1 1 a = some q → sK S1 q = κ → (10 ≤ sN S1 q ∧ sN S1 q ≤ 97 ∧ N < sN S1 q) → (∀ i, i < N → aR S1 κ q i = some (f i)) → LA g (setI (putR S1 κ q (va_up (aR S1 κ q) N (some v))) 2 a (nI (N + 1))) a κ (N + 1) (va_up f N v) := by
    intro S1 q b1 b2 b3 b4 b5
    refine ⟨sI_s, q, b1, b2, Or.inr ⟨b3, b4.1, b4.2.1, b4.2.2, fun i hi => ?_⟩⟩
    show aR (putR S1 κ q (va_up (aR S1 κ q) N (some v))) κ q i = _
    rw [aR_ps]
    by_cases e : i = N
    · subst e; rw [va_up_self, va_up_self]
    · rw [va_up_ne _ _ e, va_up_ne _ _ e]; exact b5 i (by omega)
  refine Sp.start (own := RJx4a65c) [(0, vr (some a)), (1, vr (some v)), (2, vr (some e)), (3, vi (nI N))] (by decide +kernel) rfl rfl (Nat.le_of_ble_eq_true rfl) ?_
  intro J C
  have P : ∀ S1 q, Au S S1 a κ → sI S1 2 a = nI N → sR S1 1 a = some q → sK S1 q = κ → (10 ≤ sN S1 q ∧ sN S1 q ≤ 97 ∧ N < sN S1 q) → (∀ i, i < N → aR S1 κ q i = some (f i)) → J 11 [(0, vr (some a)), (1, vr (some v)), (2, vr (some q)), (3, vi (nI N))] [] S1 1 100 := by
    intro S1 q hA b0 b2 b3 b4 b5
    have b1 : sK S1 a = 1 := by rw [hA.1 a (by omega)]; exact hk
    have bv : sK S1 v = ci + 1 := by rw [hA.1 v (by omega)]; exact hvk
    refine r_aload_n (pc := 11) C dJx4a65c_add_72be8_11 rfl ?_
    refine r_iload_n (pc := 12) C dJx4a65c_add_72be8_12 rfl ?_
    refine r_aload_n (pc := 13) C dJx4a65c_add_72be8_13 rfl ?_
    refine r_aastO (pc := 14) C dJx4a65c_add_72be8_14 b3 hκ hci bv rfl (vp_in_nI (by omega) (by omega)) (nI_clamp (by omega)) ?_
    refine r_aload_n (pc := 15) C dJx4a65c_add_72be8_15 rfl ?_
    refine r_iload_n (pc := 16) C dJx4a65c_add_72be8_16 rfl ?_
    refine r_iconst (pc := 17) C (nI 1) dJx4a65c_add_72be8_17 rfl ?_
    refine r_iadd (pc := 18) C dJx4a65c_add_72be8_18 ?_
    try simp only [nI_add, pk_mul]
    refine r_putI (pc := 19) C dJx4a65c_add_72be8_19 fx_RJx4a65c_48 (fp_0_2 _) b1 ?_
    refine r_ret (pc := 22) C dJx4a65c_add_72be8_22 rfl (by omega) (by omega) ?_
    exact ⟨rfl, fin S1 q b1 b2 b3 b4 b5, (hA.tr hκ Au.pr).tr hκ (Au.si (Or.inr rfl))⟩
  have hL0 := hL
  obtain ⟨-, h2, h3⟩ := hL
  rcases h3 with ⟨h3, h4⟩ | ⟨h4, h5, h6, h7, h8⟩
  · subst h3
    subst h4
    refine r_iload_n (pc := 0) C dJx4a65c_add_72be8_0 rfl ?_
    refine r_aload_n (pc := 1) C dJx4a65c_add_72be8_1 rfl ?_
    refine r_tlen (pc := 2) C (fun U h => h.T0) dJx4a65c_add_72be8_2 ?_
    refine r_icmp_ne (pc := 3) (tgt := 11) C dJx4a65c_add_72be8_3 (by decide) (fun c3 => ?_) (fun c3 => ?_)
    · exact absurd rfl c3
    · refine r_aload_n (pc := 6) C dJx4a65c_add_72be8_6 rfl ?_
      refine r_callV (pc := 7) C (ct_grow0 hκ hN hM hs ⟨hk, h2, Or.inl ⟨rfl, rfl⟩⟩ hel) iJx4a65c_grow_d5877 ml_RJx4a65c_129 dJx4a65c_add_72be8_7 (ci := 0) rfl rfl (by assumption) rfl (by decide) rfl (by simp [cv, Value.category, va_rf]) (by omega) (by omega) (fun r7 S7 h7 => ?_)
      obtain ⟨q, rfl, b2, b3, b4, b5, hA, b0⟩ := h7
      dsimp only [Option.toList, List.cons_append, List.nil_append]
      refine r_astore_n (pc := 10) C dJx4a65c_add_72be8_10 (by decide) rfl ?_
      exact r_lv C [(0, vr (some a)), (1, vr (some v)), (2, vr (some q)), (3, vi (nI 0))] rfl (P _ q hA (by rw [b0]; exact hs) b2 b3 b4 b5)
  · refine r_iload_n (pc := 0) C dJx4a65c_add_72be8_0 rfl ?_
    refine r_aload_n (pc := 1) C dJx4a65c_add_72be8_1 rfl ?_
    refine r_alen (pc := 2) C dJx4a65c_add_72be8_2 h4 (by first | decide | omega) ?_
    refine r_icmp_ne (pc := 3) (tgt := 11) C dJx4a65c_add_72be8_3 (by decide) (fun c3 => ?_) (fun c3 => ?_)
    · exact r_widen C (by omega) (by omega) (P _ e Au.rf hs h2 h4 ⟨h5, h6, by have : N ≠ sN S e := fun q => c3 (by rw [← q]); omega⟩ h8)
    · have heq : N = sN S e := (nI_eq (by omega) (by omega)).mp c3
      refine r_aload_n (pc := 6) C dJx4a65c_add_72be8_6 rfl ?_
      refine r_callV (pc := 7) C (ct_grow0 hκ hN hM hs ⟨hk, h2, Or.inr ⟨h4, by omega, heq.symm, h8⟩⟩ hel) iJx4a65c_grow_d5877 ml_RJx4a65c_129 dJx4a65c_add_72be8_7 (ci := 0) rfl rfl (by assumption) rfl (by decide) rfl (by simp [cv, Value.category, va_rf]) (by omega) (by omega) (fun r7 S7 h7 => ?_)
      obtain ⟨q, rfl, b2, b3, b4, b5, hA, b0⟩ := h7
      dsimp only [Option.toList, List.cons_append, List.nil_append]
      refine r_astore_n (pc := 10) C dJx4a65c_add_72be8_10 (by decide) rfl ?_
      exact r_lv C [(0, vr (some a)), (1, vr (some v)), (2, vr (some q)), (3, vi (nI N))] rfl (P _ q hA (by rw [b0]; exact hs) b2 b3 b4 b5)
theorem ct_add {mi v : Nat} (hκ : 104 ≤ κ) (hN : N ≤ 64) (hM : MIR g mi) (hL : LA g S a κ N f) (hel : ∀ i, i < N → ∃ ci, (ci = 9 ∨ ci = 6) ∧ sK S (f i) = ci + 1) (hv : ∃ ci, (ci = 9 ∨ ci = 6) ∧ sK S v = ci + 1) : Sp l g mJx4a65c_add_9ea2d 1 100 [vr (some a), vr (some v)] S (fun r S' => r = some (vi (nI 1)) ∧ LA g S' a κ (N + 1) (va_up f N v) ∧ Au S S' a κ) := by
  obtain ⟨hs, e, hL⟩ := hL
  have hk := hL.1
  have h2 := hL.2.1
  refine Sp.start (own := RJx4a65c) [(0, vr (some a)), (1, vr (some v))] (by decide +kernel) rfl rfl (Nat.le_of_ble_eq_true rfl) ?_
  intro J C
  refine r_aload_n (pc := 0) C dJx4a65c_add_9ea2d_0 rfl ?_
  refine r_dup (pc := 1) C dJx4a65c_add_9ea2d_1 rfl ?_
  refine r_getI (pc := 2) C dJx4a65c_add_9ea2d_2 fx_RJx4a65c_63 (by assumption) ?_
  refine r_iconst (pc := 5) C (nI 1) dJx4a65c_add_9ea2d_5 rfl ?_
  refine r_iadd (pc := 6) C dJx4a65c_add_9ea2d_6 ?_
  refine r_putI (pc := 7) C dJx4a65c_add_9ea2d_7 fx_RJx4a65c_63 (fp_0_0 _) (by assumption) ?_
  have hA7 : Au S (setI S 0 a (sI S 0 a + nI 1)) a κ := Au.si (Or.inl rfl)
  have hL7 : LE g (setI S 0 a (sI S 0 a + nI 1)) a κ N e f := hL
  have hs7 : sI (setI S 0 a (sI S 0 a + nI 1)) 2 a = nI N := by rw [sI_n (Or.inl (by decide))]; exact hs
  have hel7 : ∀ i, i < N → ∃ ci, (ci = 9 ∨ ci = 6) ∧ sK (setI S 0 a (sI S 0 a + nI 1)) (f i) = ci + 1 := hel
  have hv7 : ∃ ci, (ci = 9 ∨ ci = 6) ∧ sK (setI S 0 a (sI S 0 a + nI 1)) v = ci + 1 := hv
  have hk7 : sK (setI S 0 a (sI S 0 a + nI 1)) a = 1 := hk
  have h27 : sR (setI S 0 a (sI S 0 a + nI 1)) 1 a = some e := h2
  generalize setI S 0 a (sI S 0 a + nI 1) = S7 at hA7 hL7 hs7 hel7 hv7 hk7 h27 ⊢
  refine r_aload_n (pc := 10) C dJx4a65c_add_9ea2d_10 rfl ?_
  refine r_aload_n (pc := 11) C dJx4a65c_add_9ea2d_11 rfl ?_
  refine r_aload_n (pc := 12) C dJx4a65c_add_9ea2d_12 rfl ?_
  refine r_getR (pc := 13) C dJx4a65c_add_9ea2d_13 fx_RJx4a65c_9 (by assumption) (by first | assumption | rfl) ?_
  refine r_aload_n (pc := 16) C dJx4a65c_add_9ea2d_16 rfl ?_
  refine r_getI (pc := 17) C dJx4a65c_add_9ea2d_17 fx_RJx4a65c_48 (by assumption) ?_
  rw [hs7]
  refine r_callV (pc := 20) C (ct_add3 hκ hN hM hs7 hL7 hel7 hv7) iJx4a65c_add_72be8 ml_RJx4a65c_131 dJx4a65c_add_9ea2d_20 (ci := 0) rfl rfl (by assumption) rfl (by decide) rfl (by simp [cv, Value.category, va_rf]) (by omega) (by omega) (fun r20 S20 h20 => ?_)
  obtain ⟨rfl, h20, hA20⟩ := h20
  dsimp only [Option.toList, List.cons_append, List.nil_append]
  refine r_iconst (pc := 23) C (nI 1) dJx4a65c_add_9ea2d_23 rfl ?_
  refine r_zret (pc := 24) C dJx4a65c_add_9ea2d_24 rfl (by first | exact Or.inl rfl | exact Or.inr rfl | assumption) (by omega) (by omega) ?_
  exact ⟨rfl, h20, hA7.tr hκ hA20⟩
end Jdk
