/-! The reference: ancestors, descendants, confidence -/
/-- those that are reached from m through the held ones below k -/
def ancL (M : MM) (n : Nat) : Nat → (Nat → Bool) → (Nat → Bool)
  | 0, m => m
  | k + 1, m => ancL M n k (if m (hdN M k) then (fun a => m a || pset M n (hdN M k) a) else m)
def anc (M : MM) (n h t : Nat) : Nat → Bool := ancL M n h (pset M n t)
def desL (M : MM) (n t : Nat) : Nat → (Nat → Bool)
  | 0 => fun a => decide (a = t)
  | k + 1 => if anyU (fun i => desL M n t k (par M n (hdN M k) i)) (nP (M 11) (hdN M k)) then (fun a => desL M n t k a || decide (a = hdN M k)) else desL M n t k
def chitB (M : MM) (t : Nat) : Bool := !decide (M 14 t = 0)
def conf (M : MM) (n h t : Nat) : Nat := cntU (fun d => desL M n t h d && chitB M d) n
def spn (M : MM) (t : Nat) (id : Int32) (ix : Nat) : Bool := anyU (fun i => decide (xid (M 11) t i = id) && decide (xix (M 11) t i = ix)) (nX (M 11) t)
/-- the marks of S are those of m -/
abbrev mkS (S : hS) (mo : Nat) (f : Nat → Int32) : hS := putI S (mkd 20) (ma S mo 20) f
def Bm (f : Nat → Int32) (m : Nat → Bool) : Prop := ∀ a, a < 140 → f a = bi (m a)
theorem MV.mk {S : hS} {mo : Nat} {M : MM} {n h : Nat} (hV : MV S mo M n h) (f : Nat → Int32) : MV (mkS S mo f) mo M n h := by
  refine ⟨hV.1, hV.2.1, hV.2.2.1, fun k hk => ?_, hV.2.2.2.2⟩
  rw [← hV.2.2.2.1 k hk]
  refine aI_ne ?_
  simp only [gk, List.mem_cons, List.not_mem_nil, or_false] at hk
  rcases hk with rfl | rfl | rfl | rfl | rfl | rfl | rfl | rfl | rfl | rfl | rfl <;> decide
theorem MV.em {S : hS} {mo : Nat} {M : MM} {n h : Nat} (hV : MV S mo M n h) (k : Nat) (hk : k ∈ gk) {f : Nat → Int32} : aI (mkS S mo f) (mkd k) (ma S mo k) = M k := (hV.mk f).e k hk
theorem Bm.up {f : Nat → Int32} {m : Nat → Bool} (h : Bm f m) (j : Nat) (hj : j < 140) : Bm (upd f j (nI 1)) (fun a => m a || decide (a = j)) := by
  intro a ha
  by_cases e : a = j
  · subst e; simp [upd, bi_t]
  · simp [upd, e, h a ha]
theorem Bm.to {f : Nat → Int32} {m m' : Nat → Bool} (h : Bm f m) (e : ∀ a, m a = m' a) : Bm f m' := fun a ha => by rw [h a ha, e a]
section Marks2
variable {l : Launch} {g : GG} {S : hS} {mo : Nat} {M : MM} {n h : Nat}
theorem cm_spends {t ix : Nat} {id : Int32} (hV : MV S mo M n h) (ht : t < n) (hix : ix < 256) : Sp l g mX10_spends 0 0 [vr (some mo), vi (nI t), vi id, vi (nI ix)] S (fun r S' => r = some (vi (bi (spn M t id ix))) ∧ S' = S) := by
  have hR := hV.R ht
  have hx4 := hR.2.2.1
  have hmo := hV.1.1
  refine Sp.start (own := RX10) [(0, vr (some mo)), (1, vi (nI t)), (2, vi id), (3, vi (nI ix))] (by decide +kernel) rfl rfl (Nat.le_of_ble_eq_true rfl) ?_
  intro J C
  have L : ∀ i x, i ≤ nX (M 11) t → x = bi (anyU (fun i => decide (xid (M 11) t i = id) && decide (xix (M 11) t i = ix)) i) → J 6 [(0, vr (some mo)), (1, vi (nI t)), (2, vi id), (3, vi (nI ix)), (4, vi x), (5, vi (nI i))] [] S 0 0 := by
    refine up_loop _ _ _ ?_ ?_
    · intro x hx
      refine r_iload (pc := 6) C dX10_spends_6 rfl ?_
      refine r_aload_n (pc := 8) C dX10_spends_8 rfl ?_
      refine r_iload_n (pc := 9) C dX10_spends_9 rfl ?_
      refine r_callV (pc := 10) C (mv_inputsOf hV ht) iX10_inputsOf ml_RX10_188 dX10_spends_10 (ci := 11) rfl rfl (by assumption) rfl (by decide) rfl (by simp [cv, Value.category, va_rf]) (by omega) (by omega) (fun r10 S10 h10 => ?_)
      obtain ⟨rfl, e10⟩ := h10
      subst S10
      dsimp only [Option.toList, List.cons_append, List.nil_append]
      refine r_icmp_ge (pc := 13) (tgt := 56) C dX10_spends_13 (by decide) (fun c13 => ?_) (fun c13 => ?_)
      · refine r_iload (pc := 56) C dX10_spends_56 rfl ?_
        refine r_zret (pc := 58) C dX10_spends_58 rfl (by rw [hx]; exact bi_01 _) (by omega) (by omega) ?_
        subst hx; exact ⟨rfl, rfl⟩
      · exact absurd (Int32.le_refl _) c13
    · intro i x hi hx ih
      have hq : xix (M 11) t i < 256 := rN_lt _ _ _
      subst hx
      refine r_iload (pc := 6) C dX10_spends_6 rfl ?_
      refine r_aload_n (pc := 8) C dX10_spends_8 rfl ?_
      refine r_iload_n (pc := 9) C dX10_spends_9 rfl ?_
      refine r_callV (pc := 10) C (mv_inputsOf hV ht) iX10_inputsOf ml_RX10_188 dX10_spends_10 (ci := 11) rfl rfl (by assumption) rfl (by decide) rfl (by simp [cv, Value.category, va_rf]) (by omega) (by omega) (fun r10 S10 h10 => ?_)
      obtain ⟨rfl, e10⟩ := h10
      subst S10
      dsimp only [Option.toList, List.cons_append, List.nil_append]
      refine r_icmp_ge (pc := 13) (tgt := 56) C dX10_spends_13 (by decide) (fun c13 => ?_) (fun c13 => ?_)
      · exact absurd c13 (nI_ge hi (by omega))
      · refine r_iload (pc := 16) C dX10_spends_16 rfl ?_
        refine r_if_ne (pc := 18) (tgt := 43) C dX10_spends_18 (by decide) (fun c18 => ?_) (fun c18 => ?_)
        · refine r_iconst (pc := 43) C (nI 1) dX10_spends_43 rfl ?_
          refine r_goto (pc := 44) (tgt := 48) C dX10_spends_44 (by decide) ?_
          refine r_istore (pc := 48) C dX10_spends_48 (by decide) rfl ?_
          refine r_iinc (pc := 50) C _ dX10_spends_50 rfl (nI_1 _) (by decide) rfl ?_
          refine r_goto (pc := 53) (tgt := 6) C dX10_spends_53 (by decide) ?_
          refine r_lv C [(0, vr (some mo)), (1, vi (nI t)), (2, vi id), (3, vi (nI ix)), (4, vi _), (5, vi (nI (i + 1)))] rfl (ih _ ?_)
          simp_all [anyU, bi_0, bi_t, bi_f]
        · refine r_aload_n (pc := 21) C dX10_spends_21 rfl ?_
          refine r_iload_n (pc := 22) C dX10_spends_22 rfl ?_
          refine r_iload (pc := 23) C dX10_spends_23 rfl ?_
          refine r_callV (pc := 25) C (mv_inputId hV ht (by omega)) iX10_inputId ml_RX10_195 dX10_spends_25 (ci := 11) rfl rfl (by assumption) rfl (by decide) rfl (by simp [cv, Value.category, va_rf]) (by omega) (by omega) (fun r25 S25 h25 => ?_)
          obtain ⟨rfl, e25⟩ := h25
          subst S25
          dsimp only [Option.toList, List.cons_append, List.nil_append]
          refine r_iload_n (pc := 28) C dX10_spends_28 rfl ?_
          refine r_icmp_ne (pc := 29) (tgt := 47) C dX10_spends_29 (by decide) (fun c29 => ?_) (fun c29 => ?_)
          · refine r_iconst (pc := 47) C (nI 0) dX10_spends_47 rfl ?_
            refine r_istore (pc := 48) C dX10_spends_48 (by decide) rfl ?_
            refine r_iinc (pc := 50) C _ dX10_spends_50 rfl (nI_1 _) (by decide) rfl ?_
            refine r_goto (pc := 53) (tgt := 6) C dX10_spends_53 (by decide) ?_
            refine r_lv C [(0, vr (some mo)), (1, vi (nI t)), (2, vi id), (3, vi (nI ix)), (4, vi _), (5, vi (nI (i + 1)))] rfl (ih _ ?_)
            simp_all [anyU, bi_0, bi_t, bi_f]
          · refine r_aload_n (pc := 32) C dX10_spends_32 rfl ?_
            refine r_iload_n (pc := 33) C dX10_spends_33 rfl ?_
            refine r_iload (pc := 34) C dX10_spends_34 rfl ?_
            refine r_callV (pc := 36) C (mv_inputIndex hV ht (by omega)) iX10_inputIndex ml_RX10_201 dX10_spends_36 (ci := 11) rfl rfl (by assumption) rfl (by decide) rfl (by simp [cv, Value.category, va_rf]) (by omega) (by omega) (fun r36 S36 h36 => ?_)
            obtain ⟨rfl, e36⟩ := h36
            subst S36
            dsimp only [Option.toList, List.cons_append, List.nil_append]
            refine r_iload_n (pc := 39) C dX10_spends_39 rfl ?_
            refine r_icmp_ne (pc := 40) (tgt := 47) C dX10_spends_40 (by decide) (fun c40 => ?_) (fun c40 => ?_)
            · have c40 := mt (nI_eq (by omega) (by omega)).mpr c40
              refine r_iconst (pc := 47) C (nI 0) dX10_spends_47 rfl ?_
              refine r_istore (pc := 48) C dX10_spends_48 (by decide) rfl ?_
              refine r_iinc (pc := 50) C _ dX10_spends_50 rfl (nI_1 _) (by decide) rfl ?_
              refine r_goto (pc := 53) (tgt := 6) C dX10_spends_53 (by decide) ?_
              refine r_lv C [(0, vr (some mo)), (1, vi (nI t)), (2, vi id), (3, vi (nI ix)), (4, vi _), (5, vi (nI (i + 1)))] rfl (ih _ ?_)
              simp_all [anyU, bi_0, bi_t, bi_f]
            · have c40 := (nI_eq (by omega) (by omega)).mp c40
              refine r_iconst (pc := 43) C (nI 1) dX10_spends_43 rfl ?_
              refine r_goto (pc := 44) (tgt := 48) C dX10_spends_44 (by decide) ?_
              refine r_istore (pc := 48) C dX10_spends_48 (by decide) rfl ?_
              refine r_iinc (pc := 50) C _ dX10_spends_50 rfl (nI_1 _) (by decide) rfl ?_
              refine r_goto (pc := 53) (tgt := 6) C dX10_spends_53 (by decide) ?_
              refine r_lv C [(0, vr (some mo)), (1, vi (nI t)), (2, vi id), (3, vi (nI ix)), (4, vi _), (5, vi (nI (i + 1)))] rfl (ih _ ?_)
              simp_all [anyU, bi_0, bi_t, bi_f]
  refine r_iconst (pc := 0) C (nI 0) dX10_spends_0 rfl ?_
  refine r_istore (pc := 1) C dX10_spends_1 (by decide) rfl ?_
  refine r_iconst (pc := 3) C (nI 0) dX10_spends_3 rfl ?_
  refine r_istore (pc := 4) C dX10_spends_4 (by decide) rfl ?_
  refine r_lv C [(0, vr (some mo)), (1, vi (nI t)), (2, vi id), (3, vi (nI ix)), (4, vi _), (5, vi (nI 0))] rfl (L 0 _ (by omega) rfl)
theorem cm_clearMarks (hV : MV S mo M n h) : Sp l g mX10_clearMarks 0 0 [vr (some mo)] S (fun r S' => r = none ∧ ∃ f, S' = mkS S mo f ∧ Bm f (fun _ => false)) := by
  refine Sp.start (own := RX10) [(0, vr (some mo))] (by decide +kernel) rfl rfl (Nat.le_of_ble_eq_true rfl) ?_
  intro J C
  have hM := hV.1
  have hmo := hM.1
  obtain ⟨h20, k20, n20⟩ := hM.2 20 140 (by decide)
  have L : ∀ i (f : Nat → Int32), i ≤ 140 → (∀ a, a < i → f a = nI 0) → J 2 [(0, vr (some mo)), (1, vi (nI i))] [] (mkS S mo f) 0 0 := by
    refine up_loop 140 _ _ ?_ ?_
    · intro f hf
      refine r_iload_n (pc := 2) C dX10_clearMarks_2 rfl ?_
      refine r_sipush (pc := 3) C (nI 140) dX10_clearMarks_3 rfl ?_
      refine r_icmp_ge (pc := 6) (tgt := 22) C dX10_clearMarks_6 (by decide) (fun c6 => ?_) (fun c6 => ?_)
      · refine r_ret (pc := 22) C dX10_clearMarks_22 rfl (by omega) (by omega) ?_
        exact ⟨rfl, f, rfl, fun a ha => hf a ha⟩
      · exact absurd (Int32.le_refl _) c6
    · intro i f hi hf ih
      refine r_iload_n (pc := 2) C dX10_clearMarks_2 rfl ?_
      refine r_sipush (pc := 3) C (nI 140) dX10_clearMarks_3 rfl ?_
      refine r_icmp_ge (pc := 6) (tgt := 22) C dX10_clearMarks_6 (by decide) (fun c6 => ?_) (fun c6 => ?_)
      · exact absurd c6 (nI_ge hi (by omega))
      · refine r_aload_n (pc := 9) C dX10_clearMarks_9 rfl ?_
        refine r_getR (pc := 10) C dX10_clearMarks_10 fx_RX10_52 (by assumption) (by first | assumption | rfl) ?_
        refine r_iload_n (pc := 13) C dX10_clearMarks_13 rfl ?_
        refine r_iconst (pc := 14) C (nI 0) dX10_clearMarks_14 rfl ?_
        refine r_zast (pc := 15) C dX10_clearMarks_15 (by assumption) (by decide) (by assumption) (by first | assumption | exact vp_in_nI (by omega) (by omega)) (by first | exact nI_clamp (by omega) | rfl) (Or.inl rfl) ?_
        simp only [aI_pI, pI_pI]
        refine r_iinc (pc := 16) C _ dX10_clearMarks_16 rfl (nI_1 _) (by decide) rfl ?_
        refine r_goto (pc := 19) (tgt := 2) C dX10_clearMarks_19 (by decide) ?_
        refine r_lv C [(0, vr (some mo)), (1, vi (nI (i + 1)))] rfl (ih _ ?_)
        intro a ha
        by_cases e : a = i
        · subst e; simp [upd]
        · simp only [upd, if_neg e]; exact hf a (by omega)
  refine r_iconst (pc := 0) C (nI 0) dX10_clearMarks_0 rfl ?_
  refine r_istore_n (pc := 1) C dX10_clearMarks_1 (by decide) rfl ?_
  have hL := L 0 (aI S (mkd 20) (ma S mo 20)) (by omega) (fun a ha => absurd ha (by omega))
  rw [show mkS S mo (aI S (mkd 20) (ma S mo 20)) = S from pI_id] at hL
  exact r_lv C [(0, vr (some mo)), (1, vi (nI 0))] rfl hL
theorem cm_markParents {t : Nat} {f : Nat → Int32} {m : Nat → Bool} (hV : MV S mo M n h) (ht : Hp M n t) (hf : Bm f m) : Sp l g mX10_markParents 0 0 [vr (some mo), vi (nI t)] (mkS S mo f) (fun r S' => r = none ∧ ∃ f', S' = mkS S mo f' ∧ Bm f' (fun a => m a || pset M n t a)) := by
  refine Sp.start (own := RX10) [(0, vr (some mo)), (1, vi (nI t))] (by decide +kernel) rfl rfl (Nat.le_of_ble_eq_true rfl) ?_
  intro J C
  have hM := hV.1
  have hR := hV.R ht.1
  have ht140 := hR.1
  have hp4 := hR.2.1
  have hn2 := hV.G.1
  have hmo := hM.1
  obtain ⟨h20, k20, n20⟩ := hM.2 20 140 (by decide)
  have L : ∀ i (f : Nat → Int32), i ≤ nP (M 11) t → Bm f (fun a => m a || anyU (fun i => decide (par M n t i = a)) i) → J 2 [(0, vr (some mo)), (1, vi (nI t)), (2, vi (nI i))] [] (mkS S mo f) 0 0 := by
    refine up_loop _ _ _ ?_ ?_
    · intro f hf
      refine r_iload_n (pc := 2) C dX10_markParents_2 rfl ?_
      refine r_aload_n (pc := 3) C dX10_markParents_3 rfl ?_
      refine r_iload_n (pc := 4) C dX10_markParents_4 rfl ?_
      refine r_callV (pc := 5) C (mv_parentsOf (hV.mk _) ht140) iX10_parentsOf ml_RX10_182 dX10_markParents_5 (ci := 11) rfl rfl (by assumption) rfl (by decide) rfl (by simp [cv, Value.category, va_rf]) (by omega) (by omega) (fun r5 S5 h5 => ?_)
      obtain ⟨rfl, e5⟩ := h5
      subst S5
      dsimp only [Option.toList, List.cons_append, List.nil_append]
      refine r_icmp_ge (pc := 8) (tgt := 33) C dX10_markParents_8 (by decide) (fun c8 => ?_) (fun c8 => ?_)
      · refine r_ret (pc := 33) C dX10_markParents_33 rfl (by omega) (by omega) ?_
        exact ⟨rfl, f, rfl, hf⟩
      · exact absurd (Int32.le_refl _) c8
    · intro i f hi hf ih
      have hpl := ht.par_lt hi
      refine r_iload_n (pc := 2) C dX10_markParents_2 rfl ?_
      refine r_aload_n (pc := 3) C dX10_markParents_3 rfl ?_
      refine r_iload_n (pc := 4) C dX10_markParents_4 rfl ?_
      refine r_callV (pc := 5) C (mv_parentsOf (hV.mk _) ht140) iX10_parentsOf ml_RX10_182 dX10_markParents_5 (ci := 11) rfl rfl (by assumption) rfl (by decide) rfl (by simp [cv, Value.category, va_rf]) (by omega) (by omega) (fun r5 S5 h5 => ?_)
      obtain ⟨rfl, e5⟩ := h5
      subst S5
      dsimp only [Option.toList, List.cons_append, List.nil_append]
      refine r_icmp_ge (pc := 8) (tgt := 33) C dX10_markParents_8 (by decide) (fun c8 => ?_) (fun c8 => ?_)
      · exact absurd c8 (nI_ge hi (by omega))
      · refine r_aload_n (pc := 11) C dX10_markParents_11 rfl ?_
        refine r_getR (pc := 12) C dX10_markParents_12 fx_RX10_52 (by assumption) (by first | assumption | rfl) ?_
        refine r_aload_n (pc := 15) C dX10_markParents_15 rfl ?_
        refine r_aload_n (pc := 16) C dX10_markParents_16 rfl ?_
        refine r_iload_n (pc := 17) C dX10_markParents_17 rfl ?_
        refine r_iload_n (pc := 18) C dX10_markParents_18 rfl ?_
        refine r_callV (pc := 19) C (mv_parentId (hV.mk _) ht140 (by omega)) iX10_parentId ml_RX10_224 dX10_markParents_19 (ci := 11) rfl rfl (by assumption) rfl (by decide) rfl (by simp [cv, Value.category, va_rf]) (by omega) (by omega) (fun r19 S19 h19 => ?_)
        obtain ⟨rfl, e19⟩ := h19
        subst S19
        dsimp only [Option.toList, List.cons_append, List.nil_append]
        refine r_callV (pc := 22) C (mv_findS (hV.mk _) (ht.2 i hi)) iX10_find ml_RX10_198 dX10_markParents_22 (ci := 11) rfl rfl (by assumption) rfl (by decide) rfl (by simp [cv, Value.category, va_rf]) (by omega) (by omega) (fun r22 S22 h22 => ?_)
        obtain ⟨rfl, e22⟩ := h22
        subst S22
        dsimp only [Option.toList, List.cons_append, List.nil_append]
        refine r_iconst (pc := 25) C (nI 1) dX10_markParents_25 rfl ?_
        refine r_zast (pc := 26) C dX10_markParents_26 (by assumption) (by decide) (by assumption) (by first | assumption | exact vp_in_nI (by omega) (by omega)) (by first | exact nI_clamp (by omega) | rfl) (Or.inr rfl) ?_
        simp only [aI_pI, pI_pI]
        refine r_iinc (pc := 27) C _ dX10_markParents_27 rfl (nI_1 _) (by decide) rfl ?_
        refine r_goto (pc := 30) (tgt := 2) C dX10_markParents_30 (by decide) ?_
        refine r_lv C [(0, vr (some mo)), (1, vi (nI t)), (2, vi (nI (i + 1)))] rfl (ih _ ?_)
        refine (hf.up (par M n t i) (by omega)).to (fun a => ?_)
        simp only [anyU, Bool.or_assoc]
        congr 2
        simp only [eq_comm]
  refine r_iconst (pc := 0) C (nI 0) dX10_markParents_0 rfl ?_
  refine r_istore_n (pc := 1) C dX10_markParents_1 (by decide) rfl ?_
  exact r_lv C [(0, vr (some mo)), (1, vi (nI t)), (2, vi (nI 0))] rfl (L 0 f (by omega) (hf.to (fun a => by simp [anyU])))
theorem cm_markAncestors {t : Nat} (hV : MV S mo M n h) (ht : Hp M n t) : Sp l g mX10_markAncestors 0 0 [vr (some mo), vi (nI t)] S (fun r S' => r = none ∧ ∃ f, S' = mkS S mo f ∧ Bm f (anc M n h t)) := by
  refine Sp.start (own := RX10) [(0, vr (some mo)), (1, vi (nI t))] (by decide +kernel) rfl rfl (Nat.le_of_ble_eq_true rfl) ?_
  intro J C
  have hM := hV.1
  have hG := hV.G
  have hn2 := hG.1
  have hh2 := hG.2.1
  have hh := hV.2.2.1
  have hmo := hM.1
  obtain ⟨h20, k20, n20⟩ := hM.2 20 140 (by decide)
  obtain ⟨h16, k16, n16⟩ := hM.2 16 140 (by decide)
  have L : ∀ i (z : (Nat → Int32) × (Nat → Bool)), i ≤ h ∧ Bm z.1 z.2 ∧ ancL M n i z.2 = anc M n h t → J 16 [(0, vr (some mo)), (1, vi (nI t)), (2, vi (nI i - 1))] [] (mkS S mo z.1) 0 0 := by
    refine dn_loop _ _ ?_ ?_
    · intro z hz
      refine r_iload_n (pc := 16) C dX10_markAncestors_16 rfl ?_
      refine r_if_lt (pc := 17) (tgt := 50) C dX10_markAncestors_17 (by decide) (fun c17 => ?_) (fun c17 => ?_)
      · refine r_ret (pc := 50) C dX10_markAncestors_50 rfl (by omega) (by omega) ?_
        exact ⟨rfl, z.1, rfl, by rw [← hz.2.2]; exact hz.2.1⟩
      · exact absurd (by decide) c17
    · intro i z hz ih
      obtain ⟨hi, hf, he⟩ := hz
      have hi2 : i < h := by omega
      obtain ⟨e16, hti⟩ := hG.2.2.2 i hi2
      have htn := hti.1
      rw [nI_pred]
      refine r_iload_n (pc := 16) C dX10_markAncestors_16 rfl ?_
      refine r_if_lt (pc := 17) (tgt := 50) C dX10_markAncestors_17 (by decide) (fun c17 => ?_) (fun c17 => ?_)
      · exact absurd c17 (nI_pos (by omega))
      · refine r_aload_n (pc := 20) C dX10_markAncestors_20 rfl ?_
        refine r_getR (pc := 21) C dX10_markAncestors_21 fx_RX10_52 (by assumption) (by first | assumption | rfl) ?_
        refine r_aload_n (pc := 24) C dX10_markAncestors_24 rfl ?_
        refine r_getR (pc := 25) C dX10_markAncestors_25 fx_RX10_40 (by assumption) (by first | assumption | rfl) ?_
        refine r_iload_n (pc := 28) C dX10_markAncestors_28 rfl ?_
        refine r_iald (pc := 29) C dX10_markAncestors_29 (by assumption) (by decide) (by assumption) (by first | assumption | exact vp_in_nI (by omega) (by omega)) (by first | exact nI_clamp (by omega) | rfl) ?_
        rw [hV.em 16 (by decide), e16]
        refine r_zald (pc := 30) C dX10_markAncestors_30 (by assumption) (by decide) (by assumption) (by first | assumption | exact vp_in_nI (by omega) (by omega)) (by first | exact nI_clamp (by omega) | rfl) ?_
        rw [aI_pI, hf _ (by omega)]
        refine r_if_eq (pc := 31) (tgt := 44) C dX10_markAncestors_31 (by decide) (fun c31 => ?_) (fun c31 => ?_)
        · rw [bi_0] at c31
          refine r_iinc (pc := 44) C (nI i - 1) dX10_markAncestors_44 rfl (dec1 _) (by decide) rfl ?_
          refine r_goto (pc := 47) (tgt := 16) C dX10_markAncestors_47 (by decide) ?_
          first
            | exact r_lv C [(0, vr (some mo)), (1, vi (nI t)), (2, vi (nI i - 1))] rfl (ih (z.1, z.2) ⟨by omega, hf, by rw [← he]; simp [ancL, c31]⟩)
            | exact r_lv C [(0, vr (some mo)), (1, vi (nI t)), (2, vi (nI i - 1))] rfl (ih (f2, fun a => z.2 a || pset M n (hdN M i) a) ⟨by omega, hf2, by rw [← he]; simp [ancL, c31]⟩)
        · rw [bi_0] at c31
          refine r_aload_n (pc := 34) C dX10_markAncestors_34 rfl ?_
          refine r_aload_n (pc := 35) C dX10_markAncestors_35 rfl ?_
          refine r_getR (pc := 36) C dX10_markAncestors_36 fx_RX10_40 (by assumption) (by first | assumption | rfl) ?_
          refine r_iload_n (pc := 39) C dX10_markAncestors_39 rfl ?_
          refine r_iald (pc := 40) C dX10_markAncestors_40 (by assumption) (by decide) (by assumption) (by first | assumption | exact vp_in_nI (by omega) (by omega)) (by first | exact nI_clamp (by omega) | rfl) ?_
          rw [hV.em 16 (by decide), e16]
          refine r_callV (pc := 41) C (cm_markParents hV hti.p hf) iX10_markParents ml_RX10_236 dX10_markAncestors_41 (ci := 11) rfl rfl (by assumption) rfl (by decide) rfl (by simp [cv, Value.category, va_rf]) (by omega) (by omega) (fun r41 S41 h41 => ?_)
          obtain ⟨rfl, f2, rfl, hf2⟩ := h41
          dsimp only [Option.toList, List.cons_append, List.nil_append]
          refine r_iinc (pc := 44) C (nI i - 1) dX10_markAncestors_44 rfl (dec1 _) (by decide) rfl ?_
          refine r_goto (pc := 47) (tgt := 16) C dX10_markAncestors_47 (by decide) ?_
          first
            | exact r_lv C [(0, vr (some mo)), (1, vi (nI t)), (2, vi (nI i - 1))] rfl (ih (z.1, z.2) ⟨by omega, hf, by rw [← he]; simp [ancL, c31]⟩)
            | exact r_lv C [(0, vr (some mo)), (1, vi (nI t)), (2, vi (nI i - 1))] rfl (ih (f2, fun a => z.2 a || pset M n (hdN M i) a) ⟨by omega, hf2, by rw [← he]; simp [ancL, c31]⟩)
  refine r_aload_n (pc := 0) C dX10_markAncestors_0 rfl ?_
  refine r_callV (pc := 1) C (cm_clearMarks hV) iX10_clearMarks ml_RX10_233 dX10_markAncestors_1 (ci := 11) rfl rfl (by assumption) rfl (by decide) rfl (by simp [cv, Value.category, va_rf]) (by omega) (by omega) (fun r1 S1 h1 => ?_)
  obtain ⟨rfl, f0, rfl, hf0⟩ := h1
  dsimp only [Option.toList, List.cons_append, List.nil_append]
  refine r_aload_n (pc := 4) C dX10_markAncestors_4 rfl ?_
  refine r_iload_n (pc := 5) C dX10_markAncestors_5 rfl ?_
  refine r_callV (pc := 6) C (cm_markParents hV ht hf0) iX10_markParents ml_RX10_236 dX10_markAncestors_6 (ci := 11) rfl rfl (by assumption) rfl (by decide) rfl (by simp [cv, Value.category, va_rf]) (by omega) (by omega) (fun r6 S6 h6 => ?_)
  obtain ⟨rfl, f1, rfl, hf1⟩ := h6
  dsimp only [Option.toList, List.cons_append, List.nil_append]
  refine r_aload_n (pc := 9) C dX10_markAncestors_9 rfl ?_
  refine r_getI (pc := 10) C dX10_markAncestors_10 fx_RX10_43 (by assumption) ?_
  rw [show sI (mkS S mo f1) 1117 mo = nI h from hh]
  refine r_iconst (pc := 13) C (nI 1) dX10_markAncestors_13 rfl ?_
  refine r_isub (pc := 14) C dX10_markAncestors_14 ?_
  refine r_istore_n (pc := 15) C dX10_markAncestors_15 (by decide) rfl ?_
  exact r_lv C [(0, vr (some mo)), (1, vi (nI t)), (2, vi (nI h - 1))] rfl (L h (f1, pset M n t) ⟨by omega, hf1.to (fun a => by simp), rfl⟩)
theorem cm_hasMarkedParent {t : Nat} {f : Nat → Int32} {m : Nat → Bool} (hV : MV S mo M n h) (ht : Ht M n t) (hf : Bm f m) : Sp l g mX10_hasMarkedParent 0 0 [vr (some mo), vi (nI t)] (mkS S mo f) (fun r S' => r = some (vi (bi (anyU (fun i => m (par M n t i)) (nP (M 11) t)))) ∧ S' = mkS S mo f) := by
  refine Sp.start (own := RX10) [(0, vr (some mo)), (1, vi (nI t))] (by decide +kernel) rfl rfl (Nat.le_of_ble_eq_true rfl) ?_
  intro J C
  have hM := hV.1
  have hR := hV.R ht.1
  have ht140 := hR.1
  have hp4 := hR.2.1
  have hn2 := hV.G.1
  have hmo := hM.1
  obtain ⟨h20, k20, n20⟩ := hM.2 20 140 (by decide)
  have L : ∀ i x, i ≤ nP (M 11) t → x = bi (anyU (fun i => m (par M n t i)) i) → J 4 [(0, vr (some mo)), (1, vi (nI t)), (2, vi x), (3, vi (nI i))] [] (mkS S mo f) 0 0 := by
    refine up_loop _ _ _ ?_ ?_
    · intro x hx
      refine r_iload_n (pc := 4) C dX10_hasMarkedParent_4 rfl ?_
      refine r_aload_n (pc := 5) C dX10_hasMarkedParent_5 rfl ?_
      refine r_iload_n (pc := 6) C dX10_hasMarkedParent_6 rfl ?_
      refine r_callV (pc := 7) C (mv_parentsOf (hV.mk _) ht140) iX10_parentsOf ml_RX10_182 dX10_hasMarkedParent_7 (ci := 11) rfl rfl (by assumption) rfl (by decide) rfl (by simp [cv, Value.category, va_rf]) (by omega) (by omega) (fun r7 S7 h7 => ?_)
      obtain ⟨rfl, e7⟩ := h7
      subst S7
      dsimp only [Option.toList, List.cons_append, List.nil_append]
      refine r_icmp_ge (pc := 10) (tgt := 47) C dX10_hasMarkedParent_10 (by decide) (fun c10 => ?_) (fun c10 => ?_)
      · refine r_iload_n (pc := 47) C dX10_hasMarkedParent_47 rfl ?_
        refine r_zret (pc := 48) C dX10_hasMarkedParent_48 rfl (by rw [hx]; exact bi_01 _) (by omega) (by omega) ?_
        subst hx; exact ⟨rfl, rfl⟩
      · exact absurd (Int32.le_refl _) c10
    · intro i x hi hx ih
      have hpl := ht.par_lt hi
      subst hx
      refine r_iload_n (pc := 4) C dX10_hasMarkedParent_4 rfl ?_
      refine r_aload_n (pc := 5) C dX10_hasMarkedParent_5 rfl ?_
      refine r_iload_n (pc := 6) C dX10_hasMarkedParent_6 rfl ?_
      refine r_callV (pc := 7) C (mv_parentsOf (hV.mk _) ht140) iX10_parentsOf ml_RX10_182 dX10_hasMarkedParent_7 (ci := 11) rfl rfl (by assumption) rfl (by decide) rfl (by simp [cv, Value.category, va_rf]) (by omega) (by omega) (fun r7 S7 h7 => ?_)
      obtain ⟨rfl, e7⟩ := h7
      subst S7
      dsimp only [Option.toList, List.cons_append, List.nil_append]
      refine r_icmp_ge (pc := 10) (tgt := 47) C dX10_hasMarkedParent_10 (by decide) (fun c10 => ?_) (fun c10 => ?_)
      · exact absurd c10 (nI_ge hi (by omega))
      · refine r_iload_n (pc := 13) C dX10_hasMarkedParent_13 rfl ?_
        refine r_if_ne (pc := 14) (tgt := 35) C dX10_hasMarkedParent_14 (by decide) (fun c14 => ?_) (fun c14 => ?_)
        · refine r_iconst (pc := 35) C (nI 1) dX10_hasMarkedParent_35 rfl ?_
          refine r_goto (pc := 36) (tgt := 40) C dX10_hasMarkedParent_36 (by decide) ?_
          refine r_istore_n (pc := 40) C dX10_hasMarkedParent_40 (by decide) rfl ?_
          refine r_iinc (pc := 41) C _ dX10_hasMarkedParent_41 rfl (nI_1 _) (by decide) rfl ?_
          refine r_goto (pc := 44) (tgt := 4) C dX10_hasMarkedParent_44 (by decide) ?_
          refine r_lv C [(0, vr (some mo)), (1, vi (nI t)), (2, vi _), (3, vi (nI (i + 1)))] rfl (ih _ ?_)
          simp_all [anyU, bi_0, bi_t, bi_f]
        · refine r_aload_n (pc := 17) C dX10_hasMarkedParent_17 rfl ?_
          refine r_getR (pc := 18) C dX10_hasMarkedParent_18 fx_RX10_52 (by assumption) (by first | assumption | rfl) ?_
          refine r_aload_n (pc := 21) C dX10_hasMarkedParent_21 rfl ?_
          refine r_aload_n (pc := 22) C dX10_hasMarkedParent_22 rfl ?_
          refine r_iload_n (pc := 23) C dX10_hasMarkedParent_23 rfl ?_
          refine r_iload_n (pc := 24) C dX10_hasMarkedParent_24 rfl ?_
          refine r_callV (pc := 25) C (mv_parentId (hV.mk _) ht140 (by omega)) iX10_parentId ml_RX10_224 dX10_hasMarkedParent_25 (ci := 11) rfl rfl (by assumption) rfl (by decide) rfl (by simp [cv, Value.category, va_rf]) (by omega) (by omega) (fun r25 S25 h25 => ?_)
          obtain ⟨rfl, e25⟩ := h25
          subst S25
          dsimp only [Option.toList, List.cons_append, List.nil_append]
          refine r_callV (pc := 28) C (mv_findS (hV.mk _) (ht.2.1 i hi)) iX10_find ml_RX10_198 dX10_hasMarkedParent_28 (ci := 11) rfl rfl (by assumption) rfl (by decide) rfl (by simp [cv, Value.category, va_rf]) (by omega) (by omega) (fun r28 S28 h28 => ?_)
          obtain ⟨rfl, e28⟩ := h28
          subst S28
          dsimp only [Option.toList, List.cons_append, List.nil_append]
          refine r_zald (pc := 31) C dX10_hasMarkedParent_31 (by assumption) (by decide) (by assumption) (by first | assumption | exact vp_in_nI (by omega) (by omega)) (by first | exact nI_clamp (by omega) | rfl) ?_
          rw [aI_pI, hf _ (by omega)]
          refine r_if_eq (pc := 32) (tgt := 39) C dX10_hasMarkedParent_32 (by decide) (fun c32 => ?_) (fun c32 => ?_)
          · refine r_iconst (pc := 39) C (nI 0) dX10_hasMarkedParent_39 rfl ?_
            refine r_istore_n (pc := 40) C dX10_hasMarkedParent_40 (by decide) rfl ?_
            refine r_iinc (pc := 41) C _ dX10_hasMarkedParent_41 rfl (nI_1 _) (by decide) rfl ?_
            refine r_goto (pc := 44) (tgt := 4) C dX10_hasMarkedParent_44 (by decide) ?_
            refine r_lv C [(0, vr (some mo)), (1, vi (nI t)), (2, vi _), (3, vi (nI (i + 1)))] rfl (ih _ ?_)
            simp_all [anyU, bi_0, bi_t, bi_f]
          · refine r_iconst (pc := 35) C (nI 1) dX10_hasMarkedParent_35 rfl ?_
            refine r_goto (pc := 36) (tgt := 40) C dX10_hasMarkedParent_36 (by decide) ?_
            refine r_istore_n (pc := 40) C dX10_hasMarkedParent_40 (by decide) rfl ?_
            refine r_iinc (pc := 41) C _ dX10_hasMarkedParent_41 rfl (nI_1 _) (by decide) rfl ?_
            refine r_goto (pc := 44) (tgt := 4) C dX10_hasMarkedParent_44 (by decide) ?_
            refine r_lv C [(0, vr (some mo)), (1, vi (nI t)), (2, vi _), (3, vi (nI (i + 1)))] rfl (ih _ ?_)
            simp_all [anyU, bi_0, bi_t, bi_f]
  refine r_iconst (pc := 0) C (nI 0) dX10_hasMarkedParent_0 rfl ?_
  refine r_istore_n (pc := 1) C dX10_hasMarkedParent_1 (by decide) rfl ?_
  refine r_iconst (pc := 2) C (nI 0) dX10_hasMarkedParent_2 rfl ?_
  refine r_istore_n (pc := 3) C dX10_hasMarkedParent_3 (by decide) rfl ?_
  exact r_lv C [(0, vr (some mo)), (1, vi (nI t)), (2, vi _), (3, vi (nI 0))] rfl (L 0 _ (by omega) rfl)
theorem cm_markDescendants {t : Nat} (hV : MV S mo M n h) (ht : t < n) : Sp l g mX10_markDescendants 0 0 [vr (some mo), vi (nI t)] S (fun r S' => r = none ∧ ∃ f, S' = mkS S mo f ∧ Bm f (desL M n t h)) := by
  refine Sp.start (own := RX10) [(0, vr (some mo)), (1, vi (nI t))] (by decide +kernel) rfl rfl (Nat.le_of_ble_eq_true rfl) ?_
  intro J C
  have hM := hV.1
  have hG := hV.G
  have hn2 := hG.1
  have hh2 := hG.2.1
  have hh := hV.2.2.1
  have hmo := hM.1
  obtain ⟨h20, k20, n20⟩ := hM.2 20 140 (by decide)
  obtain ⟨h16, k16, n16⟩ := hM.2 16 140 (by decide)
  have L : ∀ i (f : Nat → Int32), i ≤ h → Bm f (desL M n t i) → J 13 [(0, vr (some mo)), (1, vi (nI t)), (2, vi (nI i))] [] (mkS S mo f) 0 0 := by
    refine up_loop _ _ _ ?_ ?_
    · intro f hf
      refine r_iload_n (pc := 13) C dX10_markDescendants_13 rfl ?_
      refine r_aload_n (pc := 14) C dX10_markDescendants_14 rfl ?_
      refine r_getI (pc := 15) C dX10_markDescendants_15 fx_RX10_43 (by assumption) ?_
      rw [show sI (mkS S mo f) 1117 mo = nI h from hh]
      refine r_icmp_ge (pc := 18) (tgt := 52) C dX10_markDescendants_18 (by decide) (fun c18 => ?_) (fun c18 => ?_)
      · refine r_ret (pc := 52) C dX10_markDescendants_52 rfl (by omega) (by omega) ?_
        exact ⟨rfl, f, rfl, hf⟩
      · exact absurd (Int32.le_refl _) c18
    · intro i f hi hf ih
      obtain ⟨e16, hti⟩ := hG.2.2.2 i hi
      have htn := hti.1
      refine r_iload_n (pc := 13) C dX10_markDescendants_13 rfl ?_
      refine r_aload_n (pc := 14) C dX10_markDescendants_14 rfl ?_
      refine r_getI (pc := 15) C dX10_markDescendants_15 fx_RX10_43 (by assumption) ?_
      rw [show sI (mkS S mo f) 1117 mo = nI h from hh]
      refine r_icmp_ge (pc := 18) (tgt := 52) C dX10_markDescendants_18 (by decide) (fun c18 => ?_) (fun c18 => ?_)
      · exact absurd c18 (nI_ge hi (by omega))
      · refine r_aload_n (pc := 21) C dX10_markDescendants_21 rfl ?_
        refine r_aload_n (pc := 22) C dX10_markDescendants_22 rfl ?_
        refine r_getR (pc := 23) C dX10_markDescendants_23 fx_RX10_40 (by assumption) (by first | assumption | rfl) ?_
        refine r_iload_n (pc := 26) C dX10_markDescendants_26 rfl ?_
        refine r_iald (pc := 27) C dX10_markDescendants_27 (by assumption) (by decide) (by assumption) (by first | assumption | exact vp_in_nI (by omega) (by omega)) (by first | exact nI_clamp (by omega) | rfl) ?_
        rw [hV.em 16 (by decide), e16]
        refine r_callV (pc := 28) C (cm_hasMarkedParent hV hti hf) iX10_hasMarkedParent ml_RX10_239 dX10_markDescendants_28 (ci := 11) rfl rfl (by assumption) rfl (by decide) rfl (by simp [cv, Value.category, va_rf]) (by omega) (by omega) (fun r28 S28 h28 => ?_)
        obtain ⟨rfl, e28⟩ := h28
        subst S28
        dsimp only [Option.toList, List.cons_append, List.nil_append]
        refine r_if_eq (pc := 31) (tgt := 46) C dX10_markDescendants_31 (by decide) (fun c31 => ?_) (fun c31 => ?_)
        · rw [bi_0] at c31
          refine r_iinc (pc := 46) C _ dX10_markDescendants_46 rfl (nI_1 _) (by decide) rfl ?_
          refine r_goto (pc := 49) (tgt := 13) C dX10_markDescendants_49 (by decide) ?_
          refine r_lv C [(0, vr (some mo)), (1, vi (nI t)), (2, vi (nI (i + 1)))] rfl (ih _ ?_)
          first
            | exact hf.to (fun a => by simp [desL, c31])
            | exact (hf.up _ (by omega)).to (fun a => by simp [desL, c31])
        · rw [bi_0] at c31
          refine r_aload_n (pc := 34) C dX10_markDescendants_34 rfl ?_
          refine r_getR (pc := 35) C dX10_markDescendants_35 fx_RX10_52 (by assumption) (by first | assumption | rfl) ?_
          refine r_aload_n (pc := 38) C dX10_markDescendants_38 rfl ?_
          refine r_getR (pc := 39) C dX10_markDescendants_39 fx_RX10_40 (by assumption) (by first | assumption | rfl) ?_
          refine r_iload_n (pc := 42) C dX10_markDescendants_42 rfl ?_
          refine r_iald (pc := 43) C dX10_markDescendants_43 (by assumption) (by decide) (by assumption) (by first | assumption | exact vp_in_nI (by omega) (by omega)) (by first | exact nI_clamp (by omega) | rfl) ?_
          rw [hV.em 16 (by decide), e16]
          refine r_iconst (pc := 44) C (nI 1) dX10_markDescendants_44 rfl ?_
          refine r_zast (pc := 45) C dX10_markDescendants_45 (by assumption) (by decide) (by assumption) (by first | assumption | exact vp_in_nI (by omega) (by omega)) (by first | exact nI_clamp (by omega) | rfl) (Or.inr rfl) ?_
          simp only [aI_pI, pI_pI]
          refine r_iinc (pc := 46) C _ dX10_markDescendants_46 rfl (nI_1 _) (by decide) rfl ?_
          refine r_goto (pc := 49) (tgt := 13) C dX10_markDescendants_49 (by decide) ?_
          refine r_lv C [(0, vr (some mo)), (1, vi (nI t)), (2, vi (nI (i + 1)))] rfl (ih _ ?_)
          first
            | exact hf.to (fun a => by simp [desL, c31])
            | exact (hf.up _ (by omega)).to (fun a => by simp [desL, c31])
  refine r_aload_n (pc := 0) C dX10_markDescendants_0 rfl ?_
  refine r_callV (pc := 1) C (cm_clearMarks hV) iX10_clearMarks ml_RX10_233 dX10_markDescendants_1 (ci := 11) rfl rfl (by assumption) rfl (by decide) rfl (by simp [cv, Value.category, va_rf]) (by omega) (by omega) (fun r1 S1 h1 => ?_)
  obtain ⟨rfl, f0, rfl, hf0⟩ := h1
  dsimp only [Option.toList, List.cons_append, List.nil_append]
  refine r_aload_n (pc := 4) C dX10_markDescendants_4 rfl ?_
  refine r_getR (pc := 5) C dX10_markDescendants_5 fx_RX10_52 (by assumption) (by first | assumption | rfl) ?_
  refine r_iload_n (pc := 8) C dX10_markDescendants_8 rfl ?_
  refine r_iconst (pc := 9) C (nI 1) dX10_markDescendants_9 rfl ?_
  refine r_zast (pc := 10) C dX10_markDescendants_10 (by assumption) (by decide) (by assumption) (by first | assumption | exact vp_in_nI (by omega) (by omega)) (by first | exact nI_clamp (by omega) | rfl) (Or.inr rfl) ?_
  simp only [aI_pI, pI_pI]
  refine r_iconst (pc := 11) C (nI 0) dX10_markDescendants_11 rfl ?_
  refine r_istore_n (pc := 12) C dX10_markDescendants_12 (by decide) rfl ?_
  exact r_lv C [(0, vr (some mo)), (1, vi (nI t)), (2, vi (nI 0))] rfl (L 0 _ (by omega) ((hf0.up t (by omega)).to (fun a => by simp [desL])))
theorem cm_confidence {t : Nat} (hV : MV S mo M n h) (ht : t < n) : Sp l g mX10_confidence 0 0 [vr (some mo), vi (nI t)] S (fun r S' => r = some (vi (nI (conf M n h t))) ∧ ∃ f, S' = mkS S mo f) := by
  refine Sp.start (own := RX10) [(0, vr (some mo)), (1, vi (nI t))] (by decide +kernel) rfl rfl (Nat.le_of_ble_eq_true rfl) ?_
  intro J C
  have hM := hV.1
  have hG := hV.G
  have hn2 := hG.1
  have hn := hV.2.1
  have hmo := hM.1
  obtain ⟨h20, k20, n20⟩ := hM.2 20 140 (by decide)
  obtain ⟨h14, k14, n14⟩ := hM.2 14 140 (by decide)
  have L : ∀ f, Bm f (desL M n t h) → ∀ i x, i ≤ n → x = nI (cntU (fun d => desL M n t h d && chitB M d) i) → J 9 [(0, vr (some mo)), (1, vi (nI t)), (2, vi x), (3, vi (nI i))] [] (mkS S mo f) 0 0 := by
    intro f hf
    refine up_loop _ _ _ ?_ ?_
    · intro x hx
      refine r_iload_n (pc := 9) C dX10_confidence_9 rfl ?_
      refine r_aload_n (pc := 10) C dX10_confidence_10 rfl ?_
      refine r_getI (pc := 11) C dX10_confidence_11 fx_RX10_16 (by assumption) ?_
      rw [show sI (mkS S mo f) 1109 mo = nI n from hn]
      refine r_icmp_ge (pc := 14) (tgt := 49) C dX10_confidence_14 (by decide) (fun c14 => ?_) (fun c14 => ?_)
      · refine r_iload_n (pc := 49) C dX10_confidence_49 rfl ?_
        refine r_iret (pc := 50) C dX10_confidence_50 rfl (by omega) (by omega) ?_
        subst hx; exact ⟨rfl, f, rfl⟩
      · exact absurd (Int32.le_refl _) c14
    · intro i x hi hx ih
      subst hx
      refine r_iload_n (pc := 9) C dX10_confidence_9 rfl ?_
      refine r_aload_n (pc := 10) C dX10_confidence_10 rfl ?_
      refine r_getI (pc := 11) C dX10_confidence_11 fx_RX10_16 (by assumption) ?_
      rw [show sI (mkS S mo f) 1109 mo = nI n from hn]
      refine r_icmp_ge (pc := 14) (tgt := 49) C dX10_confidence_14 (by decide) (fun c14 => ?_) (fun c14 => ?_)
      · exact absurd c14 (nI_ge hi (by omega))
      · refine r_iload_n (pc := 17) C dX10_confidence_17 rfl ?_
        refine r_aload_n (pc := 18) C dX10_confidence_18 rfl ?_
        refine r_getR (pc := 19) C dX10_confidence_19 fx_RX10_52 (by assumption) (by first | assumption | rfl) ?_
        refine r_iload_n (pc := 22) C dX10_confidence_22 rfl ?_
        refine r_zald (pc := 23) C dX10_confidence_23 (by assumption) (by decide) (by assumption) (by first | assumption | exact vp_in_nI (by omega) (by omega)) (by first | exact nI_clamp (by omega) | rfl) ?_
        rw [aI_pI, hf _ (by omega)]
        refine r_if_eq (pc := 24) (tgt := 40) C dX10_confidence_24 (by decide) (fun c24 => ?_) (fun c24 => ?_)
        · rw [bi_0] at c24
          refine r_iconst (pc := 40) C (nI 0) dX10_confidence_40 rfl ?_
          refine r_iadd (pc := 41) C dX10_confidence_41 ?_
          try simp only [nI_add, pk_mul]
          refine r_istore_n (pc := 42) C dX10_confidence_42 (by decide) rfl ?_
          refine r_iinc (pc := 43) C _ dX10_confidence_43 rfl (nI_1 _) (by decide) rfl ?_
          refine r_goto (pc := 46) (tgt := 9) C dX10_confidence_46 (by decide) ?_
          refine r_lv C [(0, vr (some mo)), (1, vi (nI t)), (2, vi _), (3, vi (nI (i + 1)))] rfl (ih _ ?_)
          simp_all [cntU, chitB]
        · rw [bi_0] at c24
          refine r_aload_n (pc := 27) C dX10_confidence_27 rfl ?_
          refine r_getR (pc := 28) C dX10_confidence_28 fx_RX10_33 (by assumption) (by first | assumption | rfl) ?_
          refine r_iload_n (pc := 31) C dX10_confidence_31 rfl ?_
          refine r_zald (pc := 32) C dX10_confidence_32 (by assumption) (by decide) (by assumption) (by first | assumption | exact vp_in_nI (by omega) (by omega)) (by first | exact nI_clamp (by omega) | rfl) ?_
          rw [hV.em 14 (by decide)]
          refine r_if_eq (pc := 33) (tgt := 40) C dX10_confidence_33 (by decide) (fun c33 => ?_) (fun c33 => ?_)
          · refine r_iconst (pc := 40) C (nI 0) dX10_confidence_40 rfl ?_
            refine r_iadd (pc := 41) C dX10_confidence_41 ?_
            try simp only [nI_add, pk_mul]
            refine r_istore_n (pc := 42) C dX10_confidence_42 (by decide) rfl ?_
            refine r_iinc (pc := 43) C _ dX10_confidence_43 rfl (nI_1 _) (by decide) rfl ?_
            refine r_goto (pc := 46) (tgt := 9) C dX10_confidence_46 (by decide) ?_
            refine r_lv C [(0, vr (some mo)), (1, vi (nI t)), (2, vi _), (3, vi (nI (i + 1)))] rfl (ih _ ?_)
            simp_all [cntU, chitB]
          · refine r_iconst (pc := 36) C (nI 1) dX10_confidence_36 rfl ?_
            refine r_goto (pc := 37) (tgt := 41) C dX10_confidence_37 (by decide) ?_
            refine r_iadd (pc := 41) C dX10_confidence_41 ?_
            try simp only [nI_add, pk_mul]
            refine r_istore_n (pc := 42) C dX10_confidence_42 (by decide) rfl ?_
            refine r_iinc (pc := 43) C _ dX10_confidence_43 rfl (nI_1 _) (by decide) rfl ?_
            refine r_goto (pc := 46) (tgt := 9) C dX10_confidence_46 (by decide) ?_
            refine r_lv C [(0, vr (some mo)), (1, vi (nI t)), (2, vi _), (3, vi (nI (i + 1)))] rfl (ih _ ?_)
            simp_all [cntU, chitB]
  refine r_aload_n (pc := 0) C dX10_confidence_0 rfl ?_
  refine r_iload_n (pc := 1) C dX10_confidence_1 rfl ?_
  refine r_callV (pc := 2) C (cm_markDescendants hV ht) iX10_markDescendants ml_RX10_262 dX10_confidence_2 (ci := 11) rfl rfl (by assumption) rfl (by decide) rfl (by simp [cv, Value.category, va_rf]) (by omega) (by omega) (fun r2 S2 h2 => ?_)
  obtain ⟨rfl, f0, rfl, hf0⟩ := h2
  dsimp only [Option.toList, List.cons_append, List.nil_append]
  refine r_iconst (pc := 5) C (nI 0) dX10_confidence_5 rfl ?_
  refine r_istore_n (pc := 6) C dX10_confidence_6 (by decide) rfl ?_
  refine r_iconst (pc := 7) C (nI 0) dX10_confidence_7 rfl ?_
  refine r_istore_n (pc := 8) C dX10_confidence_8 (by decide) rfl ?_
  exact r_lv C [(0, vr (some mo)), (1, vi (nI t)), (2, vi _), (3, vi (nI 0))] rfl (L f0 hf0 0 _ (by omega) rfl)
end Marks2
