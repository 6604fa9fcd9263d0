/-! The reference: what can be accepted, rivals -/
/-- less, as a bit -/
def dlt (x y : Int32) : Bool := decide (x < y)
theorem dlt_t {x y : Int32} (h : x < y) : dlt x y = true := decide_eq_true h
theorem dlt_f {x y : Int32} (h : y ≤ x) : dlt x y = false := decide_eq_false (Int32.not_lt.mpr h)
def need (M : MM) (n h : Nat) (b1 b2 : Int32) (s : Nat) : Int32 := if mbs M n h s = 1 then b1 else b2
def acp (M : MM) (n h : Nat) (b1 b2 : Int32) (t : Nat) : Bool :=
  ((decide (M 13 t = nI 2) && liked M n t) && allU (fun i => decide (M 13 (par M n t i) = nI 3)) (nP (M 11) t)) && allU (fun i => decide (M 23 (out M n t i) = nI t) && !dlt (M 24 (out M n t i)) (need M n h b1 b2 (out M n t i))) (nX (M 11) t)
def rvl (M : MM) (n t o : Nat) : Bool := anyU (fun i => !decide (o = t) && inS M n o (out M n t i)) (nX (M 11) t)
def goL (M : MM) (n t : Nat) : Nat → (Nat → Bool)
  | 0 => fun _ => false
  | k + 1 => if k = 0 then (fun _ => false) else fun a => if a = hdN M k then (rvl M n t (hdN M k) || anyU (fun i => goL M n t k (par M n (hdN M k) i)) (nP (M 11) (hdN M k))) else goL M n t k a
def rrL (M : MM) (n h : Nat) (go : Nat → Bool) : Nat → MM
  | 0 => M
  | k + 1 => if k = 0 then M else if go (hdN M k) && decide (rrL M n h go k 13 (hdN M k) = nI 2) then rej (rrL M n h go k) n h (hdN M k) else rrL M n h go k
def rr (M : MM) (n h t : Nat) : MM := rrL M n h (goL M n t h) h
theorem rej_sm {M : MM} {n h t : Nat} : Sm M (rej M n h t) := rejL_sm _
theorem rrL_sm {M : MM} {n h : Nat} {go : Nat → Bool} : ∀ k, Sm M (rrL M n h go k)
  | 0 => Sm.rf
  | k + 1 => by
    have ih := rrL_sm (M := M) (n := n) (h := h) (go := go) k
    simp only [rrL]
    split
    · exact Sm.rf
    · split
      · exact ih.tr rej_sm
      · exact ih
theorem cntU_lt {f : Nat → Bool} {n : Nat} : cntU f n < n + 1 := Nat.lt_succ_of_le cntU_le
section Accept
variable {l : Launch} {g : GG} {S : hS} {mo : Nat} {M : MM} {n h : Nat}
theorem cm_isAcceptable {t : Nat} (hV : MV S mo M n h) (ht : Ht M n t) : Sp l g mX10_isAcceptable 0 0 [vr (some mo), vi (nI t)] S (fun r S' => r = some (vi (bi (acp M n h (Gs S mo 4) (Gs S mo 5) t))) ∧ S' = S) := by
  have hG := hV.G
  have hn2 := hG.1
  have hh2 := hG.2.1
  have htn := ht.1
  have hR := hV.R ht.1
  have hx4 := hR.2.2.1
  have hp4 := hR.2.1
  have ht140 := hR.1
  have hC0 : Gch S S mo (Gs S mo) := Gc.rf
  refine Sp.start (own := RX10) [(0, vr (some mo)), (1, vi (nI t))] (by decide +kernel) rfl rfl (Nat.le_of_ble_eq_true rfl) ?_
  intro J C
  have L2 : ∀ i x, i ≤ nX (M 11) t → x = bi (((decide (M 13 t = nI 2) && liked M n t) && allU (fun i => decide (M 13 (par M n t i) = nI 3)) (nP (M 11) t)) && allU (fun i => decide (M 23 (out M n t i) = nI t) && !dlt (M 24 (out M n t i)) (need M n h (Gs S mo 4) (Gs S mo 5) (out M n t i))) i) → J 72 [(0, vr (some mo)), (1, vi (nI t)), (2, vi x), (3, vi (nI i))] [] S 0 0 := by
    refine up_loop _ _ _ ?_ ?_
    · intro x hx
      refine r_iload_n (pc := 72) C dX10_isAcceptable_72 rfl ?_
      refine r_aload_n (pc := 73) C dX10_isAcceptable_73 rfl ?_
      refine r_iload_n (pc := 74) C dX10_isAcceptable_74 rfl ?_
      refine r_callV (pc := 75) C (mv_inputsOf hV htn) iX10_inputsOf ml_RX10_188 dX10_isAcceptable_75 (ci := 11) rfl rfl hV.1.1 rfl (by decide) rfl (by simp [cv, Value.category, va_rf]) (by omega) (by omega) (fun r75 S75 h75 => ?_)
      obtain ⟨rfl, e75⟩ := h75
      subst S75
      dsimp only [Option.toList, List.cons_append, List.nil_append]
      refine r_icmp_ge (pc := 78) (tgt := 147) C dX10_isAcceptable_78 (by decide) (fun c78 => ?_) (fun c78 => ?_)
      · refine r_iload_n (pc := 147) C dX10_isAcceptable_147 rfl ?_
        refine r_zret (pc := 148) C dX10_isAcceptable_148 rfl (by rw [hx]; exact bi_01 _) (by omega) (by omega) ?_
        subst hx; exact ⟨rfl, rfl⟩
      · exact absurd (Int32.le_refl _) c78
    · intro i x hi hx ih
      have ho := ht.out_lt hG hi
      have hmb : mbs M n h (out M n t i) ≤ h := cntU_le
      subst hx
      refine r_iload_n (pc := 72) C dX10_isAcceptable_72 rfl ?_
      refine r_aload_n (pc := 73) C dX10_isAcceptable_73 rfl ?_
      refine r_iload_n (pc := 74) C dX10_isAcceptable_74 rfl ?_
      refine r_callV (pc := 75) C (mv_inputsOf hV htn) iX10_inputsOf ml_RX10_188 dX10_isAcceptable_75 (ci := 11) rfl rfl hV.1.1 rfl (by decide) rfl (by simp [cv, Value.category, va_rf]) (by omega) (by omega) (fun r75 S75 h75 => ?_)
      obtain ⟨rfl, e75⟩ := h75
      subst S75
      dsimp only [Option.toList, List.cons_append, List.nil_append]
      refine r_icmp_ge (pc := 78) (tgt := 147) C dX10_isAcceptable_78 (by decide) (fun c78 => ?_) (fun c78 => ?_)
      · exact absurd c78 (nI_ge hi (by omega))
      · refine r_aload_n (pc := 81) C dX10_isAcceptable_81 rfl ?_
        refine r_iload_n (pc := 82) C dX10_isAcceptable_82 rfl ?_
        refine r_iload_n (pc := 83) C dX10_isAcceptable_83 rfl ?_
        refine r_callV (pc := 84) C (cm_outputOf hV ht hi) iX10_outputOf ml_RX10_255 dX10_isAcceptable_84 (ci := 11) rfl rfl hV.1.1 rfl (by decide) rfl (by simp [cv, Value.category, va_rf]) (by omega) (by omega) (fun r84 S84 h84 => ?_)
        obtain ⟨rfl, e84⟩ := h84
        subst S84
        dsimp only [Option.toList, List.cons_append, List.nil_append]
        refine r_istore (pc := 87) C dX10_isAcceptable_87 (by decide) rfl ?_
        refine r_iload_n (pc := 89) C dX10_isAcceptable_89 rfl ?_
        refine r_if_eq (pc := 90) (tgt := 139) C dX10_isAcceptable_90 (by decide) (fun c90 => ?_) (fun c90 => ?_)
        · rw [bi_0] at c90
          refine r_iconst (pc := 139) C (nI 0) dX10_isAcceptable_139 rfl ?_
          refine r_istore_n (pc := 140) C dX10_isAcceptable_140 (by decide) rfl ?_
          refine r_iinc (pc := 141) C _ dX10_isAcceptable_141 rfl (nI_1 _) (by decide) rfl ?_
          refine r_goto (pc := 144) (tgt := 72) C dX10_isAcceptable_144 (by decide) ?_
          refine r_lv C [(0, vr (some mo)), (1, vi (nI t)), (2, vi _), (3, vi (nI (i + 1)))] rfl (ih _ ?_)
          simp only [allU]
          generalize hQ : ((decide (M 13 t = nI 2) && liked M n t) && allU (fun i => decide (M 13 (par M n t i) = nI 3)) (nP (M 11) t)) = q at *
          generalize hA : allU (fun i => decide (M 23 (out M n t i) = nI t) && !dlt (M 24 (out M n t i)) (need M n h (Gs S mo 4) (Gs S mo 5) (out M n t i))) i = q2 at *
          cases q <;> cases q2 <;> simp_all [need, bi_t, bi_f, dlt_t, dlt_f]
        · rw [bi_0] at c90
          refine r_aload_n (pc := 93) C dX10_isAcceptable_93 rfl ?_
          refine r_mA (pc := 94) C hV dX10_isAcceptable_94 fx_RX10_61 (len := 564) (by decide) ?_
          refine r_iload (pc := 97) C dX10_isAcceptable_97 rfl ?_
          refine r_mL (pc := 99) C hV dX10_isAcceptable_99 (k := 23) (len := 564) (by decide) (by decide) (by decide) (by omega) (by decide) ?_
          refine r_iload_n (pc := 100) C dX10_isAcceptable_100 rfl ?_
          refine r_icmp_ne (pc := 101) (tgt := 139) C dX10_isAcceptable_101 (by decide) (fun c101 => ?_) (fun c101 => ?_)
          · refine r_iconst (pc := 139) C (nI 0) dX10_isAcceptable_139 rfl ?_
            refine r_istore_n (pc := 140) C dX10_isAcceptable_140 (by decide) rfl ?_
            refine r_iinc (pc := 141) C _ dX10_isAcceptable_141 rfl (nI_1 _) (by decide) rfl ?_
            refine r_goto (pc := 144) (tgt := 72) C dX10_isAcceptable_144 (by decide) ?_
            refine r_lv C [(0, vr (some mo)), (1, vi (nI t)), (2, vi _), (3, vi (nI (i + 1)))] rfl (ih _ ?_)
            simp only [allU]
            generalize hQ : ((decide (M 13 t = nI 2) && liked M n t) && allU (fun i => decide (M 13 (par M n t i) = nI 3)) (nP (M 11) t)) = q at *
            generalize hA : allU (fun i => decide (M 23 (out M n t i) = nI t) && !dlt (M 24 (out M n t i)) (need M n h (Gs S mo 4) (Gs S mo 5) (out M n t i))) i = q2 at *
            cases q <;> cases q2 <;> simp_all [need, bi_t, bi_f, dlt_t, dlt_f]
          · refine r_aload_n (pc := 104) C dX10_isAcceptable_104 rfl ?_
            refine r_mA (pc := 105) C hV dX10_isAcceptable_105 fx_RX10_64 (len := 564) (by decide) ?_
            refine r_iload (pc := 108) C dX10_isAcceptable_108 rfl ?_
            refine r_mL (pc := 110) C hV dX10_isAcceptable_110 (k := 24) (len := 564) (by decide) (by decide) (by decide) (by omega) (by decide) ?_
            refine r_aload_n (pc := 111) C dX10_isAcceptable_111 rfl ?_
            refine r_iload (pc := 112) C dX10_isAcceptable_112 rfl ?_
            refine r_callV (pc := 114) C (cm_membersOf hV (by omega)) iX10_membersOf ml_RX10_268 dX10_isAcceptable_114 (ci := 11) rfl rfl hV.1.1 rfl (by decide) rfl (by simp [cv, Value.category, va_rf]) (by omega) (by omega) (fun r114 S114 h114 => ?_)
            obtain ⟨rfl, e114⟩ := h114
            subst S114
            dsimp only [Option.toList, List.cons_append, List.nil_append]
            refine r_iconst (pc := 117) C (nI 1) dX10_isAcceptable_117 rfl ?_
            refine r_icmp_ne (pc := 118) (tgt := 128) C dX10_isAcceptable_118 (by decide) (fun c118 => ?_) (fun c118 => ?_)
            · rw [nI_eq (b := 1) (by omega) (by omega)] at c118
              refine r_aload_n (pc := 128) C dX10_isAcceptable_128 rfl ?_
              refine r_mI (pc := 129) (k := 5) C hV dX10_isAcceptable_129 fx_RX10_131 ?_
              refine r_icmp_lt (pc := 132) (tgt := 139) C dX10_isAcceptable_132 (by decide) (fun c132 => ?_) (fun c132 => ?_)
              · refine r_iconst (pc := 139) C (nI 0) dX10_isAcceptable_139 rfl ?_
                refine r_istore_n (pc := 140) C dX10_isAcceptable_140 (by decide) rfl ?_
                refine r_iinc (pc := 141) C _ dX10_isAcceptable_141 rfl (nI_1 _) (by decide) rfl ?_
                refine r_goto (pc := 144) (tgt := 72) C dX10_isAcceptable_144 (by decide) ?_
                refine r_lv C [(0, vr (some mo)), (1, vi (nI t)), (2, vi _), (3, vi (nI (i + 1)))] rfl (ih _ ?_)
                simp only [allU]
                generalize hQ : ((decide (M 13 t = nI 2) && liked M n t) && allU (fun i => decide (M 13 (par M n t i) = nI 3)) (nP (M 11) t)) = q at *
                generalize hA : allU (fun i => decide (M 23 (out M n t i) = nI t) && !dlt (M 24 (out M n t i)) (need M n h (Gs S mo 4) (Gs S mo 5) (out M n t i))) i = q2 at *
                cases q <;> cases q2 <;> simp_all [need, bi_t, bi_f, dlt_t, dlt_f]
              · refine r_iconst (pc := 135) C (nI 1) dX10_isAcceptable_135 rfl ?_
                refine r_goto (pc := 136) (tgt := 140) C dX10_isAcceptable_136 (by decide) ?_
                refine r_istore_n (pc := 140) C dX10_isAcceptable_140 (by decide) rfl ?_
                refine r_iinc (pc := 141) C _ dX10_isAcceptable_141 rfl (nI_1 _) (by decide) rfl ?_
                refine r_goto (pc := 144) (tgt := 72) C dX10_isAcceptable_144 (by decide) ?_
                refine r_lv C [(0, vr (some mo)), (1, vi (nI t)), (2, vi _), (3, vi (nI (i + 1)))] rfl (ih _ ?_)
                simp only [allU]
                generalize hQ : ((decide (M 13 t = nI 2) && liked M n t) && allU (fun i => decide (M 13 (par M n t i) = nI 3)) (nP (M 11) t)) = q at *
                generalize hA : allU (fun i => decide (M 23 (out M n t i) = nI t) && !dlt (M 24 (out M n t i)) (need M n h (Gs S mo 4) (Gs S mo 5) (out M n t i))) i = q2 at *
                cases q <;> cases q2 <;> simp_all [need, bi_t, bi_f, dlt_t, dlt_f]
            · rw [nI_eq (b := 1) (by omega) (by omega)] at c118
              refine r_aload_n (pc := 121) C dX10_isAcceptable_121 rfl ?_
              refine r_mI (pc := 122) (k := 4) C hV dX10_isAcceptable_122 fx_RX10_128 ?_
              refine r_goto (pc := 125) (tgt := 132) C dX10_isAcceptable_125 (by decide) ?_
              refine r_icmp_lt (pc := 132) (tgt := 139) C dX10_isAcceptable_132 (by decide) (fun c132 => ?_) (fun c132 => ?_)
              · refine r_iconst (pc := 139) C (nI 0) dX10_isAcceptable_139 rfl ?_
                refine r_istore_n (pc := 140) C dX10_isAcceptable_140 (by decide) rfl ?_
                refine r_iinc (pc := 141) C _ dX10_isAcceptable_141 rfl (nI_1 _) (by decide) rfl ?_
                refine r_goto (pc := 144) (tgt := 72) C dX10_isAcceptable_144 (by decide) ?_
                refine r_lv C [(0, vr (some mo)), (1, vi (nI t)), (2, vi _), (3, vi (nI (i + 1)))] rfl (ih _ ?_)
                simp only [allU]
                generalize hQ : ((decide (M 13 t = nI 2) && liked M n t) && allU (fun i => decide (M 13 (par M n t i) = nI 3)) (nP (M 11) t)) = q at *
                generalize hA : allU (fun i => decide (M 23 (out M n t i) = nI t) && !dlt (M 24 (out M n t i)) (need M n h (Gs S mo 4) (Gs S mo 5) (out M n t i))) i = q2 at *
                cases q <;> cases q2 <;> simp_all [need, bi_t, bi_f, dlt_t, dlt_f]
              · refine r_iconst (pc := 135) C (nI 1) dX10_isAcceptable_135 rfl ?_
                refine r_goto (pc := 136) (tgt := 140) C dX10_isAcceptable_136 (by decide) ?_
                refine r_istore_n (pc := 140) C dX10_isAcceptable_140 (by decide) rfl ?_
                refine r_iinc (pc := 141) C _ dX10_isAcceptable_141 rfl (nI_1 _) (by decide) rfl ?_
                refine r_goto (pc := 144) (tgt := 72) C dX10_isAcceptable_144 (by decide) ?_
                refine r_lv C [(0, vr (some mo)), (1, vi (nI t)), (2, vi _), (3, vi (nI (i + 1)))] rfl (ih _ ?_)
                simp only [allU]
                generalize hQ : ((decide (M 13 t = nI 2) && liked M n t) && allU (fun i => decide (M 13 (par M n t i) = nI 3)) (nP (M 11) t)) = q at *
                generalize hA : allU (fun i => decide (M 23 (out M n t i) = nI t) && !dlt (M 24 (out M n t i)) (need M n h (Gs S mo 4) (Gs S mo 5) (out M n t i))) i = q2 at *
                cases q <;> cases q2 <;> simp_all [need, bi_t, bi_f, dlt_t, dlt_f]
  have L1 : ∀ i x, i ≤ nP (M 11) t → x = bi ((decide (M 13 t = nI 2) && liked M n t) && allU (fun i => decide (M 13 (par M n t i) = nI 3)) i) → J 26 [(0, vr (some mo)), (1, vi (nI t)), (2, vi x), (3, vi (nI i))] [] S 0 0 := by
    refine up_loop _ _ _ ?_ ?_
    · intro x hx
      refine r_iload_n (pc := 26) C dX10_isAcceptable_26 rfl ?_
      refine r_aload_n (pc := 27) C dX10_isAcceptable_27 rfl ?_
      refine r_iload_n (pc := 28) C dX10_isAcceptable_28 rfl ?_
      refine r_callV (pc := 29) C (mv_parentsOf hV ht140) iX10_parentsOf ml_RX10_182 dX10_isAcceptable_29 (ci := 11) rfl rfl hV.1.1 rfl (by decide) rfl (by simp [cv, Value.category, va_rf]) (by omega) (by omega) (fun r29 S29 h29 => ?_)
      obtain ⟨rfl, e29⟩ := h29
      subst S29
      dsimp only [Option.toList, List.cons_append, List.nil_append]
      refine r_icmp_ge (pc := 32) (tgt := 70) C dX10_isAcceptable_32 (by decide) (fun c32 => ?_) (fun c32 => ?_)
      · refine r_iconst (pc := 70) C (nI 0) dX10_isAcceptable_70 rfl ?_
        refine r_istore_n (pc := 71) C dX10_isAcceptable_71 (by decide) rfl ?_
        refine r_lv C [(0, vr (some mo)), (1, vi (nI t)), (2, vi _), (3, vi (nI 0))] rfl (L2 0 _ (by omega) ?_)
        simp [allU, hx]
      · exact absurd (Int32.le_refl _) c32
    · intro i x hi hx ih
      have hpl := ht.par_lt hi
      subst hx
      refine r_iload_n (pc := 26) C dX10_isAcceptable_26 rfl ?_
      refine r_aload_n (pc := 27) C dX10_isAcceptable_27 rfl ?_
      refine r_iload_n (pc := 28) C dX10_isAcceptable_28 rfl ?_
      refine r_callV (pc := 29) C (mv_parentsOf hV ht140) iX10_parentsOf ml_RX10_182 dX10_isAcceptable_29 (ci := 11) rfl rfl hV.1.1 rfl (by decide) rfl (by simp [cv, Value.category, va_rf]) (by omega) (by omega) (fun r29 S29 h29 => ?_)
      obtain ⟨rfl, e29⟩ := h29
      subst S29
      dsimp only [Option.toList, List.cons_append, List.nil_append]
      refine r_icmp_ge (pc := 32) (tgt := 70) C dX10_isAcceptable_32 (by decide) (fun c32 => ?_) (fun c32 => ?_)
      · exact absurd c32 (nI_ge hi (by omega))
      · refine r_iload_n (pc := 35) C dX10_isAcceptable_35 rfl ?_
        refine r_if_eq (pc := 36) (tgt := 62) C dX10_isAcceptable_36 (by decide) (fun c36 => ?_) (fun c36 => ?_)
        · rw [bi_0] at c36
          refine r_iconst (pc := 62) C (nI 0) dX10_isAcceptable_62 rfl ?_
          refine r_istore_n (pc := 63) C dX10_isAcceptable_63 (by decide) rfl ?_
          refine r_iinc (pc := 64) C _ dX10_isAcceptable_64 rfl (nI_1 _) (by decide) rfl ?_
          refine r_goto (pc := 67) (tgt := 26) C dX10_isAcceptable_67 (by decide) ?_
          refine r_lv C [(0, vr (some mo)), (1, vi (nI t)), (2, vi _), (3, vi (nI (i + 1)))] rfl (ih _ ?_)
          simp only [allU]
          generalize hQ : (decide (M 13 t = nI 2) && liked M n t) = q at *
          generalize hA : allU (fun i => decide (M 13 (par M n t i) = nI 3)) i = q2 at *
          cases q <;> cases q2 <;> simp_all [bi_t, bi_f]
        · rw [bi_0] at c36
          refine r_aload_n (pc := 39) C dX10_isAcceptable_39 rfl ?_
          refine r_mA (pc := 40) C hV dX10_isAcceptable_40 fx_RX10_30 (len := 140) (by decide) ?_
          refine r_aload_n (pc := 43) C dX10_isAcceptable_43 rfl ?_
          refine r_aload_n (pc := 44) C dX10_isAcceptable_44 rfl ?_
          refine r_iload_n (pc := 45) C dX10_isAcceptable_45 rfl ?_
          refine r_iload_n (pc := 46) C dX10_isAcceptable_46 rfl ?_
          refine r_callV (pc := 47) C (mv_parentId hV ht140 (by omega)) iX10_parentId ml_RX10_224 dX10_isAcceptable_47 (ci := 11) rfl rfl hV.1.1 rfl (by decide) rfl (by simp [cv, Value.category, va_rf]) (by omega) (by omega) (fun r47 S47 h47 => ?_)
          obtain ⟨rfl, e47⟩ := h47
          subst S47
          dsimp only [Option.toList, List.cons_append, List.nil_append]
          refine r_callV (pc := 50) C (mv_findS hV (ht.2.1 i hi)) iX10_find ml_RX10_198 dX10_isAcceptable_50 (ci := 11) rfl rfl hV.1.1 rfl (by decide) rfl (by simp [cv, Value.category, va_rf]) (by omega) (by omega) (fun r50 S50 h50 => ?_)
          obtain ⟨rfl, e50⟩ := h50
          subst S50
          dsimp only [Option.toList, List.cons_append, List.nil_append]
          refine r_mL (pc := 53) C hV dX10_isAcceptable_53 (k := 13) (len := 140) (by decide) (by decide) (by decide) (by omega) (by decide) ?_
          refine r_iconst (pc := 54) C (nI 3) dX10_isAcceptable_54 rfl ?_
          refine r_icmp_ne (pc := 55) (tgt := 62) C dX10_isAcceptable_55 (by decide) (fun c55 => ?_) (fun c55 => ?_)
          · refine r_iconst (pc := 62) C (nI 0) dX10_isAcceptable_62 rfl ?_
            refine r_istore_n (pc := 63) C dX10_isAcceptable_63 (by decide) rfl ?_
            refine r_iinc (pc := 64) C _ dX10_isAcceptable_64 rfl (nI_1 _) (by decide) rfl ?_
            refine r_goto (pc := 67) (tgt := 26) C dX10_isAcceptable_67 (by decide) ?_
            refine r_lv C [(0, vr (some mo)), (1, vi (nI t)), (2, vi _), (3, vi (nI (i + 1)))] rfl (ih _ ?_)
            simp only [allU]
            generalize hQ : (decide (M 13 t = nI 2) && liked M n t) = q at *
            generalize hA : allU (fun i => decide (M 13 (par M n t i) = nI 3)) i = q2 at *
            cases q <;> cases q2 <;> simp_all [bi_t, bi_f]
          · refine r_iconst (pc := 58) C (nI 1) dX10_isAcceptable_58 rfl ?_
            refine r_goto (pc := 59) (tgt := 63) C dX10_isAcceptable_59 (by decide) ?_
            refine r_istore_n (pc := 63) C dX10_isAcceptable_63 (by decide) rfl ?_
            refine r_iinc (pc := 64) C _ dX10_isAcceptable_64 rfl (nI_1 _) (by decide) rfl ?_
            refine r_goto (pc := 67) (tgt := 26) C dX10_isAcceptable_67 (by decide) ?_
            refine r_lv C [(0, vr (some mo)), (1, vi (nI t)), (2, vi _), (3, vi (nI (i + 1)))] rfl (ih _ ?_)
            simp only [allU]
            generalize hQ : (decide (M 13 t = nI 2) && liked M n t) = q at *
            generalize hA : allU (fun i => decide (M 13 (par M n t i) = nI 3)) i = q2 at *
            cases q <;> cases q2 <;> simp_all [bi_t, bi_f]
  refine r_aload_n (pc := 0) C dX10_isAcceptable_0 rfl ?_
  refine r_mA (pc := 1) C hV dX10_isAcceptable_1 fx_RX10_30 (len := 140) (by decide) ?_
  refine r_iload_n (pc := 4) C dX10_isAcceptable_4 rfl ?_
  refine r_mL (pc := 5) C hV dX10_isAcceptable_5 (k := 13) (len := 140) (by decide) (by decide) (by decide) (by omega) (by decide) ?_
  refine r_iconst (pc := 6) C (nI 2) dX10_isAcceptable_6 rfl ?_
  refine r_icmp_ne (pc := 7) (tgt := 22) C dX10_isAcceptable_7 (by decide) (fun c7 => ?_) (fun c7 => ?_)
  · refine r_iconst (pc := 22) C (nI 0) dX10_isAcceptable_22 rfl ?_
    refine r_istore_n (pc := 23) C dX10_isAcceptable_23 (by decide) rfl ?_
    refine r_iconst (pc := 24) C (nI 0) dX10_isAcceptable_24 rfl ?_
    refine r_istore_n (pc := 25) C dX10_isAcceptable_25 (by decide) rfl ?_
    refine r_lv C [(0, vr (some mo)), (1, vi (nI t)), (2, vi _), (3, vi (nI 0))] rfl (L1 0 _ (by omega) ?_)
    simp_all [allU, bi_t, bi_f]
  · refine r_aload_n (pc := 10) C dX10_isAcceptable_10 rfl ?_
    refine r_iload_n (pc := 11) C dX10_isAcceptable_11 rfl ?_
    refine r_callV (pc := 12) C (cm_liked hV ht) iX10_isLiked ml_RX10_280 dX10_isAcceptable_12 (ci := 11) rfl rfl hV.1.1 rfl (by decide) rfl (by simp [cv, Value.category, va_rf]) (by omega) (by omega) (fun r12 S12 h12 => ?_)
    obtain ⟨rfl, e12⟩ := h12
    subst S12
    dsimp only [Option.toList, List.cons_append, List.nil_append]
    refine r_if_eq (pc := 15) (tgt := 22) C dX10_isAcceptable_15 (by decide) (fun c15 => ?_) (fun c15 => ?_)
    · rw [bi_0] at c15
      refine r_iconst (pc := 22) C (nI 0) dX10_isAcceptable_22 rfl ?_
      refine r_istore_n (pc := 23) C dX10_isAcceptable_23 (by decide) rfl ?_
      refine r_iconst (pc := 24) C (nI 0) dX10_isAcceptable_24 rfl ?_
      refine r_istore_n (pc := 25) C dX10_isAcceptable_25 (by decide) rfl ?_
      refine r_lv C [(0, vr (some mo)), (1, vi (nI t)), (2, vi _), (3, vi (nI 0))] rfl (L1 0 _ (by omega) ?_)
      simp_all [allU, bi_t, bi_f]
    · rw [bi_0] at c15
      refine r_iconst (pc := 18) C (nI 1) dX10_isAcceptable_18 rfl ?_
      refine r_goto (pc := 19) (tgt := 23) C dX10_isAcceptable_19 (by decide) ?_
      refine r_istore_n (pc := 23) C dX10_isAcceptable_23 (by decide) rfl ?_
      refine r_iconst (pc := 24) C (nI 0) dX10_isAcceptable_24 rfl ?_
      refine r_istore_n (pc := 25) C dX10_isAcceptable_25 (by decide) rfl ?_
      refine r_lv C [(0, vr (some mo)), (1, vi (nI t)), (2, vi _), (3, vi (nI 0))] rfl (L1 0 _ (by omega) ?_)
      simp_all [allU, bi_t, bi_f]
theorem cm_rejectRivals {t : Nat} (hV : MV S mo M n h) (ht : Ht M n t) (h1 : 1 ≤ h) : Sp l g mX10_rejectRivals 0 0 [vr (some mo), vi (nI t)] S (fun r S' => r = none ∧ Gc [20, 21] S S' mo (Gs S mo) ∧ MV S' mo (rr M n h t) n h) := by
  have hG := hV.G
  have hn2 := hG.1
  have hh2 := hG.2.1
  have htn := ht.1
  have hR := hV.R ht.1
  have hx4 := hR.2.2.1
  have hC0 : Gc [20, 21] S S mo (Gs S mo) := Gc.rf
  refine Sp.start (own := RX10) [(0, vr (some mo)), (1, vi (nI t))] (by decide +kernel) rfl rfl (Nat.le_of_ble_eq_true rfl) ?_
  intro J C
  have L3 : ∀ i S1, i ≤ h → (1 ≤ i ∧ Gc [20, 21] S S1 mo (Gs S mo) ∧ MV S1 mo (rrL M n h (goL M n t h) i) n h ∧ Bm (mI S1 mo 21) (goL M n t h)) → J 159 [(0, vr (some mo)), (1, vi (nI t)), (2, vi (nI i))] [] S1 0 0 := by
    refine up_loop _ _ _ ?_ ?_
    · intro S1 hS
      obtain ⟨hi1, hC1, hV1, hB⟩ := hS
      refine r_iload_n (pc := 159) C dX10_rejectRivals_159 rfl ?_
      refine r_aload_n (pc := 160) C dX10_rejectRivals_160 rfl ?_
      refine r_mh (pc := 161) C hV1 dX10_rejectRivals_161 fx_RX10_43 ?_
      refine r_icmp_ge (pc := 164) (tgt := 212) C dX10_rejectRivals_164 (by decide) (fun c164 => ?_) (fun c164 => ?_)
      · refine r_ret (pc := 212) C dX10_rejectRivals_212 rfl (by omega) (by omega) ?_
        exact ⟨rfl, hC1, hV1⟩
      · exact absurd (Int32.le_refl _) c164
    · intro i S1 hi hS ih
      obtain ⟨hi1, hC1, hV1, hB⟩ := hS
      have hsm := rrL_sm (M := M) (n := n) (h := h) (go := goL M n t h) i
      have hhd : hdN (rrL M n h (goL M n t h) i) i = hdN M i := by simp only [hdN, hsm.2.2]
      obtain ⟨e16, hti⟩ := hG.2.2.2 i hi
      have htn := hti.1
      have hi0 : ¬ i = 0 := by omega
      refine r_iload_n (pc := 159) C dX10_rejectRivals_159 rfl ?_
      refine r_aload_n (pc := 160) C dX10_rejectRivals_160 rfl ?_
      refine r_mh (pc := 161) C hV1 dX10_rejectRivals_161 fx_RX10_43 ?_
      refine r_icmp_ge (pc := 164) (tgt := 212) C dX10_rejectRivals_164 (by decide) (fun c164 => ?_) (fun c164 => ?_)
      · exact absurd c164 (nI_ge hi (by omega))
      · refine r_aload_n (pc := 167) C dX10_rejectRivals_167 rfl ?_
        refine r_mA (pc := 168) C hV1 dX10_rejectRivals_168 fx_RX10_55 (len := 140) (by decide) ?_
        refine r_aload_n (pc := 171) C dX10_rejectRivals_171 rfl ?_
        refine r_mA (pc := 172) C hV1 dX10_rejectRivals_172 fx_RX10_40 (len := 140) (by decide) ?_
        refine r_iload_n (pc := 175) C dX10_rejectRivals_175 rfl ?_
        refine r_mL (pc := 176) C hV1 dX10_rejectRivals_176 (k := 16) (len := 140) (by decide) (by decide) (by decide) (by omega) (by decide) ?_
        rw [hsm.2.2, e16]
        refine r_mkL (pc := 177) C hV1 dX10_rejectRivals_177 (k := 21) (by decide) (by omega) (hB _ (by omega)) ?_
        refine r_if_eq (pc := 178) (tgt := 206) C dX10_rejectRivals_178 (by decide) (fun c178 => ?_) (fun c178 => ?_)
        · rw [bi_0] at c178
          have hcc : (goL M n t h (hdN M i) && decide (rrL M n h (goL M n t h) i 13 (hdN M i) = nI 2)) = false := by rw [c178]; rfl
          refine r_iinc (pc := 206) C _ dX10_rejectRivals_206 rfl (nI_1 _) (by decide) rfl ?_
          refine r_goto (pc := 209) (tgt := 159) C dX10_rejectRivals_209 (by decide) ?_
          refine r_lv C [(0, vr (some mo)), (1, vi (nI t)), (2, vi (nI (i + 1)))] rfl (ih _ ⟨by omega, hC1, ?_, ?_⟩)
          · have hVV := hV1
            simp only [rrL, if_neg hi0, hcc, if_true, Bool.false_eq_true, if_false]
            exact hVV
          · first
              | exact hB
              | (intro a ha; rw [hCr.keep (k := 21) (by decide) (by decide) (by decide)]; exact hB a ha)
        · rw [bi_0] at c178
          refine r_aload_n (pc := 181) C dX10_rejectRivals_181 rfl ?_
          refine r_mA (pc := 182) C hV1 dX10_rejectRivals_182 fx_RX10_30 (len := 140) (by decide) ?_
          refine r_aload_n (pc := 185) C dX10_rejectRivals_185 rfl ?_
          refine r_mA (pc := 186) C hV1 dX10_rejectRivals_186 fx_RX10_40 (len := 140) (by decide) ?_
          refine r_iload_n (pc := 189) C dX10_rejectRivals_189 rfl ?_
          refine r_mL (pc := 190) C hV1 dX10_rejectRivals_190 (k := 16) (len := 140) (by decide) (by decide) (by decide) (by omega) (by decide) ?_
          rw [hsm.2.2, e16]
          refine r_mL (pc := 191) C hV1 dX10_rejectRivals_191 (k := 13) (len := 140) (by decide) (by decide) (by decide) (by omega) (by decide) ?_
          refine r_iconst (pc := 192) C (nI 2) dX10_rejectRivals_192 rfl ?_
          refine r_icmp_ne (pc := 193) (tgt := 206) C dX10_rejectRivals_193 (by decide) (fun c193 => ?_) (fun c193 => ?_)
          · have hcc : (goL M n t h (hdN M i) && decide (rrL M n h (goL M n t h) i 13 (hdN M i) = nI 2)) = false := by rw [decide_eq_false c193]; exact Bool.and_false _
            refine r_iinc (pc := 206) C _ dX10_rejectRivals_206 rfl (nI_1 _) (by decide) rfl ?_
            refine r_goto (pc := 209) (tgt := 159) C dX10_rejectRivals_209 (by decide) ?_
            refine r_lv C [(0, vr (some mo)), (1, vi (nI t)), (2, vi (nI (i + 1)))] rfl (ih _ ⟨by omega, hC1, ?_, ?_⟩)
            · have hVV := hV1
              simp only [rrL, if_neg hi0, hcc, if_true, Bool.false_eq_true, if_false]
              exact hVV
            · first
                | exact hB
                | (intro a ha; rw [hCr.keep (k := 21) (by decide) (by decide) (by decide)]; exact hB a ha)
          · have hcc : (goL M n t h (hdN M i) && decide (rrL M n h (goL M n t h) i 13 (hdN M i) = nI 2)) = true := by rw [decide_eq_true c193, Bool.and_true]; exact ts_nf c178
            refine r_aload_n (pc := 196) C dX10_rejectRivals_196 rfl ?_
            refine r_aload_n (pc := 197) C dX10_rejectRivals_197 rfl ?_
            refine r_mA (pc := 198) C hV1 dX10_rejectRivals_198 fx_RX10_40 (len := 140) (by decide) ?_
            refine r_iload_n (pc := 201) C dX10_rejectRivals_201 rfl ?_
            refine r_mL (pc := 202) C hV1 dX10_rejectRivals_202 (k := 16) (len := 140) (by decide) (by decide) (by decide) (by omega) (by decide) ?_
            rw [hsm.2.2, e16]
            refine r_callV (pc := 203) C (cm_reject hV1 (hti.sm hsm)) iX10_reject ml_RX10_271 dX10_rejectRivals_203 (ci := 11) rfl rfl hV1.1.1 rfl (by decide) rfl (by simp [cv, Value.category, va_rf]) (by omega) (by omega) (fun r203 S203 h203 => ?_)
            obtain ⟨rfl, hCr, hV203⟩ := h203
            have hC203 := hC1.trk hCr
            dsimp only [Option.toList, List.cons_append, List.nil_append]
            refine r_iinc (pc := 206) C _ dX10_rejectRivals_206 rfl (nI_1 _) (by decide) rfl ?_
            refine r_goto (pc := 209) (tgt := 159) C dX10_rejectRivals_209 (by decide) ?_
            refine r_lv C [(0, vr (some mo)), (1, vi (nI t)), (2, vi (nI (i + 1)))] rfl (ih _ ⟨by omega, hC203, ?_, ?_⟩)
            · have hVV := hV203
              simp only [rrL, if_neg hi0, hcc, if_true, Bool.false_eq_true, if_false]
              exact hVV
            · first
                | exact hB
                | (intro a ha; rw [hCr.keep (k := 21) (by decide) (by decide) (by decide)]; exact hB a ha)
  have L2c : ∀ k S1 o, k < h → 1 ≤ k → o = hdN M k → Gc [20, 21] S S1 mo (Gs S mo) → MV S1 mo M n h → Bm (mI S1 mo 21) (goL M n t k) → (∀ S2, Gc [20, 21] S S2 mo (Gs S mo) → MV S2 mo M n h → Bm (mI S2 mo 21) (goL M n t (k + 1)) → J 24 [(0, vr (some mo)), (1, vi (nI t)), (2, vi (nI (k + 1)))] [] S2 0 0) → ∀ i x, i ≤ nP (M 11) o → x = bi (rvl M n t o || anyU (fun i => goL M n t k (par M n o i)) i) → J 96 [(0, vr (some mo)), (1, vi (nI t)), (2, vi (nI k)), (3, vi (nI o)), (4, vi x), (5, vi (nI i))] [] S1 0 0 := by
    intro k S1 o hk hk1 ho hC1 hV1 hB kk
    obtain ⟨e16, hti⟩ := hG.2.2.2 k hk
    rw [← ho] at hti e16
    have hon := hti.1
    have hRo := hV.R hon
    have hp4 := hRo.2.1
    have ho140 := hRo.1
    refine up_loop _ _ _ ?_ ?_
    · intro x hx
      refine r_iload (pc := 96) C dX10_rejectRivals_96 rfl ?_
      refine r_aload_n (pc := 98) C dX10_rejectRivals_98 rfl ?_
      refine r_iload_n (pc := 99) C dX10_rejectRivals_99 rfl ?_
      refine r_callV (pc := 100) C (mv_parentsOf hV1 ho140) iX10_parentsOf ml_RX10_182 dX10_rejectRivals_100 (ci := 11) rfl rfl hV1.1.1 rfl (by decide) rfl (by simp [cv, Value.category, va_rf]) (by omega) (by omega) (fun r100 S100 h100 => ?_)
      obtain ⟨rfl, e100⟩ := h100
      subst S100
      dsimp only [Option.toList, List.cons_append, List.nil_append]
      refine r_icmp_ge (pc := 103) (tgt := 143) C dX10_rejectRivals_103 (by decide) (fun c103 => ?_) (fun c103 => ?_)
      · refine r_aload_n (pc := 143) C dX10_rejectRivals_143 rfl ?_
        refine r_mA (pc := 144) C hV1 dX10_rejectRivals_144 fx_RX10_55 (len := 140) (by decide) ?_
        refine r_iload_n (pc := 147) C dX10_rejectRivals_147 rfl ?_
        refine r_iload (pc := 148) C dX10_rejectRivals_148 rfl ?_
        refine r_mkS (pc := 150) C hV1 dX10_rejectRivals_150 (k := 21) (by decide) (by omega) (by rw [hx]; exact bi_01 _) (fun S150 hC150r hV150 hF150 => ?_)
        have hC150 := hC1.trk hC150r
        refine r_iinc (pc := 151) C _ dX10_rejectRivals_151 rfl (nI_1 _) (by decide) rfl ?_
        refine r_goto (pc := 154) (tgt := 24) C dX10_rejectRivals_154 (by decide) ?_
        refine r_lv C [(0, vr (some mo)), (1, vi (nI t)), (2, vi (nI (k + 1)))] rfl (kk _ hC150 hV150 ?_)
        intro a ha
        rw [hF150 21 (by decide), uk_s]
        simp only [goL, if_neg (show ¬ k = 0 by omega), ← ho]
        by_cases e : a = o
        · subst e; simp [upd, hx]
        · simp only [upd, if_neg e]; exact hB a ha
      · exact absurd (Int32.le_refl _) c103
    · intro i x hi hx ih
      have hpl := hti.par_lt hi
      subst hx
      refine r_iload (pc := 96) C dX10_rejectRivals_96 rfl ?_
      refine r_aload_n (pc := 98) C dX10_rejectRivals_98 rfl ?_
      refine r_iload_n (pc := 99) C dX10_rejectRivals_99 rfl ?_
      refine r_callV (pc := 100) C (mv_parentsOf hV1 ho140) iX10_parentsOf ml_RX10_182 dX10_rejectRivals_100 (ci := 11) rfl rfl hV1.1.1 rfl (by decide) rfl (by simp [cv, Value.category, va_rf]) (by omega) (by omega) (fun r100 S100 h100 => ?_)
      obtain ⟨rfl, e100⟩ := h100
      subst S100
      dsimp only [Option.toList, List.cons_append, List.nil_append]
      refine r_icmp_ge (pc := 103) (tgt := 143) C dX10_rejectRivals_103 (by decide) (fun c103 => ?_) (fun c103 => ?_)
      · exact absurd c103 (nI_ge hi (by omega))
      · refine r_iload (pc := 106) C dX10_rejectRivals_106 rfl ?_
        refine r_if_ne (pc := 108) (tgt := 130) C dX10_rejectRivals_108 (by decide) (fun c108 => ?_) (fun c108 => ?_)
        · rw [bi_0] at c108
          refine r_iconst (pc := 130) C (nI 1) dX10_rejectRivals_130 rfl ?_
          refine r_goto (pc := 131) (tgt := 135) C dX10_rejectRivals_131 (by decide) ?_
          refine r_istore (pc := 135) C dX10_rejectRivals_135 (by decide) rfl ?_
          refine r_iinc (pc := 137) C _ dX10_rejectRivals_137 rfl (nI_1 _) (by decide) rfl ?_
          refine r_goto (pc := 140) (tgt := 96) C dX10_rejectRivals_140 (by decide) ?_
          refine r_lv C [(0, vr (some mo)), (1, vi (nI t)), (2, vi (nI k)), (3, vi (nI o)), (4, vi _), (5, vi (nI (i + 1)))] rfl (ih _ ?_)
          simp only [anyU]
          generalize rvl M n t o = q at *
          generalize anyU (fun i => goL M n t k (par M n o i)) i = q2 at *
          cases q <;> cases q2 <;> simp_all [bi_t, bi_f]
        · rw [bi_0] at c108
          refine r_aload_n (pc := 111) C dX10_rejectRivals_111 rfl ?_
          refine r_mA (pc := 112) C hV1 dX10_rejectRivals_112 fx_RX10_55 (len := 140) (by decide) ?_
          refine r_aload_n (pc := 115) C dX10_rejectRivals_115 rfl ?_
          refine r_aload_n (pc := 116) C dX10_rejectRivals_116 rfl ?_
          refine r_iload_n (pc := 117) C dX10_rejectRivals_117 rfl ?_
          refine r_iload (pc := 118) C dX10_rejectRivals_118 rfl ?_
          refine r_callV (pc := 120) C (mv_parentId hV1 ho140 (by omega)) iX10_parentId ml_RX10_224 dX10_rejectRivals_120 (ci := 11) rfl rfl hV1.1.1 rfl (by decide) rfl (by simp [cv, Value.category, va_rf]) (by omega) (by omega) (fun r120 S120 h120 => ?_)
          obtain ⟨rfl, e120⟩ := h120
          subst S120
          dsimp only [Option.toList, List.cons_append, List.nil_append]
          refine r_callV (pc := 123) C (mv_findS hV1 (hti.2.1 i hi)) iX10_find ml_RX10_198 dX10_rejectRivals_123 (ci := 11) rfl rfl hV1.1.1 rfl (by decide) rfl (by simp [cv, Value.category, va_rf]) (by omega) (by omega) (fun r123 S123 h123 => ?_)
          obtain ⟨rfl, e123⟩ := h123
          subst S123
          dsimp only [Option.toList, List.cons_append, List.nil_append]
          refine r_mkL (pc := 126) C hV1 dX10_rejectRivals_126 (k := 21) (by decide) (by omega) (hB _ (by omega)) ?_
          refine r_if_eq (pc := 127) (tgt := 134) C dX10_rejectRivals_127 (by decide) (fun c127 => ?_) (fun c127 => ?_)
          · rw [bi_0] at c127
            refine r_iconst (pc := 134) C (nI 0) dX10_rejectRivals_134 rfl ?_
            refine r_istore (pc := 135) C dX10_rejectRivals_135 (by decide) rfl ?_
            refine r_iinc (pc := 137) C _ dX10_rejectRivals_137 rfl (nI_1 _) (by decide) rfl ?_
            refine r_goto (pc := 140) (tgt := 96) C dX10_rejectRivals_140 (by decide) ?_
            refine r_lv C [(0, vr (some mo)), (1, vi (nI t)), (2, vi (nI k)), (3, vi (nI o)), (4, vi _), (5, vi (nI (i + 1)))] rfl (ih _ ?_)
            simp only [anyU]
            generalize rvl M n t o = q at *
            generalize anyU (fun i => goL M n t k (par M n o i)) i = q2 at *
            cases q <;> cases q2 <;> simp_all [bi_t, bi_f]
          · rw [bi_0] at c127
            refine r_iconst (pc := 130) C (nI 1) dX10_rejectRivals_130 rfl ?_
            refine r_goto (pc := 131) (tgt := 135) C dX10_rejectRivals_131 (by decide) ?_
            refine r_istore (pc := 135) C dX10_rejectRivals_135 (by decide) rfl ?_
            refine r_iinc (pc := 137) C _ dX10_rejectRivals_137 rfl (nI_1 _) (by decide) rfl ?_
            refine r_goto (pc := 140) (tgt := 96) C dX10_rejectRivals_140 (by decide) ?_
            refine r_lv C [(0, vr (some mo)), (1, vi (nI t)), (2, vi (nI k)), (3, vi (nI o)), (4, vi _), (5, vi (nI (i + 1)))] rfl (ih _ ?_)
            simp only [anyU]
            generalize rvl M n t o = q at *
            generalize anyU (fun i => goL M n t k (par M n o i)) i = q2 at *
            cases q <;> cases q2 <;> simp_all [bi_t, bi_f]
  have L2b : ∀ k S1 o, k < h → 1 ≤ k → o = hdN M k → Gc [20, 21] S S1 mo (Gs S mo) → MV S1 mo M n h → Bm (mI S1 mo 21) (goL M n t k) → (∀ S2, Gc [20, 21] S S2 mo (Gs S mo) → MV S2 mo M n h → Bm (mI S2 mo 21) (goL M n t (k + 1)) → J 24 [(0, vr (some mo)), (1, vi (nI t)), (2, vi (nI (k + 1)))] [] S2 0 0) → ∀ i x, i ≤ nX (M 11) t → x = bi (anyU (fun i => !decide (o = t) && inS M n o (out M n t i)) i) → J 45 [(0, vr (some mo)), (1, vi (nI t)), (2, vi (nI k)), (3, vi (nI o)), (4, vi x), (5, vi (nI i))] [] S1 0 0 := by
    intro k S1 o hk hk1 ho hC1 hV1 hB kk
    obtain ⟨e16, hti⟩ := hG.2.2.2 k hk
    rw [← ho] at hti e16
    have hon := hti.1
    refine up_loop _ _ _ ?_ ?_
    · intro x hx
      refine r_iload (pc := 45) C dX10_rejectRivals_45 rfl ?_
      refine r_aload_n (pc := 47) C dX10_rejectRivals_47 rfl ?_
      refine r_iload_n (pc := 48) C dX10_rejectRivals_48 rfl ?_
      refine r_callV (pc := 49) C (mv_inputsOf hV1 htn) iX10_inputsOf ml_RX10_188 dX10_rejectRivals_49 (ci := 11) rfl rfl hV1.1.1 rfl (by decide) rfl (by simp [cv, Value.category, va_rf]) (by omega) (by omega) (fun r49 S49 h49 => ?_)
      obtain ⟨rfl, e49⟩ := h49
      subst S49
      dsimp only [Option.toList, List.cons_append, List.nil_append]
      refine r_icmp_ge (pc := 52) (tgt := 93) C dX10_rejectRivals_52 (by decide) (fun c52 => ?_) (fun c52 => ?_)
      · refine r_iconst (pc := 93) C (nI 0) dX10_rejectRivals_93 rfl ?_
        refine r_istore (pc := 94) C dX10_rejectRivals_94 (by decide) rfl ?_
        exact r_lv C [(0, vr (some mo)), (1, vi (nI t)), (2, vi (nI k)), (3, vi (nI o)), (4, vi x), (5, vi (nI 0))] rfl (L2c k S1 o hk hk1 ho hC1 hV1 hB kk 0 x (by omega) (by rw [hx]; simp [anyU, rvl]))
      · exact absurd (Int32.le_refl _) c52
    · intro i x hi hx ih
      have hol := ht.out_lt hG hi
      subst hx
      refine r_iload (pc := 45) C dX10_rejectRivals_45 rfl ?_
      refine r_aload_n (pc := 47) C dX10_rejectRivals_47 rfl ?_
      refine r_iload_n (pc := 48) C dX10_rejectRivals_48 rfl ?_
      refine r_callV (pc := 49) C (mv_inputsOf hV1 htn) iX10_inputsOf ml_RX10_188 dX10_rejectRivals_49 (ci := 11) rfl rfl hV1.1.1 rfl (by decide) rfl (by simp [cv, Value.category, va_rf]) (by omega) (by omega) (fun r49 S49 h49 => ?_)
      obtain ⟨rfl, e49⟩ := h49
      subst S49
      dsimp only [Option.toList, List.cons_append, List.nil_append]
      refine r_icmp_ge (pc := 52) (tgt := 93) C dX10_rejectRivals_52 (by decide) (fun c52 => ?_) (fun c52 => ?_)
      · exact absurd c52 (nI_ge hi (by omega))
      · refine r_iload (pc := 55) C dX10_rejectRivals_55 rfl ?_
        refine r_if_ne (pc := 57) (tgt := 80) C dX10_rejectRivals_57 (by decide) (fun c57 => ?_) (fun c57 => ?_)
        · rw [bi_0] at c57
          refine r_iconst (pc := 80) C (nI 1) dX10_rejectRivals_80 rfl ?_
          refine r_goto (pc := 81) (tgt := 85) C dX10_rejectRivals_81 (by decide) ?_
          refine r_istore (pc := 85) C dX10_rejectRivals_85 (by decide) rfl ?_
          refine r_iinc (pc := 87) C _ dX10_rejectRivals_87 rfl (nI_1 _) (by decide) rfl ?_
          refine r_goto (pc := 90) (tgt := 45) C dX10_rejectRivals_90 (by decide) ?_
          refine r_lv C [(0, vr (some mo)), (1, vi (nI t)), (2, vi (nI k)), (3, vi (nI o)), (4, vi _), (5, vi (nI (i + 1)))] rfl (ih _ ?_)
          simp only [anyU]
          generalize anyU (fun i => !decide (o = t) && inS M n o (out M n t i)) i = q2 at *
          cases q2 <;> simp_all [bi_t, bi_f]
        · rw [bi_0] at c57
          refine r_iload_n (pc := 60) C dX10_rejectRivals_60 rfl ?_
          refine r_iload_n (pc := 61) C dX10_rejectRivals_61 rfl ?_
          refine r_icmp_eq (pc := 62) (tgt := 84) C dX10_rejectRivals_62 (by decide) (fun c62 => ?_) (fun c62 => ?_)
          · rw [nI_eq (by omega) (by omega)] at c62
            refine r_iconst (pc := 84) C (nI 0) dX10_rejectRivals_84 rfl ?_
            refine r_istore (pc := 85) C dX10_rejectRivals_85 (by decide) rfl ?_
            refine r_iinc (pc := 87) C _ dX10_rejectRivals_87 rfl (nI_1 _) (by decide) rfl ?_
            refine r_goto (pc := 90) (tgt := 45) C dX10_rejectRivals_90 (by decide) ?_
            refine r_lv C [(0, vr (some mo)), (1, vi (nI t)), (2, vi (nI k)), (3, vi (nI o)), (4, vi _), (5, vi (nI (i + 1)))] rfl (ih _ ?_)
            simp only [anyU]
            generalize anyU (fun i => !decide (o = t) && inS M n o (out M n t i)) i = q2 at *
            cases q2 <;> simp_all [bi_t, bi_f]
          · rw [nI_eq (by omega) (by omega)] at c62
            refine r_aload_n (pc := 65) C dX10_rejectRivals_65 rfl ?_
            refine r_iload_n (pc := 66) C dX10_rejectRivals_66 rfl ?_
            refine r_aload_n (pc := 67) C dX10_rejectRivals_67 rfl ?_
            refine r_iload_n (pc := 68) C dX10_rejectRivals_68 rfl ?_
            refine r_iload (pc := 69) C dX10_rejectRivals_69 rfl ?_
            refine r_callV (pc := 71) C (cm_outputOf hV1 ht hi) iX10_outputOf ml_RX10_255 dX10_rejectRivals_71 (ci := 11) rfl rfl hV1.1.1 rfl (by decide) rfl (by simp [cv, Value.category, va_rf]) (by omega) (by omega) (fun r71 S71 h71 => ?_)
            obtain ⟨rfl, e71⟩ := h71
            subst S71
            dsimp only [Option.toList, List.cons_append, List.nil_append]
            refine r_callV (pc := 74) C (cm_isIn hV1 hti (by omega)) iX10_isIn ml_RX10_258 dX10_rejectRivals_74 (ci := 11) rfl rfl hV1.1.1 rfl (by decide) rfl (by simp [cv, Value.category, va_rf]) (by omega) (by omega) (fun r74 S74 h74 => ?_)
            obtain ⟨rfl, e74⟩ := h74
            subst S74
            dsimp only [Option.toList, List.cons_append, List.nil_append]
            refine r_if_eq (pc := 77) (tgt := 84) C dX10_rejectRivals_77 (by decide) (fun c77 => ?_) (fun c77 => ?_)
            · rw [bi_0] at c77
              refine r_iconst (pc := 84) C (nI 0) dX10_rejectRivals_84 rfl ?_
              refine r_istore (pc := 85) C dX10_rejectRivals_85 (by decide) rfl ?_
              refine r_iinc (pc := 87) C _ dX10_rejectRivals_87 rfl (nI_1 _) (by decide) rfl ?_
              refine r_goto (pc := 90) (tgt := 45) C dX10_rejectRivals_90 (by decide) ?_
              refine r_lv C [(0, vr (some mo)), (1, vi (nI t)), (2, vi (nI k)), (3, vi (nI o)), (4, vi _), (5, vi (nI (i + 1)))] rfl (ih _ ?_)
              simp only [anyU]
              generalize anyU (fun i => !decide (o = t) && inS M n o (out M n t i)) i = q2 at *
              cases q2 <;> simp_all [bi_t, bi_f]
            · rw [bi_0] at c77
              refine r_iconst (pc := 80) C (nI 1) dX10_rejectRivals_80 rfl ?_
              refine r_goto (pc := 81) (tgt := 85) C dX10_rejectRivals_81 (by decide) ?_
              refine r_istore (pc := 85) C dX10_rejectRivals_85 (by decide) rfl ?_
              refine r_iinc (pc := 87) C _ dX10_rejectRivals_87 rfl (nI_1 _) (by decide) rfl ?_
              refine r_goto (pc := 90) (tgt := 45) C dX10_rejectRivals_90 (by decide) ?_
              refine r_lv C [(0, vr (some mo)), (1, vi (nI t)), (2, vi (nI k)), (3, vi (nI o)), (4, vi _), (5, vi (nI (i + 1)))] rfl (ih _ ?_)
              simp only [anyU]
              generalize anyU (fun i => !decide (o = t) && inS M n o (out M n t i)) i = q2 at *
              cases q2 <;> simp_all [bi_t, bi_f]
  have L2 : ∀ k S1, k ≤ h → (1 ≤ k ∧ Gc [20, 21] S S1 mo (Gs S mo) ∧ MV S1 mo M n h ∧ Bm (mI S1 mo 21) (goL M n t k)) → J 24 [(0, vr (some mo)), (1, vi (nI t)), (2, vi (nI k))] [] S1 0 0 := by
    refine up_loop _ _ _ ?_ ?_
    · intro S1 hS
      obtain ⟨hk1, hC1, hV1, hB⟩ := hS
      refine r_iload_n (pc := 24) C dX10_rejectRivals_24 rfl ?_
      refine r_aload_n (pc := 25) C dX10_rejectRivals_25 rfl ?_
      refine r_mh (pc := 26) C hV1 dX10_rejectRivals_26 fx_RX10_43 ?_
      refine r_icmp_ge (pc := 29) (tgt := 157) C dX10_rejectRivals_29 (by decide) (fun c29 => ?_) (fun c29 => ?_)
      · refine r_iconst (pc := 157) C (nI 1) dX10_rejectRivals_157 rfl ?_
        refine r_istore_n (pc := 158) C dX10_rejectRivals_158 (by decide) rfl ?_
        exact r_lv C [(0, vr (some mo)), (1, vi (nI t)), (2, vi (nI 1))] rfl (L3 1 S1 h1 ⟨by omega, hC1, hV1, hB⟩)
      · exact absurd (Int32.le_refl _) c29
    · intro k S1 hk hS ih
      obtain ⟨hk1, hC1, hV1, hB⟩ := hS
      obtain ⟨e16, hti⟩ := hG.2.2.2 k hk
      refine r_iload_n (pc := 24) C dX10_rejectRivals_24 rfl ?_
      refine r_aload_n (pc := 25) C dX10_rejectRivals_25 rfl ?_
      refine r_mh (pc := 26) C hV1 dX10_rejectRivals_26 fx_RX10_43 ?_
      refine r_icmp_ge (pc := 29) (tgt := 157) C dX10_rejectRivals_29 (by decide) (fun c29 => ?_) (fun c29 => ?_)
      · exact absurd c29 (nI_ge hk (by omega))
      · refine r_aload_n (pc := 32) C dX10_rejectRivals_32 rfl ?_
        refine r_mA (pc := 33) C hV1 dX10_rejectRivals_33 fx_RX10_40 (len := 140) (by decide) ?_
        refine r_iload_n (pc := 36) C dX10_rejectRivals_36 rfl ?_
        refine r_mL (pc := 37) C hV1 dX10_rejectRivals_37 (k := 16) (len := 140) (by decide) (by decide) (by decide) (by omega) (by decide) ?_
        rw [e16]
        refine r_istore_n (pc := 38) C dX10_rejectRivals_38 (by decide) rfl ?_
        refine r_iconst (pc := 39) C (nI 0) dX10_rejectRivals_39 rfl ?_
        refine r_istore (pc := 40) C dX10_rejectRivals_40 (by decide) rfl ?_
        refine r_iconst (pc := 42) C (nI 0) dX10_rejectRivals_42 rfl ?_
        refine r_istore (pc := 43) C dX10_rejectRivals_43 (by decide) rfl ?_
        exact r_lv C [(0, vr (some mo)), (1, vi (nI t)), (2, vi (nI k)), (3, vi (nI (hdN M k))), (4, vi (nI 0)), (5, vi (nI 0))] rfl (L2b k S1 _ hk hk1 rfl hC1 hV1 hB (fun S2 a b c => ih S2 ⟨by omega, a, b, c⟩) 0 _ (by omega) rfl)
  have L1 : ∀ i S1, i ≤ 140 → (Gc [20, 21] S S1 mo (Gs S mo) ∧ MV S1 mo M n h ∧ ∀ a, a < i → mI S1 mo 21 a = nI 0) → J 2 [(0, vr (some mo)), (1, vi (nI t)), (2, vi (nI i))] [] S1 0 0 := by
    refine up_loop 140 _ _ ?_ ?_
    · intro S1 hS
      obtain ⟨hC1, hV1, hB⟩ := hS
      refine r_iload_n (pc := 2) C dX10_rejectRivals_2 rfl ?_
      refine r_sipush (pc := 3) C (nI 140) dX10_rejectRivals_3 rfl ?_
      refine r_icmp_ge (pc := 6) (tgt := 22) C dX10_rejectRivals_6 (by decide) (fun c6 => ?_) (fun c6 => ?_)
      · refine r_iconst (pc := 22) C (nI 1) dX10_rejectRivals_22 rfl ?_
        refine r_istore_n (pc := 23) C dX10_rejectRivals_23 (by decide) rfl ?_
        exact r_lv C [(0, vr (some mo)), (1, vi (nI t)), (2, vi (nI 1))] rfl (L2 1 S1 h1 ⟨by omega, hC1, hV1, fun a ha => by rw [hB a ha]; rfl⟩)
      · exact absurd (Int32.le_refl _) c6
    · intro i S1 hi hS ih
      obtain ⟨hC1, hV1, hB⟩ := hS
      refine r_iload_n (pc := 2) C dX10_rejectRivals_2 rfl ?_
      refine r_sipush (pc := 3) C (nI 140) dX10_rejectRivals_3 rfl ?_
      refine r_icmp_ge (pc := 6) (tgt := 22) C dX10_rejectRivals_6 (by decide) (fun c6 => ?_) (fun c6 => ?_)
      · exact absurd c6 (nI_ge hi (by omega))
      · refine r_aload_n (pc := 9) C dX10_rejectRivals_9 rfl ?_
        refine r_mA (pc := 10) C hV1 dX10_rejectRivals_10 fx_RX10_55 (len := 140) (by decide) ?_
        refine r_iload_n (pc := 13) C dX10_rejectRivals_13 rfl ?_
        refine r_iconst (pc := 14) C (nI 0) dX10_rejectRivals_14 rfl ?_
        refine r_mkS (pc := 15) C hV1 dX10_rejectRivals_15 (k := 21) (by decide) (by omega) (Or.inl rfl) (fun S15 hC15r hV15 hF15 => ?_)
        have hC15 := hC1.trk hC15r
        refine r_iinc (pc := 16) C _ dX10_rejectRivals_16 rfl (nI_1 _) (by decide) rfl ?_
        refine r_goto (pc := 19) (tgt := 2) C dX10_rejectRivals_19 (by decide) ?_
        refine r_lv C [(0, vr (some mo)), (1, vi (nI t)), (2, vi (nI (i + 1)))] rfl (ih _ ⟨hC15, hV15, ?_⟩)
        intro a ha
        rw [hF15 21 (by decide), uk_s]
        by_cases e : a = i
        · subst e; simp [upd]
        · simp only [upd, if_neg e]; exact hB a (by omega)
  refine r_iconst (pc := 0) C (nI 0) dX10_rejectRivals_0 rfl ?_
  refine r_istore_n (pc := 1) C dX10_rejectRivals_1 (by decide) rfl ?_
  exact r_lv C [(0, vr (some mo)), (1, vi (nI t)), (2, vi (nI 0))] rfl (L1 0 S (by omega) ⟨hC0, hV, fun a ha => absurd ha (by omega)⟩)
end Accept
