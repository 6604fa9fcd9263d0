/-! The reference: the best of a set, rejecting -/
def um (M : MM) (k i : Nat) (v : Int32) : MM := uk M k (upd (M k) i v)
theorem um_n {M : MM} {k j i : Nat} {v : Int32} (h : j ≠ k) : um M k i v j = M j := uk_n h
theorem um_s {M : MM} {k i : Nat} {v : Int32} : um M k i v k i = v := by simp [um, uk, upd]
theorem um_sn {M : MM} {k i j : Nat} {v : Int32} (h : j ≠ i) : um M k i v k j = M k j := by simp [um, uk, upd, h]
theorem gk_mks {k : Nat} (h : k ∈ gk) : k ∈ mks := by
  simp only [gk, List.mem_cons, List.not_mem_nil, or_false] at h
  rcases h with rfl | rfl | rfl | rfl | rfl | rfl | rfl | rfl | rfl | rfl | rfl <;> decide
theorem mkd_inj {k j : Nat} (hk : k ∈ mks) (hj : j ∈ mks) (h : mkd k = mkd j) : k = j := by
  have h1 := rk_mkd k hk
  rw [h, rk_mkd j hj] at h1
  exact (Option.some.inj h1).symm
theorem mI_put {S : hS} {mo k j : Nat} {f : Nat → Int32} (hk : k ∈ mks) (hj : j ∈ mks) : mI (putI S (mkd k) (ma S mo k) f) mo j = uk (mI S mo) k f j := by
  by_cases e : j = k
  · subst e
    rw [uk_s]
    exact aI_pI
  · rw [uk_n e]
    exact aI_ne (fun q => e (mkd_inj hj hk q))
def Gs (S : hS) (mo : Nat) : Nat → Int32 := fun k => sI S (1100 + k) mo
/-- the graph's arrays and those of E may have changed, the numbers are G -/
def Gc (E : List Nat) (S S' : hS) (mo : Nat) (G : Nat → Int32) : Prop := ∃ F : MM, S' = mput S mo F G (sJ S 1101 mo) ∧ ∀ k ∈ mks, k ∉ gk → k ∉ E → F k = mI S mo k
abbrev Gch (S S' : hS) (mo : Nat) (G : Nat → Int32) : Prop := Gc [20] S S' mo G
theorem Gc.rf {E : List Nat} {S : hS} {mo : Nat} : Gc E S S mo (Gs S mo) := ⟨mI S mo, (mput_self (fun _ _ => rfl)).symm, fun _ _ _ _ => rfl⟩
theorem Gc.tr {E E' : List Nat} {S S1 S2 : hS} {mo : Nat} {G1 G2 : Nat → Int32} (h1 : Gc E S S1 mo G1) (h2 : Gc E' S1 S2 mo G2) (hs : ∀ x ∈ E', x ∈ E := by decide) : Gc E S S2 mo G2 := by
  obtain ⟨F1, rfl, e1⟩ := h1
  obtain ⟨F2, rfl, e2⟩ := h2
  refine ⟨F2, ?_, fun k a b c => ?_⟩
  · rw [mput_mput, sJ_mput]
  · rw [e2 k a b (fun q => c (hs k q)), ← e1 k a b c]
    exact aI_mput a
theorem Gc.put {E : List Nat} {S : hS} {mo k : Nat} {f : Nat → Int32} (hm : k ∈ mks) (hk : k ∈ gk ∨ k ∈ E) : Gc E S (putI S (mkd k) (ma S mo k) f) mo (Gs S mo) := by
  refine ⟨uk (mI S mo) k f, ?_, fun j a b c => ?_⟩
  · have h := putI_mput (S := S) (mo := mo) (F := mI S mo) (G := Gs S mo) (X := sJ S 1101 mo) (f := f) hm
    rw [show mput S mo (mI S mo) (Gs S mo) (sJ S 1101 mo) = S from mput_self (fun _ _ => rfl)] at h
    exact h
  · refine uk_n (fun e => ?_)
    subst e
    rcases hk with h | h
    · exact b h
    · exact c h
theorem Gc.set {E : List Nat} {S : hS} {mo k : Nat} {v : Int32} : Gc E S (setI S (1100 + k) mo v) mo (upd (Gs S mo) k v) := by
  refine ⟨mI S mo, ?_, fun _ _ _ _ => rfl⟩
  have h := setI_mput (S := S) (mo := mo) (F := mI S mo) (G := Gs S mo) (X := sJ S 1101 mo) (k := k) (v := v)
  rw [show mput S mo (mI S mo) (Gs S mo) (sJ S 1101 mo) = S from mput_self (fun _ _ => rfl)] at h
  exact h
theorem Gc.gs {E : List Nat} {S S1 : hS} {mo : Nat} {G : Nat → Int32} (h : Gc E S S1 mo G) : Gs S1 mo = G := by
  obtain ⟨F, rfl, -⟩ := h
  funext k
  exact sI_mput
theorem Gc.keep {E : List Nat} {S S1 : hS} {mo k : Nat} {G : Nat → Int32} (h : Gc E S S1 mo G) (hk : k ∈ mks) (h1 : k ∉ gk) (h2 : k ∉ E) : mI S1 mo k = mI S mo k := by
  obtain ⟨F, rfl, e⟩ := h
  rw [← e k hk h1 h2]
  exact aI_mput hk
theorem Gc.trk {E E' : List Nat} {S S1 S2 : hS} {mo : Nat} {G : Nat → Int32} (h1 : Gc E S S1 mo G) (h2 : Gc E' S1 S2 mo (Gs S1 mo)) (hs : ∀ x ∈ E', x ∈ E := by decide) : Gc E S S2 mo G := by
  have h := h1.tr h2 hs
  rw [h1.gs] at h
  exact h
theorem Gc.trs {E E' : List Nat} {S S1 S2 : hS} {mo k : Nat} {v : Int32} {G : Nat → Int32} (h1 : Gc E S S1 mo G) (h2 : Gc E' S1 S2 mo (upd (Gs S1 mo) k v)) (hs : ∀ x ∈ E', x ∈ E := by decide) : Gc E S S2 mo (upd G k v) := by
  have h := h1.tr h2 hs
  rw [h1.gs] at h
  exact h
theorem MV.put {S : hS} {mo : Nat} {M : MM} {n h k i : Nat} {v : Int32} (hV : MV S mo M n h) (hk : k ∈ gk) (h1 : k ≠ 10) (h2 : k ≠ 11) (h3 : k ≠ 16) : MV (putI S (mkd k) (ma S mo k) (upd (M k) i v)) mo (um M k i v) n h := by
  refine ⟨hV.1, hV.2.1, hV.2.2.1, fun j hj => ?_, hV.G.sm ⟨um_n h1.symm, um_n h2.symm, um_n h3.symm⟩⟩
  rw [mI_put (gk_mks hk) (gk_mks hj)]
  by_cases e : j = k
  · subst e; simp only [um, uk_s]
  · rw [uk_n e, um_n e]; exact hV.2.2.2.1 j hj
theorem mkS_mkS {S : hS} {mo : Nat} {f f' : Nat → Int32} : mkS (mkS S mo f) mo f' = mkS S mo f' := pI_pI
theorem conf_le {M : MM} {n h t : Nat} : conf M n h t ≤ n := cntU_le
def bst (M : MM) (n h s : Nat) : Nat → Option Nat
  | 0 => none
  | k + 1 => if (!decide (M 13 (hdN M k) = nI 4)) && inS M n (hdN M k) s then (match bst M n h s k with
      | none => some (hdN M k)
      | some u => if conf M n h u < conf M n h (hdN M k) then some (hdN M k) else some u) else bst M n h s k
def bstC (M : MM) (n h : Nat) (o : Option Nat) : Nat := match o with
  | none => 0
  | some u => conf M n h u
def best (M : MM) (n h s : Nat) : Option Nat := bst M n h s h
theorem oI_lt {o : Option Nat} (h : ∀ u, o = some u → u < 1000) : oI o < 0 ↔ o = none := by
  cases o with
  | none => simp [oI]
  | some u => simp only [oI, reduceCtorEq, iff_false]; exact nI_pos (by have := h u rfl; omega)
theorem bst_lt {M : MM} {n h s : Nat} (hG : GV M n h) : ∀ k, k ≤ h → ∀ u, bst M n h s k = some u → u < n := by
  intro k
  induction k with
  | zero => intro _ u hu; cases hu
  | succ k ih =>
    intro hk u hu
    have h1 := (hG.2.2.2 k (by omega)).2.1
    simp only [bst] at hu
    split at hu
    · split at hu
      · cases hu; exact h1
      · next v hv => split at hu
                     · cases hu; exact h1
                     · cases hu; exact ih (by omega) _ hv
    · exact ih (by omega) _ hu
section Best
variable {l : Launch} {g : GG} {S : hS} {mo : Nat} {M : MM} {n h : Nat}
theorem cm_isLiked {t : Nat} (hV : MV S mo M n h) (ht : Ht M n t) : Sp l g mX10_isLiked 0 0 [vr (some mo), vi (nI t)] S (fun r S' => r = some (vi (bi (allU (fun i => decide (M 22 (out M n t i) = nI t)) (nX (M 11) t)))) ∧ S' = S) := by
  have hR := hV.R ht.1
  have hx4 := hR.2.2.1
  have hG := hV.G
  have hM := hV.1
  refine Sp.start (own := RX10) [(0, vr (some mo)), (1, vi (nI t))] (by decide +kernel) rfl rfl (Nat.le_of_ble_eq_true rfl) ?_
  intro J C
  have hmo := hM.1
  obtain ⟨h22, k22, n22⟩ := hM.2 22 564 (by decide)
  have L : ∀ i x, i ≤ nX (M 11) t → x = bi (allU (fun i => decide (M 22 (out M n t i) = nI t)) i) → J 4 [(0, vr (some mo)), (1, vi (nI t)), (2, vi x), (3, vi (nI i))] [] S 0 0 := by
    refine up_loop _ _ _ ?_ ?_
    · intro x hx
      refine r_iload_n (pc := 4) C dX10_isLiked_4 rfl ?_
      refine r_aload_n (pc := 5) C dX10_isLiked_5 rfl ?_
      refine r_iload_n (pc := 6) C dX10_isLiked_6 rfl ?_
      refine r_callV (pc := 7) C (mv_inputsOf hV ht.1) iX10_inputsOf ml_RX10_188 dX10_isLiked_7 (ci := 11) rfl rfl (by assumption) rfl (by decide) rfl (by simp [cv, Value.category, va_rf]) (by omega) (by omega) (fun r7 S7 h7 => ?_)
      obtain ⟨rfl, e7⟩ := h7
      subst S7
      dsimp only [Option.toList, List.cons_append, List.nil_append]
      refine r_icmp_ge (pc := 10) (tgt := 44) C dX10_isLiked_10 (by decide) (fun c10 => ?_) (fun c10 => ?_)
      · refine r_iload_n (pc := 44) C dX10_isLiked_44 rfl ?_
        refine r_zret (pc := 45) C dX10_isLiked_45 rfl (by rw [hx]; exact bi_01 _) (by omega) (by omega) ?_
        subst hx; exact ⟨rfl, rfl⟩
      · exact absurd (Int32.le_refl _) c10
    · intro i x hi hx ih
      have ho := ht.out_lt hG hi
      subst hx
      refine r_iload_n (pc := 4) C dX10_isLiked_4 rfl ?_
      refine r_aload_n (pc := 5) C dX10_isLiked_5 rfl ?_
      refine r_iload_n (pc := 6) C dX10_isLiked_6 rfl ?_
      refine r_callV (pc := 7) C (mv_inputsOf hV ht.1) iX10_inputsOf ml_RX10_188 dX10_isLiked_7 (ci := 11) rfl rfl (by assumption) rfl (by decide) rfl (by simp [cv, Value.category, va_rf]) (by omega) (by omega) (fun r7 S7 h7 => ?_)
      obtain ⟨rfl, e7⟩ := h7
      subst S7
      dsimp only [Option.toList, List.cons_append, List.nil_append]
      refine r_icmp_ge (pc := 10) (tgt := 44) C dX10_isLiked_10 (by decide) (fun c10 => ?_) (fun c10 => ?_)
      · exact absurd c10 (nI_ge hi (by omega))
      · refine r_iload_n (pc := 13) C dX10_isLiked_13 rfl ?_
        refine r_if_eq (pc := 14) (tgt := 36) C dX10_isLiked_14 (by decide) (fun c14 => ?_) (fun c14 => ?_)
        · refine r_iconst (pc := 36) C (nI 0) dX10_isLiked_36 rfl ?_
          refine r_istore_n (pc := 37) C dX10_isLiked_37 (by decide) rfl ?_
          refine r_iinc (pc := 38) C _ dX10_isLiked_38 rfl (nI_1 _) (by decide) rfl ?_
          refine r_goto (pc := 41) (tgt := 4) C dX10_isLiked_41 (by decide) ?_
          refine r_lv C [(0, vr (some mo)), (1, vi (nI t)), (2, vi _), (3, vi (nI (i + 1)))] rfl (ih _ ?_)
          simp_all [allU, bi_0, bi_t, bi_f]
        · refine r_aload_n (pc := 17) C dX10_isLiked_17 rfl ?_
          refine r_getR (pc := 18) C dX10_isLiked_18 fx_RX10_58 (by assumption) (by first | assumption | rfl) ?_
          refine r_aload_n (pc := 21) C dX10_isLiked_21 rfl ?_
          refine r_iload_n (pc := 22) C dX10_isLiked_22 rfl ?_
          refine r_iload_n (pc := 23) C dX10_isLiked_23 rfl ?_
          refine r_callV (pc := 24) C (cm_outputOf hV ht hi) iX10_outputOf ml_RX10_255 dX10_isLiked_24 (ci := 11) rfl rfl (by assumption) rfl (by decide) rfl (by simp [cv, Value.category, va_rf]) (by omega) (by omega) (fun r24 S24 h24 => ?_)
          obtain ⟨rfl, e24⟩ := h24
          subst S24
          dsimp only [Option.toList, List.cons_append, List.nil_append]
          refine r_iald (pc := 27) C dX10_isLiked_27 (by assumption) (by decide) (by assumption) (by first | assumption | exact vp_in_nI (by omega) (by omega)) (by first | exact nI_clamp (by omega) | rfl) ?_
          rw [hV.e 22 (by decide)]
          refine r_iload_n (pc := 28) C dX10_isLiked_28 rfl ?_
          refine r_icmp_ne (pc := 29) (tgt := 36) C dX10_isLiked_29 (by decide) (fun c29 => ?_) (fun c29 => ?_)
          · refine r_iconst (pc := 36) C (nI 0) dX10_isLiked_36 rfl ?_
            refine r_istore_n (pc := 37) C dX10_isLiked_37 (by decide) rfl ?_
            refine r_iinc (pc := 38) C _ dX10_isLiked_38 rfl (nI_1 _) (by decide) rfl ?_
            refine r_goto (pc := 41) (tgt := 4) C dX10_isLiked_41 (by decide) ?_
            refine r_lv C [(0, vr (some mo)), (1, vi (nI t)), (2, vi _), (3, vi (nI (i + 1)))] rfl (ih _ ?_)
            simp_all [allU, bi_0, bi_t, bi_f]
          · refine r_iconst (pc := 32) C (nI 1) dX10_isLiked_32 rfl ?_
            refine r_goto (pc := 33) (tgt := 37) C dX10_isLiked_33 (by decide) ?_
            refine r_istore_n (pc := 37) C dX10_isLiked_37 (by decide) rfl ?_
            refine r_iinc (pc := 38) C _ dX10_isLiked_38 rfl (nI_1 _) (by decide) rfl ?_
            refine r_goto (pc := 41) (tgt := 4) C dX10_isLiked_41 (by decide) ?_
            refine r_lv C [(0, vr (some mo)), (1, vi (nI t)), (2, vi _), (3, vi (nI (i + 1)))] rfl (ih _ ?_)
            simp_all [allU, bi_0, bi_t, bi_f]
  refine r_iconst (pc := 0) C (nI 1) dX10_isLiked_0 rfl ?_
  refine r_istore_n (pc := 1) C dX10_isLiked_1 (by decide) rfl ?_
  refine r_iconst (pc := 2) C (nI 0) dX10_isLiked_2 rfl ?_
  refine r_istore_n (pc := 3) C dX10_isLiked_3 (by decide) rfl ?_
  exact r_lv C [(0, vr (some mo)), (1, vi (nI t)), (2, vi _), (3, vi (nI 0))] rfl (L 0 _ (by omega) rfl)
theorem cm_bestOf {s : Nat} (hV : MV S mo M n h) (hs : s < 2000) : Sp l g mX10_bestOf 0 0 [vr (some mo), vi (nI s)] S (fun r S' => r = some (vi (oI (best M n h s))) ∧ ∃ f, S' = mkS S mo f) := by
  have hG := hV.G
  have hM := hV.1
  have hn2 := hG.1
  have hh2 := hG.2.1
  have hh := hV.2.2.1
  refine Sp.start (own := RX10) [(0, vr (some mo)), (1, vi (nI s))] (by decide +kernel) rfl rfl (Nat.le_of_ble_eq_true rfl) ?_
  intro J C
  have hmo := hM.1
  obtain ⟨h16, k16, n16⟩ := hM.2 16 140 (by decide)
  obtain ⟨h13, k13, n13⟩ := hM.2 13 140 (by decide)
  have L : ∀ i (f : Nat → Int32) (x2 x3 : Int32), i ≤ h → (x2 = oI (bst M n h s i) ∧ x3 = nI (bstC M n h (bst M n h s i))) → J 7 [(0, vr (some mo)), (1, vi (nI s)), (2, vi x2), (3, vi x3), (4, vi (nI i))] [] (mkS S mo f) 0 0 := by
    refine up3 _ _ _ ?_ ?_
    · intro f x2 x3 hz
      obtain ⟨rfl, rfl⟩ := hz
      refine r_iload (pc := 7) C dX10_bestOf_7 rfl ?_
      refine r_aload_n (pc := 9) C dX10_bestOf_9 rfl ?_
      refine r_getI (pc := 10) C dX10_bestOf_10 fx_RX10_43 (by assumption) ?_
      rw [show sI (mkS S mo f) 1117 mo = nI h from hh]
      refine r_icmp_ge (pc := 13) (tgt := 76) C dX10_bestOf_13 (by decide) (fun c13 => ?_) (fun c13 => ?_)
      · refine r_iload_n (pc := 76) C dX10_bestOf_76 rfl ?_
        refine r_iret (pc := 77) C dX10_bestOf_77 rfl (by omega) (by omega) ?_
        exact ⟨rfl, f, rfl⟩
      · exact absurd (Int32.le_refl _) c13
    · intro i f x2 x3 hi hz ih
      obtain ⟨rfl, rfl⟩ := hz
      obtain ⟨e16, hti⟩ := hG.2.2.2 i hi
      have htn := hti.1
      have hb := bst_lt (s := s) hG i (by omega)
      have hc := conf_le (M := M) (n := n) (h := h) (t := hdN M i)
      have hc2 : bstC M n h (bst M n h s i) ≤ n := by
        unfold bstC; split
        · omega
        · exact conf_le
      refine r_iload (pc := 7) C dX10_bestOf_7 rfl ?_
      refine r_aload_n (pc := 9) C dX10_bestOf_9 rfl ?_
      refine r_getI (pc := 10) C dX10_bestOf_10 fx_RX10_43 (by assumption) ?_
      rw [show sI (mkS S mo f) 1117 mo = nI h from hh]
      refine r_icmp_ge (pc := 13) (tgt := 76) C dX10_bestOf_13 (by decide) (fun c13 => ?_) (fun c13 => ?_)
      · exact absurd c13 (nI_ge hi (by omega))
      · refine r_aload_n (pc := 16) C dX10_bestOf_16 rfl ?_
        refine r_getR (pc := 17) C dX10_bestOf_17 fx_RX10_40 (by assumption) (by first | assumption | rfl) ?_
        refine r_iload (pc := 20) C dX10_bestOf_20 rfl ?_
        refine r_iald (pc := 22) C dX10_bestOf_22 (by assumption) (by decide) (by assumption) (by first | assumption | exact vp_in_nI (by omega) (by omega)) (by first | exact nI_clamp (by omega) | rfl) ?_
        rw [hV.em 16 (by decide)]
        rw [e16]
        refine r_istore (pc := 23) C dX10_bestOf_23 (by decide) rfl ?_
        refine r_aload_n (pc := 25) C dX10_bestOf_25 rfl ?_
        refine r_getR (pc := 26) C dX10_bestOf_26 fx_RX10_30 (by assumption) (by first | assumption | rfl) ?_
        refine r_iload (pc := 29) C dX10_bestOf_29 rfl ?_
        refine r_iald (pc := 31) C dX10_bestOf_31 (by assumption) (by decide) (by assumption) (by first | assumption | exact vp_in_nI (by omega) (by omega)) (by first | exact nI_clamp (by omega) | rfl) ?_
        rw [hV.em 13 (by decide)]
        refine r_iconst (pc := 32) C (nI 4) dX10_bestOf_32 rfl ?_
        refine r_icmp_eq (pc := 33) (tgt := 70) C dX10_bestOf_33 (by decide) (fun c33 => ?_) (fun c33 => ?_)
        · refine r_iinc (pc := 70) C _ dX10_bestOf_70 rfl (nI_1 _) (by decide) rfl ?_
          refine r_goto (pc := 73) (tgt := 7) C dX10_bestOf_73 (by decide) ?_
          refine r_lv C [(0, vr (some mo)), (1, vi (nI s)), (2, vi _), (3, vi _), (4, vi (nI (i + 1)))] rfl (ih _ _ _ ?_)
          cases hq : bst M n h s i <;> simp_all [bst, bstC, oI] <;> (rw [if_neg (Nat.not_lt.mpr c61)]; exact ⟨rfl, rfl⟩)
        · refine r_aload_n (pc := 36) C dX10_bestOf_36 rfl ?_
          refine r_iload (pc := 37) C dX10_bestOf_37 rfl ?_
          refine r_iload_n (pc := 39) C dX10_bestOf_39 rfl ?_
          refine r_callV (pc := 40) C (cm_isIn (hV.mk _) hti hs) iX10_isIn ml_RX10_258 dX10_bestOf_40 (ci := 11) rfl rfl (by assumption) rfl (by decide) rfl (by simp [cv, Value.category, va_rf]) (by omega) (by omega) (fun r40 S40 h40 => ?_)
          obtain ⟨rfl, e40⟩ := h40
          subst S40
          dsimp only [Option.toList, List.cons_append, List.nil_append]
          refine r_if_eq (pc := 43) (tgt := 70) C dX10_bestOf_43 (by decide) (fun c43 => ?_) (fun c43 => ?_)
          · rw [bi_0] at c43
            refine r_iinc (pc := 70) C _ dX10_bestOf_70 rfl (nI_1 _) (by decide) rfl ?_
            refine r_goto (pc := 73) (tgt := 7) C dX10_bestOf_73 (by decide) ?_
            refine r_lv C [(0, vr (some mo)), (1, vi (nI s)), (2, vi _), (3, vi _), (4, vi (nI (i + 1)))] rfl (ih _ _ _ ?_)
            cases hq : bst M n h s i <;> simp_all [bst, bstC, oI] <;> (rw [if_neg (Nat.not_lt.mpr c61)]; exact ⟨rfl, rfl⟩)
          · rw [bi_0] at c43
            refine r_aload_n (pc := 46) C dX10_bestOf_46 rfl ?_
            refine r_iload (pc := 47) C dX10_bestOf_47 rfl ?_
            refine r_callV (pc := 49) C (cm_confidence (hV.mk _) htn) iX10_confidence ml_RX10_277 dX10_bestOf_49 (ci := 11) rfl rfl (by assumption) rfl (by decide) rfl (by simp [cv, Value.category, va_rf]) (by omega) (by omega) (fun r49 S49 h49 => ?_)
            obtain ⟨rfl, f2, rfl⟩ := h49
            dsimp only [Option.toList, List.cons_append, List.nil_append]
            rw [mkS_mkS]
            refine r_istore (pc := 52) C dX10_bestOf_52 (by decide) rfl ?_
            refine r_iload_n (pc := 54) C dX10_bestOf_54 rfl ?_
            refine r_if_lt (pc := 55) (tgt := 64) C dX10_bestOf_55 (by decide) (fun c55 => ?_) (fun c55 => ?_)
            · rw [oI_lt (fun u hu => by have := hb u hu; omega)] at c55
              refine r_iload (pc := 64) C dX10_bestOf_64 rfl ?_
              refine r_istore_n (pc := 66) C dX10_bestOf_66 (by decide) rfl ?_
              refine r_iload (pc := 67) C dX10_bestOf_67 rfl ?_
              refine r_istore_n (pc := 69) C dX10_bestOf_69 (by decide) rfl ?_
              refine r_iinc (pc := 70) C _ dX10_bestOf_70 rfl (nI_1 _) (by decide) rfl ?_
              refine r_goto (pc := 73) (tgt := 7) C dX10_bestOf_73 (by decide) ?_
              refine r_lv C [(0, vr (some mo)), (1, vi (nI s)), (2, vi _), (3, vi _), (4, vi (nI (i + 1)))] rfl (ih _ _ _ ?_)
              cases hq : bst M n h s i <;> simp_all [bst, bstC, oI] <;> (rw [if_neg (Nat.not_lt.mpr c61)]; exact ⟨rfl, rfl⟩)
            · rw [oI_lt (fun u hu => by have := hb u hu; omega)] at c55
              refine r_iload (pc := 58) C dX10_bestOf_58 rfl ?_
              refine r_iload_n (pc := 60) C dX10_bestOf_60 rfl ?_
              refine r_icmp_le (pc := 61) (tgt := 70) C dX10_bestOf_61 (by decide) (fun c61 => ?_) (fun c61 => ?_)
              · rw [nI_leI (by omega) (by omega)] at c61
                refine r_iinc (pc := 70) C _ dX10_bestOf_70 rfl (nI_1 _) (by decide) rfl ?_
                refine r_goto (pc := 73) (tgt := 7) C dX10_bestOf_73 (by decide) ?_
                refine r_lv C [(0, vr (some mo)), (1, vi (nI s)), (2, vi _), (3, vi _), (4, vi (nI (i + 1)))] rfl (ih _ _ _ ?_)
                cases hq : bst M n h s i <;> simp_all [bst, bstC, oI] <;> (rw [if_neg (Nat.not_lt.mpr c61)]; exact ⟨rfl, rfl⟩)
              · rw [nI_leI (by omega) (by omega)] at c61
                refine r_iload (pc := 64) C dX10_bestOf_64 rfl ?_
                refine r_istore_n (pc := 66) C dX10_bestOf_66 (by decide) rfl ?_
                refine r_iload (pc := 67) C dX10_bestOf_67 rfl ?_
                refine r_istore_n (pc := 69) C dX10_bestOf_69 (by decide) rfl ?_
                refine r_iinc (pc := 70) C _ dX10_bestOf_70 rfl (nI_1 _) (by decide) rfl ?_
                refine r_goto (pc := 73) (tgt := 7) C dX10_bestOf_73 (by decide) ?_
                refine r_lv C [(0, vr (some mo)), (1, vi (nI s)), (2, vi _), (3, vi _), (4, vi (nI (i + 1)))] rfl (ih _ _ _ ?_)
                cases hq : bst M n h s i <;> simp_all [bst, bstC, oI] <;> (rw [if_neg (Nat.not_lt.mpr c61)]; exact ⟨rfl, rfl⟩)
  refine r_iconst (pc := 0) C (-1) dX10_bestOf_0 rfl ?_
  refine r_istore_n (pc := 1) C dX10_bestOf_1 (by decide) rfl ?_
  refine r_iconst (pc := 2) C (nI 0) dX10_bestOf_2 rfl ?_
  refine r_istore_n (pc := 3) C dX10_bestOf_3 (by decide) rfl ?_
  refine r_iconst (pc := 4) C (nI 0) dX10_bestOf_4 rfl ?_
  refine r_istore (pc := 5) C dX10_bestOf_5 (by decide) rfl ?_
  have hL := L 0 (aI S (mkd 20) (ma S mo 20)) _ _ (by omega) ⟨rfl, rfl⟩
  rw [show mkS S mo (aI S (mkd 20) (ma S mo 20)) = S from pI_id] at hL
  exact r_lv C [(0, vr (some mo)), (1, vi (nI s)), (2, vi _), (3, vi (nI 0)), (4, vi (nI 0))] rfl hL
/-- t is rejected: its state, and of each of its sets whose favourite it is: the best that is left -/
def rejL (M : MM) (n h t : Nat) : Nat → MM
  | 0 => um M 13 t (nI 4)
  | i + 1 => if rejL M n h t i 22 (out M n t i) = nI t then um (um (rejL M n h t i) 22 (out M n t i) (oI (best (rejL M n h t i) n h (out M n t i)))) 24 (out M n t i) (nI 0) else rejL M n h t i
def rej (M : MM) (n h t : Nat) : MM := rejL M n h t (nX (M 11) t)
theorem rejL_sm {M : MM} {n h t : Nat} : ∀ i, Sm M (rejL M n h t i)
  | 0 => ⟨um_n (by decide), um_n (by decide), um_n (by decide)⟩
  | i + 1 => by
    have ih := rejL_sm (M := M) (n := n) (h := h) (t := t) i
    simp only [rejL]
    split
    · refine ⟨?_, ?_, ?_⟩
      · rw [um_n (by decide), um_n (by decide)]; exact ih.1
      · rw [um_n (by decide), um_n (by decide)]; exact ih.2.1
      · rw [um_n (by decide), um_n (by decide)]; exact ih.2.2
    · exact ih
theorem out_sm {M M' : MM} (e : Sm M M') (n t i : Nat) : out M' n t i = out M n t i := by simp only [out, src, e.1, e.2.1]
theorem Ht.sm {M M' : MM} {n t : Nat} (e : Sm M M') (h : Ht M n t) : Ht M' n t := by
  obtain ⟨e10, e11, e16⟩ := e
  refine ⟨h.1, fun i hi => ?_, fun i hi => ?_⟩
  · rw [e11] at hi ⊢; rw [e10]; simp only [par, e10, e11]; exact h.2.1 i hi
  · rw [e11] at hi ⊢; rw [e10]; simp only [src, e10, e11]; exact h.2.2 i hi
theorem cm_reject {t : Nat} (hV : MV S mo M n h) (ht : Ht M n t) : Sp l g mX10_reject 0 0 [vr (some mo), vi (nI t)] S (fun r S' => r = none ∧ Gch S S' mo (Gs S mo) ∧ MV S' mo (rej M n h t) n h) := by
  have hM := hV.1
  have hR := hV.R ht.1
  have hx4 := hR.2.2.1
  have hG := hV.G
  have hn2 := hG.1
  have htn := ht.1
  refine Sp.start (own := RX10) [(0, vr (some mo)), (1, vi (nI t))] (by decide +kernel) rfl rfl (Nat.le_of_ble_eq_true rfl) ?_
  intro J C
  have hmo := hM.1
  obtain ⟨h13, k13, n13⟩ := hM.2 13 140 (by decide)
  have L : ∀ i (S1 : hS), i ≤ nX (M 11) t → (Gch S S1 mo (Gs S mo) ∧ MV S1 mo (rejL M n h t i) n h) → J 9 [(0, vr (some mo)), (1, vi (nI t)), (2, vi (nI i))] [] S1 0 0 := by
    refine up_loop _ _ _ ?_ ?_
    · intro S1 hS
      obtain ⟨hC1, hV1⟩ := hS
      have hmo := hV1.1.1
      refine r_iload_n (pc := 9) C dX10_reject_9 rfl ?_
      refine r_aload_n (pc := 10) C dX10_reject_10 rfl ?_
      refine r_iload_n (pc := 11) C dX10_reject_11 rfl ?_
      refine r_callV (pc := 12) C (mv_inputsOf hV1 htn) iX10_inputsOf ml_RX10_188 dX10_reject_12 (ci := 11) rfl rfl (by assumption) rfl (by decide) rfl (by simp [cv, Value.category, va_rf]) (by omega) (by omega) (fun r12 S12 h12 => ?_)
      obtain ⟨rfl, e12⟩ := h12
      subst S12
      dsimp only [Option.toList, List.cons_append, List.nil_append]
      rw [(rejL_sm _).2.1]
      refine r_icmp_ge (pc := 15) (tgt := 59) C dX10_reject_15 (by decide) (fun c15 => ?_) (fun c15 => ?_)
      · refine r_ret (pc := 59) C dX10_reject_59 rfl (by omega) (by omega) ?_
        exact ⟨rfl, hC1, hV1⟩
      · exact absurd (Int32.le_refl _) c15
    · intro i S1 hi hS ih
      obtain ⟨hC1, hV1⟩ := hS
      have hM1 := hV1.1
      have hsm := rejL_sm (M := M) (n := n) (h := h) (t := t) i
      have ht1 := ht.sm hsm
      have ho := ht.out_lt hG hi
      have hi1 : i < nX (rejL M n h t i 11) t := by rw [hsm.2.1]; exact hi
      have hmo := hM1.1
      obtain ⟨h22, k22, n22⟩ := hM1.2 22 564 (by decide)
      obtain ⟨h24, k24, n24⟩ := hM1.2 24 564 (by decide)
      refine r_iload_n (pc := 9) C dX10_reject_9 rfl ?_
      refine r_aload_n (pc := 10) C dX10_reject_10 rfl ?_
      refine r_iload_n (pc := 11) C dX10_reject_11 rfl ?_
      refine r_callV (pc := 12) C (mv_inputsOf hV1 htn) iX10_inputsOf ml_RX10_188 dX10_reject_12 (ci := 11) rfl rfl (by assumption) rfl (by decide) rfl (by simp [cv, Value.category, va_rf]) (by omega) (by omega) (fun r12 S12 h12 => ?_)
      obtain ⟨rfl, e12⟩ := h12
      subst S12
      dsimp only [Option.toList, List.cons_append, List.nil_append]
      rw [hsm.2.1]
      refine r_icmp_ge (pc := 15) (tgt := 59) C dX10_reject_15 (by decide) (fun c15 => ?_) (fun c15 => ?_)
      · exact absurd c15 (nI_ge hi (by omega))
      · refine r_aload_n (pc := 18) C dX10_reject_18 rfl ?_
        refine r_iload_n (pc := 19) C dX10_reject_19 rfl ?_
        refine r_iload_n (pc := 20) C dX10_reject_20 rfl ?_
        refine r_callV (pc := 21) C (cm_outputOf hV1 ht1 hi1) iX10_outputOf ml_RX10_255 dX10_reject_21 (ci := 11) rfl rfl (by assumption) rfl (by decide) rfl (by simp [cv, Value.category, va_rf]) (by omega) (by omega) (fun r21 S21 h21 => ?_)
        obtain ⟨rfl, e21⟩ := h21
        subst S21
        dsimp only [Option.toList, List.cons_append, List.nil_append]
        rw [out_sm hsm]
        refine r_istore_n (pc := 24) C dX10_reject_24 (by decide) rfl ?_
        refine r_aload_n (pc := 25) C dX10_reject_25 rfl ?_
        refine r_getR (pc := 26) C dX10_reject_26 fx_RX10_58 (by assumption) (by first | assumption | rfl) ?_
        refine r_iload_n (pc := 29) C dX10_reject_29 rfl ?_
        refine r_iald (pc := 30) C dX10_reject_30 (by assumption) (by decide) (by assumption) (by first | assumption | exact vp_in_nI (by omega) (by omega)) (by first | exact nI_clamp (by omega) | rfl) ?_
        rw [hV1.e 22 (by decide)]
        refine r_iload_n (pc := 31) C dX10_reject_31 rfl ?_
        refine r_icmp_ne (pc := 32) (tgt := 53) C dX10_reject_32 (by decide) (fun c32 => ?_) (fun c32 => ?_)
        · refine r_iinc (pc := 53) C _ dX10_reject_53 rfl (nI_1 _) (by decide) rfl ?_
          refine r_goto (pc := 56) (tgt := 9) C dX10_reject_56 (by decide) ?_
          refine r_lv C [(0, vr (some mo)), (1, vi (nI t)), (2, vi (nI (i + 1)))] rfl (ih _ ⟨hC1, ?_⟩)
          simp only [rejL, if_neg c32]
          exact hV1
        · refine r_aload_n (pc := 35) C dX10_reject_35 rfl ?_
          refine r_getR (pc := 36) C dX10_reject_36 fx_RX10_58 (by assumption) (by first | assumption | rfl) ?_
          refine r_iload_n (pc := 39) C dX10_reject_39 rfl ?_
          refine r_aload_n (pc := 40) C dX10_reject_40 rfl ?_
          refine r_iload_n (pc := 41) C dX10_reject_41 rfl ?_
          refine r_callV (pc := 42) C (cm_bestOf hV1 (by omega)) iX10_bestOf ml_RX10_274 dX10_reject_42 (ci := 11) rfl rfl (by assumption) rfl (by decide) rfl (by simp [cv, Value.category, va_rf]) (by omega) (by omega) (fun r42 S42 h42 => ?_)
          obtain ⟨rfl, f2, rfl⟩ := h42
          dsimp only [Option.toList, List.cons_append, List.nil_append]
          refine r_iast (pc := 45) C dX10_reject_45 (by assumption) (by decide) (by assumption) (by first | assumption | exact vp_in_nI (by omega) (by omega)) (by first | exact nI_clamp (by omega) | rfl) ?_
          rw [hV1.em 22 (by decide)]
          have hV2 := (hV1.mk f2).put (k := 22) (i := out M n t i) (v := oI (best (rejL M n h t i) n h (out M n t i))) (by decide) (by decide) (by decide) (by decide)
          have hC2 := (hC1.trk (Gc.put (E := [20]) (k := 20) (f := f2) (by decide) (by decide))).trk (Gc.put (E := [20]) (S := mkS S1 mo f2) (mo := mo) (k := 22) (f := upd (rejL M n h t i 22) (out M n t i) (oI (best (rejL M n h t i) n h (out M n t i)))) (by decide) (by decide))
          generalize hS2 : putI (mkS S1 mo f2) (mkd 22) (ma S1 mo 22) (upd (rejL M n h t i 22) (out M n t i) (oI (best (rejL M n h t i) n h (out M n t i)))) = S2
          rw [show putI (mkS S1 mo f2) (mkd 22) (ma (mkS S1 mo f2) mo 22) (upd (rejL M n h t i 22) (out M n t i) (oI (best (rejL M n h t i) n h (out M n t i)))) = S2 from hS2] at hV2 hC2
          have hM2 := hV2.1
          obtain ⟨g24, kk24, nn24⟩ := hM2.2 24 564 (by decide)
          have hmo2 := hM2.1
          refine r_aload_n (pc := 46) C dX10_reject_46 rfl ?_
          refine r_getR (pc := 47) C dX10_reject_47 fx_RX10_64 (by assumption) (by first | assumption | rfl) ?_
          refine r_iload_n (pc := 50) C dX10_reject_50 rfl ?_
          refine r_iconst (pc := 51) C (nI 0) dX10_reject_51 rfl ?_
          refine r_iast (pc := 52) C dX10_reject_52 (by assumption) (by decide) (by assumption) (by first | assumption | exact vp_in_nI (by omega) (by omega)) (by first | exact nI_clamp (by omega) | rfl) ?_
          rw [hV2.e 24 (by decide)]
          have hV3 := hV2.put (k := 24) (i := out M n t i) (v := nI 0) (by decide) (by decide) (by decide) (by decide)
          have hC3 := hC2.trk (Gc.put (E := [20]) (k := 24) (f := upd (um (rejL M n h t i) 22 (out M n t i) (oI (best (rejL M n h t i) n h (out M n t i))) 24) (out M n t i) (nI 0)) (by decide) (by decide))
          refine r_iinc (pc := 53) C _ dX10_reject_53 rfl (nI_1 _) (by decide) rfl ?_
          refine r_goto (pc := 56) (tgt := 9) C dX10_reject_56 (by decide) ?_
          refine r_lv C [(0, vr (some mo)), (1, vi (nI t)), (2, vi (nI (i + 1)))] rfl (ih _ ⟨hC3, ?_⟩)
          simp only [rejL, if_pos c32]
          exact hV3
  refine r_aload_n (pc := 0) C dX10_reject_0 rfl ?_
  refine r_getR (pc := 1) C dX10_reject_1 fx_RX10_30 (by assumption) (by first | assumption | rfl) ?_
  refine r_iload_n (pc := 4) C dX10_reject_4 rfl ?_
  refine r_iconst (pc := 5) C (nI 4) dX10_reject_5 rfl ?_
  refine r_iast (pc := 6) C dX10_reject_6 (by assumption) (by decide) (by assumption) (by first | assumption | exact vp_in_nI (by omega) (by omega)) (by first | exact nI_clamp (by omega) | rfl) ?_
  rw [hV.e 13 (by decide)]
  refine r_iconst (pc := 7) C (nI 0) dX10_reject_7 rfl ?_
  refine r_istore_n (pc := 8) C dX10_reject_8 (by decide) rfl ?_
  exact r_lv C [(0, vr (some mo)), (1, vi (nI t)), (2, vi (nI 0))] rfl (L 0 _ (by omega) ⟨Gc.put (by decide) (by decide), hV.put (by decide) (by decide) (by decide) (by decide)⟩)
end Best
theorem lastU_lt {f : Nat → Bool} {n k : Nat} (h : lastU f n = some k) : k < n ∧ f k = true := by
  induction n with
  | zero => cases h
  | succ n ih =>
    simp only [lastU] at h
    split at h
    · next e => cases h; exact ⟨by omega, e⟩
    · obtain ⟨h1, h2⟩ := ih h; exact ⟨by omega, h2⟩
