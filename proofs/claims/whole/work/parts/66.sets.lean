/-! The class: sets are moved, transactions rejected -/
def Sq (M M' : MM) : Prop := ∀ k, k ≠ 13 → k ≠ 22 → k ≠ 23 → k ≠ 24 → M' k = M k
theorem Sq.rf {M : MM} : Sq M M := fun _ _ _ _ _ => rfl
theorem Sq.tr {M M1 M2 : MM} (h1 : Sq M M1) (h2 : Sq M1 M2) : Sq M M2 := fun k a b c d => (h2 k a b c d).trans (h1 k a b c d)
theorem um_sq {M : MM} {k i : Nat} {v : Int32} (h : k = 13 ∨ k = 22 ∨ k = 23 ∨ k = 24) : Sq M (um M k i v) := fun j a b c d => um_n (by omega)
theorem Sq.sy {M M' : MM} (h : Sq M M') : Sy M M' := ⟨h 10 (by omega) (by omega) (by omega) (by omega), h 11 (by omega) (by omega) (by omega) (by omega), h 12 (by omega) (by omega) (by omega) (by omega), h 16 (by omega) (by omega) (by omega) (by omega)⟩
theorem Sq.e14 {M M' : MM} (h : Sq M M') : M' 14 = M 14 := h 14 (by omega) (by omega) (by omega) (by omega)
theorem Sq.e15 {M M' : MM} (h : Sq M M') : M' 15 = M 15 := h 15 (by omega) (by omega) (by omega) (by omega)
theorem Sq.e18 {M M' : MM} (h : Sq M M') : M' 18 = M 18 := h 18 (by omega) (by omega) (by omega) (by omega)
theorem Sq.cf {M M' : MM} {n h : Nat} (e : Sq M M') : conf M' n h = conf M n h := e.sy.cf e.e14
theorem um_um {M : MM} {k i : Nat} {v w : Int32} : um (um M k i v) k i w = um M k i w := by
  simp only [um, uk_s, uk_uk, upd_upd]
theorem rejL_sq {M : MM} {n h t : Nat} : ∀ i, Sq M (rejL M n h t i)
  | 0 => um_sq (by omega)
  | i + 1 => by
    simp only [rejL]
    split
    · exact ((rejL_sq i).tr (um_sq (by omega))).tr (um_sq (by omega))
    · exact rejL_sq i
theorem rej_sq {M : MM} {n h t : Nat} : Sq M (rej M n h t) := rejL_sq _
theorem spk1_sq {M : MM} {n h t c s : Nat} : Sq M (spk1 M n h t c s) := by
  simp only [spk1]
  split
  · exact ((um_sq (by omega)).tr (um_sq (by omega))).tr (um_sq (by omega))
  · exact (um_sq (by omega)).tr (um_sq (by omega))
theorem spkL_sq {M : MM} {n h t : Nat} {w : Bool} : ∀ i, Sq M (spkL M n h t w i)
  | 0 => Sq.rf
  | i + 1 => by
    simp only [spkL]
    split
    · exact (spkL_sq i).tr spk1_sq
    · exact (spkL_sq i).tr (um_sq (by omega))
theorem spk_sq {M : MM} {n h t : Nat} {w : Bool} : Sq M (spk M n h t w) := spkL_sq _
theorem joinL_sq {M : MM} {n h t : Nat} : ∀ i, Sq M (joinL M n h t i)
  | 0 => Sq.rf
  | i + 1 => by
    simp only [joinL]
    split
    · exact ((joinL_sq i).tr (um_sq (by omega))).tr (um_sq (by omega))
    · exact joinL_sq i
theorem spoL_sq {M : MM} {n h : Nat} {go : Nat → Bool} {w : Bool} : ∀ k, Sq M (spoL M n h go w k)
  | 0 => Sq.rf
  | k + 1 => by
    simp only [spoL]
    split
    · exact (spoL_sq k).tr spk_sq
    · exact spoL_sq k
theorem rrL_sq {M : MM} {n h : Nat} {go : Nat → Bool} : ∀ k, Sq M (rrL M n h go k)
  | 0 => Sq.rf
  | k + 1 => by
    simp only [rrL]
    split
    · exact Sq.rf
    · split
      · exact (rrL_sq k).tr rej_sq
      · exact rrL_sq k
theorem rr_sq {M : MM} {n h t : Nat} : Sq M (rr M n h t) := rrL_sq _
theorem GV.sq {M M' : MM} {n h : Nat} (hG : GV M n h) (e : Sq M M') : GV M' n h := hG.sm e.sy.sm
theorem best_lt {M : MM} {n h s : Nat} (hG : GV M n h) : ∀ u, best M n h s = some u → u < n := bst_lt hG h (Nat.le_refl _)
theorem rejL_fav {M : MM} {n h t : Nat} (hF : Fav M n) (hG : GV M n h) : ∀ i, Fav (rejL M n h t i) n
  | 0 => hF.of (um_n (by decide))
  | i + 1 => by
    simp only [rejL]
    split
    · exact ((rejL_fav hF hG i).up hG.1 (best_lt (hG.sq (rejL_sq i)))).of (um_n (by decide))
    · exact rejL_fav hF hG i
theorem Lat.of {M M' : MM} {n : Nat} (hF : Lat M n) (e : M' 23 = M 23) : Lat M' n := by
  intro s hs
  simp only [latN, e]
  exact hF s hs
theorem Lat.up {M : MM} {n s t : Nat} (hF : Lat M n) (hn : n ≤ 140) (ht : t < n) : Lat (um M 23 s (nI t)) n := by
  intro u hu
  rw [latN_um (by omega)]
  by_cases e : u = s
  · subst e; rw [if_pos rfl, um_s]; exact ⟨rfl, fun w hw => by cases hw; exact ht⟩
  · rw [if_neg e, um_sn e]; exact hF u hu
theorem rejL_23 {M : MM} {n h t : Nat} : ∀ i, rejL M n h t i 23 = M 23
  | 0 => um_n (by decide)
  | i + 1 => by
    simp only [rejL]
    split
    · rw [um_n (by decide), um_n (by decide)]; exact rejL_23 i
    · exact rejL_23 i
theorem spk1_lat {M : MM} {n h t c s : Nat} (hF : Lat M n) (hn : n ≤ 140) (ht : t < n) : Lat (spk1 M n h t c s) n := by
  simp only [spk1]
  refine Lat.up (Lat.of ?_ (um_n (by decide))) hn ht
  split
  · exact hF.of (um_n (by decide))
  · exact hF
theorem spkL_lat {M : MM} {n h t : Nat} {w : Bool} (hF : Lat M n) (hn : n ≤ 140) (ht : t < n) : ∀ i, Lat (spkL M n h t w i) n
  | 0 => hF
  | i + 1 => by
    simp only [spkL]
    split
    · exact spk1_lat (spkL_lat hF hn ht i) hn ht
    · exact (spkL_lat hF hn ht i).of (um_n (by decide))
/-- one member is looked at -/
def bsS (M : MM) (n h : Nat) (o : Option Nat) (t : Nat) : Option Nat := if M 13 t = nI 4 then o else match o with
  | none => some t
  | some u => if conf M n h u < conf M n h t then some t else some u
theorem mem_s {M : MM} {n k s : Nat} : mem M n (k + 1) s = mem M n k s ++ (if inS M n (hdN M k) s then [hdN M k] else []) := by
  simp only [mem, List.range_succ, List.map_append, List.filter_append, List.map_cons, List.map_nil, List.filter_cons, List.filter_nil]
theorem mem_len {M : MM} {n s : Nat} : ∀ k, (mem M n k s).length = mbs M n k s
  | 0 => rfl
  | k + 1 => by
    rw [mem_s, List.length_append, mem_len k]
    simp only [mbs, cntU]
    split <;> rfl
theorem mem_bst {M : MM} {n h s : Nat} : ∀ k, (mem M n k s).foldl (bsS M n h) none = bst M n h s k
  | 0 => rfl
  | k + 1 => by
    rw [mem_s, List.foldl_append, mem_bst k]
    simp only [bst]
    by_cases e1 : inS M n (hdN M k) s = true
    · rw [if_pos e1]
      simp only [List.foldl_cons, List.foldl_nil, bsS]
      by_cases e2 : M 13 (hdN M k) = nI 4
      · simp [e2]
      · simp [e1, e2]
        cases bst M n h s k <;> rfl
    · rw [if_neg e1]
      simp [e1]
theorem mem_in {M : MM} {n s t : Nat} {h : Nat} : t ∈ mem M n h s ↔ (∃ k, k < h ∧ hdN M k = t) ∧ inS M n t s = true := by
  simp only [mem, List.mem_filter, List.mem_map, List.mem_range]
theorem bsS_lt {M : MM} {n h N : Nat} : ∀ (l : List Nat) (o : Option Nat), (∀ t ∈ l, t < N) → (∀ w, o = some w → w < N) → ∀ w, l.foldl (bsS M n h) o = some w → w < N
  | [], o, _, ho => ho
  | t :: l, o, hl, ho => by
    simp only [List.foldl_cons]
    refine bsS_lt l _ (fun u hu => hl u (List.mem_cons_of_mem _ hu)) (fun w hw => ?_)
    have ht := hl t (by simp)
    simp only [bsS] at hw
    split at hw
    · exact ho w hw
    · split at hw
      · cases hw; exact ht
      · next u _ =>
        split at hw
        · cases hw; exact ht
        · cases hw; exact ho _ rfl
theorem getD_mem {L : List Nat} {i : Nat} (hi : i < L.length) : L.getD i 0 ∈ L := by
  rw [List.getD_eq_getElem?_getD, List.getElem?_eq_getElem hi]
  exact List.getElem_mem hi
theorem take_s {L : List Nat} {i : Nat} (hi : i < L.length) : L.take (i + 1) = L.take i ++ [L.getD i 0] := by
  rw [List.take_succ, List.getD_eq_getElem?_getD, List.getElem?_eq_getElem hi]
  rfl
theorem conf_nlt {M : MM} {n h u t : Nat} (hn : n ≤ 140) : (nI (conf M n h t) ≤ nI (conf M n h u)) ↔ ¬ conf M n h u < conf M n h t := by
  have h1 := @conf_le M n h u
  have h2 := @conf_le M n h t
  constructor
  · intro q q2; exact nI_ge q2 (by omega) q
  · intro q; exact nI_le (by omega) (by omega)
section Sets
variable {l : Launch} {g : GG} {S : hS} {po go n h a t s : Nat} {T O : Nat → Nat} {M : MM} {cf : Nat → Int32} {ao : Nat → Option Nat} {mL : Nat → List Nat}
theorem GV.hn (hG : GV M n h) : ∀ k, k < h → hdN M k < n := fun k hk => (hG.2.2.2 k hk).2.1
theorem GrF.w4 {f x : Nat} {v : Int32} (hf : (400 ≤ f ∧ f < 500) ∨ (900 ≤ f ∧ f < 1000)) : GrF po S (setI S f x v) := Ag.si (fun q => by unfold oP at q; omega)
theorem GrF.w5 {f x : Nat} {v : Option Nat} (hf : (400 ≤ f ∧ f < 500) ∨ (900 ≤ f ∧ f < 1000)) : GrF po S (setR S f x v) := Ag.sr (fun q => by unfold oP at q; omega)
theorem cg_speak (hC : CR g S po go T O M n h a cf ao mL) (hcf : cf = fun t => nI (conf M n h t)) (hG : GV M n h) (hF : Fav M n) (hLa : Lat M n) (hs : oV M n s) (ht : t < n) : Sp l g mX3_speakFor 0 0 [vr (some (O s)), vr (some (T t))] S (fun r S' => r = none ∧ CR g S' po go T O (spk1 M n h t (conf M n h t) s) n h a cf ao mL ∧ GrF po S S') := by
  have hn := hG.1
  have hs5 := hs.lt hG
  have cT : ∀ u, u < n → sI S 911 (T u) = nI (conf M n h u) := fun u hu => by rw [(hC.pT u hu).2.1, hcf]
  refine Sp.start (own := RX3) [(0, vr (some (O s))), (1, vr (some (T t)))] (by decide +kernel) rfl rfl (Nat.le_of_ble_eq_true rfl) ?_
  intro J C
  have K26 : ∀ S1 M1, CR g S1 po go T O M1 n h a cf ao mL → M1 = (if beat M n h (conf M n h t) s then um M 22 s (nI t) else M) → GrF po S S1 → J 26 [(0, vr (some (O s))), (1, vr (some (T t)))] [] S1 0 0 := by
    intro S1 M1 hC1 hM1 hg1
    have sq1 : Sq M M1 := by rw [hM1]; split; exact um_sq (by omega); exact Sq.rf
    have e23 : M1 23 = M 23 := by rw [hM1]; split; exact um_n (by decide); rfl
    have hs1 : oV M1 n s := by rw [sq1.sy.ov]; exact hs
    have hG1 := hG.sq sq1
    have K45 : ∀ v, v = (if M1 23 s = nI t then M1 24 s + nI 1 else nI 1) → J 45 [(0, vr (some (O s))), (1, vr (some (T t)))] [vi v, vr (some (O s))] S1 0 0 := by
      intro v hv
      refine r_putI (pc := 45) C dX3_speakFor_45 fx_RX3_32 (fp_4_5 _) (hC1.pG.o hs1).1 ?_
      refine r_aload_n (pc := 48) C dX3_speakFor_48 rfl ?_
      refine r_aload_n (pc := 49) C dX3_speakFor_49 rfl ?_
      refine r_putR (pc := 50) C dX3_speakFor_50 fx_RX3_26 (fp_4_3 _) (hC1.pG.o hs1).1 ?_
      refine r_ret (pc := 53) C dX3_speakFor_53 rfl (by omega) (by omega) ?_
      refine ⟨rfl, ?_, (hg1.tr (GrF.w4 (by omega))).tr (GrF.w5 (by omega))⟩
      have q := (hC1.rns hG1.hn hs1 (v := v)).lts (hG1.sq (um_sq (by omega))).hn (t := t) (s := s) (by rw [(um_sy (by decide)).ov]; exact hs1) (by omega)
      rw [hv, hM1] at q
      rw [hM1] at hv
      rw [hv]
      exact q
    refine r_aload_n (pc := 26) C dX3_speakFor_26 rfl ?_
    refine r_aload_n (pc := 27) C dX3_speakFor_27 rfl ?_
    refine r_getR (pc := 28) C dX3_speakFor_28 fx_RX3_26 (hC1.pG.o hs1).1 (hC1.pO s hs1).2.1 ?_
    refine r_aload_n (pc := 31) C dX3_speakFor_31 rfl ?_
    refine r_acmp_ne (pc := 32) (tgt := 44) C dX3_speakFor_32 (by decide) (fun c32 => ?_) (fun c32 => ?_)
    · have ev := K45 (nI 1) (if_neg (fun q => c32 (((map_T (fun u v hu hv q => hC1.pG.tinj hu hv q) (fun u hu => ((hLa.of e23) s hs5).2 u hu) ht).trans (lat_iff (hLa.of e23) hn hs5 ht)).mpr q))).symm
      refine r_iconst (pc := 44) C (nI 1) dX3_speakFor_44 rfl ?_
      exact ev
    · have ev := K45 (M1 24 s + nI 1) (if_pos (((map_T (fun u v hu hv q => hC1.pG.tinj hu hv q) (fun u hu => ((hLa.of e23) s hs5).2 u hu) ht).trans (lat_iff (hLa.of e23) hn hs5 ht)).mp c32)).symm
      refine r_aload_n (pc := 35) C dX3_speakFor_35 rfl ?_
      refine r_getI (pc := 36) C dX3_speakFor_36 fx_RX3_32 (hC1.pG.o hs1).1 ?_
      rw [(hC1.pO s hs1).2.2.2]
      refine r_iconst (pc := 39) C (nI 1) dX3_speakFor_39 rfl ?_
      refine r_iadd (pc := 40) C dX3_speakFor_40 ?_
      refine r_goto (pc := 41) (tgt := 45) C dX3_speakFor_41 (by decide) ?_
      exact ev
  have fv := (hC.pO s hs).1
  cases ef : favN M s with
  | none =>
    have eb : beat M n h (conf M n h t) s = true := by simp only [beat, ef]
    rw [ef] at fv
    refine r_aload_n (pc := 0) C dX3_speakFor_0 rfl ?_
    refine r_getR (pc := 1) C dX3_speakFor_1 fx_RX3_22 (hC.pG.o hs).1 fv ?_
    refine r_ifnull (pc := 4) (tgt := 21) C dX3_speakFor_4 (by decide) (fun c4 => ?_) (fun a4 c4 => ?_)
    · refine r_aload_n (pc := 21) C dX3_speakFor_21 rfl ?_
      refine r_aload_n (pc := 22) C dX3_speakFor_22 rfl ?_
      refine r_putR (pc := 23) C dX3_speakFor_23 fx_RX3_22 (fp_4_2 _) (hC.pG.o hs).1 ?_
      exact K26 _ _ (hC.fvs hG.hn hs (o := some t) (fun w hw => by cases hw; omega)) (by rw [eb]; rfl) (GrF.w5 (by omega))
    · cases c4
  | some u =>
    have hu := (hF s hs5).2 u ef
    rw [ef] at fv
    refine r_aload_n (pc := 0) C dX3_speakFor_0 rfl ?_
    refine r_getR (pc := 1) C dX3_speakFor_1 fx_RX3_22 (hC.pG.o hs).1 fv ?_
    refine r_ifnull (pc := 4) (tgt := 21) C dX3_speakFor_4 (by decide) (fun c4 => ?_) (fun a4 c4 => ?_)
    · cases c4
    · refine r_aload_n (pc := 7) C dX3_speakFor_7 rfl ?_
      refine r_getI (pc := 8) C dX3_speakFor_8 fx_RX3_43 (hC.pG.tk ht) ?_
      rw [cT t ht]
      refine r_aload_n (pc := 11) C dX3_speakFor_11 rfl ?_
      refine r_getR (pc := 12) C dX3_speakFor_12 fx_RX3_22 (hC.pG.o hs).1 fv ?_
      refine r_getI (pc := 15) C dX3_speakFor_15 fx_RX3_43 (hC.pG.tk hu) ?_
      rw [cT u hu]
      refine r_icmp_le (pc := 18) (tgt := 26) C dX3_speakFor_18 (by decide) (fun c18 => ?_) (fun c18 => ?_)
      · have eb : beat M n h (conf M n h t) s = false := by simp only [beat, ef]; exact decide_eq_false ((conf_nlt hn).mp c18)
        first
          | exact K26 _ _ hC (by rw [eb]; rfl) Ag.rf
          | exact K26 _ _ (hC.fvs hG.hn hs (o := some t) (fun w hw => by cases hw; omega)) (by rw [eb]; rfl) (GrF.w5 (by omega))
      · have eb : beat M n h (conf M n h t) s = true := by simp only [beat, ef]; exact decide_eq_true (Classical.not_not.mp (fun q => c18 ((conf_nlt hn).mpr q)))
        refine r_aload_n (pc := 21) C dX3_speakFor_21 rfl ?_
        refine r_aload_n (pc := 22) C dX3_speakFor_22 rfl ?_
        refine r_putR (pc := 23) C dX3_speakFor_23 fx_RX3_22 (fp_4_2 _) (hC.pG.o hs).1 ?_
        first
          | exact K26 _ _ hC (by rw [eb]; rfl) Ag.rf
          | exact K26 _ _ (hC.fvs hG.hn hs (o := some t) (fun w hw => by cases hw; omega)) (by rw [eb]; rfl) (GrF.w5 (by omega))
theorem cg_replFav (hC : CR g S po go T O M n h a cf ao mL) (hcf : cf = fun t => nI (conf M n h t)) (hml : mL = mem M n h) (hG : GV M n h) (hs : oV M n s) : Sp l g mX3_replaceFavourite 0 0 [vr (some (O s))] S (fun r S' => r = none ∧ CR g S' po go T O (um (um M 22 s (oI (best M n h s))) 24 s (nI 0)) n h a cf ao mL ∧ GrF po S S') := by
  have hn := hG.1
  have hh := hG.2.1
  have hlen : (mem M n h s).length ≤ 140 := by rw [mem_len]; have := @cntU_le (fun k => inS M n (hdN M k) s) h; unfold mbs; omega
  have hmn : ∀ t ∈ mem M n h s, t < n := fun t ht => by obtain ⟨⟨k, hk, rfl⟩, -⟩ := mem_in.mp ht; exact hG.hn k hk
  have lt1 : ∀ i w, ((mem M n h s).take i).foldl (bsS M n h) none = some w → w < 1000 := fun i w hw => by
    have := bsS_lt (N := n) _ _ (fun t ht => hmn t (List.mem_of_mem_take ht)) (fun w hw => by cases hw) w hw
    omega
  refine Sp.start (own := RX3) [(0, vr (some (O s)))] (by decide +kernel) rfl rfl (Nat.le_of_ble_eq_true rfl) ?_
  intro J C
  have L : ∀ i S1, i ≤ (mem M n h s).length → (CR g S1 po go T O (um M 22 s (oI (((mem M n h s).take i).foldl (bsS M n h) none))) n h a cf ao mL ∧ GrF po S S1) → J 7 [(0, vr (some (O s))), (1, vi (nI i))] [] S1 0 0 := by
    refine up_loop _ _ _ ?_ ?_
    · intro S1 ⟨hC1, hg1⟩
      rw [List.take_length, mem_bst] at hC1
      have hs1 : oV (um M 22 s (oI (bst M n h s h))) n s := by rw [(um_sy (by decide)).ov]; exact hs
      have hL1 := hC1.pL.l4 hs1
      rw [hml] at hL1
      refine r_iload_n (pc := 7) C dX3_replaceFavourite_7 rfl ?_
      refine r_aload_n (pc := 8) C dX3_replaceFavourite_8 rfl ?_
      refine r_getR (pc := 9) C dX3_replaceFavourite_9 fx_RX3_18 (hC1.pG.o hs1).1 (hC1.pG.o hs1).2 ?_
      refine r_callV (pc := 12) C (ct_size hL1) iJx4a65c_size_8abf5 ml_RX3_39 dX3_replaceFavourite_12 (ci := 0) rfl rfl hL1.k rfl (by decide) rfl (by simp [cv, Value.category, va_rf]) (by omega) (by omega) (fun r12 S12 h12 => ?_)
      obtain ⟨rfl, e12⟩ := h12
      subst S12
      dsimp only [Option.toList, List.cons_append, List.nil_append]
      refine r_icmp_ge (pc := 15) (tgt := 80) C dX3_replaceFavourite_15 (by decide) (fun c15 => ?_) (fun c15 => ?_)
      · refine r_aload_n (pc := 80) C dX3_replaceFavourite_80 rfl ?_
        refine r_iconst (pc := 81) C (nI 0) dX3_replaceFavourite_81 rfl ?_
        refine r_putI (pc := 82) C dX3_replaceFavourite_82 fx_RX3_32 (fp_4_5 _) (hC1.pG.o hs1).1 ?_
        refine r_ret (pc := 85) C dX3_replaceFavourite_85 rfl (by omega) (by omega) ?_
        exact ⟨rfl, hC1.rns (hG.sq (um_sq (by omega))).hn hs1, hg1.tr (GrF.w4 (by omega))⟩
      · exact absurd (Int32.le_refl _) c15
    · intro i S1 hi ⟨hC1, hg1⟩ ih
      generalize eo : ((mem M n h s).take i).foldl (bsS M n h) none = o at hC1
      have ho : ∀ w, o = some w → w < n := fun w hw => bsS_lt (N := n) _ _ (fun t ht => hmn t (List.mem_of_mem_take ht)) (fun w hw => by cases hw) w (eo.trans hw)
      have e2 := take_s hi
      have ht : (mem M n h s).getD i 0 < n := hmn _ (getD_mem hi)
      generalize em : (mem M n h s).getD i 0 = t at e2 ht
      have hs1 : oV (um M 22 s (oI o)) n s := by rw [(um_sy (by decide)).ov]; exact hs
      have hL1 := hC1.pL.l4 hs1
      rw [hml] at hL1
      have hG1 := hG.sq (um_sq (M := M) (k := 22) (i := s) (v := oI o) (by omega))
      have fv := (hC1.pO s hs1).1
      rw [favN_um (fun w hw => by have := ho w hw; omega), if_pos rfl] at fv
      have cT : ∀ u, u < n → sI S1 911 (T u) = nI (conf M n h u) := fun u hu => by rw [(hC1.pT u hu).2.1, hcf]
      have eS : sI S1 910 (T t) = M 13 t := by rw [(hC1.pT t ht).1, um_n (by decide)]
      have fin0 : bsS M n h o t = o → J 7 [(0, vr (some (O s))), (1, vi (nI (i + 1)))] [] S1 0 0 := fun q => ih S1 ⟨by rw [e2, List.foldl_append, eo]; show CR g S1 po go T O (um M 22 s (oI (bsS M n h o t))) n h a cf ao mL; rw [q]; exact hC1, hg1⟩
      have fin1 : bsS M n h o t = some t → J 7 [(0, vr (some (O s))), (1, vi (nI (i + 1)))] [] (setR S1 402 (O s) (some (T t))) 0 0 := fun q => ih _ ⟨by
        rw [e2, List.foldl_append, eo]
        show CR g _ po go T O (um M 22 s (oI (bsS M n h o t))) n h a cf ao mL
        rw [q, ← um_um (v := oI o)]
        exact hC1.fvs hG1.hn hs1 (o := some t) (fun w hw => by cases hw; omega), hg1.tr (GrF.w5 (by omega))⟩
      have K56 : ∀ b : Bool, (M 13 t ≠ nI 4 → bsS M n h o t = if b then some t else o) → J 56 [(0, vr (some (O s))), (1, vi (nI i)), (2, vr (some (T t)))] [vi (bi b)] S1 0 0 := by
        intro b hb
        refine r_istore_n (pc := 56) C dX3_replaceFavourite_56 (by decide) rfl ?_
        refine r_aload_n (pc := 57) C dX3_replaceFavourite_57 rfl ?_
        refine r_getI (pc := 58) C dX3_replaceFavourite_58 fx_RX3_52 (hC1.pG.tk ht) ?_
        rw [eS]
        refine r_iconst (pc := 61) C (nI 4) dX3_replaceFavourite_61 rfl ?_
        refine r_icmp_eq (pc := 62) (tgt := 74) C dX3_replaceFavourite_62 (by decide) (fun c62 => ?_) (fun c62 => ?_)
        · have ev := fin0 (if_pos c62)
          refine r_iinc (pc := 74) C _ dX3_replaceFavourite_74 rfl (nI_1 _) (by decide) rfl ?_
          refine r_goto (pc := 77) (tgt := 7) C dX3_replaceFavourite_77 (by decide) ?_
          exact r_lv C [(0, vr (some (O s))), (1, vi (nI (i + 1)))] rfl ev
        · refine r_iload_n (pc := 65) C dX3_replaceFavourite_65 rfl ?_
          refine r_if_eq (pc := 66) (tgt := 74) C dX3_replaceFavourite_66 (by decide) (fun c66 => ?_) (fun c66 => ?_)
          · rw [bi_0] at c66
            have ev := fin0 (by rw [hb c62, c66]; rfl)
            refine r_iinc (pc := 74) C _ dX3_replaceFavourite_74 rfl (nI_1 _) (by decide) rfl ?_
            refine r_goto (pc := 77) (tgt := 7) C dX3_replaceFavourite_77 (by decide) ?_
            exact r_lv C [(0, vr (some (O s))), (1, vi (nI (i + 1)))] rfl ev
          · rw [bi_0] at c66
            have ev := fin1 (by rw [hb c62, ts_nf c66]; rfl)
            refine r_aload_n (pc := 69) C dX3_replaceFavourite_69 rfl ?_
            refine r_aload_n (pc := 70) C dX3_replaceFavourite_70 rfl ?_
            refine r_putR (pc := 71) C dX3_replaceFavourite_71 fx_RX3_22 (fp_4_2 _) (hC1.pG.o hs1).1 ?_
            refine r_iinc (pc := 74) C _ dX3_replaceFavourite_74 rfl (nI_1 _) (by decide) rfl ?_
            refine r_goto (pc := 77) (tgt := 7) C dX3_replaceFavourite_77 (by decide) ?_
            exact r_lv C [(0, vr (some (O s))), (1, vi (nI (i + 1)))] rfl ev
      cases o with
      | none =>
        refine r_iload_n (pc := 7) C dX3_replaceFavourite_7 rfl ?_
        refine r_aload_n (pc := 8) C dX3_replaceFavourite_8 rfl ?_
        refine r_getR (pc := 9) C dX3_replaceFavourite_9 fx_RX3_18 (hC1.pG.o hs1).1 (hC1.pG.o hs1).2 ?_
        refine r_callV (pc := 12) C (ct_size hL1) iJx4a65c_size_8abf5 ml_RX3_39 dX3_replaceFavourite_12 (ci := 0) rfl rfl hL1.k rfl (by decide) rfl (by simp [cv, Value.category, va_rf]) (by omega) (by omega) (fun r12 S12 h12 => ?_)
        obtain ⟨rfl, e12⟩ := h12
        subst S12
        dsimp only [Option.toList, List.cons_append, List.nil_append]
        refine r_icmp_ge (pc := 15) (tgt := 80) C dX3_replaceFavourite_15 (by decide) (fun c15 => ?_) (fun c15 => ?_)
        · exact absurd c15 (nI_ge hi (by omega))
        · refine r_aload_n (pc := 18) C dX3_replaceFavourite_18 rfl ?_
          refine r_getR (pc := 19) C dX3_replaceFavourite_19 fx_RX3_18 (hC1.pG.o hs1).1 (hC1.pG.o hs1).2 ?_
          refine r_iload_n (pc := 22) C dX3_replaceFavourite_22 rfl ?_
          refine r_callV (pc := 23) C (ct_get (by omega) (by omega) hL1 hi) iJx4a65c_get_915e3 ml_RX3_48 dX3_replaceFavourite_23 (ci := 0) rfl rfl hL1.k rfl (by decide) rfl (by simp [cv, Value.category, va_rf]) (by omega) (by omega) (fun r23 S23 h23 => ?_)
          obtain ⟨rfl, e23⟩ := h23
          subst S23
          dsimp only [Option.toList, List.cons_append, List.nil_append]
          rw [em]
          refine r_cast (pc := 26) C dX3_replaceFavourite_26 (ci := 9) rfl kl_RX3_44 (hC1.pG.tk ht) ?_
          refine r_astore_n (pc := 29) C dX3_replaceFavourite_29 (by decide) rfl ?_
          refine r_aload_n (pc := 30) C dX3_replaceFavourite_30 rfl ?_
          refine r_getR (pc := 31) C dX3_replaceFavourite_31 fx_RX3_22 (hC1.pG.o hs1).1 fv ?_
          refine r_ifnull (pc := 34) (tgt := 51) C dX3_replaceFavourite_34 (by decide) (fun c34 => ?_) (fun a34 c34 => ?_)
          · refine r_iconst (pc := 51) C (nI 1) dX3_replaceFavourite_51 rfl ?_
            refine r_goto (pc := 52) (tgt := 56) C dX3_replaceFavourite_52 (by decide) ?_
            exact r_lv C [(0, vr (some (O s))), (1, vi (nI i)), (2, vr (some (T t)))] rfl (K56 true (fun q => by simp [bsS, q]))
          · cases c34
      | some u =>
        have hu := ho u rfl
        refine r_iload_n (pc := 7) C dX3_replaceFavourite_7 rfl ?_
        refine r_aload_n (pc := 8) C dX3_replaceFavourite_8 rfl ?_
        refine r_getR (pc := 9) C dX3_replaceFavourite_9 fx_RX3_18 (hC1.pG.o hs1).1 (hC1.pG.o hs1).2 ?_
        refine r_callV (pc := 12) C (ct_size hL1) iJx4a65c_size_8abf5 ml_RX3_39 dX3_replaceFavourite_12 (ci := 0) rfl rfl hL1.k rfl (by decide) rfl (by simp [cv, Value.category, va_rf]) (by omega) (by omega) (fun r12 S12 h12 => ?_)
        obtain ⟨rfl, e12⟩ := h12
        subst S12
        dsimp only [Option.toList, List.cons_append, List.nil_append]
        refine r_icmp_ge (pc := 15) (tgt := 80) C dX3_replaceFavourite_15 (by decide) (fun c15 => ?_) (fun c15 => ?_)
        · exact absurd c15 (nI_ge hi (by omega))
        · refine r_aload_n (pc := 18) C dX3_replaceFavourite_18 rfl ?_
          refine r_getR (pc := 19) C dX3_replaceFavourite_19 fx_RX3_18 (hC1.pG.o hs1).1 (hC1.pG.o hs1).2 ?_
          refine r_iload_n (pc := 22) C dX3_replaceFavourite_22 rfl ?_
          refine r_callV (pc := 23) C (ct_get (by omega) (by omega) hL1 hi) iJx4a65c_get_915e3 ml_RX3_48 dX3_replaceFavourite_23 (ci := 0) rfl rfl hL1.k rfl (by decide) rfl (by simp [cv, Value.category, va_rf]) (by omega) (by omega) (fun r23 S23 h23 => ?_)
          obtain ⟨rfl, e23⟩ := h23
          subst S23
          dsimp only [Option.toList, List.cons_append, List.nil_append]
          rw [em]
          refine r_cast (pc := 26) C dX3_replaceFavourite_26 (ci := 9) rfl kl_RX3_44 (hC1.pG.tk ht) ?_
          refine r_astore_n (pc := 29) C dX3_replaceFavourite_29 (by decide) rfl ?_
          refine r_aload_n (pc := 30) C dX3_replaceFavourite_30 rfl ?_
          refine r_getR (pc := 31) C dX3_replaceFavourite_31 fx_RX3_22 (hC1.pG.o hs1).1 fv ?_
          refine r_ifnull (pc := 34) (tgt := 51) C dX3_replaceFavourite_34 (by decide) (fun c34 => ?_) (fun a34 c34 => ?_)
          · cases c34
          · refine r_aload_n (pc := 37) C dX3_replaceFavourite_37 rfl ?_
            refine r_getI (pc := 38) C dX3_replaceFavourite_38 fx_RX3_43 (hC1.pG.tk ht) ?_
            rw [cT t ht]
            refine r_aload_n (pc := 41) C dX3_replaceFavourite_41 rfl ?_
            refine r_getR (pc := 42) C dX3_replaceFavourite_42 fx_RX3_22 (hC1.pG.o hs1).1 fv ?_
            refine r_getI (pc := 45) C dX3_replaceFavourite_45 fx_RX3_43 (hC1.pG.tk hu) ?_
            rw [cT u hu]
            refine r_icmp_le (pc := 48) (tgt := 55) C dX3_replaceFavourite_48 (by decide) (fun c48 => ?_) (fun c48 => ?_)
            · have ev := K56 false (fun q => by simp [bsS, q, (conf_nlt hn).mp c48])
              refine r_iconst (pc := 55) C (nI 0) dX3_replaceFavourite_55 rfl ?_
              exact r_lv C [(0, vr (some (O s))), (1, vi (nI i)), (2, vr (some (T t)))] rfl ev
            · have ev := K56 true (fun q => by simp [bsS, q, Classical.not_not.mp (fun q => c48 ((conf_nlt hn).mpr q))])
              refine r_iconst (pc := 51) C (nI 1) dX3_replaceFavourite_51 rfl ?_
              refine r_goto (pc := 52) (tgt := 56) C dX3_replaceFavourite_52 (by decide) ?_
              exact r_lv C [(0, vr (some (O s))), (1, vi (nI i)), (2, vr (some (T t)))] rfl ev
  refine r_aload_n (pc := 0) C dX3_replaceFavourite_0 rfl ?_
  refine r_null (pc := 1) C dX3_replaceFavourite_1 ?_
  refine r_putR (pc := 2) C dX3_replaceFavourite_2 fx_RX3_22 (fp_4_2 _) (hC.pG.o hs).1 ?_
  refine r_iconst (pc := 5) C (nI 0) dX3_replaceFavourite_5 rfl ?_
  refine r_istore_n (pc := 6) C dX3_replaceFavourite_6 (by decide) rfl ?_
  exact r_lv C [(0, vr (some (O s))), (1, vi (nI 0))] rfl (L 0 _ (by omega) ⟨hC.fvs hG.hn hs (o := none) (fun w hw => by cases hw), GrF.w5 (by omega)⟩)
end Sets
