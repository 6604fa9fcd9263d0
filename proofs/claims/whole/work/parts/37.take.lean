/-! The reference: take -/
theorem agr_blk {T T' B B' : Nat → Int32} {k : Nat} (hB : ∀ j, j < 16 → B j = B' j) (hk : k ≤ 55) (hT : ∀ i, i < k → T i = T' i) : ∀ j, j < 16 → blk T B k j = blk T' B' k j := by
  induction k with
  | zero => exact hB
  | succ k ih =>
    intro j hj
    have ih := ih (by omega) (fun i hi => hT i (by omega))
    simp only [blk, upd]
    rw [ih j hj, ih (k / 4) (by omega), hT k (by omega)]
theorem agr_blkE {T T' B B' : Nat → Int32} {k : Nat} (hB : ∀ j, j < 16 → B j = B' j) (hk : k ≤ 55) (hT : ∀ i, i < k → T i = T' i) : ∀ j, j < 16 → blkE T B k j = blkE T' B' k j := by
  intro j hj
  have a := agr_blk hB hk hT
  simp only [blkE, upd]
  rw [a j hj, a (k / 4) (by omega)]
theorem agr_sch {B B' : Nat → Int32} (hB : ∀ j, j < 16 → B j = B' j) : ∀ k, ∀ j, j < 16 + k → sch B k j = sch B' k j
  | 0 => hB
  | k + 1 => by
    intro j hj
    have ih := agr_sch hB k
    simp only [sch, schS, upd]
    by_cases e : j = 16 + k
    · rw [if_pos e, if_pos e, ih (16 + k - 16) (by omega), ih (16 + k - 15) (by omega), ih (16 + k - 7) (by omega), ih (16 + k - 2) (by omega)]
    · rw [if_neg e, if_neg e, ih j (by omega)]
theorem agr_mix {H H' : Nat → Int32} {k w : Int32} (hH : ∀ j, j < 8 → H j = H' j) : ∀ j, j < 8 → mixF H k w j = mixF H' k w j := by
  intro j hj
  have e1 : mx1 H k w = mx1 H' k w := by simp only [mx1]; rw [hH 7 (by omega), hH 4 (by omega), hH 5 (by omega), hH 6 (by omega)]
  have e2 : mx2 H = mx2 H' := by simp only [mx2]; rw [hH 0 (by omega)]
  have e3 : mx3 H = mx3 H' := by simp only [mx3]; rw [hH 0 (by omega), hH 1 (by omega), hH 2 (by omega)]
  have e4 : ∀ x, x < 8 → shF H 0 x = shF H' 0 x := by
    intro x hx
    simp only [shF]
    split
    · exact hH _ (by omega)
    · exact hH _ hx
  simp only [mixF, upd]
  rw [e1, e2, e3, e4 4 (by omega), e4 j hj]
theorem agr_hN {F F' K W W' : Nat → Int32} (hF : ∀ j, j < 8 → F j = F' j) (hW : ∀ j, j < 64 → W j = W' j) : ∀ k, k ≤ 64 → ∀ j, j < 8 → hN F K W k j = hN F' K W' k j
  | 0, _ => hF
  | k + 1, hk => by
    have ih := agr_hN (K := K) hF hW k (by omega)
    simp only [hN]
    rw [hW k (by omega)]
    exact agr_mix ih
/-- the digest of m bytes -/
def dig (tb : Nat → Nat) (F K : Nat → Int32) (m : Nat) : Int32 := hsh (fun i => nI (tb i)) F K m (fun _ => nI 0) (fun _ => nI 0)
theorem hsh_dig {T F K B Hx : Nat → Int32} {tb : Nat → Nat} {m : Nat} (hm : m ≤ 55) (hT : ∀ i, i < m → T i = nI (tb i)) : hsh T F K m B Hx = dig tb F K m := by
  simp only [dig, hsh]
  refine congrArg (fun z => F 0 + z) ?_
  refine agr_hN (fun j hj => ?_) (fun j hj => ?_) 64 (Nat.le_refl _) 0 (by omega)
  · rw [if_pos hj, if_pos hj]
  · refine agr_sch (agr_blkE (fun j hj => ?_) hm hT) 48 j hj
    rw [if_pos hj, if_pos hj]
/-- the identifier -/
def idv (tb : Nat → Nat) (F K : Nat → Int32) (m : Nat) : Int32 := dig tb F K m &&& 2147483647
def tkB (tb : Nat → Nat) (tp : Nat) (x : Int32) : Bool := if x < nI 1 ∨ nI tp < x ∨ nI 55 < x then false else isT tb x.toNatClampNeg
def adm (M : MM) (n : Nat) (id : Int32) (m : Nat) (tb : Nat → Nat) : MM := um (uk (um (um M 10 n id) 12 n (nI m)) 11 (rw1 (M 11) n tb m)) 13 n (nI 1)
def tak (M : MM) (n h : Nat) (id : Int32) (m : Nat) (tb : Nat → Nat) : MM × Nat :=
  if goes (adm M n id m tb) (n + 1) n then itW 140 (lok (adm M n id m tb) (n + 1) h n).1 (n + 1) (lok (adm M n id m tb) (n + 1) h n).2 else (adm M n id m tb, h)
section Adm
variable {M : MM} {n h m : Nat} {id : Int32} {tb : Nat → Nat}
theorem adm_10 : adm M n id m tb 10 = upd (M 10) n id := rfl
theorem adm_11 : adm M n id m tb 11 = rw1 (M 11) n tb m := rfl
theorem adm_13 : adm M n id m tb 13 = upd (M 13) n (nI 1) := rfl
theorem adm_grw (hf : fdo (M 10) id n = none) : Grw M (adm M n id m tb) n id := by
  refine ⟨adm_10, fun j hj => ?_, rfl, hf⟩
  rw [adm_11]
  simp only [rw1]
  rw [if_neg (by omega)]
theorem adm_row (hb : ∀ i, tb i < 256) : ∀ i, i < m → rN (adm M n id m tb 11) n i = tb i := by
  intro i hi
  rw [adm_11]
  simp only [rN, rw1]
  rw [if_pos (by omega), show 56 * n + i - 56 * n = i by omega]
  exact b8_n (hb i)
theorem adm_rk (hn : n < 140) (hn0 : n ≠ 0) (hb : ∀ i, tb i < 256) (hm : m ≤ 55) (hT : isT tb m = true) : Rk (adm M n id m tb 11) n := (rk_new hn hn0 hb hm hT (adm_row hb)).1
theorem adm_cH (hc : h = cH M n) : h = cH (adm M n id m tb) (n + 1) := by
  rw [hc]
  simp only [cH, cntU]
  rw [cntU_congr (f := hv (adm M n id m tb)) (h := hv M) (fun i hi => hv_ne adm_13 (by omega)), hv_w (M := adm M n id m tb) (t := n) (by rw [adm_13, pk_us])]
  simp
theorem lok_13 {t j : Nat} (hj : j ≠ t) : (lok M n h t).1 13 j = M 13 j := by
  cases hg : goes M n t with
  | false => rw [lok_stay hg]
  | true =>
    rcases lok_go (h := h) hg with ⟨e1, -⟩ | ⟨v, -, e1, -⟩
    · rw [e1, pk_un hj]
    · rw [e1, pk_un hj]
theorem lok_now {t : Nat} (hg : goes M n t = true) : (lok M n h t).1 13 t ≠ nI 1 := by
  rcases lok_go (h := h) hg with ⟨e1, -⟩ | ⟨v, hvv, e1, -⟩
  · rw [e1, pk_us]; decide
  · rw [e1, pk_us]; rcases hvv with rfl | rfl <;> decide
end Adm
/-- the arrays of the graph, no more -/
def MW (S : hS) (mo : Nat) (M : MM) : Prop := MO S mo ∧ ∀ k, k ∈ gk → aI S (mkd k) (ma S mo k) = M k
section Take
variable {l : Launch} {g : GG} {S : hS} {mo : Nat} {M : MM} {n h : Nat}
theorem MV.W (hV : MV S mo M n h) : MW S mo M := ⟨hV.1, hV.2.2.2.1⟩
theorem MW.put {k : Nat} {f : Nat → Int32} (hW : MW S mo M) (hk : k ∈ gk) : MW (putI S (mkd k) (ma S mo k) f) mo (uk M k f) := by
  refine ⟨hW.1, fun j hj => ?_⟩
  have e := mI_put (S := S) (mo := mo) (f := f) (gk_mks hk) (gk_mks hj)
  refine Eq.trans e ?_
  by_cases q : j = k
  · subst q; rw [uk_s, uk_s]
  · rw [uk_n q, uk_n q]; exact hW.2 j hj
theorem MW.set {k : Nat} {v : Int32} (hW : MW S mo M) : MW (setI S (1100 + k) mo v) mo M := ⟨hW.1, hW.2⟩
theorem MW.V (hW : MW S mo M) (h1 : Gs S mo 9 = nI n) (h2 : Gs S mo 17 = nI h) (hG : GV M n h) : MV S mo M n h := ⟨hW.1, h1, h2, hW.2, hG⟩
theorem cm_isT {x : Int32} {tp : Nat} {tb : Nat → Nat} (hV : MV S mo M n h) (hT : ∀ i, i < 128 → mI S mo 7 i = nI (tb i)) (hb : ∀ i, tb i < 256) (htp : Gs S mo 8 = nI tp) (htp2 : tp ≤ 128) : Sp l g mX10_isTransaction 0 0 [vr (some mo), vi x] S (fun r S' => r = some (vi (bi (tkB tb tp x))) ∧ S' = S) := by
  by_cases hx : x < nI 1 ∨ nI tp < x ∨ nI 55 < x
  · have e : tkB tb tp x = false := by simp only [tkB, if_pos hx]
    rw [e]
    exact cm_isTransactionN hV htp hx
  · have e : tkB tb tp x = isT tb x.toNatClampNeg := by simp only [tkB, if_neg hx]
    rw [e]
    have h1 : ¬ x < nI 1 := fun q => hx (Or.inl q)
    have h2 : ¬ nI tp < x := fun q => hx (Or.inr (Or.inl q))
    have h3 : ¬ nI 55 < x := fun q => hx (Or.inr (Or.inr q))
    obtain ⟨m, hm, rfl⟩ := nI_of (x := x) (fun q => h1 (Int32.lt_trans q (by decide)))
    rw [nI_ltI hm (by omega)] at h1
    rw [nI_ltI (by omega) hm] at h2 h3
    rw [nI_clamp hm]
    exact cm_isTransaction hV hT hb htp (by omega) (by omega) (by omega) htp2
theorem cm_takeN {x : Int32} {tp : Nat} {tb : Nat → Nat} (hV : MV S mo M n h) (hT : ∀ i, i < 128 → mI S mo 7 i = nI (tb i)) (hb : ∀ i, tb i < 256) (htp : Gs S mo 8 = nI tp) (htp2 : tp ≤ 128) (hno : tkB tb tp x = false) : Sp l g mX10_take 0 0 [vr (some mo), vi x] S (fun r S' => r = some (vi (nI 0)) ∧ Gc [20, 40, 43] S S' mo (upd (upd (Gs S mo) 8 (nI 0)) 0 (nI 1)) ∧ MV S' mo M n h) := by
  have hC0 : Gc [20, 40, 43] S S mo (Gs S mo) := Gc.rf
  refine Sp.start (own := RX10) [(0, vr (some mo)), (1, vi x)] (by decide +kernel) rfl rfl (Nat.le_of_ble_eq_true rfl) ?_
  intro J C
  refine r_aload_n (pc := 0) C dX10_take_0 rfl ?_
  refine r_iload_n (pc := 1) C dX10_take_1 rfl ?_
  refine r_callV (pc := 2) C (cm_isT hV hT hb htp htp2) iX10_isTransaction ml_RX10_214 dX10_take_2 (ci := 11) rfl rfl hV.1.1 rfl (by decide) rfl (by simp [cv, Value.category, va_rf]) (by omega) (by omega) (fun r2 S2 h2 => ?_)
  obtain ⟨rfl, e2⟩ := h2
  subst S2
  dsimp only [Option.toList, List.cons_append, List.nil_append]
  rw [hno]
  refine r_istore_n (pc := 5) C dX10_take_5 (by decide) rfl ?_
  refine r_aload_n (pc := 6) C dX10_take_6 rfl ?_
  refine r_iconst (pc := 7) C (nI 0) dX10_take_7 rfl ?_
  refine r_mP (pc := 8) (k := 8) C hV dX10_take_8 fx_RX10_173 (fp_11_8 _) (by decide) (fun S8 hC8 hV8 => ?_)
  have hC8r := hC8
  have hC8 := hC0.trs hC8
  refine r_aload_n (pc := 11) C dX10_take_11 rfl ?_
  refine r_iload_n (pc := 12) C dX10_take_12 rfl ?_
  refine r_if_eq (pc := 13) (tgt := 20) C dX10_take_13 (by decide) (fun c13 => ?_) (fun c13 => ?_)
  · refine r_iconst (pc := 20) C (nI 1) dX10_take_20 rfl ?_
    refine r_mP (pc := 21) (k := 0) C hV8 dX10_take_21 fx_RX10_145 (fp_11_0 _) (by decide) (fun S21 hC21 hV21 => ?_)
    have hC21r := hC21
    have hC21 := hC8.trs hC21
    refine r_iload_n (pc := 24) C dX10_take_24 rfl ?_
    refine r_if_ne (pc := 25) (tgt := 30) C dX10_take_25 (by decide) (fun c25 => ?_) (fun c25 => ?_)
    · exact absurd (show bi false = 0 from rfl) c25
    · refine r_iconst (pc := 28) C (nI 0) dX10_take_28 rfl ?_
      refine r_iret (pc := 29) C dX10_take_29 rfl (by omega) (by omega) ?_
      exact ⟨rfl, hC21, hV21⟩
  · exact absurd (show bi false = 0 from rfl) c13
theorem cm_takeD {m tp : Nat} {tb : Nat → Nat} (hV : MV S mo M n h) (hT : ∀ i, i < 128 → mI S mo 7 i = nI (tb i)) (hb : ∀ i, tb i < 256) (htp : Gs S mo 8 = nI tp) (htp2 : tp ≤ 128) (hyes : tkB tb tp (nI m) = true) (hm : m ≤ 55) (hdup : fdo (M 10) (idv tb (mI S mo 42) (mI S mo 41) m) n ≠ none ∨ n = 140) : Sp l g mX10_take 0 0 [vr (some mo), vi (nI m)] S (fun r S' => r = some (vi (nI 0)) ∧ Gc [20, 40, 43] S S' mo (upd (upd (Gs S mo) 8 (nI 0)) 0 (nI 2)) ∧ MV S' mo M n h) := by
  have hC0 : Gc [20, 40, 43] S S mo (Gs S mo) := Gc.rf
  have hn2 := hV.G.1
  generalize hid : idv tb (mI S mo 42) (mI S mo 41) m = id at hdup
  have hfl : ∀ u, fdo (M 10) id n = some u → u < 1000 := fun u hu => by have := fdo_lt u hu; omega
  refine Sp.start (own := RX10) [(0, vr (some mo)), (1, vi (nI m))] (by decide +kernel) rfl rfl (Nat.le_of_ble_eq_true rfl) ?_
  intro J C
  refine r_aload_n (pc := 0) C dX10_take_0 rfl ?_
  refine r_iload_n (pc := 1) C dX10_take_1 rfl ?_
  refine r_callV (pc := 2) C (cm_isT hV hT hb htp htp2) iX10_isTransaction ml_RX10_214 dX10_take_2 (ci := 11) rfl rfl hV.1.1 rfl (by decide) rfl (by simp [cv, Value.category, va_rf]) (by omega) (by omega) (fun r2 S2 h2 => ?_)
  obtain ⟨rfl, e2⟩ := h2
  subst S2
  dsimp only [Option.toList, List.cons_append, List.nil_append]
  rw [hyes]
  refine r_istore_n (pc := 5) C dX10_take_5 (by decide) rfl ?_
  refine r_aload_n (pc := 6) C dX10_take_6 rfl ?_
  refine r_iconst (pc := 7) C (nI 0) dX10_take_7 rfl ?_
  refine r_mP (pc := 8) (k := 8) C hV dX10_take_8 fx_RX10_173 (fp_11_8 _) (by decide) (fun S8 hC8 hV8 => ?_)
  have hC8r := hC8
  have hC8 := hC0.trs hC8
  refine r_aload_n (pc := 11) C dX10_take_11 rfl ?_
  refine r_iload_n (pc := 12) C dX10_take_12 rfl ?_
  refine r_if_eq (pc := 13) (tgt := 20) C dX10_take_13 (by decide) (fun c13 => ?_) (fun c13 => ?_)
  · exact absurd c13 (by decide)
  · refine r_iconst (pc := 16) C (nI 0) dX10_take_16 rfl ?_
    refine r_goto (pc := 17) (tgt := 21) C dX10_take_17 (by decide) ?_
    refine r_mP (pc := 21) (k := 0) C hV8 dX10_take_21 fx_RX10_145 (fp_11_0 _) (by decide) (fun S21 hC21 hV21 => ?_)
    have hC21r := hC21
    have hC21 := hC8.trs hC21
    refine r_iload_n (pc := 24) C dX10_take_24 rfl ?_
    refine r_if_ne (pc := 25) (tgt := 30) C dX10_take_25 (by decide) (fun c25 => ?_) (fun c25 => ?_)
    · refine r_aload_n (pc := 30) C dX10_take_30 rfl ?_
      refine r_iload_n (pc := 31) C dX10_take_31 rfl ?_
      refine r_callV (pc := 32) C (cm_hashOf hV21 hm) iX10_hashOf ml_RX10_217 dX10_take_32 (ci := 11) rfl rfl hV21.1.1 rfl (by decide) rfl (by simp [cv, Value.category, va_rf]) (by omega) (by omega) (fun r32 S32 h32 => ?_)
      obtain ⟨rfl, hCr, hV32⟩ := h32
      have hC32 := hC21.trk hCr
      dsimp only [Option.toList, List.cons_append, List.nil_append]
      rw [hsh_dig hm (fun i hi => by rw [hC21.keep (k := 7) (by decide) (by decide) (by decide)]; exact hT i (by omega)), hC21.keep (k := 42) (by decide) (by decide) (by decide), hC21.keep (k := 41) (by decide) (by decide) (by decide)]
      refine r_ldc (pc := 35) C kc_RX10_220 dX10_take_35 ?_
      refine r_iand (pc := 37) C dX10_take_37 ?_
      rw [show dig tb (mI S mo 42) (mI S mo 41) m &&& 2147483647 = id from hid]
      refine r_istore_n (pc := 38) C dX10_take_38 (by decide) rfl ?_
      refine r_aload_n (pc := 39) C dX10_take_39 rfl ?_
      refine r_aload_n (pc := 40) C dX10_take_40 rfl ?_
      refine r_iload_n (pc := 41) C dX10_take_41 rfl ?_
      refine r_callV (pc := 42) C (mv_find hV32) iX10_find ml_RX10_198 dX10_take_42 (ci := 11) rfl rfl hV32.1.1 rfl (by decide) rfl (by simp [cv, Value.category, va_rf]) (by omega) (by omega) (fun r42 S42 h42 => ?_)
      obtain ⟨rfl, e42⟩ := h42
      subst S42
      dsimp only [Option.toList, List.cons_append, List.nil_append]
      refine r_if_ge (pc := 45) (tgt := 58) C dX10_take_45 (by decide) (fun c45 => ?_) (fun c45 => ?_)
      · have c45n : ¬ oI (fdo (M 10) id n) < 0 := Int32.not_lt.mpr c45
        refine r_iconst (pc := 58) C (nI 2) dX10_take_58 rfl ?_
        refine r_goto (pc := 59) (tgt := 63) C dX10_take_59 (by decide) ?_
        refine r_mP (pc := 63) (k := 0) C hV32 dX10_take_63 fx_RX10_145 (fp_11_0 _) (by decide) (fun S63 hC63 hV63 => ?_)
        have hC63r := hC63
        have hC63 := hC32.trs hC63
        refine r_aload_n (pc := 66) C dX10_take_66 rfl ?_
        refine r_mI (pc := 67) (k := 0) C hV63 dX10_take_67 fx_RX10_145 ?_
        rw [show Gs _ mo 0 = nI 2 from by rw [hC63.gs]; simp [upd]]
        refine r_if_le (pc := 70) (tgt := 75) C dX10_take_70 (by decide) (fun c70 => ?_) (fun c70 => ?_)
        · exact absurd c70 (by decide)
        · refine r_iconst (pc := 73) C (nI 0) dX10_take_73 rfl ?_
          refine r_iret (pc := 74) C dX10_take_74 rfl (by omega) (by omega) ?_
          refine ⟨rfl, ?_, hV63⟩
          have hCC := hC63
          rw [upd_upd] at hCC
          exact hCC
      · rw [Int32.not_le, oI_lt hfl] at c45
        refine r_aload_n (pc := 48) C dX10_take_48 rfl ?_
        refine r_mn (pc := 49) C hV32 dX10_take_49 fx_RX10_16 ?_
        refine r_sipush (pc := 52) C (nI 140) dX10_take_52 rfl ?_
        refine r_icmp_ne (pc := 55) (tgt := 62) C dX10_take_55 (by decide) (fun c55 => ?_) (fun c55 => ?_)
        · exact absurd ((nI_eq (a := n) (b := 140) (by omega) (by omega)).mpr (hdup.resolve_left (fun q => q c45))) c55
        · refine r_iconst (pc := 58) C (nI 2) dX10_take_58 rfl ?_
          refine r_goto (pc := 59) (tgt := 63) C dX10_take_59 (by decide) ?_
          refine r_mP (pc := 63) (k := 0) C hV32 dX10_take_63 fx_RX10_145 (fp_11_0 _) (by decide) (fun S63 hC63 hV63 => ?_)
          have hC63r := hC63
          have hC63 := hC32.trs hC63
          refine r_aload_n (pc := 66) C dX10_take_66 rfl ?_
          refine r_mI (pc := 67) (k := 0) C hV63 dX10_take_67 fx_RX10_145 ?_
          rw [show Gs _ mo 0 = nI 2 from by rw [hC63.gs]; simp [upd]]
          refine r_if_le (pc := 70) (tgt := 75) C dX10_take_70 (by decide) (fun c70 => ?_) (fun c70 => ?_)
          · exact absurd c70 (by decide)
          · refine r_iconst (pc := 73) C (nI 0) dX10_take_73 rfl ?_
            refine r_iret (pc := 74) C dX10_take_74 rfl (by omega) (by omega) ?_
            refine ⟨rfl, ?_, hV63⟩
            have hCC := hC63
            rw [upd_upd] at hCC
            exact hCC
    · exact absurd c25 (by decide)
theorem cm_take {m tp : Nat} {tb : Nat → Nat} {id : Int32} (hV : MV S mo M n h) (hT : ∀ i, i < 128 → mI S mo 7 i = nI (tb i)) (hb : ∀ i, tb i < 256) (htp : Gs S mo 8 = nI tp) (htp2 : tp ≤ 128) (hyes : tkB tb tp (nI m) = true) (hT1 : isT tb m = true) (hm : m ≤ 55) (hid : idv tb (mI S mo 42) (mI S mo 41) m = id) (hnew : fdo (M 10) id n = none) (hn : n < 140) (hn0 : 1 ≤ n) (hc : h = cH M n) (h03 : M 13 0 = nI 3) : Sp l g mX10_take 0 0 [vr (some mo), vi (nI m)] S (fun r S' => r = some (vi id) ∧ Gc [20, 40, 43] S S' mo (upd (upd (upd (upd (Gs S mo) 8 (nI 0)) 0 (nI 0)) 9 (nI (n + 1))) 17 (nI (tak M n h id m tb).2)) ∧ MV S' mo (tak M n h id m tb).1 (n + 1) (tak M n h id m tb).2) := by
  have hC0 : Gc [20, 40, 43] S S mo (Gs S mo) := Gc.rf
  have hn2 := hV.G.1
  generalize hR : tak M n h id m tb = R
  generalize hG0 : upd (upd (upd (Gs S mo) 8 (nI 0)) 0 (nI 0)) 9 (nI (n + 1)) = G0
  refine Sp.start (own := RX10) [(0, vr (some mo)), (1, vi (nI m))] (by decide +kernel) rfl rfl (Nat.le_of_ble_eq_true rfl) ?_
  intro J C
  have bk : ∀ S2 M2 h2 w, MV S2 mo M2 (n + 1) h2 → J 175 [(0, vr (some mo)), (1, vi (nI m)), (3, vi id), (4, vi (nI n)), (5, vi (nI 1))] [] S2 0 0 → J 186 [(0, vr (some mo)), (1, vi (nI m)), (3, vi id), (4, vi (nI n)), (5, vi (nI 1)), (6, vi (nI w))] [] S2 0 0 := by
    intro S2 M2 h2 w hV2 hJ
    have hC2 : Gc [20, 40, 43] S2 S2 mo (Gs S2 mo) := Gc.rf
    refine r_iload (pc := 186) C dX10_take_186 rfl ?_
    refine r_aload_n (pc := 188) C dX10_take_188 rfl ?_
    refine r_mn (pc := 189) C hV2 dX10_take_189 fx_RX10_16 ?_
    refine r_icmp_ge (pc := 192) (tgt := 241) C dX10_take_192 (by decide) (fun c192 => ?_) (fun c192 => ?_)
    · refine r_goto (pc := 241) (tgt := 175) C dX10_take_241 (by decide) ?_
      exact r_lv C [(0, vr (some mo)), (1, vi (nI m)), (3, vi id), (4, vi (nI n)), (5, vi (nI 1))] rfl hJ
    · refine r_iload (pc := 195) C dX10_take_195 rfl ?_
      refine r_if_ne (pc := 197) (tgt := 241) C dX10_take_197 (by decide) (fun c197 => ?_) (fun c197 => ?_)
      · refine r_goto (pc := 241) (tgt := 175) C dX10_take_241 (by decide) ?_
        exact r_lv C [(0, vr (some mo)), (1, vi (nI m)), (3, vi id), (4, vi (nI n)), (5, vi (nI 1))] rfl hJ
      · exact absurd c197 (by decide)
  have bk0 : ∀ S2 M2 h2, (M2, h2) = R → MV S2 mo M2 (n + 1) h2 → Gc [20, 40, 43] S S2 mo (upd G0 17 (nI h2)) → J 175 [(0, vr (some mo)), (1, vi (nI m)), (3, vi id), (4, vi (nI n)), (5, vi (nI 0))] [] S2 0 0 := by
    intro S2 M2 h2 e hV2 hC2
    refine r_iload (pc := 175) C dX10_take_175 rfl ?_
    refine r_if_eq (pc := 177) (tgt := 244) C dX10_take_177 (by decide) (fun c177 => ?_) (fun c177 => ?_)
    · refine r_iload_n (pc := 244) C dX10_take_244 rfl ?_
      refine r_iret (pc := 245) C dX10_take_245 rfl (by omega) (by omega) ?_
      rw [← e]
      exact ⟨rfl, hC2, hV2⟩
    · exact absurd rfl c177
  have St : ∀ S1 M1 h1, h1 = cH M1 (n + 1) → M1 13 0 = nI 3 → MV S1 mo M1 (n + 1) h1 → Gc [20, 40, 43] S S1 mo (upd G0 17 (nI h1)) → (∀ w, fstU (wai M1 (n + 1)) (n + 1) = some w → ∀ S2, MV S2 mo (lok M1 (n + 1) h1 w).1 (n + 1) (lok M1 (n + 1) h1 w).2 → Gc [20, 40, 43] S S2 mo (upd G0 17 (nI (lok M1 (n + 1) h1 w).2)) → J 175 [(0, vr (some mo)), (1, vi (nI m)), (3, vi id), (4, vi (nI n)), (5, vi (nI 1))] [] S2 0 0) → (fstU (wai M1 (n + 1)) (n + 1) = none → (M1, h1) = R) → J 175 [(0, vr (some mo)), (1, vi (nI m)), (3, vi id), (4, vi (nI n)), (5, vi (nI 1))] [] S1 0 0 := by
    intro S1 M1 h1 hc1 h031 hV1 hC1 nxt fin
    have hw0 : wai M1 (n + 1) 0 = false := by simp only [wai, h031]; rfl
    have L : ∀ w S2, w ≤ n + 1 → (1 ≤ w ∧ fstU (wai M1 (n + 1)) w = none ∧ MV S2 mo M1 (n + 1) h1 ∧ Gc [20, 40, 43] S S2 mo (upd G0 17 (nI h1))) → J 186 [(0, vr (some mo)), (1, vi (nI m)), (3, vi id), (4, vi (nI n)), (5, vi (nI 0)), (6, vi (nI w))] [] S2 0 0 := by
      refine up_loop _ _ _ ?_ ?_
      · intro S2 hS
        obtain ⟨-, hfn, hV2, hC2⟩ := hS
        have e := fin hfn
        refine r_iload (pc := 186) C dX10_take_186 rfl ?_
        refine r_aload_n (pc := 188) C dX10_take_188 rfl ?_
        refine r_mn (pc := 189) C hV2 dX10_take_189 fx_RX10_16 ?_
        refine r_icmp_ge (pc := 192) (tgt := 241) C dX10_take_192 (by decide) (fun c192 => ?_) (fun c192 => ?_)
        · refine r_goto (pc := 241) (tgt := 175) C dX10_take_241 (by decide) ?_
          refine r_iload (pc := 175) C dX10_take_175 rfl ?_
          refine r_if_eq (pc := 177) (tgt := 244) C dX10_take_177 (by decide) (fun c177 => ?_) (fun c177 => ?_)
          · refine r_iload_n (pc := 244) C dX10_take_244 rfl ?_
            refine r_iret (pc := 245) C dX10_take_245 rfl (by omega) (by omega) ?_
            rw [← e]
            exact ⟨rfl, hC2, hV2⟩
          · exact absurd rfl c177
        · exact absurd (Int32.le_refl _) c192
      · intro w S2 hw hS ih
        obtain ⟨hw1, hfn, hV2, hC2⟩ := hS
        have hfs : ∀ q : Bool, wai M1 (n + 1) w = q → fstU (wai M1 (n + 1)) (w + 1) = if q then some w else none := fun q hq => by simp only [fstU, hfn, hq]
        refine r_iload (pc := 186) C dX10_take_186 rfl ?_
        refine r_aload_n (pc := 188) C dX10_take_188 rfl ?_
        refine r_mn (pc := 189) C hV2 dX10_take_189 fx_RX10_16 ?_
        refine r_icmp_ge (pc := 192) (tgt := 241) C dX10_take_192 (by decide) (fun c192 => ?_) (fun c192 => ?_)
        · exact absurd c192 (nI_ge hw (by omega))
        · refine r_iload (pc := 195) C dX10_take_195 rfl ?_
          refine r_if_ne (pc := 197) (tgt := 241) C dX10_take_197 (by decide) (fun c197 => ?_) (fun c197 => ?_)
          · exact absurd rfl c197
          · refine r_aload_n (pc := 200) C dX10_take_200 rfl ?_
            refine r_mA (pc := 201) C hV2 dX10_take_201 fx_RX10_30 (len := 140) (by decide) ?_
            refine r_iload (pc := 204) C dX10_take_204 rfl ?_
            refine r_mL (pc := 206) C hV2 dX10_take_206 (k := 13) (len := 140) (by decide) (by decide) (by decide) (by omega) (by decide) ?_
            refine r_iconst (pc := 207) C (nI 1) dX10_take_207 rfl ?_
            refine r_icmp_ne (pc := 208) (tgt := 235) C dX10_take_208 (by decide) (fun c208 => ?_) (fun c208 => ?_)
            · refine r_iinc (pc := 235) C _ dX10_take_235 rfl (nI_1 _) (by decide) rfl ?_
              refine r_goto (pc := 238) (tgt := 186) C dX10_take_238 (by decide) ?_
              exact r_lv C [(0, vr (some mo)), (1, vi (nI m)), (3, vi id), (4, vi (nI n)), (5, vi (nI 0)), (6, vi (nI (w + 1)))] rfl (ih _ ⟨by omega, hfs false (by simp only [wai, decide_eq_false c208]; rfl), hV2, hC2⟩)
            · have hlt : h1 < n + 1 := by rw [hc1]; exact cH_lt hw c208
              refine r_aload_n (pc := 211) C dX10_take_211 rfl ?_
              refine r_iload (pc := 212) C dX10_take_212 rfl ?_
              refine r_callV (pc := 214) C (cm_lookAt hV2 hw (by omega) hlt) iX10_lookAt ml_RX10_221 dX10_take_214 (ci := 11) rfl rfl hV2.1.1 rfl (by decide) rfl (by simp [cv, Value.category, va_rf]) (by omega) (by omega) (fun r214 S214 h214 => ?_)
              obtain ⟨rfl, hCr, hV214⟩ := h214
              have hC214 := hC2.trs hCr
              dsimp only [Option.toList, List.cons_append, List.nil_append]
              refine r_aload_n (pc := 217) C dX10_take_217 rfl ?_
              refine r_mA (pc := 218) C hV214 dX10_take_218 fx_RX10_30 (len := 140) (by decide) ?_
              refine r_iload (pc := 221) C dX10_take_221 rfl ?_
              refine r_mL (pc := 223) C hV214 dX10_take_223 (k := 13) (len := 140) (by decide) (by decide) (by decide) (by omega) (by decide) ?_
              refine r_iconst (pc := 224) C (nI 1) dX10_take_224 rfl ?_
              refine r_icmp_eq (pc := 225) (tgt := 232) C dX10_take_225 (by decide) (fun c225 => ?_) (fun c225 => ?_)
              · have hgo : goes M1 (n + 1) w = false := by cases q : goes M1 (n + 1) w with | false => rfl | true => exact absurd c225 (lok_now q)
                have hwf : wai M1 (n + 1) w = false := by simp only [wai, hgo, Bool.and_false]
                have hlk := lok_stay (h := h1) hgo
                refine r_iconst (pc := 232) C (nI 0) dX10_take_232 rfl ?_
                refine r_istore (pc := 233) C dX10_take_233 (by decide) rfl ?_
                refine r_iinc (pc := 235) C _ dX10_take_235 rfl (nI_1 _) (by decide) rfl ?_
                refine r_goto (pc := 238) (tgt := 186) C dX10_take_238 (by decide) ?_
                have hVV := hV214
                have hCC := hC214
                first
                  | (rw [hlk] at hVV hCC; simp only [upd_upd] at hCC; exact r_lv C [(0, vr (some mo)), (1, vi (nI m)), (3, vi id), (4, vi (nI n)), (5, vi (nI 0)), (6, vi (nI (w + 1)))] rfl (ih _ ⟨by omega, hfs false hwf, hVV, hCC⟩))
                  | (simp only [upd_upd] at hCC; exact r_lv C [(0, vr (some mo)), (1, vi (nI m)), (3, vi id), (4, vi (nI n)), (5, vi (nI 1)), (6, vi (nI (w + 1)))] rfl (bk _ _ _ _ hVV (nxt w hfw _ hVV hCC)))
              · have hgo : goes M1 (n + 1) w = true := by
                  cases q : goes M1 (n + 1) w with
                  | true => rfl
                  | false => rw [lok_stay q] at c225; exact absurd c208 c225
                have hwt : wai M1 (n + 1) w = true := by simp only [wai, hgo, decide_eq_true c208]; rfl
                have hfw : fstU (wai M1 (n + 1)) (n + 1) = some w := by
                  have hk : ∀ k, w + 1 ≤ k → fstU (wai M1 (n + 1)) k = some w := by
                    intro k hk
                    induction k with
                    | zero => omega
                    | succ k ihk =>
                      by_cases q : w + 1 = k + 1
                      · rw [← q]; exact hfs true hwt
                      · simp only [fstU, ihk (by omega)]
                  exact hk _ (by omega)
                refine r_iconst (pc := 228) C (nI 1) dX10_take_228 rfl ?_
                refine r_goto (pc := 229) (tgt := 233) C dX10_take_229 (by decide) ?_
                refine r_istore (pc := 233) C dX10_take_233 (by decide) rfl ?_
                refine r_iinc (pc := 235) C _ dX10_take_235 rfl (nI_1 _) (by decide) rfl ?_
                refine r_goto (pc := 238) (tgt := 186) C dX10_take_238 (by decide) ?_
                have hVV := hV214
                have hCC := hC214
                first
                  | (rw [hlk] at hVV hCC; simp only [upd_upd] at hCC; exact r_lv C [(0, vr (some mo)), (1, vi (nI m)), (3, vi id), (4, vi (nI n)), (5, vi (nI 0)), (6, vi (nI (w + 1)))] rfl (ih _ ⟨by omega, hfs false hwf, hVV, hCC⟩))
                  | (simp only [upd_upd] at hCC; exact r_lv C [(0, vr (some mo)), (1, vi (nI m)), (3, vi id), (4, vi (nI n)), (5, vi (nI 1)), (6, vi (nI (w + 1)))] rfl (bk _ _ _ _ hVV (nxt w hfw _ hVV hCC)))
    refine r_iload (pc := 175) C dX10_take_175 rfl ?_
    refine r_if_eq (pc := 177) (tgt := 244) C dX10_take_177 (by decide) (fun c177 => ?_) (fun c177 => ?_)
    · exact absurd c177 (by decide)
    · refine r_iconst (pc := 180) C (nI 0) dX10_take_180 rfl ?_
      refine r_istore (pc := 181) C dX10_take_181 (by decide) rfl ?_
      refine r_iconst (pc := 183) C (nI 1) dX10_take_183 rfl ?_
      refine r_istore (pc := 184) C dX10_take_184 (by decide) rfl ?_
      exact r_lv C [(0, vr (some mo)), (1, vi (nI m)), (3, vi id), (4, vi (nI n)), (5, vi (nI 0)), (6, vi (nI 1))] rfl (L 1 S1 (by omega) ⟨by omega, by simp only [fstU, hw0]; rfl, hV1, hC1⟩)
  have It : ∀ f S1 M1 h1, cW M1 (n + 1) ≤ f → h1 = cH M1 (n + 1) → M1 13 0 = nI 3 → MV S1 mo M1 (n + 1) h1 → Gc [20, 40, 43] S S1 mo (upd G0 17 (nI h1)) → itW f M1 (n + 1) h1 = R → J 175 [(0, vr (some mo)), (1, vi (nI m)), (3, vi id), (4, vi (nI n)), (5, vi (nI 1))] [] S1 0 0 := by
    intro f
    induction f with
    | zero =>
      intro S1 M1 h1 hcw hc1 h031 hV1 hC1 hit
      refine St S1 M1 h1 hc1 h031 hV1 hC1 ?_ (fun _ => hit)
      intro w hw
      obtain ⟨a1, a2, -⟩ := fstU_some hw
      have := (lok_cH (h := h1) a2 a1 hc1).2
      omega
    | succ f ih =>
      intro S1 M1 h1 hcw hc1 h031 hV1 hC1 hit
      refine St S1 M1 h1 hc1 h031 hV1 hC1 ?_ (fun hn => by simp only [itW, hn] at hit; exact hit)
      intro w hw S2 hV2 hC2
      obtain ⟨a1, a2, -⟩ := fstU_some hw
      have hlc := lok_cH (h := h1) a2 a1 hc1
      have hw0 : w ≠ 0 := by
        intro e
        subst e
        have := wai_w a2
        rw [h031] at this
        exact absurd this (by decide)
      exact ih S2 _ _ (by omega) hlc.1 (by rw [lok_13 (Ne.symm hw0)]; exact h031) hV2 hC2 (by simp only [itW, hw] at hit; exact hit)
  have hA : GV (adm M n id m tb) (n + 1) h := hV.G.add (adm_grw hnew) hn (adm_rk hn (by omega) hb hm hT1)
  have hcA : h = cH (adm M n id m tb) (n + 1) := adm_cH hc
  have h03A : adm M n id m tb 13 0 = nI 3 := by rw [adm_13, pk_un (by omega)]; exact h03
  have L2 : ∀ S1, MV S1 mo (adm M n id m tb) (n + 1) h → Gc [20, 40, 43] S S1 mo (upd G0 17 (nI h)) → J 151 [(0, vr (some mo)), (1, vi (nI m)), (3, vi id), (4, vi (nI n))] [] S1 0 0 := by
    intro S1 hV1 hC1
    have hwA : adm M n id m tb 13 n = nI 1 := by rw [adm_13, pk_us]
    have hlt : h < n + 1 := by have := hV.G.2.1; omega
    refine r_aload_n (pc := 151) C dX10_take_151 rfl ?_
    refine r_iload (pc := 152) C dX10_take_152 rfl ?_
    refine r_callV (pc := 154) C (cm_lookAt hV1 (by omega) (by omega) hlt) iX10_lookAt ml_RX10_221 dX10_take_154 (ci := 11) rfl rfl hV1.1.1 rfl (by decide) rfl (by simp [cv, Value.category, va_rf]) (by omega) (by omega) (fun r154 S154 h154 => ?_)
    obtain ⟨rfl, hCr, hV154⟩ := h154
    have hC154 := hC1.trs hCr
    dsimp only [Option.toList, List.cons_append, List.nil_append]
    refine r_aload_n (pc := 157) C dX10_take_157 rfl ?_
    refine r_mA (pc := 158) C hV154 dX10_take_158 fx_RX10_30 (len := 140) (by decide) ?_
    refine r_iload (pc := 161) C dX10_take_161 rfl ?_
    refine r_mL (pc := 163) C hV154 dX10_take_163 (k := 13) (len := 140) (by decide) (by decide) (by decide) (by omega) (by decide) ?_
    refine r_iconst (pc := 164) C (nI 1) dX10_take_164 rfl ?_
    refine r_icmp_eq (pc := 165) (tgt := 172) C dX10_take_165 (by decide) (fun c165 => ?_) (fun c165 => ?_)
    · have hgo : goes (adm M n id m tb) (n + 1) n = false := by cases q : goes (adm M n id m tb) (n + 1) n with | false => rfl | true => exact absurd c165 (lok_now q)
      have hlk := lok_stay (h := h) hgo
      have hRe : (adm M n id m tb, h) = R := by rw [← hR]; simp only [tak, hgo, Bool.false_eq_true, if_false]
      refine r_iconst (pc := 172) C (nI 0) dX10_take_172 rfl ?_
      refine r_istore (pc := 173) C dX10_take_173 (by decide) rfl ?_
      have hVV := hV154
      have hCC := hC154
      simp only [upd_upd] at hCC
      first
        | (rw [hlk] at hVV hCC; exact r_lv C [(0, vr (some mo)), (1, vi (nI m)), (3, vi id), (4, vi (nI n)), (5, vi (nI 0))] rfl (bk0 _ _ _ hRe hVV hCC))
        | exact r_lv C [(0, vr (some mo)), (1, vi (nI m)), (3, vi id), (4, vi (nI n)), (5, vi (nI 1))] rfl (It 140 _ _ _ (Nat.le_trans cntU_le (by omega)) hlc.1 (by rw [lok_13 (by omega)]; exact h03A) hVV hCC hRe)
    · have hgo : goes (adm M n id m tb) (n + 1) n = true := by
        cases q : goes (adm M n id m tb) (n + 1) n with
        | true => rfl
        | false => rw [lok_stay q] at c165; exact absurd hwA c165
      have hRe : itW 140 (lok (adm M n id m tb) (n + 1) h n).1 (n + 1) (lok (adm M n id m tb) (n + 1) h n).2 = R := by rw [← hR]; simp only [tak, hgo, if_true]
      have hlc := lok_cH (M := adm M n id m tb) (n := n + 1) (h := h) (t := n) (by simp only [wai, hgo, hwA]; rfl) (by omega) hcA
      refine r_iconst (pc := 168) C (nI 1) dX10_take_168 rfl ?_
      refine r_goto (pc := 169) (tgt := 173) C dX10_take_169 (by decide) ?_
      refine r_istore (pc := 173) C dX10_take_173 (by decide) rfl ?_
      have hVV := hV154
      have hCC := hC154
      simp only [upd_upd] at hCC
      first
        | (rw [hlk] at hVV hCC; exact r_lv C [(0, vr (some mo)), (1, vi (nI m)), (3, vi id), (4, vi (nI n)), (5, vi (nI 0))] rfl (bk0 _ _ _ hRe hVV hCC))
        | exact r_lv C [(0, vr (some mo)), (1, vi (nI m)), (3, vi id), (4, vi (nI n)), (5, vi (nI 1))] rfl (It 140 _ _ _ (Nat.le_trans cntU_le (by omega)) hlc.1 (by rw [lok_13 (by omega)]; exact h03A) hVV hCC hRe)
  have L1 : ∀ i S1, i ≤ m → (MW S1 mo (uk (um (um M 10 n id) 12 n (nI m)) 11 (rw1 (M 11) n tb i)) ∧ Gc [20, 40, 43] S S1 mo G0) → J 110 [(0, vr (some mo)), (1, vi (nI m)), (3, vi id), (4, vi (nI n)), (5, vi (nI i))] [] S1 0 0 := by
    refine up_loop _ _ _ ?_ ?_
    · intro S1 hS
      obtain ⟨hW1, hC1⟩ := hS
      refine r_iload (pc := 110) C dX10_take_110 rfl ?_
      refine r_iload_n (pc := 112) C dX10_take_112 rfl ?_
      refine r_icmp_ge (pc := 113) (tgt := 143) C dX10_take_113 (by decide) (fun c113 => ?_) (fun c113 => ?_)
      · refine r_aload_n (pc := 143) C dX10_take_143 rfl ?_
        refine r_getR (pc := 144) C dX10_take_144 fx_RX10_30 hW1.1.1 (hW1.1.2 13 140 (by decide)).1 ?_
        refine r_iload (pc := 147) C dX10_take_147 rfl ?_
        refine r_iconst (pc := 149) C (nI 1) dX10_take_149 rfl ?_
        refine r_iast (pc := 150) C dX10_take_150 (hW1.1.2 13 140 (by decide)).2.1 (by decide) (hW1.1.2 13 140 (by decide)).2.2 (by first | assumption | exact vp_in_nI (by omega) (by omega)) (by first | exact nI_clamp (by omega) | rfl) ?_
        rw [hW1.2 13 (by decide)]
        have hW150 := hW1.put (k := 13) (f := upd (uk (um (um M 10 n id) 12 n (nI m)) 11 (rw1 (M 11) n tb m) 13) n (nI 1)) (by decide)
        have hC150 := hC1.trk (Gc.put (E := [20, 40, 43]) (k := 13) (f := upd (uk (um (um M 10 n id) 12 n (nI m)) 11 (rw1 (M 11) n tb m) 13) n (nI 1)) (by decide) (by decide))
        generalize putI S1 (mkd 13) (ma S1 mo 13) (upd (uk (um (um M 10 n id) 12 n (nI m)) 11 (rw1 (M 11) n tb m) 13) n (nI 1)) = S150 at hW150 hC150 ⊢
        have hg := hC150.gs
        have hg17 : G0 17 = nI h := by rw [← hG0]; exact hV.2.2.1
        have hC151 : Gc [20, 40, 43] S S150 mo (upd G0 17 (nI h)) := by rw [upd_id hg17]; exact hC150
        have hV150 : MV S150 mo (adm M n id m tb) (n + 1) h := hW150.V (by rw [hg, ← hG0]; simp [upd]) (by rw [hg]; exact hg17) hA
        exact r_lv C [(0, vr (some mo)), (1, vi (nI m)), (3, vi id), (4, vi (nI n))] rfl (L2 S150 hV150 hC151)
      · exact absurd (Int32.le_refl _) c113
    · intro i S1 hi hS ih
      obtain ⟨hW1, hC1⟩ := hS
      have hti : aI S1 (mkd 7) (ma S1 mo 7) i = nI (tb i) := by
        have := hC1.keep (k := 7) (by decide) (by decide) (by decide)
        rw [← hT i (by omega), ← this]
      refine r_iload (pc := 110) C dX10_take_110 rfl ?_
      refine r_iload_n (pc := 112) C dX10_take_112 rfl ?_
      refine r_icmp_ge (pc := 113) (tgt := 143) C dX10_take_113 (by decide) (fun c113 => ?_) (fun c113 => ?_)
      · exact absurd c113 (nI_ge hi (by omega))
      · refine r_aload_n (pc := 116) C dX10_take_116 rfl ?_
        refine r_getR (pc := 117) C dX10_take_117 fx_RX10_23 hW1.1.1 (hW1.1.2 11 7840 (by decide)).1 ?_
        refine r_bipush (pc := 120) C (nI 56) dX10_take_120 rfl ?_
        refine r_iload (pc := 122) C dX10_take_122 rfl ?_
        refine r_imul (pc := 124) C dX10_take_124 ?_
        try simp only [nI_add, pk_mul]
        refine r_iload (pc := 125) C dX10_take_125 rfl ?_
        refine r_iadd (pc := 127) C dX10_take_127 ?_
        try simp only [nI_add, pk_mul]
        refine r_aload_n (pc := 128) C dX10_take_128 rfl ?_
        refine r_getR (pc := 129) C dX10_take_129 fx_RX10_13 hW1.1.1 (hW1.1.2 7 128 (by decide)).1 ?_
        refine r_iload (pc := 132) C dX10_take_132 rfl ?_
        refine r_iald (pc := 134) C dX10_take_134 (hW1.1.2 7 128 (by decide)).2.1 (by decide) (hW1.1.2 7 128 (by decide)).2.2 (by first | assumption | exact vp_in_nI (by omega) (by omega)) (by first | exact nI_clamp (by omega) | rfl) ?_
        rw [hti]
        refine r_i2b (pc := 135) C dX10_take_135 ?_
        refine r_bast (pc := 136) C dX10_take_136 (hW1.1.2 11 7840 (by decide)).2.1 (by decide) (hW1.1.2 11 7840 (by decide)).2.2 (by first | assumption | exact vp_in_nI (by omega) (by omega)) (by first | exact nI_clamp (by omega) | rfl) (b8_8 (tb i)) ?_
        rw [hW1.2 11 (by decide), uk_s, rw1_s]
        have hW136 := hW1.put (k := 11) (f := rw1 (M 11) n tb (i + 1)) (by decide)
        rw [uk_uk] at hW136
        have hC136 := hC1.trk (Gc.put (E := [20, 40, 43]) (k := 11) (f := rw1 (M 11) n tb (i + 1)) (by decide) (by decide))
        refine r_iinc (pc := 137) C _ dX10_take_137 rfl (nI_1 _) (by decide) rfl ?_
        refine r_goto (pc := 140) (tgt := 110) C dX10_take_140 (by decide) ?_
        exact r_lv C [(0, vr (some mo)), (1, vi (nI m)), (3, vi id), (4, vi (nI n)), (5, vi (nI (i + 1)))] rfl (ih _ ⟨hW136, hC136⟩)
  refine r_aload_n (pc := 0) C dX10_take_0 rfl ?_
  refine r_iload_n (pc := 1) C dX10_take_1 rfl ?_
  refine r_callV (pc := 2) C (cm_isT hV hT hb htp htp2) iX10_isTransaction ml_RX10_214 dX10_take_2 (ci := 11) rfl rfl hV.1.1 rfl (by decide) rfl (by simp [cv, Value.category, va_rf]) (by omega) (by omega) (fun r2 S2 h2 => ?_)
  obtain ⟨rfl, e2⟩ := h2
  subst S2
  dsimp only [Option.toList, List.cons_append, List.nil_append]
  rw [hyes]
  refine r_istore_n (pc := 5) C dX10_take_5 (by decide) rfl ?_
  refine r_aload_n (pc := 6) C dX10_take_6 rfl ?_
  refine r_iconst (pc := 7) C (nI 0) dX10_take_7 rfl ?_
  refine r_mP (pc := 8) (k := 8) C hV dX10_take_8 fx_RX10_173 (fp_11_8 _) (by decide) (fun S8 hC8 hV8 => ?_)
  have hC8r := hC8
  have hC8 := hC0.trs hC8
  refine r_aload_n (pc := 11) C dX10_take_11 rfl ?_
  refine r_iload_n (pc := 12) C dX10_take_12 rfl ?_
  refine r_if_eq (pc := 13) (tgt := 20) C dX10_take_13 (by decide) (fun c13 => ?_) (fun c13 => ?_)
  · exact absurd c13 (by decide)
  · refine r_iconst (pc := 16) C (nI 0) dX10_take_16 rfl ?_
    refine r_goto (pc := 17) (tgt := 21) C dX10_take_17 (by decide) ?_
    refine r_mP (pc := 21) (k := 0) C hV8 dX10_take_21 fx_RX10_145 (fp_11_0 _) (by decide) (fun S21 hC21 hV21 => ?_)
    have hC21r := hC21
    have hC21 := hC8.trs hC21
    refine r_iload_n (pc := 24) C dX10_take_24 rfl ?_
    refine r_if_ne (pc := 25) (tgt := 30) C dX10_take_25 (by decide) (fun c25 => ?_) (fun c25 => ?_)
    · refine r_aload_n (pc := 30) C dX10_take_30 rfl ?_
      refine r_iload_n (pc := 31) C dX10_take_31 rfl ?_
      refine r_callV (pc := 32) C (cm_hashOf hV21 hm) iX10_hashOf ml_RX10_217 dX10_take_32 (ci := 11) rfl rfl hV21.1.1 rfl (by decide) rfl (by simp [cv, Value.category, va_rf]) (by omega) (by omega) (fun r32 S32 h32 => ?_)
      obtain ⟨rfl, hCr, hV32⟩ := h32
      have hC32 := hC21.trk hCr
      dsimp only [Option.toList, List.cons_append, List.nil_append]
      rw [hsh_dig hm (fun i hi => by rw [hC21.keep (k := 7) (by decide) (by decide) (by decide)]; exact hT i (by omega)), hC21.keep (k := 42) (by decide) (by decide) (by decide), hC21.keep (k := 41) (by decide) (by decide) (by decide)]
      refine r_ldc (pc := 35) C kc_RX10_220 dX10_take_35 ?_
      refine r_iand (pc := 37) C dX10_take_37 ?_
      rw [show dig tb (mI S mo 42) (mI S mo 41) m &&& 2147483647 = id from hid]
      refine r_istore_n (pc := 38) C dX10_take_38 (by decide) rfl ?_
      refine r_aload_n (pc := 39) C dX10_take_39 rfl ?_
      refine r_aload_n (pc := 40) C dX10_take_40 rfl ?_
      refine r_iload_n (pc := 41) C dX10_take_41 rfl ?_
      refine r_callV (pc := 42) C (mv_find hV32) iX10_find ml_RX10_198 dX10_take_42 (ci := 11) rfl rfl hV32.1.1 rfl (by decide) rfl (by simp [cv, Value.category, va_rf]) (by omega) (by omega) (fun r42 S42 h42 => ?_)
      obtain ⟨rfl, e42⟩ := h42
      subst S42
      dsimp only [Option.toList, List.cons_append, List.nil_append]
      rw [hnew]
      refine r_if_ge (pc := 45) (tgt := 58) C dX10_take_45 (by decide) (fun c45 => ?_) (fun c45 => ?_)
      · exact absurd c45 (by decide)
      · refine r_aload_n (pc := 48) C dX10_take_48 rfl ?_
        refine r_mn (pc := 49) C hV32 dX10_take_49 fx_RX10_16 ?_
        refine r_sipush (pc := 52) C (nI 140) dX10_take_52 rfl ?_
        refine r_icmp_ne (pc := 55) (tgt := 62) C dX10_take_55 (by decide) (fun c55 => ?_) (fun c55 => ?_)
        · refine r_iconst (pc := 62) C (nI 0) dX10_take_62 rfl ?_
          refine r_mP (pc := 63) (k := 0) C hV32 dX10_take_63 fx_RX10_145 (fp_11_0 _) (by decide) (fun S63 hC63 hV63 => ?_)
          have hC63r := hC63
          have hC63 := hC32.trs hC63
          refine r_aload_n (pc := 66) C dX10_take_66 rfl ?_
          refine r_mI (pc := 67) (k := 0) C hV63 dX10_take_67 fx_RX10_145 ?_
          rw [show Gs _ mo 0 = nI 0 from by rw [hC63.gs]; simp [upd]]
          refine r_if_le (pc := 70) (tgt := 75) C dX10_take_70 (by decide) (fun c70 => ?_) (fun c70 => ?_)
          · refine r_aload_n (pc := 75) C dX10_take_75 rfl ?_
            refine r_mn (pc := 76) C hV63 dX10_take_76 fx_RX10_16 ?_
            refine r_istore (pc := 79) C dX10_take_79 (by decide) rfl ?_
            refine r_aload_n (pc := 81) C dX10_take_81 rfl ?_
            refine r_dup (pc := 82) C dX10_take_82 rfl ?_
            refine r_mn (pc := 83) C hV63 dX10_take_83 fx_RX10_16 ?_
            refine r_iconst (pc := 86) C (nI 1) dX10_take_86 rfl ?_
            refine r_iadd (pc := 87) C dX10_take_87 ?_
            try simp only [nI_add, pk_mul]
            refine r_putI (pc := 88) C dX10_take_88 fx_RX10_16 (fp_11_9 _) hV63.1.1 ?_
            have hW88 := hV63.W.set (k := 9) (v := nI (n + 1))
            have hC88 := hC63.trs (Gc.set (E := [20, 40, 43]) (k := 9) (v := nI (n + 1)))
            rw [upd_upd, hG0] at hC88
            generalize setI S63 (1100 + 9) mo (nI (n + 1)) = S88 at hW88 hC88 ⊢
            refine r_aload_n (pc := 91) C dX10_take_91 rfl ?_
            refine r_getR (pc := 92) C dX10_take_92 fx_RX10_20 hW88.1.1 (hW88.1.2 10 140 (by decide)).1 ?_
            refine r_iload (pc := 95) C dX10_take_95 rfl ?_
            refine r_iload_n (pc := 97) C dX10_take_97 rfl ?_
            refine r_iast (pc := 98) C dX10_take_98 (hW88.1.2 10 140 (by decide)).2.1 (by decide) (hW88.1.2 10 140 (by decide)).2.2 (by first | assumption | exact vp_in_nI (by omega) (by omega)) (by first | exact nI_clamp (by omega) | rfl) ?_
            rw [hW88.2 10 (by decide)]
            have hW98 : MW _ mo (um M 10 n id) := hW88.put (k := 10) (f := upd (M 10) n id) (by decide)
            have hC98 := hC88.trk (Gc.put (E := [20, 40, 43]) (k := 10) (f := upd (M 10) n id) (by decide) (by decide))
            generalize putI S88 (mkd 10) (ma S88 mo 10) (upd (M 10) n id) = S98 at hW98 hC98 ⊢
            refine r_aload_n (pc := 99) C dX10_take_99 rfl ?_
            refine r_getR (pc := 100) C dX10_take_100 fx_RX10_27 hW98.1.1 (hW98.1.2 12 140 (by decide)).1 ?_
            refine r_iload (pc := 103) C dX10_take_103 rfl ?_
            refine r_iload_n (pc := 105) C dX10_take_105 rfl ?_
            refine r_iast (pc := 106) C dX10_take_106 (hW98.1.2 12 140 (by decide)).2.1 (by decide) (hW98.1.2 12 140 (by decide)).2.2 (by first | assumption | exact vp_in_nI (by omega) (by omega)) (by first | exact nI_clamp (by omega) | rfl) ?_
            rw [hW98.2 12 (by decide)]
            have hW106 : MW _ mo (um (um M 10 n id) 12 n (nI m)) := hW98.put (k := 12) (f := upd (um M 10 n id 12) n (nI m)) (by decide)
            have hC106 := hC98.trk (Gc.put (E := [20, 40, 43]) (k := 12) (f := upd (um M 10 n id 12) n (nI m)) (by decide) (by decide))
            have hr0 : uk (um (um M 10 n id) 12 n (nI m)) 11 (rw1 (M 11) n tb 0) = um (um M 10 n id) 12 n (nI m) := by rw [rw1_0]; funext j; simp only [uk]; split <;> first | (next e => subst e; rfl) | rfl
            refine r_iconst (pc := 107) C (nI 0) dX10_take_107 rfl ?_
            refine r_istore (pc := 108) C dX10_take_108 (by decide) rfl ?_
            exact r_lv C [(0, vr (some mo)), (1, vi (nI m)), (3, vi id), (4, vi (nI n)), (5, vi (nI 0))] rfl (L1 0 _ (by omega) ⟨by rw [hr0]; exact hW106, hC106⟩)
          · exact absurd (by decide) c70
        · exact absurd ((nI_eq (a := n) (b := 140) (by omega) (by omega)).mp c55) (by omega)
    · exact absurd c25 (by decide)
end Take
