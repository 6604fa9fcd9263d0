/-! The reference: primes and roots -/
def prQ (p k : Nat) : Bool := decide (p < (k + 2) * (k + 2)) || !decide (p % (k + 2) = 0)
def prm (p : Nat) : Bool := allU (prQ p) 20
def lmb (r : Int64) (n : Int32) : Int64 := (r >>> ((nI 20 * n).toInt64 &&& 63)) &&& 1048575
def sR20 (x : Int64) : Int64 := x >>> ((nI 20).toInt64 &&& 63)
def rtW (a b : Int64) : Int64 := (2 * a) * b
def rtL (a b : Int64) : Int64 := (lmb (rtW a b) (nI 0) <<< ((nI 20).toInt64 &&& 63)) + b * b
def rtH (a b : Int64) : Int64 := (a * a + sR20 (rtW a b)) + (rtL a b >>> ((nI 40).toInt64 &&& 63))
def rtB (r p : Int64) : Bool := decide (lg_cmp (rtH (sR20 r) (lmb r (nI 0))) (p <<< ((nI 24).toInt64 &&& 63)) < 0) || (decide (lg_cmp (rtH (sR20 r) (lmb r (nI 0))) (p <<< ((nI 24).toInt64 &&& 63)) = 0) && decide (lg_cmp (rtL (sR20 r) (lmb r (nI 0)) &&& 1099511627775) (lN 0) = 0))
/-- the cube, limb by limb -/
def cu1 (a b : Int64) : Int64 := lmb (rtL a b) (nI 0) * b
def cu2 (a b : Int64) : Int64 := (sR20 (cu1 a b) + lmb (rtL a b) (nI 0) * a) + lmb (rtL a b) (nI 1) * b
def cu3 (a b : Int64) : Int64 := (sR20 (cu2 a b) + lmb (rtL a b) (nI 1) * a) + lmb (rtH a b) (nI 0) * b
def cu4 (a b : Int64) : Int64 := (sR20 (cu3 a b) + lmb (rtH a b) (nI 0) * a) + sR20 (rtH a b) * b
def cu5 (a b : Int64) : Int64 := sR20 (cu4 a b) + sR20 (rtH a b) * a
def cuR (a b : Int64) : Int64 := ((lmb (cu1 a b) (nI 0) ||| lmb (cu2 a b) (nI 0)) ||| lmb (cu3 a b) (nI 0)) ||| lmb (cu4 a b) (nI 0)
def cuB (r p : Int64) : Bool := decide (lg_cmp (cu5 (sR20 r) (lmb r (nI 0))) (p <<< ((nI 16).toInt64 &&& 63)) < 0) || (decide (lg_cmp (cu5 (sR20 r) (lmb r (nI 0))) (p <<< ((nI 16).toInt64 &&& 63)) = 0) && decide (lg_cmp (cuR (sR20 r) (lmb r (nI 0))) (lN 0) = 0))
def bt1 (r : Int64) (i : Nat) : Int64 := r ||| (lN 1 <<< ((nI i).toInt64 &&& 63))
def rot2 (f : Int64 → Bool) : Nat → Int64 → Int64
  | 0, r => r
  | i + 1, r => rot2 f i (if f (bt1 r i) then bt1 r i else r)
def sqV (p : Nat) : Int32 := (rot2 (fun r => rtB r (nI p).toInt64) 35 (lN 0)).toInt32
def cbV (p : Nat) : Int32 := (rot2 (fun r => cuB r (nI p).toInt64) 35 (lN 0)).toInt32
def pTab : List Nat := [2, 3, 5, 7, 11, 13, 17, 19, 23, 29, 31, 37, 41, 43, 47, 53, 59, 61, 67, 71, 73, 79, 83, 89, 97, 101, 103, 107, 109, 113, 127, 131, 137, 139, 149, 151, 157, 163, 167, 173, 179, 181, 191, 193, 197, 199, 211, 223, 227, 229, 233, 239, 241, 251, 257, 263, 269, 271, 277, 281, 283, 293, 307, 311]
def pN (n : Nat) : Nat := pTab.getD n 0
def pLo (n : Nat) : Nat := if n = 0 then 2 else pN (n - 1) + 1
theorem p_ok : allU (fun n => prm (pN n) && allU (fun i => !prm (pLo n + i)) (pN n - pLo n) && decide (pLo n ≤ pN n) && decide (pN n < 312)) 64 = true := by decide +kernel
theorem p_at {n : Nat} (hn : n < 64) : prm (pN n) = true ∧ (∀ q, pLo n ≤ q → q < pN n → prm q = false) ∧ pLo n ≤ pN n ∧ pN n < 312 := by
  have h := allU_iff.mp p_ok n hn
  simp only [Bool.and_eq_true, decide_eq_true_eq] at h
  obtain ⟨⟨⟨h1, h2⟩, h3⟩, h4⟩ := h
  refine ⟨h1, fun q a b => ?_, h3, h4⟩
  have := allU_iff.mp h2 (q - pLo n) (by omega)
  rw [show pLo n + (q - pLo n) = q by omega] at this
  simpa using this
section Roots
variable {l : Launch} {g : GG} {S : hS}
theorem cm_isPrime {p : Nat} (hp : p < 400) : Sp l g mX10_isPrime 0 0 [vi (nI p)] S (fun r S' => r = some (vi (bi (prm p))) ∧ S' = S) := by
  refine Sp.start (own := RX10) [(0, vi (nI p))] (by decide +kernel) rfl rfl (Nat.le_of_ble_eq_true rfl) ?_
  intro J C
  have L : ∀ k x, k ≤ 20 → x = bi (allU (prQ p) k) → J 4 [(0, vi (nI p)), (1, vi x), (2, vi (nI (k + 2)))] [] S 0 0 := by
    refine up_loop _ _ _ ?_ ?_
    · intro x hx
      refine r_iload_n (pc := 4) C dX10_isPrime_4 rfl ?_
      refine r_iload_n (pc := 5) C dX10_isPrime_5 rfl ?_
      refine r_imul (pc := 6) C dX10_isPrime_6 ?_
      try simp only [nI_add, pk_mul]
      refine r_iload_n (pc := 7) C dX10_isPrime_7 rfl ?_
      refine r_icmp_gt (pc := 8) (tgt := 33) C dX10_isPrime_8 (by decide) (fun c8 => ?_) (fun c8 => ?_)
      · refine r_iload_n (pc := 33) C dX10_isPrime_33 rfl ?_
        refine r_zret (pc := 34) C dX10_isPrime_34 rfl (by rw [hx]; exact bi_01 _) (by omega) (by omega) ?_
        exact ⟨by rw [hx]; rfl, rfl⟩
      · exact absurd (nI_lt (show p < (20 + 2) * (20 + 2) by omega) (by omega)) c8
    · intro k x hk hx ih
      subst hx
      have hkk : (k + 2) * (k + 2) ≤ 22 * 22 := Nat.mul_le_mul (by omega) (by omega)
      refine r_iload_n (pc := 4) C dX10_isPrime_4 rfl ?_
      refine r_iload_n (pc := 5) C dX10_isPrime_5 rfl ?_
      refine r_imul (pc := 6) C dX10_isPrime_6 ?_
      try simp only [nI_add, pk_mul]
      refine r_iload_n (pc := 7) C dX10_isPrime_7 rfl ?_
      refine r_icmp_gt (pc := 8) (tgt := 33) C dX10_isPrime_8 (by decide) (fun c8 => ?_) (fun c8 => ?_)
      · rw [nI_ltI (by omega) (by omega)] at c8
        have e : allU (prQ p) 20 = allU (prQ p) k := by
          have hr : ∀ m, k ≤ m → allU (prQ p) m = allU (prQ p) k := by
            intro m
            induction m with
            | zero => intro h; have : k = 0 := by omega
                      subst this; rfl
            | succ m ihm =>
              intro h
              by_cases q : k = m + 1
              · rw [q]
              · have hm : (k + 2) * (k + 2) ≤ (m + 2) * (m + 2) := Nat.mul_le_mul (by omega) (by omega)
                simp only [allU, prQ]
                rw [decide_eq_true (show p < (m + 2) * (m + 2) by omega), Bool.true_or, Bool.and_true]
                exact ihm (by omega)
          exact hr 20 (by omega)
        refine r_iload_n (pc := 33) C dX10_isPrime_33 rfl ?_
        refine r_zret (pc := 34) C dX10_isPrime_34 rfl (bi_01 _) (by omega) (by omega) ?_
        exact ⟨by simp only [prm, e], rfl⟩
      · rw [nI_ltI (by omega) (by omega)] at c8
        refine r_iload_n (pc := 11) C dX10_isPrime_11 rfl ?_
        refine r_if_eq (pc := 12) (tgt := 25) C dX10_isPrime_12 (by decide) (fun c12 => ?_) (fun c12 => ?_)
        · rw [bi_0] at c12
          have hv : nI 0 = bi (allU (prQ p) (k + 1)) := by simp only [allU, c12, Bool.false_and]; rfl
          refine r_iconst (pc := 25) C (nI 0) dX10_isPrime_25 rfl ?_
          refine r_istore_n (pc := 26) C dX10_isPrime_26 (by decide) rfl ?_
          refine r_iinc (pc := 27) C _ dX10_isPrime_27 rfl (nI_1 _) (by decide) rfl ?_
          refine r_goto (pc := 30) (tgt := 4) C dX10_isPrime_30 (by decide) ?_
          exact r_lv C [(0, vi (nI p)), (1, vi _), (2, vi (nI (k + 1 + 2)))] rfl (ih _ hv)
        · rw [bi_0] at c12
          have c12t := ts_nf c12
          have hmo : p % (k + 2) < k + 2 := Nat.mod_lt _ (by omega)
          refine r_iload_n (pc := 15) C dX10_isPrime_15 rfl ?_
          refine r_iload_n (pc := 16) C dX10_isPrime_16 rfl ?_
          refine r_irem (pc := 17) C dX10_isPrime_17 (nI_ne0 (by omega) (by omega)) ?_
          rw [pk_rem (by omega) (by omega) (by omega)]
          refine r_if_eq (pc := 18) (tgt := 25) C dX10_isPrime_18 (by decide) (fun c18 => ?_) (fun c18 => ?_)
          · have c18p := (nI_eq (b := 0) (by omega) (by omega)).mp c18
            have hv : nI 0 = bi (allU (prQ p) (k + 1)) := by simp only [allU, prQ, c18p, decide_eq_false c8]; simp [bi_f]
            refine r_iconst (pc := 25) C (nI 0) dX10_isPrime_25 rfl ?_
            refine r_istore_n (pc := 26) C dX10_isPrime_26 (by decide) rfl ?_
            refine r_iinc (pc := 27) C _ dX10_isPrime_27 rfl (nI_1 _) (by decide) rfl ?_
            refine r_goto (pc := 30) (tgt := 4) C dX10_isPrime_30 (by decide) ?_
            exact r_lv C [(0, vi (nI p)), (1, vi _), (2, vi (nI (k + 1 + 2)))] rfl (ih _ hv)
          · have c18n : ¬ p % (k + 2) = 0 := fun q => c18 (by rw [q]; rfl)
            have hv : nI 1 = bi (allU (prQ p) (k + 1)) := by
              simp only [allU, c12t, prQ, decide_eq_false c18n]
              simp [bi_t]
            refine r_iconst (pc := 21) C (nI 1) dX10_isPrime_21 rfl ?_
            refine r_goto (pc := 22) (tgt := 26) C dX10_isPrime_22 (by decide) ?_
            refine r_istore_n (pc := 26) C dX10_isPrime_26 (by decide) rfl ?_
            refine r_iinc (pc := 27) C _ dX10_isPrime_27 rfl (nI_1 _) (by decide) rfl ?_
            refine r_goto (pc := 30) (tgt := 4) C dX10_isPrime_30 (by decide) ?_
            exact r_lv C [(0, vi (nI p)), (1, vi _), (2, vi (nI (k + 1 + 2)))] rfl (ih _ hv)
  refine r_iconst (pc := 0) C (nI 1) dX10_isPrime_0 rfl ?_
  refine r_istore_n (pc := 1) C dX10_isPrime_1 (by decide) rfl ?_
  refine r_iconst (pc := 2) C (nI 2) dX10_isPrime_2 rfl ?_
  refine r_istore_n (pc := 3) C dX10_isPrime_3 (by decide) rfl ?_
  exact r_lv C [(0, vi (nI p)), (1, vi (nI 1)), (2, vi (nI (0 + 2)))] rfl (L 0 _ (by omega) rfl)
theorem cm_limb {r : Int64} {n : Int32} : Sp l g mX10_limb 0 0 [vl r, vi n] S (fun z S' => z = some (vl (lmb r n)) ∧ S' = S) := by
  refine Sp.start (own := RX10) [(0, vl r), (2, vi n)] (by decide +kernel) rfl rfl (Nat.le_of_ble_eq_true rfl) ?_
  intro J C
  refine r_lload_n (pc := 0) C dX10_limb_0 rfl ?_
  refine r_bipush (pc := 1) C (nI 20) dX10_limb_1 rfl ?_
  refine r_iload_n (pc := 3) C dX10_limb_3 rfl ?_
  refine r_imul (pc := 4) C dX10_limb_4 ?_
  refine r_lshr (pc := 5) C dX10_limb_5 ?_
  refine r_ldc2 (pc := 6) C kc_RX10_148 dX10_limb_6 ?_
  refine r_land (pc := 9) C dX10_limb_9 ?_
  refine r_lret (pc := 10) C dX10_limb_10 rfl (by omega) (by omega) ?_
  exact ⟨rfl, rfl⟩
theorem cm_isRoot {r p : Int64} : Sp l g mX10_isRoot 0 0 [vl r, vl p] S (fun z S' => z = some (vi (bi (rtB r p))) ∧ S' = S) := by
  refine Sp.start (own := RX10) [(0, vl r), (2, vl p)] (by decide +kernel) rfl rfl (Nat.le_of_ble_eq_true rfl) ?_
  intro J C
  refine r_lload_n (pc := 0) C dX10_isRoot_0 rfl ?_
  refine r_bipush (pc := 1) C (nI 20) dX10_isRoot_1 rfl ?_
  refine r_lshr (pc := 3) C dX10_isRoot_3 ?_
  refine r_lstore (pc := 4) C dX10_isRoot_4 (by decide) rfl ?_
  refine r_lload_n (pc := 6) C dX10_isRoot_6 rfl ?_
  refine r_iconst (pc := 7) C (nI 0) dX10_isRoot_7 rfl ?_
  refine r_callS (pc := 8) C (cm_limb) iX10_limb ml_RX10_150 dX10_isRoot_8 rfl (by decide) rfl (by simp [cv, Value.category, va_rf]) (by omega) (by omega) (fun r8 S8 h8 => ?_)
  obtain ⟨rfl, e8⟩ := h8
  subst S8
  dsimp only [Option.toList, List.cons_append, List.nil_append]
  refine r_lstore (pc := 11) C dX10_isRoot_11 (by decide) rfl ?_
  refine r_ldc2 (pc := 13) C kc_RX10_154 dX10_isRoot_13 ?_
  refine r_lload (pc := 16) C dX10_isRoot_16 rfl ?_
  refine r_lmul (pc := 18) C dX10_isRoot_18 ?_
  refine r_lload (pc := 19) C dX10_isRoot_19 rfl ?_
  refine r_lmul (pc := 21) C dX10_isRoot_21 ?_
  refine r_lstore (pc := 22) C dX10_isRoot_22 (by decide) rfl ?_
  refine r_lload (pc := 24) C dX10_isRoot_24 rfl ?_
  refine r_iconst (pc := 26) C (nI 0) dX10_isRoot_26 rfl ?_
  refine r_callS (pc := 27) C (cm_limb) iX10_limb ml_RX10_150 dX10_isRoot_27 rfl (by decide) rfl (by simp [cv, Value.category, va_rf]) (by omega) (by omega) (fun r27 S27 h27 => ?_)
  obtain ⟨rfl, e27⟩ := h27
  subst S27
  dsimp only [Option.toList, List.cons_append, List.nil_append]
  refine r_bipush (pc := 30) C (nI 20) dX10_isRoot_30 rfl ?_
  refine r_lshl (pc := 32) C dX10_isRoot_32 ?_
  refine r_lload (pc := 33) C dX10_isRoot_33 rfl ?_
  refine r_lload (pc := 35) C dX10_isRoot_35 rfl ?_
  refine r_lmul (pc := 37) C dX10_isRoot_37 ?_
  refine r_ladd (pc := 38) C dX10_isRoot_38 ?_
  refine r_lstore (pc := 39) C dX10_isRoot_39 (by decide) rfl ?_
  refine r_lload (pc := 41) C dX10_isRoot_41 rfl ?_
  refine r_lload (pc := 43) C dX10_isRoot_43 rfl ?_
  refine r_lmul (pc := 45) C dX10_isRoot_45 ?_
  refine r_lload (pc := 46) C dX10_isRoot_46 rfl ?_
  refine r_bipush (pc := 48) C (nI 20) dX10_isRoot_48 rfl ?_
  refine r_lshr (pc := 50) C dX10_isRoot_50 ?_
  refine r_ladd (pc := 51) C dX10_isRoot_51 ?_
  refine r_lload (pc := 52) C dX10_isRoot_52 rfl ?_
  refine r_bipush (pc := 54) C (nI 40) dX10_isRoot_54 rfl ?_
  refine r_lshr (pc := 56) C dX10_isRoot_56 ?_
  refine r_ladd (pc := 57) C dX10_isRoot_57 ?_
  refine r_lstore (pc := 58) C dX10_isRoot_58 (by decide) rfl ?_
  refine r_lload (pc := 60) C dX10_isRoot_60 rfl ?_
  refine r_ldc2 (pc := 62) C kc_RX10_156 dX10_isRoot_62 ?_
  refine r_land (pc := 65) C dX10_isRoot_65 ?_
  refine r_lstore (pc := 66) C dX10_isRoot_66 (by decide) rfl ?_
  refine r_lload (pc := 68) C dX10_isRoot_68 rfl ?_
  refine r_lload_n (pc := 70) C dX10_isRoot_70 rfl ?_
  refine r_bipush (pc := 71) C (nI 24) dX10_isRoot_71 rfl ?_
  refine r_lshl (pc := 73) C dX10_isRoot_73 ?_
  refine r_lcmp (pc := 74) C dX10_isRoot_74 ?_
  refine r_if_lt (pc := 75) (tgt := 95) C dX10_isRoot_75 (by decide) (fun c75 => ?_) (fun c75 => ?_)
  · have hv : rtB r p = true := by simp only [rtB]; rw [decide_eq_true (show lg_cmp (rtH (sR20 r) (lmb r (nI 0))) (p <<< ((nI 24).toInt64 &&& 63)) < 0 from c75)]; rfl
    refine r_iconst (pc := 95) C (nI 1) dX10_isRoot_95 rfl ?_
    refine r_goto (pc := 96) (tgt := 100) C dX10_isRoot_96 (by decide) ?_
    refine r_zret (pc := 100) C dX10_isRoot_100 rfl (by first | exact Or.inl rfl | exact Or.inr rfl | assumption) (by omega) (by omega) ?_
    exact ⟨by rw [hv]; rfl, rfl⟩
  · have hv1 : decide (lg_cmp (rtH (sR20 r) (lmb r (nI 0))) (p <<< ((nI 24).toInt64 &&& 63)) < 0) = false := decide_eq_false c75
    refine r_lload (pc := 78) C dX10_isRoot_78 rfl ?_
    refine r_lload_n (pc := 80) C dX10_isRoot_80 rfl ?_
    refine r_bipush (pc := 81) C (nI 24) dX10_isRoot_81 rfl ?_
    refine r_lshl (pc := 83) C dX10_isRoot_83 ?_
    refine r_lcmp (pc := 84) C dX10_isRoot_84 ?_
    refine r_if_ne (pc := 85) (tgt := 99) C dX10_isRoot_85 (by decide) (fun c85 => ?_) (fun c85 => ?_)
    · have hv : rtB r p = false := by simp only [rtB]; rw [hv1, decide_eq_false (show ¬ lg_cmp (rtH (sR20 r) (lmb r (nI 0))) (p <<< ((nI 24).toInt64 &&& 63)) = 0 from c85)]; rfl
      refine r_iconst (pc := 99) C (nI 0) dX10_isRoot_99 rfl ?_
      refine r_zret (pc := 100) C dX10_isRoot_100 rfl (by first | exact Or.inl rfl | exact Or.inr rfl | assumption) (by omega) (by omega) ?_
      exact ⟨by rw [hv]; rfl, rfl⟩
    · have hv2 : decide (lg_cmp (rtH (sR20 r) (lmb r (nI 0))) (p <<< ((nI 24).toInt64 &&& 63)) = 0) = true := decide_eq_true c85
      refine r_lload (pc := 88) C dX10_isRoot_88 rfl ?_
      refine r_lconst (pc := 90) C (lN 0) dX10_isRoot_90 rfl ?_
      refine r_lcmp (pc := 91) C dX10_isRoot_91 ?_
      refine r_if_ne (pc := 92) (tgt := 99) C dX10_isRoot_92 (by decide) (fun c92 => ?_) (fun c92 => ?_)
      · have hv : rtB r p = false := by simp only [rtB]; rw [hv1, hv2, decide_eq_false (show ¬ lg_cmp (rtL (sR20 r) (lmb r (nI 0)) &&& 1099511627775) (lN 0) = 0 from c92)]; rfl
        refine r_iconst (pc := 99) C (nI 0) dX10_isRoot_99 rfl ?_
        refine r_zret (pc := 100) C dX10_isRoot_100 rfl (by first | exact Or.inl rfl | exact Or.inr rfl | assumption) (by omega) (by omega) ?_
        exact ⟨by rw [hv]; rfl, rfl⟩
      · have hv : rtB r p = true := by simp only [rtB]; rw [hv1, hv2, decide_eq_true (show lg_cmp (rtL (sR20 r) (lmb r (nI 0)) &&& 1099511627775) (lN 0) = 0 from c92)]; rfl
        refine r_iconst (pc := 95) C (nI 1) dX10_isRoot_95 rfl ?_
        refine r_goto (pc := 96) (tgt := 100) C dX10_isRoot_96 (by decide) ?_
        refine r_zret (pc := 100) C dX10_isRoot_100 rfl (by first | exact Or.inl rfl | exact Or.inr rfl | assumption) (by omega) (by omega) ?_
        exact ⟨by rw [hv]; rfl, rfl⟩
theorem cm_isCubeRoot {r p : Int64} : Sp l g mX10_isCubeRoot 0 0 [vl r, vl p] S (fun z S' => z = some (vi (bi (cuB r p))) ∧ S' = S) := by
  generalize hz : cuB r p = z0
  refine Sp.start (own := RX10) [(0, vl r), (2, vl p)] (by decide +kernel) rfl rfl (Nat.le_of_ble_eq_true rfl) ?_
  intro J C
  refine r_lload_n (pc := 0) C dX10_isCubeRoot_0 rfl ?_
  refine r_bipush (pc := 1) C (nI 20) dX10_isCubeRoot_1 rfl ?_
  refine r_lshr (pc := 3) C dX10_isCubeRoot_3 ?_
  generalize ha : r >>> ((nI 20).toInt64 &&& 63) = a
  refine r_lstore (pc := 4) C dX10_isCubeRoot_4 (by decide) rfl ?_
  refine r_lload_n (pc := 6) C dX10_isCubeRoot_6 rfl ?_
  refine r_iconst (pc := 7) C (nI 0) dX10_isCubeRoot_7 rfl ?_
  refine r_callS (pc := 8) C (cm_limb) iX10_limb ml_RX10_150 dX10_isCubeRoot_8 rfl (by decide) rfl (by simp [cv, Value.category, va_rf]) (by omega) (by omega) (fun r8 S8 h8 => ?_)
  obtain ⟨rfl, e8⟩ := h8
  subst S8
  dsimp only [Option.toList, List.cons_append, List.nil_append]
  generalize hb : lmb r (nI 0) = b
  refine r_lstore (pc := 11) C dX10_isCubeRoot_11 (by decide) rfl ?_
  refine r_lv C [(0, vl r), (2, vl p), (4, vl a), (6, vl b)] rfl ?_
  refine r_ldc2 (pc := 13) C kc_RX10_154 dX10_isCubeRoot_13 ?_
  refine r_lload (pc := 16) C dX10_isCubeRoot_16 rfl ?_
  refine r_lmul (pc := 18) C dX10_isCubeRoot_18 ?_
  refine r_lload (pc := 19) C dX10_isCubeRoot_19 rfl ?_
  refine r_lmul (pc := 21) C dX10_isCubeRoot_21 ?_
  generalize hw : 2 * a * b = w
  refine r_lstore (pc := 22) C dX10_isCubeRoot_22 (by decide) rfl ?_
  refine r_lload (pc := 24) C dX10_isCubeRoot_24 rfl ?_
  refine r_iconst (pc := 26) C (nI 0) dX10_isCubeRoot_26 rfl ?_
  refine r_callS (pc := 27) C (cm_limb) iX10_limb ml_RX10_150 dX10_isCubeRoot_27 rfl (by decide) rfl (by simp [cv, Value.category, va_rf]) (by omega) (by omega) (fun r27 S27 h27 => ?_)
  obtain ⟨rfl, e27⟩ := h27
  subst S27
  dsimp only [Option.toList, List.cons_append, List.nil_append]
  refine r_bipush (pc := 30) C (nI 20) dX10_isCubeRoot_30 rfl ?_
  refine r_lshl (pc := 32) C dX10_isCubeRoot_32 ?_
  refine r_lload (pc := 33) C dX10_isCubeRoot_33 rfl ?_
  refine r_lload (pc := 35) C dX10_isCubeRoot_35 rfl ?_
  refine r_lmul (pc := 37) C dX10_isCubeRoot_37 ?_
  refine r_ladd (pc := 38) C dX10_isCubeRoot_38 ?_
  generalize hlo : lmb w (nI 0) <<< ((nI 20).toInt64 &&& 63) + b * b = lo
  refine r_lstore (pc := 39) C dX10_isCubeRoot_39 (by decide) rfl ?_
  refine r_lv C [(0, vl r), (2, vl p), (4, vl a), (6, vl b), (8, vl w), (10, vl lo)] rfl ?_
  refine r_lload (pc := 41) C dX10_isCubeRoot_41 rfl ?_
  refine r_lload (pc := 43) C dX10_isCubeRoot_43 rfl ?_
  refine r_lmul (pc := 45) C dX10_isCubeRoot_45 ?_
  refine r_lload (pc := 46) C dX10_isCubeRoot_46 rfl ?_
  refine r_bipush (pc := 48) C (nI 20) dX10_isCubeRoot_48 rfl ?_
  refine r_lshr (pc := 50) C dX10_isCubeRoot_50 ?_
  refine r_ladd (pc := 51) C dX10_isCubeRoot_51 ?_
  refine r_lload (pc := 52) C dX10_isCubeRoot_52 rfl ?_
  refine r_bipush (pc := 54) C (nI 40) dX10_isCubeRoot_54 rfl ?_
  refine r_lshr (pc := 56) C dX10_isCubeRoot_56 ?_
  refine r_ladd (pc := 57) C dX10_isCubeRoot_57 ?_
  generalize hhi : a * a + w >>> ((nI 20).toInt64 &&& 63) + lo >>> ((nI 40).toInt64 &&& 63) = hi
  refine r_lstore (pc := 58) C dX10_isCubeRoot_58 (by decide) rfl ?_
  refine r_lv C [(2, vl p), (4, vl a), (6, vl b), (10, vl lo), (12, vl hi)] rfl ?_
  refine r_lload (pc := 60) C dX10_isCubeRoot_60 rfl ?_
  refine r_iconst (pc := 62) C (nI 0) dX10_isCubeRoot_62 rfl ?_
  refine r_callS (pc := 63) C (cm_limb) iX10_limb ml_RX10_150 dX10_isCubeRoot_63 rfl (by decide) rfl (by simp [cv, Value.category, va_rf]) (by omega) (by omega) (fun r63 S63 h63 => ?_)
  obtain ⟨rfl, e63⟩ := h63
  subst S63
  dsimp only [Option.toList, List.cons_append, List.nil_append]
  generalize h1 : lmb lo (nI 0) = one
  refine r_lstore (pc := 66) C dX10_isCubeRoot_66 (by decide) rfl ?_
  refine r_lload (pc := 68) C dX10_isCubeRoot_68 rfl ?_
  refine r_iconst (pc := 70) C (nI 1) dX10_isCubeRoot_70 rfl ?_
  refine r_callS (pc := 71) C (cm_limb) iX10_limb ml_RX10_150 dX10_isCubeRoot_71 rfl (by decide) rfl (by simp [cv, Value.category, va_rf]) (by omega) (by omega) (fun r71 S71 h71 => ?_)
  obtain ⟨rfl, e71⟩ := h71
  subst S71
  dsimp only [Option.toList, List.cons_append, List.nil_append]
  generalize h2 : lmb lo (nI 1) = two
  refine r_lstore (pc := 74) C dX10_isCubeRoot_74 (by decide) rfl ?_
  refine r_lv C [(2, vl p), (4, vl a), (6, vl b), (12, vl hi), (14, vl one), (16, vl two)] rfl ?_
  refine r_lload (pc := 76) C dX10_isCubeRoot_76 rfl ?_
  refine r_lload (pc := 78) C dX10_isCubeRoot_78 rfl ?_
  refine r_lmul (pc := 80) C dX10_isCubeRoot_80 ?_
  generalize hc1 : one * b = c1
  refine r_lstore (pc := 81) C dX10_isCubeRoot_81 (by decide) rfl ?_
  refine r_lload (pc := 83) C dX10_isCubeRoot_83 rfl ?_
  refine r_iconst (pc := 85) C (nI 0) dX10_isCubeRoot_85 rfl ?_
  refine r_callS (pc := 86) C (cm_limb) iX10_limb ml_RX10_150 dX10_isCubeRoot_86 rfl (by decide) rfl (by simp [cv, Value.category, va_rf]) (by omega) (by omega) (fun r86 S86 h86 => ?_)
  obtain ⟨rfl, e86⟩ := h86
  subst S86
  dsimp only [Option.toList, List.cons_append, List.nil_append]
  generalize hr1 : lmb c1 (nI 0) = r1
  refine r_lstore (pc := 89) C dX10_isCubeRoot_89 (by decide) rfl ?_
  refine r_lv C [(2, vl p), (4, vl a), (6, vl b), (12, vl hi), (14, vl one), (16, vl two), (18, vl c1), (20, vl r1)] rfl ?_
  refine r_lload (pc := 91) C dX10_isCubeRoot_91 rfl ?_
  refine r_bipush (pc := 93) C (nI 20) dX10_isCubeRoot_93 rfl ?_
  refine r_lshr (pc := 95) C dX10_isCubeRoot_95 ?_
  refine r_lload (pc := 96) C dX10_isCubeRoot_96 rfl ?_
  refine r_lload (pc := 98) C dX10_isCubeRoot_98 rfl ?_
  refine r_lmul (pc := 100) C dX10_isCubeRoot_100 ?_
  refine r_ladd (pc := 101) C dX10_isCubeRoot_101 ?_
  refine r_lload (pc := 102) C dX10_isCubeRoot_102 rfl ?_
  refine r_lload (pc := 104) C dX10_isCubeRoot_104 rfl ?_
  refine r_lmul (pc := 106) C dX10_isCubeRoot_106 ?_
  refine r_ladd (pc := 107) C dX10_isCubeRoot_107 ?_
  generalize hc2 : c1 >>> ((nI 20).toInt64 &&& 63) + one * a + two * b = c2
  refine r_lstore (pc := 108) C dX10_isCubeRoot_108 (by decide) rfl ?_
  refine r_lload (pc := 110) C dX10_isCubeRoot_110 rfl ?_
  refine r_lload (pc := 112) C dX10_isCubeRoot_112 rfl ?_
  refine r_iconst (pc := 114) C (nI 0) dX10_isCubeRoot_114 rfl ?_
  refine r_callS (pc := 115) C (cm_limb) iX10_limb ml_RX10_150 dX10_isCubeRoot_115 rfl (by decide) rfl (by simp [cv, Value.category, va_rf]) (by omega) (by omega) (fun r115 S115 h115 => ?_)
  obtain ⟨rfl, e115⟩ := h115
  subst S115
  dsimp only [Option.toList, List.cons_append, List.nil_append]
  refine r_lor (pc := 118) C dX10_isCubeRoot_118 ?_
  generalize hr2 : r1 ||| lmb c2 (nI 0) = r2
  refine r_lstore (pc := 119) C dX10_isCubeRoot_119 (by decide) rfl ?_
  refine r_lv C [(2, vl p), (4, vl a), (6, vl b), (12, vl hi), (16, vl two), (18, vl c2), (20, vl r2)] rfl ?_
  refine r_lload (pc := 121) C dX10_isCubeRoot_121 rfl ?_
  refine r_bipush (pc := 123) C (nI 20) dX10_isCubeRoot_123 rfl ?_
  refine r_lshr (pc := 125) C dX10_isCubeRoot_125 ?_
  refine r_lload (pc := 126) C dX10_isCubeRoot_126 rfl ?_
  refine r_lload (pc := 128) C dX10_isCubeRoot_128 rfl ?_
  refine r_lmul (pc := 130) C dX10_isCubeRoot_130 ?_
  refine r_ladd (pc := 131) C dX10_isCubeRoot_131 ?_
  refine r_lload (pc := 132) C dX10_isCubeRoot_132 rfl ?_
  refine r_iconst (pc := 134) C (nI 0) dX10_isCubeRoot_134 rfl ?_
  refine r_callS (pc := 135) C (cm_limb) iX10_limb ml_RX10_150 dX10_isCubeRoot_135 rfl (by decide) rfl (by simp [cv, Value.category, va_rf]) (by omega) (by omega) (fun r135 S135 h135 => ?_)
  obtain ⟨rfl, e135⟩ := h135
  subst S135
  dsimp only [Option.toList, List.cons_append, List.nil_append]
  generalize hh0 : lmb hi (nI 0) = h0
  refine r_lload (pc := 138) C dX10_isCubeRoot_138 rfl ?_
  refine r_lmul (pc := 140) C dX10_isCubeRoot_140 ?_
  refine r_ladd (pc := 141) C dX10_isCubeRoot_141 ?_
  generalize hc3 : c2 >>> ((nI 20).toInt64 &&& 63) + two * a + h0 * b = c3
  refine r_lstore (pc := 142) C dX10_isCubeRoot_142 (by decide) rfl ?_
  refine r_lload (pc := 144) C dX10_isCubeRoot_144 rfl ?_
  refine r_lload (pc := 146) C dX10_isCubeRoot_146 rfl ?_
  refine r_iconst (pc := 148) C (nI 0) dX10_isCubeRoot_148 rfl ?_
  refine r_callS (pc := 149) C (cm_limb) iX10_limb ml_RX10_150 dX10_isCubeRoot_149 rfl (by decide) rfl (by simp [cv, Value.category, va_rf]) (by omega) (by omega) (fun r149 S149 h149 => ?_)
  obtain ⟨rfl, e149⟩ := h149
  subst S149
  dsimp only [Option.toList, List.cons_append, List.nil_append]
  refine r_lor (pc := 152) C dX10_isCubeRoot_152 ?_
  generalize hr3 : r2 ||| lmb c3 (nI 0) = r3
  refine r_lstore (pc := 153) C dX10_isCubeRoot_153 (by decide) rfl ?_
  refine r_lv C [(2, vl p), (4, vl a), (6, vl b), (12, vl hi), (18, vl c3), (20, vl r3)] rfl ?_
  refine r_lload (pc := 155) C dX10_isCubeRoot_155 rfl ?_
  refine r_bipush (pc := 157) C (nI 20) dX10_isCubeRoot_157 rfl ?_
  refine r_lshr (pc := 159) C dX10_isCubeRoot_159 ?_
  refine r_lload (pc := 160) C dX10_isCubeRoot_160 rfl ?_
  refine r_iconst (pc := 162) C (nI 0) dX10_isCubeRoot_162 rfl ?_
  refine r_callS (pc := 163) C (cm_limb) iX10_limb ml_RX10_150 dX10_isCubeRoot_163 rfl (by decide) rfl (by simp [cv, Value.category, va_rf]) (by omega) (by omega) (fun r163 S163 h163 => ?_)
  obtain ⟨rfl, e163⟩ := h163
  subst S163
  dsimp only [Option.toList, List.cons_append, List.nil_append]
  rw [hh0]
  refine r_lload (pc := 166) C dX10_isCubeRoot_166 rfl ?_
  refine r_lmul (pc := 168) C dX10_isCubeRoot_168 ?_
  refine r_ladd (pc := 169) C dX10_isCubeRoot_169 ?_
  refine r_lload (pc := 170) C dX10_isCubeRoot_170 rfl ?_
  refine r_bipush (pc := 172) C (nI 20) dX10_isCubeRoot_172 rfl ?_
  refine r_lshr (pc := 174) C dX10_isCubeRoot_174 ?_
  refine r_lload (pc := 175) C dX10_isCubeRoot_175 rfl ?_
  refine r_lmul (pc := 177) C dX10_isCubeRoot_177 ?_
  refine r_ladd (pc := 178) C dX10_isCubeRoot_178 ?_
  generalize hc4 : c3 >>> ((nI 20).toInt64 &&& 63) + h0 * a + hi >>> ((nI 20).toInt64 &&& 63) * b = c4
  refine r_lstore (pc := 179) C dX10_isCubeRoot_179 (by decide) rfl ?_
  refine r_lload (pc := 181) C dX10_isCubeRoot_181 rfl ?_
  refine r_lload (pc := 183) C dX10_isCubeRoot_183 rfl ?_
  refine r_iconst (pc := 185) C (nI 0) dX10_isCubeRoot_185 rfl ?_
  refine r_callS (pc := 186) C (cm_limb) iX10_limb ml_RX10_150 dX10_isCubeRoot_186 rfl (by decide) rfl (by simp [cv, Value.category, va_rf]) (by omega) (by omega) (fun r186 S186 h186 => ?_)
  obtain ⟨rfl, e186⟩ := h186
  subst S186
  dsimp only [Option.toList, List.cons_append, List.nil_append]
  refine r_lor (pc := 189) C dX10_isCubeRoot_189 ?_
  generalize hr4 : r3 ||| lmb c4 (nI 0) = r4
  refine r_lstore (pc := 190) C dX10_isCubeRoot_190 (by decide) rfl ?_
  refine r_lv C [(2, vl p), (4, vl a), (6, vl b), (12, vl hi), (18, vl c4), (20, vl r4)] rfl ?_
  refine r_lload (pc := 192) C dX10_isCubeRoot_192 rfl ?_
  refine r_bipush (pc := 194) C (nI 20) dX10_isCubeRoot_194 rfl ?_
  refine r_lshr (pc := 196) C dX10_isCubeRoot_196 ?_
  refine r_lload (pc := 197) C dX10_isCubeRoot_197 rfl ?_
  refine r_bipush (pc := 199) C (nI 20) dX10_isCubeRoot_199 rfl ?_
  refine r_lshr (pc := 201) C dX10_isCubeRoot_201 ?_
  refine r_lload (pc := 202) C dX10_isCubeRoot_202 rfl ?_
  refine r_lmul (pc := 204) C dX10_isCubeRoot_204 ?_
  refine r_ladd (pc := 205) C dX10_isCubeRoot_205 ?_
  generalize hc5 : c4 >>> ((nI 20).toInt64 &&& 63) + hi >>> ((nI 20).toInt64 &&& 63) * a = c5
  have e1 : cu1 a b = c1 := by subst hc1 h1 hlo hw; rfl
  have e2 : cu2 a b = c2 := by rw [cu2, e1]; subst hc2 h1 h2 hlo hw; rfl
  have eh : rtH a b = hi := by subst hhi hlo hw; rfl
  have el : rtL a b = lo := by subst hlo hw; rfl
  have e3 : cu3 a b = c3 := by rw [cu3, e2, eh, el]; subst hc3 h2 hh0; rfl
  have e4 : cu4 a b = c4 := by rw [cu4, e3, eh]; subst hc4 hh0; rfl
  have e5 : cu5 a b = c5 := by rw [cu5, e4, eh]; subst hc5; rfl
  have er : cuR a b = r4 := by rw [cuR, e1, e2, e3, e4]; subst hr4 hr3 hr2 hr1; rfl
  have ez : (decide (lg_cmp c5 (p <<< ((nI 16).toInt64 &&& 63)) < 0) || (decide (lg_cmp c5 (p <<< ((nI 16).toInt64 &&& 63)) = 0) && decide (lg_cmp r4 (lN 0) = 0))) = z0 := by rw [← hz, cuB, hb, show sR20 r = a from ha, e5, er]
  refine r_lstore (pc := 206) C dX10_isCubeRoot_206 (by decide) rfl ?_
  refine r_lv C [(2, vl p), (18, vl c5), (20, vl r4)] rfl ?_
  refine r_lload (pc := 208) C dX10_isCubeRoot_208 rfl ?_
  refine r_lload_n (pc := 210) C dX10_isCubeRoot_210 rfl ?_
  refine r_bipush (pc := 211) C (nI 16) dX10_isCubeRoot_211 rfl ?_
  refine r_lshl (pc := 213) C dX10_isCubeRoot_213 ?_
  refine r_lcmp (pc := 214) C dX10_isCubeRoot_214 ?_
  refine r_if_lt (pc := 215) (tgt := 235) C dX10_isCubeRoot_215 (by decide) (fun c215 => ?_) (fun c215 => ?_)
  · rw [decide_eq_true c215] at ez
    have hv : z0 = true := by rw [← ez]; rfl
    refine r_iconst (pc := 235) C (nI 1) dX10_isCubeRoot_235 rfl ?_
    refine r_goto (pc := 236) (tgt := 240) C dX10_isCubeRoot_236 (by decide) ?_
    refine r_zret (pc := 240) C dX10_isCubeRoot_240 rfl (by first | exact Or.inl rfl | exact Or.inr rfl | assumption) (by omega) (by omega) ?_
    exact ⟨by rw [hv]; rfl, rfl⟩
  · rw [decide_eq_false c215] at ez
    refine r_lload (pc := 218) C dX10_isCubeRoot_218 rfl ?_
    refine r_lload_n (pc := 220) C dX10_isCubeRoot_220 rfl ?_
    refine r_bipush (pc := 221) C (nI 16) dX10_isCubeRoot_221 rfl ?_
    refine r_lshl (pc := 223) C dX10_isCubeRoot_223 ?_
    refine r_lcmp (pc := 224) C dX10_isCubeRoot_224 ?_
    refine r_if_ne (pc := 225) (tgt := 239) C dX10_isCubeRoot_225 (by decide) (fun c225 => ?_) (fun c225 => ?_)
    · rw [decide_eq_false c225] at ez
      have hv : z0 = false := by rw [← ez]; rfl
      refine r_iconst (pc := 239) C (nI 0) dX10_isCubeRoot_239 rfl ?_
      refine r_zret (pc := 240) C dX10_isCubeRoot_240 rfl (by first | exact Or.inl rfl | exact Or.inr rfl | assumption) (by omega) (by omega) ?_
      exact ⟨by rw [hv]; rfl, rfl⟩
    · rw [decide_eq_true c225] at ez
      refine r_lload (pc := 228) C dX10_isCubeRoot_228 rfl ?_
      refine r_lconst (pc := 230) C (lN 0) dX10_isCubeRoot_230 rfl ?_
      refine r_lcmp (pc := 231) C dX10_isCubeRoot_231 ?_
      refine r_if_ne (pc := 232) (tgt := 239) C dX10_isCubeRoot_232 (by decide) (fun c232 => ?_) (fun c232 => ?_)
      · rw [decide_eq_false c232] at ez
        have hv : z0 = false := by rw [← ez]; rfl
        refine r_iconst (pc := 239) C (nI 0) dX10_isCubeRoot_239 rfl ?_
        refine r_zret (pc := 240) C dX10_isCubeRoot_240 rfl (by first | exact Or.inl rfl | exact Or.inr rfl | assumption) (by omega) (by omega) ?_
        exact ⟨by rw [hv]; rfl, rfl⟩
      · rw [decide_eq_true c232] at ez
        have hv : z0 = true := by rw [← ez]; rfl
        refine r_iconst (pc := 235) C (nI 1) dX10_isCubeRoot_235 rfl ?_
        refine r_goto (pc := 236) (tgt := 240) C dX10_isCubeRoot_236 (by decide) ?_
        refine r_zret (pc := 240) C dX10_isCubeRoot_240 rfl (by first | exact Or.inl rfl | exact Or.inr rfl | assumption) (by omega) (by omega) ?_
        exact ⟨by rw [hv]; rfl, rfl⟩
theorem cm_squareRoot {p : Nat} : Sp l g mX10_squareRoot 0 0 [vi (nI p)] S (fun z S' => z = some (vi (sqV p)) ∧ S' = S) := by
  refine Sp.start (own := RX10) [(0, vi (nI p))] (by decide +kernel) rfl rfl (Nat.le_of_ble_eq_true rfl) ?_
  intro J C
  have L : ∀ i (r : Int64), i ≤ 35 ∧ rot2 (fun r => rtB r (nI p).toInt64) i r = rot2 (fun r => rtB r (nI p).toInt64) 35 (lN 0) → J 5 [(0, vi (nI p)), (1, vl r), (3, vi (nI i - 1))] [] S 0 0 := by
    refine dn_loop _ _ ?_ ?_
    · intro r hr
      refine r_iload_n (pc := 5) C dX10_squareRoot_5 rfl ?_
      refine r_if_lt (pc := 6) (tgt := 38) C dX10_squareRoot_6 (by decide) (fun c6 => ?_) (fun c6 => ?_)
      · refine r_lload_n (pc := 38) C dX10_squareRoot_38 rfl ?_
        refine r_l2i (pc := 39) C dX10_squareRoot_39 ?_
        refine r_iret (pc := 40) C dX10_squareRoot_40 rfl (by omega) (by omega) ?_
        exact ⟨by simp only [sqV]; rw [← hr.2]; rfl, rfl⟩
      · exact absurd (by decide) c6
    · intro i r hr ih
      obtain ⟨hi, he⟩ := hr
      rw [nI_pred]
      refine r_iload_n (pc := 5) C dX10_squareRoot_5 rfl ?_
      refine r_if_lt (pc := 6) (tgt := 38) C dX10_squareRoot_6 (by decide) (fun c6 => ?_) (fun c6 => ?_)
      · exact absurd c6 (nI_pos (by omega))
      · refine r_lload_n (pc := 9) C dX10_squareRoot_9 rfl ?_
        refine r_lconst (pc := 10) C (lN 1) dX10_squareRoot_10 rfl ?_
        refine r_iload_n (pc := 11) C dX10_squareRoot_11 rfl ?_
        refine r_lshl (pc := 12) C dX10_squareRoot_12 ?_
        refine r_lor (pc := 13) C dX10_squareRoot_13 ?_
        refine r_iload_n (pc := 14) C dX10_squareRoot_14 rfl ?_
        refine r_i2l (pc := 15) C dX10_squareRoot_15 ?_
        refine r_callS (pc := 16) C (cm_isRoot) iX10_isRoot ml_RX10_158 dX10_squareRoot_16 rfl (by decide) rfl (by simp [cv, Value.category, va_rf]) (by omega) (by omega) (fun r16 S16 h16 => ?_)
        obtain ⟨rfl, e16⟩ := h16
        subst S16
        dsimp only [Option.toList, List.cons_append, List.nil_append]
        refine r_if_eq (pc := 19) (tgt := 30) C dX10_squareRoot_19 (by decide) (fun c19 => ?_) (fun c19 => ?_)
        · rw [bi_0] at c19
          have hnx : rot2 (fun r => rtB r (nI p).toInt64) i r = rot2 (fun r => rtB r (nI p).toInt64) 35 (lN 0) := by rw [← he]; simp only [rot2, show rtB (bt1 r i) (nI p).toInt64 = false from c19, Bool.false_eq_true, if_false]
          refine r_lload_n (pc := 30) C dX10_squareRoot_30 rfl ?_
          refine r_lstore_n (pc := 31) C dX10_squareRoot_31 (by decide) rfl ?_
          refine r_iinc (pc := 32) C (nI i - 1) dX10_squareRoot_32 rfl (dec1 _) (by decide) rfl ?_
          refine r_goto (pc := 35) (tgt := 5) C dX10_squareRoot_35 (by decide) ?_
          exact r_lv C [(0, vi (nI p)), (1, vl _), (3, vi (nI i - 1))] rfl (ih _ ⟨by omega, hnx⟩)
        · rw [bi_0] at c19
          have hnx : rot2 (fun r => rtB r (nI p).toInt64) i (bt1 r i) = rot2 (fun r => rtB r (nI p).toInt64) 35 (lN 0) := by rw [← he]; simp only [rot2, show rtB (bt1 r i) (nI p).toInt64 = true from ts_nf c19, if_true]
          refine r_lload_n (pc := 22) C dX10_squareRoot_22 rfl ?_
          refine r_lconst (pc := 23) C (lN 1) dX10_squareRoot_23 rfl ?_
          refine r_iload_n (pc := 24) C dX10_squareRoot_24 rfl ?_
          refine r_lshl (pc := 25) C dX10_squareRoot_25 ?_
          refine r_lor (pc := 26) C dX10_squareRoot_26 ?_
          refine r_goto (pc := 27) (tgt := 31) C dX10_squareRoot_27 (by decide) ?_
          refine r_lstore_n (pc := 31) C dX10_squareRoot_31 (by decide) rfl ?_
          refine r_iinc (pc := 32) C (nI i - 1) dX10_squareRoot_32 rfl (dec1 _) (by decide) rfl ?_
          refine r_goto (pc := 35) (tgt := 5) C dX10_squareRoot_35 (by decide) ?_
          exact r_lv C [(0, vi (nI p)), (1, vl _), (3, vi (nI i - 1))] rfl (ih _ ⟨by omega, hnx⟩)
  refine r_lconst (pc := 0) C (lN 0) dX10_squareRoot_0 rfl ?_
  refine r_lstore_n (pc := 1) C dX10_squareRoot_1 (by decide) rfl ?_
  refine r_bipush (pc := 2) C (nI 34) dX10_squareRoot_2 rfl ?_
  refine r_istore_n (pc := 4) C dX10_squareRoot_4 (by decide) rfl ?_
  exact r_lv C [(0, vi (nI p)), (1, vl (lN 0)), (3, vi (nI 35 - 1))] rfl (L 35 _ ⟨by omega, rfl⟩)
theorem cm_cubeRoot {p : Nat} : Sp l g mX10_cubeRoot 0 0 [vi (nI p)] S (fun z S' => z = some (vi (cbV p)) ∧ S' = S) := by
  refine Sp.start (own := RX10) [(0, vi (nI p))] (by decide +kernel) rfl rfl (Nat.le_of_ble_eq_true rfl) ?_
  intro J C
  have L : ∀ i (r : Int64), i ≤ 35 ∧ rot2 (fun r => cuB r (nI p).toInt64) i r = rot2 (fun r => cuB r (nI p).toInt64) 35 (lN 0) → J 5 [(0, vi (nI p)), (1, vl r), (3, vi (nI i - 1))] [] S 0 0 := by
    refine dn_loop _ _ ?_ ?_
    · intro r hr
      refine r_iload_n (pc := 5) C dX10_cubeRoot_5 rfl ?_
      refine r_if_lt (pc := 6) (tgt := 38) C dX10_cubeRoot_6 (by decide) (fun c6 => ?_) (fun c6 => ?_)
      · refine r_lload_n (pc := 38) C dX10_cubeRoot_38 rfl ?_
        refine r_l2i (pc := 39) C dX10_cubeRoot_39 ?_
        refine r_iret (pc := 40) C dX10_cubeRoot_40 rfl (by omega) (by omega) ?_
        exact ⟨by simp only [cbV]; rw [← hr.2]; rfl, rfl⟩
      · exact absurd (by decide) c6
    · intro i r hr ih
      obtain ⟨hi, he⟩ := hr
      rw [nI_pred]
      refine r_iload_n (pc := 5) C dX10_cubeRoot_5 rfl ?_
      refine r_if_lt (pc := 6) (tgt := 38) C dX10_cubeRoot_6 (by decide) (fun c6 => ?_) (fun c6 => ?_)
      · exact absurd c6 (nI_pos (by omega))
      · refine r_lload_n (pc := 9) C dX10_cubeRoot_9 rfl ?_
        refine r_lconst (pc := 10) C (lN 1) dX10_cubeRoot_10 rfl ?_
        refine r_iload_n (pc := 11) C dX10_cubeRoot_11 rfl ?_
        refine r_lshl (pc := 12) C dX10_cubeRoot_12 ?_
        refine r_lor (pc := 13) C dX10_cubeRoot_13 ?_
        refine r_iload_n (pc := 14) C dX10_cubeRoot_14 rfl ?_
        refine r_i2l (pc := 15) C dX10_cubeRoot_15 ?_
        refine r_callS (pc := 16) C (cm_isCubeRoot) iX10_isCubeRoot ml_RX10_162 dX10_cubeRoot_16 rfl (by decide) rfl (by simp [cv, Value.category, va_rf]) (by omega) (by omega) (fun r16 S16 h16 => ?_)
        obtain ⟨rfl, e16⟩ := h16
        subst S16
        dsimp only [Option.toList, List.cons_append, List.nil_append]
        refine r_if_eq (pc := 19) (tgt := 30) C dX10_cubeRoot_19 (by decide) (fun c19 => ?_) (fun c19 => ?_)
        · rw [bi_0] at c19
          have hnx : rot2 (fun r => cuB r (nI p).toInt64) i r = rot2 (fun r => cuB r (nI p).toInt64) 35 (lN 0) := by rw [← he]; simp only [rot2, show cuB (bt1 r i) (nI p).toInt64 = false from c19, Bool.false_eq_true, if_false]
          refine r_lload_n (pc := 30) C dX10_cubeRoot_30 rfl ?_
          refine r_lstore_n (pc := 31) C dX10_cubeRoot_31 (by decide) rfl ?_
          refine r_iinc (pc := 32) C (nI i - 1) dX10_cubeRoot_32 rfl (dec1 _) (by decide) rfl ?_
          refine r_goto (pc := 35) (tgt := 5) C dX10_cubeRoot_35 (by decide) ?_
          exact r_lv C [(0, vi (nI p)), (1, vl _), (3, vi (nI i - 1))] rfl (ih _ ⟨by omega, hnx⟩)
        · rw [bi_0] at c19
          have hnx : rot2 (fun r => cuB r (nI p).toInt64) i (bt1 r i) = rot2 (fun r => cuB r (nI p).toInt64) 35 (lN 0) := by rw [← he]; simp only [rot2, show cuB (bt1 r i) (nI p).toInt64 = true from ts_nf c19, if_true]
          refine r_lload_n (pc := 22) C dX10_cubeRoot_22 rfl ?_
          refine r_lconst (pc := 23) C (lN 1) dX10_cubeRoot_23 rfl ?_
          refine r_iload_n (pc := 24) C dX10_cubeRoot_24 rfl ?_
          refine r_lshl (pc := 25) C dX10_cubeRoot_25 ?_
          refine r_lor (pc := 26) C dX10_cubeRoot_26 ?_
          refine r_goto (pc := 27) (tgt := 31) C dX10_cubeRoot_27 (by decide) ?_
          refine r_lstore_n (pc := 31) C dX10_cubeRoot_31 (by decide) rfl ?_
          refine r_iinc (pc := 32) C (nI i - 1) dX10_cubeRoot_32 rfl (dec1 _) (by decide) rfl ?_
          refine r_goto (pc := 35) (tgt := 5) C dX10_cubeRoot_35 (by decide) ?_
          exact r_lv C [(0, vi (nI p)), (1, vl _), (3, vi (nI i - 1))] rfl (ih _ ⟨by omega, hnx⟩)
  refine r_lconst (pc := 0) C (lN 0) dX10_cubeRoot_0 rfl ?_
  refine r_lstore_n (pc := 1) C dX10_cubeRoot_1 (by decide) rfl ?_
  refine r_bipush (pc := 2) C (nI 34) dX10_cubeRoot_2 rfl ?_
  refine r_istore_n (pc := 4) C dX10_cubeRoot_4 (by decide) rfl ?_
  exact r_lv C [(0, vi (nI p)), (1, vl (lN 0)), (3, vi (nI 35 - 1))] rfl (L 35 _ ⟨by omega, rfl⟩)
end Roots
