/-! The reference: is it a transaction -/
def fewB (x : Nat) : Bool := decide (0 < x) && decide (x < 5)
def f4 (tb : Nat → Nat) (i : Nat) : Int32 := nI (w4 (tb i) (tb (i + 1)) (tb (i + 2)) (tb (i + 3)))
def okA (v : Int32) : Bool := dlt (nI 0) v && !dlt (nI 1000000000) v
def tP (tb : Nat → Nat) : Nat := 1 + 4 * tb 0
def tQ (tb : Nat → Nat) : Nat := tP tb + 1 + 5 * tb (tP tb)
def lo1 (tb : Nat → Nat) (j : Nat) : Bool := allU (fun i => decide (tb (1 + 4 * i) < 128)) j
def lo2 (tb : Nat → Nat) (j : Nat) : Bool := allU (fun i => decide (tb (tP tb + 1 + 5 * i) < 128)) j
def lo3 (tb : Nat → Nat) (j : Nat) : Bool := allU (fun i => okA (f4 tb (tQ tb + 1 + 4 * i))) j
/-- the first m bytes are a transaction -/
def isT (tb : Nat → Nat) (m : Nat) : Bool := ((((((((fewB (tb 0) && decide (tP tb < m)) && lo1 tb (tb 0)) && fewB (tb (tP tb))) && decide (tQ tb < m)) && lo2 tb (tb (tP tb))) && fewB (tb (tQ tb))) && decide (m = tQ tb + 1 + 4 * tb (tQ tb)))) && lo3 tb (tb (tQ tb))
theorem fewB_iff {x : Nat} : fewB x = true ↔ 0 < x ∧ x < 5 := by simp [fewB]
theorem allU_f {f : Nat → Bool} {j k : Nat} (h : allU f j = false) (hk : j ≤ k) : allU f k = false := by
  cases hq : allU f k with
  | false => rfl
  | true =>
    have : allU f j = true := allU_iff.mpr (fun i hi => allU_iff.mp hq i (by omega))
    rw [h] at this; cases this
section Tape
variable {l : Launch} {g : GG} {S : hS} {mo : Nat} {M : MM} {n h : Nat}
theorem cm_few {b : Nat} (hb : b < 256) : Sp l g mX10_few 0 0 [vi (nI b)] S (fun r S' => r = some (vi (bi (fewB b))) ∧ S' = S) := by
  refine Sp.start (own := RX10) [(0, vi (nI b))] (by decide +kernel) rfl rfl (Nat.le_of_ble_eq_true rfl) ?_
  intro J C
  refine r_iload_n (pc := 0) C dX10_few_0 rfl ?_
  refine r_if_le (pc := 1) (tgt := 13) C dX10_few_1 (by decide) (fun c1 => ?_) (fun c1 => ?_)
  · rw [show (0 : Int32) = nI 0 from rfl, nI_leI (by omega) (by omega)] at c1
    have hv : fewB b = false := by simp [fewB]; omega
    refine r_iconst (pc := 13) C (nI 0) dX10_few_13 rfl ?_
    refine r_zret (pc := 14) C dX10_few_14 rfl (by first | exact Or.inl rfl | exact Or.inr rfl | assumption) (by omega) (by omega) ?_
    exact ⟨by rw [hv]; rfl, rfl⟩
  · rw [show (0 : Int32) = nI 0 from rfl, nI_leI (by omega) (by omega)] at c1
    refine r_iload_n (pc := 4) C dX10_few_4 rfl ?_
    refine r_iconst (pc := 5) C (nI 5) dX10_few_5 rfl ?_
    refine r_icmp_ge (pc := 6) (tgt := 13) C dX10_few_6 (by decide) (fun c6 => ?_) (fun c6 => ?_)
    · rw [nI_leI (by omega) (by omega)] at c6
      have hv : fewB b = false := by simp [fewB]; omega
      refine r_iconst (pc := 13) C (nI 0) dX10_few_13 rfl ?_
      refine r_zret (pc := 14) C dX10_few_14 rfl (by first | exact Or.inl rfl | exact Or.inr rfl | assumption) (by omega) (by omega) ?_
      exact ⟨by rw [hv]; rfl, rfl⟩
    · rw [nI_leI (by omega) (by omega)] at c6
      have hv : fewB b = true := by simp [fewB]; omega
      refine r_iconst (pc := 9) C (nI 1) dX10_few_9 rfl ?_
      refine r_goto (pc := 10) (tgt := 14) C dX10_few_10 (by decide) ?_
      refine r_zret (pc := 14) C dX10_few_14 rfl (by first | exact Or.inl rfl | exact Or.inr rfl | assumption) (by omega) (by omega) ?_
      exact ⟨by rw [hv]; rfl, rfl⟩
theorem cm_tapeFour {i : Nat} {tb : Nat → Nat} (hV : MV S mo M n h) (hT : ∀ i, i < 128 → mI S mo 7 i = nI (tb i)) (hb : ∀ i, tb i < 256) (hi : i + 3 < 128) : Sp l g mX10_tapeFour 0 0 [vr (some mo), vi (nI i)] S (fun r S' => r = some (vi (f4 tb i)) ∧ S' = S) := by
  have hC0 : Gch S S mo (Gs S mo) := Gc.rf
  refine Sp.start (own := RX10) [(0, vr (some mo)), (1, vi (nI i))] (by decide +kernel) rfl rfl (Nat.le_of_ble_eq_true rfl) ?_
  intro J C
  refine r_aload_n (pc := 0) C dX10_tapeFour_0 rfl ?_
  refine r_mA (pc := 1) C hV dX10_tapeFour_1 fx_RX10_13 (len := 128) (by decide) ?_
  refine r_iload_n (pc := 4) C dX10_tapeFour_4 rfl ?_
  refine r_xL (pc := 5) C hV dX10_tapeFour_5 (k := 7) (len := 128) (by decide) (by decide) (by omega) (by decide) ?_
  rw [hT _ (by omega)]
  refine r_bipush (pc := 6) C (nI 24) dX10_tapeFour_6 rfl ?_
  refine r_ishl (pc := 8) C dX10_tapeFour_8 ?_
  refine r_aload_n (pc := 9) C dX10_tapeFour_9 rfl ?_
  refine r_mA (pc := 10) C hV dX10_tapeFour_10 fx_RX10_13 (len := 128) (by decide) ?_
  refine r_iload_n (pc := 13) C dX10_tapeFour_13 rfl ?_
  refine r_iconst (pc := 14) C (nI 1) dX10_tapeFour_14 rfl ?_
  refine r_iadd (pc := 15) C dX10_tapeFour_15 ?_
  try simp only [nI_add, pk_mul]
  refine r_xL (pc := 16) C hV dX10_tapeFour_16 (k := 7) (len := 128) (by decide) (by decide) (by omega) (by decide) ?_
  rw [hT _ (by omega)]
  refine r_bipush (pc := 17) C (nI 16) dX10_tapeFour_17 rfl ?_
  refine r_ishl (pc := 19) C dX10_tapeFour_19 ?_
  refine r_ior (pc := 20) C dX10_tapeFour_20 ?_
  refine r_aload_n (pc := 21) C dX10_tapeFour_21 rfl ?_
  refine r_mA (pc := 22) C hV dX10_tapeFour_22 fx_RX10_13 (len := 128) (by decide) ?_
  refine r_iload_n (pc := 25) C dX10_tapeFour_25 rfl ?_
  refine r_iconst (pc := 26) C (nI 2) dX10_tapeFour_26 rfl ?_
  refine r_iadd (pc := 27) C dX10_tapeFour_27 ?_
  try simp only [nI_add, pk_mul]
  refine r_xL (pc := 28) C hV dX10_tapeFour_28 (k := 7) (len := 128) (by decide) (by decide) (by omega) (by decide) ?_
  rw [hT _ (by omega)]
  refine r_bipush (pc := 29) C (nI 8) dX10_tapeFour_29 rfl ?_
  refine r_ishl (pc := 31) C dX10_tapeFour_31 ?_
  refine r_ior (pc := 32) C dX10_tapeFour_32 ?_
  refine r_aload_n (pc := 33) C dX10_tapeFour_33 rfl ?_
  refine r_mA (pc := 34) C hV dX10_tapeFour_34 fx_RX10_13 (len := 128) (by decide) ?_
  refine r_iload_n (pc := 37) C dX10_tapeFour_37 rfl ?_
  refine r_iconst (pc := 38) C (nI 3) dX10_tapeFour_38 rfl ?_
  refine r_iadd (pc := 39) C dX10_tapeFour_39 ?_
  try simp only [nI_add, pk_mul]
  refine r_xL (pc := 40) C hV dX10_tapeFour_40 (k := 7) (len := 128) (by decide) (by decide) (by omega) (by decide) ?_
  rw [hT _ (by omega)]
  refine r_ior (pc := 41) C dX10_tapeFour_41 ?_
  refine r_iret (pc := 42) C dX10_tapeFour_42 rfl (by omega) (by omega) ?_
  exact ⟨by rw [w4_or (hb _) (hb _) (hb _) (hb _)]; rfl, rfl⟩
theorem cm_isTransaction {m tp : Nat} {tb : Nat → Nat} (hV : MV S mo M n h) (hT : ∀ i, i < 128 → mI S mo 7 i = nI (tb i)) (hb : ∀ i, tb i < 256) (htp : Gs S mo 8 = nI tp) (h1 : 1 ≤ m) (h2 : m ≤ tp) (h3 : m ≤ 55) (htp2 : tp ≤ 128) : Sp l g mX10_isTransaction 0 0 [vr (some mo), vi (nI m)] S (fun r S' => r = some (vi (bi (isT tb m))) ∧ S' = S) := by
  have hC0 : Gch S S mo (Gs S mo) := Gc.rf
  have hb0 := hb 0
  refine Sp.start (own := RX10) [(0, vr (some mo)), (1, vi (nI m))] (by decide +kernel) rfl rfl (Nat.le_of_ble_eq_true rfl) ?_
  intro J C
  have L3 : fewB (tb 0) = true → tP tb < m → lo1 tb (tb 0) = true → fewB (tb (tP tb)) = true → tQ tb < m → lo2 tb (tb (tP tb)) = true → fewB (tb (tQ tb)) = true → m = tQ tb + 1 + 4 * tb (tQ tb) → ∀ j x, j ≤ tb (tQ tb) → x = bi (lo3 tb j) → J 221 [(0, vr (some mo)), (1, vi (nI m)), (2, vi (nI (tP tb))), (3, vi x), (4, vi (nI (tQ tb))), (5, vi (nI (tQ tb + 1 + 4 * j)))] [] S 0 0 := by
    intro q1 q2 q3 q4 q5 q6 q7 q8
    have e : isT tb m = lo3 tb (tb (tQ tb)) := by
      simp only [isT, q1, q2, q3, q4, q5, q6, q7, decide_true, Bool.true_and]
      rw [decide_eq_true q8, Bool.true_and]
    refine up_loop _ _ _ ?_ ?_
    · intro x hx
      refine r_iload (pc := 221) C dX10_isTransaction_221 rfl ?_
      refine r_iload_n (pc := 223) C dX10_isTransaction_223 rfl ?_
      refine r_icmp_ge (pc := 224) (tgt := 263) C dX10_isTransaction_224 (by decide) (fun c224 => ?_) (fun c224 => ?_)
      · refine r_iload_n (pc := 263) C dX10_isTransaction_263 rfl ?_
        refine r_zret (pc := 264) C dX10_isTransaction_264 rfl (by rw [hx]; exact bi_01 _) (by omega) (by omega) ?_
        exact ⟨by rw [hx, e], rfl⟩
      · rw [← q8] at c224
        exact absurd (Int32.le_refl _) c224
    · intro j x hj hx ih
      subst hx
      refine r_iload (pc := 221) C dX10_isTransaction_221 rfl ?_
      refine r_iload_n (pc := 223) C dX10_isTransaction_223 rfl ?_
      refine r_icmp_ge (pc := 224) (tgt := 263) C dX10_isTransaction_224 (by decide) (fun c224 => ?_) (fun c224 => ?_)
      · exact absurd c224 (nI_ge (by omega) (by omega))
      · refine r_iload_n (pc := 227) C dX10_isTransaction_227 rfl ?_
        refine r_if_eq (pc := 228) (tgt := 255) C dX10_isTransaction_228 (by decide) (fun c228 => ?_) (fun c228 => ?_)
        · rw [bi_0] at c228
          have hv : bi (lo3 tb j) = bi (lo3 tb (j + 1)) := by simp only [lo3, allU] at c228 ⊢; rw [c228]; rfl
          have hv2 := hv
          rw [show bi (lo3 tb j) = nI 0 from by rw [c228]; rfl] at hv2
          refine r_iconst (pc := 255) C (nI 0) dX10_isTransaction_255 rfl ?_
          refine r_istore_n (pc := 256) C dX10_isTransaction_256 (by decide) rfl ?_
          refine r_iinc (pc := 257) C _ dX10_isTransaction_257 rfl (nI_add _ 4) (by decide) rfl ?_
          refine r_goto (pc := 260) (tgt := 221) C dX10_isTransaction_260 (by decide) ?_
          exact r_lv C [(0, vr (some mo)), (1, vi (nI m)), (2, vi (nI (tP tb))), (3, vi _), (4, vi (nI (tQ tb))), (5, vi (nI (tQ tb + 1 + 4 * (j + 1))))] rfl (ih _ hv2)
        · rw [bi_0] at c228
          have c228t := ts_nf c228
          refine r_aload_n (pc := 231) C dX10_isTransaction_231 rfl ?_
          refine r_iload (pc := 232) C dX10_isTransaction_232 rfl ?_
          refine r_callV (pc := 234) C (cm_tapeFour hV hT hb (by omega)) iX10_tapeFour ml_RX10_210 dX10_isTransaction_234 (ci := 11) rfl rfl hV.1.1 rfl (by decide) rfl (by simp [cv, Value.category, va_rf]) (by omega) (by omega) (fun r234 S234 h234 => ?_)
          obtain ⟨rfl, e234⟩ := h234
          subst S234
          dsimp only [Option.toList, List.cons_append, List.nil_append]
          refine r_if_le (pc := 237) (tgt := 255) C dX10_isTransaction_237 (by decide) (fun c237 => ?_) (fun c237 => ?_)
          · have hv2 : nI 0 = bi (lo3 tb (j + 1)) := by simp only [lo3, allU] at c228t ⊢; rw [c228t]; simp only [okA]; rw [show dlt (nI 0) (f4 tb (tQ tb + 1 + 4 * j)) = false from dlt_f c237]; rfl
            refine r_iconst (pc := 255) C (nI 0) dX10_isTransaction_255 rfl ?_
            refine r_istore_n (pc := 256) C dX10_isTransaction_256 (by decide) rfl ?_
            refine r_iinc (pc := 257) C _ dX10_isTransaction_257 rfl (nI_add _ 4) (by decide) rfl ?_
            refine r_goto (pc := 260) (tgt := 221) C dX10_isTransaction_260 (by decide) ?_
            exact r_lv C [(0, vr (some mo)), (1, vi (nI m)), (2, vi (nI (tP tb))), (3, vi _), (4, vi (nI (tQ tb))), (5, vi (nI (tQ tb + 1 + 4 * (j + 1))))] rfl (ih _ hv2)
          · refine r_aload_n (pc := 240) C dX10_isTransaction_240 rfl ?_
            refine r_iload (pc := 241) C dX10_isTransaction_241 rfl ?_
            refine r_callV (pc := 243) C (cm_tapeFour hV hT hb (by omega)) iX10_tapeFour ml_RX10_210 dX10_isTransaction_243 (ci := 11) rfl rfl hV.1.1 rfl (by decide) rfl (by simp [cv, Value.category, va_rf]) (by omega) (by omega) (fun r243 S243 h243 => ?_)
            obtain ⟨rfl, e243⟩ := h243
            subst S243
            dsimp only [Option.toList, List.cons_append, List.nil_append]
            refine r_ldc (pc := 246) C kc_RX10_213 dX10_isTransaction_246 ?_
            refine r_icmp_gt (pc := 248) (tgt := 255) C dX10_isTransaction_248 (by decide) (fun c248 => ?_) (fun c248 => ?_)
            · have hv2 : nI 0 = bi (lo3 tb (j + 1)) := by simp only [lo3, allU] at c228t ⊢; rw [c228t]; simp only [okA]; rw [show dlt (nI 1000000000) (f4 tb (tQ tb + 1 + 4 * j)) = true from dlt_t c248, Bool.not_true, Bool.and_false]; rfl
              refine r_iconst (pc := 255) C (nI 0) dX10_isTransaction_255 rfl ?_
              refine r_istore_n (pc := 256) C dX10_isTransaction_256 (by decide) rfl ?_
              refine r_iinc (pc := 257) C _ dX10_isTransaction_257 rfl (nI_add _ 4) (by decide) rfl ?_
              refine r_goto (pc := 260) (tgt := 221) C dX10_isTransaction_260 (by decide) ?_
              exact r_lv C [(0, vr (some mo)), (1, vi (nI m)), (2, vi (nI (tP tb))), (3, vi _), (4, vi (nI (tQ tb))), (5, vi (nI (tQ tb + 1 + 4 * (j + 1))))] rfl (ih _ hv2)
            · have hv2 : nI 1 = bi (lo3 tb (j + 1)) := by simp only [lo3, allU] at c228t ⊢; rw [c228t]; simp only [okA]; rw [show dlt (nI 1000000000) (f4 tb (tQ tb + 1 + 4 * j)) = false from dlt_f (Int32.not_lt.mp c248), show dlt (nI 0) (f4 tb (tQ tb + 1 + 4 * j)) = true from dlt_t (Int32.not_le.mp c237)]; rfl
              refine r_iconst (pc := 251) C (nI 1) dX10_isTransaction_251 rfl ?_
              refine r_goto (pc := 252) (tgt := 256) C dX10_isTransaction_252 (by decide) ?_
              refine r_istore_n (pc := 256) C dX10_isTransaction_256 (by decide) rfl ?_
              refine r_iinc (pc := 257) C _ dX10_isTransaction_257 rfl (nI_add _ 4) (by decide) rfl ?_
              refine r_goto (pc := 260) (tgt := 221) C dX10_isTransaction_260 (by decide) ?_
              exact r_lv C [(0, vr (some mo)), (1, vi (nI m)), (2, vi (nI (tP tb))), (3, vi _), (4, vi (nI (tQ tb))), (5, vi (nI (tQ tb + 1 + 4 * (j + 1))))] rfl (ih _ hv2)
  have L2 : fewB (tb 0) = true → tP tb < m → lo1 tb (tb 0) = true → fewB (tb (tP tb)) = true → ∀ j x, j ≤ tb (tP tb) → x = bi (decide (tQ tb < m) && lo2 tb j) → J 142 [(0, vr (some mo)), (1, vi (nI m)), (2, vi (nI (tP tb))), (3, vi x), (4, vi (nI (tQ tb))), (5, vi (nI (tP tb + 1 + 5 * j)))] [] S 0 0 := by
    intro q1 q2 q3 q4
    have ⟨g1, g2⟩ := fewB_iff.mp q1
    have ⟨g3, g4⟩ := fewB_iff.mp q4
    have hP : tP tb = 1 + 4 * tb 0 := rfl
    have hQ : tQ tb = tP tb + 1 + 5 * tb (tP tb) := rfl
    have hbq := hb (tQ tb)
    refine up_loop _ _ _ ?_ ?_
    · intro x hx
      refine r_iload (pc := 142) C dX10_isTransaction_142 rfl ?_
      refine r_iload (pc := 144) C dX10_isTransaction_144 rfl ?_
      refine r_icmp_ge (pc := 146) (tgt := 178) C dX10_isTransaction_146 (by decide) (fun c146 => ?_) (fun c146 => ?_)
      · refine r_iload_n (pc := 178) C dX10_isTransaction_178 rfl ?_
        refine r_if_eq (pc := 179) (tgt := 213) C dX10_isTransaction_179 (by decide) (fun c179 => ?_) (fun c179 => ?_)
        · rw [hx, bi_0] at c179
          have hv : isT tb m = false := by cases q : decide (tQ tb < m) <;> simp_all [isT]
          refine r_iconst (pc := 213) C (nI 0) dX10_isTransaction_213 rfl ?_
          refine r_zret (pc := 214) C dX10_isTransaction_214 rfl (by first | exact Or.inl rfl | exact Or.inr rfl | assumption) (by omega) (by omega) ?_
          exact ⟨by rw [hv]; rfl, rfl⟩
        · rw [hx, bi_0] at c179
          have c179t := ts_nf c179
          simp only [Bool.and_eq_true, decide_eq_true_eq] at c179t
          obtain ⟨q5, q6⟩ := c179t
          refine r_aload_n (pc := 182) C dX10_isTransaction_182 rfl ?_
          refine r_mA (pc := 183) C hV dX10_isTransaction_183 fx_RX10_13 (len := 128) (by decide) ?_
          refine r_iload (pc := 186) C dX10_isTransaction_186 rfl ?_
          refine r_xL (pc := 188) C hV dX10_isTransaction_188 (k := 7) (len := 128) (by decide) (by decide) (by omega) (by decide) ?_
          rw [hT _ (by omega)]
          refine r_callS (pc := 189) C (cm_few hbq) iX10_few ml_RX10_207 dX10_isTransaction_189 rfl (by decide) rfl (by simp [cv, Value.category, va_rf]) (by omega) (by omega) (fun r189 S189 h189 => ?_)
          obtain ⟨rfl, e189⟩ := h189
          subst S189
          dsimp only [Option.toList, List.cons_append, List.nil_append]
          refine r_if_eq (pc := 192) (tgt := 213) C dX10_isTransaction_192 (by decide) (fun c192 => ?_) (fun c192 => ?_)
          · rw [bi_0] at c192
            have hv : isT tb m = false := by simp [isT, c192]
            refine r_iconst (pc := 213) C (nI 0) dX10_isTransaction_213 rfl ?_
            refine r_zret (pc := 214) C dX10_isTransaction_214 rfl (by first | exact Or.inl rfl | exact Or.inr rfl | assumption) (by omega) (by omega) ?_
            exact ⟨by rw [hv]; rfl, rfl⟩
          · rw [bi_0] at c192
            have q7 := ts_nf c192
            have ⟨g5, g6⟩ := fewB_iff.mp q7
            refine r_iload_n (pc := 195) C dX10_isTransaction_195 rfl ?_
            refine r_iload (pc := 196) C dX10_isTransaction_196 rfl ?_
            refine r_iconst (pc := 198) C (nI 1) dX10_isTransaction_198 rfl ?_
            refine r_iadd (pc := 199) C dX10_isTransaction_199 ?_
            try simp only [nI_add, pk_mul]
            refine r_iconst (pc := 200) C (nI 4) dX10_isTransaction_200 rfl ?_
            refine r_aload_n (pc := 201) C dX10_isTransaction_201 rfl ?_
            refine r_mA (pc := 202) C hV dX10_isTransaction_202 fx_RX10_13 (len := 128) (by decide) ?_
            refine r_iload (pc := 205) C dX10_isTransaction_205 rfl ?_
            refine r_xL (pc := 207) C hV dX10_isTransaction_207 (k := 7) (len := 128) (by decide) (by decide) (by omega) (by decide) ?_
            rw [hT _ (by omega)]
            refine r_imul (pc := 208) C dX10_isTransaction_208 ?_
            try simp only [nI_add, pk_mul]
            refine r_iadd (pc := 209) C dX10_isTransaction_209 ?_
            try simp only [nI_add, pk_mul]
            refine r_icmp_eq (pc := 210) (tgt := 215) C dX10_isTransaction_210 (by decide) (fun c210 => ?_) (fun c210 => ?_)
            · have q8 := (nI_eq (by omega) (by omega)).mp c210
              refine r_iload (pc := 215) C dX10_isTransaction_215 rfl ?_
              refine r_iconst (pc := 217) C (nI 1) dX10_isTransaction_217 rfl ?_
              refine r_iadd (pc := 218) C dX10_isTransaction_218 ?_
              try simp only [nI_add, pk_mul]
              refine r_istore (pc := 219) C dX10_isTransaction_219 (by decide) rfl ?_
              exact r_lv C [(0, vr (some mo)), (1, vi (nI m)), (2, vi (nI (tP tb))), (3, vi x), (4, vi (nI (tQ tb))), (5, vi (nI (tQ tb + 1 + 4 * 0)))] rfl (L3 q1 q2 q3 q4 q5 q6 q7 q8 0 x (by omega) (by rw [hx, q6, decide_eq_true q5]; rfl))
            · have c210n := mt (nI_eq (a := m) (b := tQ tb + 1 + 4 * tb (tQ tb)) (by omega) (by omega)).mpr c210
              have hv : isT tb m = false := by simp [isT, c210n]
              refine r_iconst (pc := 213) C (nI 0) dX10_isTransaction_213 rfl ?_
              refine r_zret (pc := 214) C dX10_isTransaction_214 rfl (by first | exact Or.inl rfl | exact Or.inr rfl | assumption) (by omega) (by omega) ?_
              exact ⟨by rw [hv]; rfl, rfl⟩
      · rw [← hQ] at c146
        exact absurd (Int32.le_refl _) c146
    · intro j x hj hx ih
      subst hx
      refine r_iload (pc := 142) C dX10_isTransaction_142 rfl ?_
      refine r_iload (pc := 144) C dX10_isTransaction_144 rfl ?_
      refine r_icmp_ge (pc := 146) (tgt := 178) C dX10_isTransaction_146 (by decide) (fun c146 => ?_) (fun c146 => ?_)
      · exact absurd c146 (nI_ge (by omega) (by omega))
      · refine r_iload_n (pc := 149) C dX10_isTransaction_149 rfl ?_
        refine r_if_eq (pc := 150) (tgt := 178) C dX10_isTransaction_150 (by decide) (fun c150 => ?_) (fun c150 => ?_)
        · rw [bi_0] at c150
          have hv : isT tb m = false := by
            cases q : decide (tQ tb < m) with
            | false => simp [isT, q]
            | true =>
              rw [q, Bool.true_and] at c150
              have := allU_f c150 (show j ≤ tb (tP tb) by omega)
              simp [isT, lo2, this]
          refine r_iload_n (pc := 178) C dX10_isTransaction_178 rfl ?_
          refine r_if_eq (pc := 179) (tgt := 213) C dX10_isTransaction_179 (by decide) (fun c179 => ?_) (fun c179 => ?_)
          · refine r_iconst (pc := 213) C (nI 0) dX10_isTransaction_213 rfl ?_
            refine r_zret (pc := 214) C dX10_isTransaction_214 rfl (by first | exact Or.inl rfl | exact Or.inr rfl | assumption) (by omega) (by omega) ?_
            exact ⟨by rw [hv]; rfl, rfl⟩
          · rw [bi_0] at c179; exact absurd c150 c179
        · rw [bi_0] at c150
          have c150t := ts_nf c150
          simp only [Bool.and_eq_true, decide_eq_true_eq] at c150t
          refine r_aload_n (pc := 153) C dX10_isTransaction_153 rfl ?_
          refine r_mA (pc := 154) C hV dX10_isTransaction_154 fx_RX10_13 (len := 128) (by decide) ?_
          refine r_iload (pc := 157) C dX10_isTransaction_157 rfl ?_
          refine r_xL (pc := 159) C hV dX10_isTransaction_159 (k := 7) (len := 128) (by decide) (by decide) (by omega) (by decide) ?_
          rw [hT _ (by omega)]
          have hbj := hb (tP tb + 1 + 5 * j)
          refine r_sipush (pc := 160) C (nI 128) dX10_isTransaction_160 rfl ?_
          refine r_icmp_ge (pc := 163) (tgt := 170) C dX10_isTransaction_163 (by decide) (fun c163 => ?_) (fun c163 => ?_)
          · rw [nI_leI (by omega) (by omega)] at c163
            have hv2 : nI 0 = bi (decide (tQ tb < m) && lo2 tb (j + 1)) := by simp only [lo2, allU]; rw [decide_eq_false (Nat.not_lt.mpr c163), Bool.and_false, Bool.and_false]; rfl
            refine r_iconst (pc := 170) C (nI 0) dX10_isTransaction_170 rfl ?_
            refine r_istore_n (pc := 171) C dX10_isTransaction_171 (by decide) rfl ?_
            refine r_iinc (pc := 172) C _ dX10_isTransaction_172 rfl (nI_add _ 5) (by decide) rfl ?_
            refine r_goto (pc := 175) (tgt := 142) C dX10_isTransaction_175 (by decide) ?_
            exact r_lv C [(0, vr (some mo)), (1, vi (nI m)), (2, vi (nI (tP tb))), (3, vi _), (4, vi (nI (tQ tb))), (5, vi (nI (tP tb + 1 + 5 * (j + 1))))] rfl (ih _ hv2)
          · rw [nI_leI (by omega) (by omega)] at c163
            have hv2 : nI 1 = bi (decide (tQ tb < m) && lo2 tb (j + 1)) := by simp only [lo2, allU] at c150t ⊢; rw [c150t.2, decide_eq_true (Nat.not_le.mp c163), decide_eq_true c150t.1]; rfl
            refine r_iconst (pc := 166) C (nI 1) dX10_isTransaction_166 rfl ?_
            refine r_goto (pc := 167) (tgt := 171) C dX10_isTransaction_167 (by decide) ?_
            refine r_istore_n (pc := 171) C dX10_isTransaction_171 (by decide) rfl ?_
            refine r_iinc (pc := 172) C _ dX10_isTransaction_172 rfl (nI_add _ 5) (by decide) rfl ?_
            refine r_goto (pc := 175) (tgt := 142) C dX10_isTransaction_175 (by decide) ?_
            exact r_lv C [(0, vr (some mo)), (1, vi (nI m)), (2, vi (nI (tP tb))), (3, vi _), (4, vi (nI (tQ tb))), (5, vi (nI (tP tb + 1 + 5 * (j + 1))))] rfl (ih _ hv2)
  have L1 : fewB (tb 0) = true → ∀ j x, j ≤ tb 0 → x = bi (decide (tP tb < m) && lo1 tb j) → J 58 [(0, vr (some mo)), (1, vi (nI m)), (2, vi (nI (tP tb))), (3, vi x), (4, vi (nI (1 + 4 * j)))] [] S 0 0 := by
    intro q1
    have ⟨g1, g2⟩ := fewB_iff.mp q1
    have hP : tP tb = 1 + 4 * tb 0 := rfl
    have hbp := hb (tP tb)
    refine up_loop _ _ _ ?_ ?_
    · intro x hx
      refine r_iload (pc := 58) C dX10_isTransaction_58 rfl ?_
      refine r_iload_n (pc := 60) C dX10_isTransaction_60 rfl ?_
      refine r_icmp_ge (pc := 61) (tgt := 93) C dX10_isTransaction_61 (by decide) (fun c61 => ?_) (fun c61 => ?_)
      · refine r_iload_n (pc := 93) C dX10_isTransaction_93 rfl ?_
        refine r_if_eq (pc := 94) (tgt := 109) C dX10_isTransaction_94 (by decide) (fun c94 => ?_) (fun c94 => ?_)
        · rw [hx, bi_0] at c94
          have hv : isT tb m = false := by cases q : decide (tP tb < m) <;> simp_all [isT]
          refine r_iconst (pc := 109) C (nI 0) dX10_isTransaction_109 rfl ?_
          refine r_zret (pc := 110) C dX10_isTransaction_110 rfl (by first | exact Or.inl rfl | exact Or.inr rfl | assumption) (by omega) (by omega) ?_
          exact ⟨by rw [hv]; rfl, rfl⟩
        · rw [hx, bi_0] at c94
          have c94t := ts_nf c94
          simp only [Bool.and_eq_true, decide_eq_true_eq] at c94t
          obtain ⟨q2, q3⟩ := c94t
          refine r_aload_n (pc := 97) C dX10_isTransaction_97 rfl ?_
          refine r_mA (pc := 98) C hV dX10_isTransaction_98 fx_RX10_13 (len := 128) (by decide) ?_
          refine r_iload_n (pc := 101) C dX10_isTransaction_101 rfl ?_
          refine r_xL (pc := 102) C hV dX10_isTransaction_102 (k := 7) (len := 128) (by decide) (by decide) (by omega) (by decide) ?_
          rw [hT _ (by omega)]
          refine r_callS (pc := 103) C (cm_few hbp) iX10_few ml_RX10_207 dX10_isTransaction_103 rfl (by decide) rfl (by simp [cv, Value.category, va_rf]) (by omega) (by omega) (fun r103 S103 h103 => ?_)
          obtain ⟨rfl, e103⟩ := h103
          subst S103
          dsimp only [Option.toList, List.cons_append, List.nil_append]
          refine r_if_ne (pc := 106) (tgt := 111) C dX10_isTransaction_106 (by decide) (fun c106 => ?_) (fun c106 => ?_)
          · rw [bi_0] at c106
            have q4 := ts_nf c106
            have ⟨g3, g4⟩ := fewB_iff.mp q4
            have hQ : tQ tb = tP tb + 1 + 5 * tb (tP tb) := rfl
            refine r_iload_n (pc := 111) C dX10_isTransaction_111 rfl ?_
            refine r_iconst (pc := 112) C (nI 1) dX10_isTransaction_112 rfl ?_
            refine r_iadd (pc := 113) C dX10_isTransaction_113 ?_
            try simp only [nI_add, pk_mul]
            refine r_iconst (pc := 114) C (nI 5) dX10_isTransaction_114 rfl ?_
            refine r_aload_n (pc := 115) C dX10_isTransaction_115 rfl ?_
            refine r_mA (pc := 116) C hV dX10_isTransaction_116 fx_RX10_13 (len := 128) (by decide) ?_
            refine r_iload_n (pc := 119) C dX10_isTransaction_119 rfl ?_
            refine r_xL (pc := 120) C hV dX10_isTransaction_120 (k := 7) (len := 128) (by decide) (by decide) (by omega) (by decide) ?_
            rw [hT _ (by omega)]
            refine r_imul (pc := 121) C dX10_isTransaction_121 ?_
            try simp only [nI_add, pk_mul]
            refine r_iadd (pc := 122) C dX10_isTransaction_122 ?_
            try simp only [nI_add, pk_mul]
            rw [show nI (tP tb + 1 + 5 * tb (tP tb)) = nI (tQ tb) from rfl]
            refine r_istore (pc := 123) C dX10_isTransaction_123 (by decide) rfl ?_
            refine r_iload (pc := 125) C dX10_isTransaction_125 rfl ?_
            refine r_iload_n (pc := 127) C dX10_isTransaction_127 rfl ?_
            refine r_icmp_ge (pc := 128) (tgt := 135) C dX10_isTransaction_128 (by decide) (fun c128 => ?_) (fun c128 => ?_)
            · rw [nI_leI (by omega) (by omega)] at c128
              have hv2 : nI 0 = bi (decide (tQ tb < m) && lo2 tb 0) := by rw [decide_eq_false (Nat.not_lt.mpr c128)]; rfl
              refine r_iconst (pc := 135) C (nI 0) dX10_isTransaction_135 rfl ?_
              refine r_istore_n (pc := 136) C dX10_isTransaction_136 (by decide) rfl ?_
              refine r_iload_n (pc := 137) C dX10_isTransaction_137 rfl ?_
              refine r_iconst (pc := 138) C (nI 1) dX10_isTransaction_138 rfl ?_
              refine r_iadd (pc := 139) C dX10_isTransaction_139 ?_
              try simp only [nI_add, pk_mul]
              refine r_istore (pc := 140) C dX10_isTransaction_140 (by decide) rfl ?_
              exact r_lv C [(0, vr (some mo)), (1, vi (nI m)), (2, vi (nI (tP tb))), (3, vi _), (4, vi (nI (tQ tb))), (5, vi (nI (tP tb + 1 + 5 * 0)))] rfl (L2 q1 q2 q3 q4 0 _ (by omega) hv2)
            · rw [nI_leI (by omega) (by omega)] at c128
              have hv2 : nI 1 = bi (decide (tQ tb < m) && lo2 tb 0) := by rw [decide_eq_true (Nat.not_le.mp c128)]; rfl
              refine r_iconst (pc := 131) C (nI 1) dX10_isTransaction_131 rfl ?_
              refine r_goto (pc := 132) (tgt := 136) C dX10_isTransaction_132 (by decide) ?_
              refine r_istore_n (pc := 136) C dX10_isTransaction_136 (by decide) rfl ?_
              refine r_iload_n (pc := 137) C dX10_isTransaction_137 rfl ?_
              refine r_iconst (pc := 138) C (nI 1) dX10_isTransaction_138 rfl ?_
              refine r_iadd (pc := 139) C dX10_isTransaction_139 ?_
              try simp only [nI_add, pk_mul]
              refine r_istore (pc := 140) C dX10_isTransaction_140 (by decide) rfl ?_
              exact r_lv C [(0, vr (some mo)), (1, vi (nI m)), (2, vi (nI (tP tb))), (3, vi _), (4, vi (nI (tQ tb))), (5, vi (nI (tP tb + 1 + 5 * 0)))] rfl (L2 q1 q2 q3 q4 0 _ (by omega) hv2)
          · rw [bi_0] at c106
            have hv : isT tb m = false := by simp [isT, c106]
            refine r_iconst (pc := 109) C (nI 0) dX10_isTransaction_109 rfl ?_
            refine r_zret (pc := 110) C dX10_isTransaction_110 rfl (by first | exact Or.inl rfl | exact Or.inr rfl | assumption) (by omega) (by omega) ?_
            exact ⟨by rw [hv]; rfl, rfl⟩
      · rw [← hP] at c61
        exact absurd (Int32.le_refl _) c61
    · intro j x hj hx ih
      subst hx
      refine r_iload (pc := 58) C dX10_isTransaction_58 rfl ?_
      refine r_iload_n (pc := 60) C dX10_isTransaction_60 rfl ?_
      refine r_icmp_ge (pc := 61) (tgt := 93) C dX10_isTransaction_61 (by decide) (fun c61 => ?_) (fun c61 => ?_)
      · exact absurd c61 (nI_ge (by omega) (by omega))
      · refine r_iload_n (pc := 64) C dX10_isTransaction_64 rfl ?_
        refine r_if_eq (pc := 65) (tgt := 93) C dX10_isTransaction_65 (by decide) (fun c65 => ?_) (fun c65 => ?_)
        · rw [bi_0] at c65
          have hv : isT tb m = false := by
            cases q : decide (tP tb < m) with
            | false => simp [isT, q]
            | true =>
              rw [q, Bool.true_and] at c65
              have := allU_f c65 (show j ≤ tb 0 by omega)
              simp [isT, lo1, this]
          refine r_iload_n (pc := 93) C dX10_isTransaction_93 rfl ?_
          refine r_if_eq (pc := 94) (tgt := 109) C dX10_isTransaction_94 (by decide) (fun c94 => ?_) (fun c94 => ?_)
          · refine r_iconst (pc := 109) C (nI 0) dX10_isTransaction_109 rfl ?_
            refine r_zret (pc := 110) C dX10_isTransaction_110 rfl (by first | exact Or.inl rfl | exact Or.inr rfl | assumption) (by omega) (by omega) ?_
            exact ⟨by rw [hv]; rfl, rfl⟩
          · rw [bi_0] at c94; exact absurd c65 c94
        · rw [bi_0] at c65
          have c65t := ts_nf c65
          simp only [Bool.and_eq_true, decide_eq_true_eq] at c65t
          refine r_aload_n (pc := 68) C dX10_isTransaction_68 rfl ?_
          refine r_mA (pc := 69) C hV dX10_isTransaction_69 fx_RX10_13 (len := 128) (by decide) ?_
          refine r_iload (pc := 72) C dX10_isTransaction_72 rfl ?_
          refine r_xL (pc := 74) C hV dX10_isTransaction_74 (k := 7) (len := 128) (by decide) (by decide) (by omega) (by decide) ?_
          rw [hT _ (by omega)]
          have hbj := hb (1 + 4 * j)
          refine r_sipush (pc := 75) C (nI 128) dX10_isTransaction_75 rfl ?_
          refine r_icmp_ge (pc := 78) (tgt := 85) C dX10_isTransaction_78 (by decide) (fun c78 => ?_) (fun c78 => ?_)
          · rw [nI_leI (by omega) (by omega)] at c78
            have hv2 : nI 0 = bi (decide (tP tb < m) && lo1 tb (j + 1)) := by simp only [lo1, allU]; rw [decide_eq_false (Nat.not_lt.mpr c78), Bool.and_false, Bool.and_false]; rfl
            refine r_iconst (pc := 85) C (nI 0) dX10_isTransaction_85 rfl ?_
            refine r_istore_n (pc := 86) C dX10_isTransaction_86 (by decide) rfl ?_
            refine r_iinc (pc := 87) C _ dX10_isTransaction_87 rfl (nI_add _ 4) (by decide) rfl ?_
            refine r_goto (pc := 90) (tgt := 58) C dX10_isTransaction_90 (by decide) ?_
            exact r_lv C [(0, vr (some mo)), (1, vi (nI m)), (2, vi (nI (tP tb))), (3, vi _), (4, vi (nI (1 + 4 * (j + 1))))] rfl (ih _ hv2)
          · rw [nI_leI (by omega) (by omega)] at c78
            have hv2 : nI 1 = bi (decide (tP tb < m) && lo1 tb (j + 1)) := by simp only [lo1, allU] at c65t ⊢; rw [c65t.2, decide_eq_true (Nat.not_le.mp c78), decide_eq_true c65t.1]; rfl
            refine r_iconst (pc := 81) C (nI 1) dX10_isTransaction_81 rfl ?_
            refine r_goto (pc := 82) (tgt := 86) C dX10_isTransaction_82 (by decide) ?_
            refine r_istore_n (pc := 86) C dX10_isTransaction_86 (by decide) rfl ?_
            refine r_iinc (pc := 87) C _ dX10_isTransaction_87 rfl (nI_add _ 4) (by decide) rfl ?_
            refine r_goto (pc := 90) (tgt := 58) C dX10_isTransaction_90 (by decide) ?_
            exact r_lv C [(0, vr (some mo)), (1, vi (nI m)), (2, vi (nI (tP tb))), (3, vi _), (4, vi (nI (1 + 4 * (j + 1))))] rfl (ih _ hv2)
  refine r_iload_n (pc := 0) C dX10_isTransaction_0 rfl ?_
  refine r_iconst (pc := 1) C (nI 1) dX10_isTransaction_1 rfl ?_
  refine r_icmp_lt (pc := 2) (tgt := 31) C dX10_isTransaction_2 (by decide) (fun c2 => ?_) (fun c2 => ?_)
  · exact absurd c2 (nI_nlt h1 (by omega))
  · refine r_iload_n (pc := 5) C dX10_isTransaction_5 rfl ?_
    refine r_aload_n (pc := 6) C dX10_isTransaction_6 rfl ?_
    refine r_mI (pc := 7) (k := 8) C hV dX10_isTransaction_7 fx_RX10_173 ?_
    rw [htp]
    refine r_icmp_gt (pc := 10) (tgt := 31) C dX10_isTransaction_10 (by decide) (fun c10 => ?_) (fun c10 => ?_)
    · exact absurd c10 (nI_nlt h2 (by omega))
    · refine r_iload_n (pc := 13) C dX10_isTransaction_13 rfl ?_
      refine r_bipush (pc := 14) C (nI 55) dX10_isTransaction_14 rfl ?_
      refine r_icmp_gt (pc := 16) (tgt := 31) C dX10_isTransaction_16 (by decide) (fun c16 => ?_) (fun c16 => ?_)
      · exact absurd c16 (nI_nlt h3 (by omega))
      · refine r_aload_n (pc := 19) C dX10_isTransaction_19 rfl ?_
        refine r_mA (pc := 20) C hV dX10_isTransaction_20 fx_RX10_13 (len := 128) (by decide) ?_
        refine r_iconst (pc := 23) C (nI 0) dX10_isTransaction_23 rfl ?_
        refine r_xL (pc := 24) C hV dX10_isTransaction_24 (k := 7) (len := 128) (by decide) (by decide) (by omega) (by decide) ?_
        rw [hT _ (by omega)]
        refine r_callS (pc := 25) C (cm_few hb0) iX10_few ml_RX10_207 dX10_isTransaction_25 rfl (by decide) rfl (by simp [cv, Value.category, va_rf]) (by omega) (by omega) (fun r25 S25 h25 => ?_)
        obtain ⟨rfl, e25⟩ := h25
        subst S25
        dsimp only [Option.toList, List.cons_append, List.nil_append]
        refine r_if_ne (pc := 28) (tgt := 33) C dX10_isTransaction_28 (by decide) (fun c28 => ?_) (fun c28 => ?_)
        · rw [bi_0] at c28
          have q1 := ts_nf c28
          have ⟨g1, g2⟩ := fewB_iff.mp q1
          have hP : tP tb = 1 + 4 * tb 0 := rfl
          refine r_iconst (pc := 33) C (nI 1) dX10_isTransaction_33 rfl ?_
          refine r_iconst (pc := 34) C (nI 4) dX10_isTransaction_34 rfl ?_
          refine r_aload_n (pc := 35) C dX10_isTransaction_35 rfl ?_
          refine r_mA (pc := 36) C hV dX10_isTransaction_36 fx_RX10_13 (len := 128) (by decide) ?_
          refine r_iconst (pc := 39) C (nI 0) dX10_isTransaction_39 rfl ?_
          refine r_xL (pc := 40) C hV dX10_isTransaction_40 (k := 7) (len := 128) (by decide) (by decide) (by omega) (by decide) ?_
          rw [hT _ (by omega)]
          refine r_imul (pc := 41) C dX10_isTransaction_41 ?_
          try simp only [nI_add, pk_mul]
          refine r_iadd (pc := 42) C dX10_isTransaction_42 ?_
          try simp only [nI_add, pk_mul]
          rw [show nI (1 + 4 * tb 0) = nI (tP tb) from rfl]
          refine r_istore_n (pc := 43) C dX10_isTransaction_43 (by decide) rfl ?_
          refine r_iload_n (pc := 44) C dX10_isTransaction_44 rfl ?_
          refine r_iload_n (pc := 45) C dX10_isTransaction_45 rfl ?_
          refine r_icmp_ge (pc := 46) (tgt := 53) C dX10_isTransaction_46 (by decide) (fun c46 => ?_) (fun c46 => ?_)
          · rw [nI_leI (by omega) (by omega)] at c46
            have hv2 : nI 0 = bi (decide (tP tb < m) && lo1 tb 0) := by rw [decide_eq_false (Nat.not_lt.mpr c46)]; rfl
            refine r_iconst (pc := 53) C (nI 0) dX10_isTransaction_53 rfl ?_
            refine r_istore_n (pc := 54) C dX10_isTransaction_54 (by decide) rfl ?_
            refine r_iconst (pc := 55) C (nI 1) dX10_isTransaction_55 rfl ?_
            refine r_istore (pc := 56) C dX10_isTransaction_56 (by decide) rfl ?_
            exact r_lv C [(0, vr (some mo)), (1, vi (nI m)), (2, vi (nI (tP tb))), (3, vi _), (4, vi (nI (1 + 4 * 0)))] rfl (L1 q1 0 _ (by omega) hv2)
          · rw [nI_leI (by omega) (by omega)] at c46
            have hv2 : nI 1 = bi (decide (tP tb < m) && lo1 tb 0) := by rw [decide_eq_true (Nat.not_le.mp c46)]; rfl
            refine r_iconst (pc := 49) C (nI 1) dX10_isTransaction_49 rfl ?_
            refine r_goto (pc := 50) (tgt := 54) C dX10_isTransaction_50 (by decide) ?_
            refine r_istore_n (pc := 54) C dX10_isTransaction_54 (by decide) rfl ?_
            refine r_iconst (pc := 55) C (nI 1) dX10_isTransaction_55 rfl ?_
            refine r_istore (pc := 56) C dX10_isTransaction_56 (by decide) rfl ?_
            exact r_lv C [(0, vr (some mo)), (1, vi (nI m)), (2, vi (nI (tP tb))), (3, vi _), (4, vi (nI (1 + 4 * 0)))] rfl (L1 q1 0 _ (by omega) hv2)
        · rw [bi_0] at c28
          refine r_iconst (pc := 31) C (nI 0) dX10_isTransaction_31 rfl ?_
          refine r_zret (pc := 32) C dX10_isTransaction_32 rfl (by first | exact Or.inl rfl | exact Or.inr rfl | assumption) (by omega) (by omega) ?_
          exact ⟨by simp [isT, c28, bi_f], rfl⟩
theorem cm_isTransactionN {x : Int32} {tp : Nat} (hV : MV S mo M n h) (htp : Gs S mo 8 = nI tp) (hx : x < nI 1 ∨ nI tp < x ∨ nI 55 < x) : Sp l g mX10_isTransaction 0 0 [vr (some mo), vi x] S (fun r S' => r = some (vi (bi false)) ∧ S' = S) := by
  have hC0 : Gch S S mo (Gs S mo) := Gc.rf
  refine Sp.start (own := RX10) [(0, vr (some mo)), (1, vi x)] (by decide +kernel) rfl rfl (Nat.le_of_ble_eq_true rfl) ?_
  intro J C
  refine r_iload_n (pc := 0) C dX10_isTransaction_0 rfl ?_
  refine r_iconst (pc := 1) C (nI 1) dX10_isTransaction_1 rfl ?_
  refine r_icmp_lt (pc := 2) (tgt := 31) C dX10_isTransaction_2 (by decide) (fun c2 => ?_) (fun c2 => ?_)
  · refine r_iconst (pc := 31) C (nI 0) dX10_isTransaction_31 rfl ?_
    refine r_zret (pc := 32) C dX10_isTransaction_32 rfl (by first | exact Or.inl rfl | exact Or.inr rfl | assumption) (by omega) (by omega) ?_
    exact ⟨rfl, rfl⟩
  · refine r_iload_n (pc := 5) C dX10_isTransaction_5 rfl ?_
    refine r_aload_n (pc := 6) C dX10_isTransaction_6 rfl ?_
    refine r_mI (pc := 7) (k := 8) C hV dX10_isTransaction_7 fx_RX10_173 ?_
    rw [htp]
    refine r_icmp_gt (pc := 10) (tgt := 31) C dX10_isTransaction_10 (by decide) (fun c10 => ?_) (fun c10 => ?_)
    · refine r_iconst (pc := 31) C (nI 0) dX10_isTransaction_31 rfl ?_
      refine r_zret (pc := 32) C dX10_isTransaction_32 rfl (by first | exact Or.inl rfl | exact Or.inr rfl | assumption) (by omega) (by omega) ?_
      exact ⟨rfl, rfl⟩
    · refine r_iload_n (pc := 13) C dX10_isTransaction_13 rfl ?_
      refine r_bipush (pc := 14) C (nI 55) dX10_isTransaction_14 rfl ?_
      refine r_icmp_gt (pc := 16) (tgt := 31) C dX10_isTransaction_16 (by decide) (fun c16 => ?_) (fun c16 => ?_)
      · refine r_iconst (pc := 31) C (nI 0) dX10_isTransaction_31 rfl ?_
        refine r_zret (pc := 32) C dX10_isTransaction_32 rfl (by first | exact Or.inl rfl | exact Or.inr rfl | assumption) (by omega) (by omega) ?_
        exact ⟨rfl, rfl⟩
      · rcases hx with q | q | q
        · exact absurd q c2
        · exact absurd q c10
        · exact absurd q c16
end Tape
