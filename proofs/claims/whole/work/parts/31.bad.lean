/-! The reference: what makes a transaction bad -/
theorem lg_cmp0 {x y : Int64} : (lg_cmp x y = 0) = (x = y) := by
  unfold lg_cmp
  simp only [eq_iff_iff]
  constructor
  · intro h
    split at h
    · cases h
    · split at h
      · assumption
      · cases h
  · intro h
    subst h
    simp [Int64.lt_irrefl]
def twP (M : MM) (t i : Nat) : Bool := anyU (fun i => anyU (fun j => decide (pid (M 11) t i = pid (M 11) t j)) i) i
def twX (M : MM) (t i j : Nat) : Bool := anyU (fun j => decide (xid (M 11) t j = xid (M 11) t i) && decide (xix (M 11) t j = xix (M 11) t i)) j
def noX (M : MM) (n h t i : Nat) : Bool := match fdo (M 10) (xid (M 11) t i) n with
  | none => true
  | some p => !anc M n h t p || !decide (xix (M 11) t i < nO (M 11) p)
def spX (M : MM) (n h t i a : Nat) : Bool := anyU (fun a => anc M n h t a && spn M a (xid (M 11) t i) (xix (M 11) t i)) a
def bad3 (M : MM) (n h t i : Nat) (b : Bool) : Bool := ((b || twX M t i i) || noX M n h t i) || spX M n h t i n
def badI (M : MM) (n h t : Nat) : Nat → Bool × Int64
  | 0 => (twP M t (nP (M 11) t), lN 0)
  | i + 1 => (bad3 M n h t i (badI M n h t i).1, (badI M n h t i).2 + (if bad3 M n h t i (badI M n h t i).1 then lN 0 else (amt (M 11) (src M n t i) (xix (M 11) t i)).toInt64))
def sumO (M : MM) (t : Nat) (s : Int64) : Nat → Int64
  | 0 => s
  | i + 1 => sumO M t s i - (amt (M 11) t i).toInt64
def badB (M : MM) (n h t : Nat) : Bool := (badI M n h t (nX (M 11) t)).1 || !decide (sumO M t (badI M n h t (nX (M 11) t)).2 (nO (M 11) t) = lN 0)
theorem noX_none {M : MM} {n h t i : Nat} (e : fdo (M 10) (xid (M 11) t i) n = none) : noX M n h t i = true := by simp only [noX, e]
theorem noX_some {M : MM} {n h t i p : Nat} (e : fdo (M 10) (xid (M 11) t i) n = some p) : noX M n h t i = (!anc M n h t p || !decide (xix (M 11) t i < nO (M 11) p)) := by simp only [noX, e]
section Bad
variable {l : Launch} {g : GG} {S : hS} {mo : Nat} {M : MM} {n h : Nat}
theorem cm_isBad {t : Nat} (hV : MV S mo M n h) (ht : Hp M n t) (ht0 : t ≠ 0) : Sp l g mX10_isBad 0 0 [vr (some mo), vi (nI t)] S (fun r S' => r = some (vi (bi (badB M n h t))) ∧ Gch S S' mo (Gs S mo) ∧ MV S' mo M n h) := by
  have hG := hV.G
  have hn2 := hG.1
  have htn := ht.1
  have hR := hV.R ht.1
  have hx4 := hR.2.2.1
  have hp4 := hR.2.1
  have ht140 := hR.1
  have ho4 := hR.2.2.2.2 ht0
  have hC0 : Gch S S mo (Gs S mo) := Gc.rf
  refine Sp.start (own := RX10) [(0, vr (some mo)), (1, vi (nI t))] (by decide +kernel) rfl rfl (Nat.le_of_ble_eq_true rfl) ?_
  intro J C
  have main : ∀ S1, Gch S S1 mo (Gs S mo) → MV S1 mo M n h → Bm (mI S1 mo 20) (anc M n h t) → J 5 [(0, vr (some mo)), (1, vi (nI t))] [] S1 0 0 := by
    intro S1 hC1 hV1 hB
    have LO : ∀ i s, i ≤ nO (M 11) t → s = sumO M t (badI M n h t (nX (M 11) t)).2 i → J 272 [(0, vr (some mo)), (1, vi (nI t)), (2, vi (bi (badI M n h t (nX (M 11) t)).1)), (3, vl s), (5, vi (nI i))] [] S1 0 0 := by
      refine up_loop _ _ _ ?_ ?_
      · intro s hs
        refine r_iload (pc := 272) C dX10_isBad_272 rfl ?_
        refine r_aload_n (pc := 274) C dX10_isBad_274 rfl ?_
        refine r_iload_n (pc := 275) C dX10_isBad_275 rfl ?_
        refine r_callV (pc := 276) C (mv_outputsOf hV1 htn) iX10_outputsOf ml_RX10_245 dX10_isBad_276 (ci := 11) rfl rfl hV1.1.1 rfl (by decide) rfl (by simp [cv, Value.category, va_rf]) (by omega) (by omega) (fun r276 S276 h276 => ?_)
        obtain ⟨rfl, e276⟩ := h276
        subst S276
        dsimp only [Option.toList, List.cons_append, List.nil_append]
        refine r_icmp_ge (pc := 279) (tgt := 299) C dX10_isBad_279 (by decide) (fun c279 => ?_) (fun c279 => ?_)
        · refine r_iload_n (pc := 299) C dX10_isBad_299 rfl ?_
          refine r_if_ne (pc := 300) (tgt := 309) C dX10_isBad_300 (by decide) (fun c300 => ?_) (fun c300 => ?_)
          · rw [bi_0] at c300
            refine r_iconst (pc := 309) C (nI 1) dX10_isBad_309 rfl ?_
            refine r_goto (pc := 310) (tgt := 314) C dX10_isBad_310 (by decide) ?_
            refine r_zret (pc := 314) C dX10_isBad_314 rfl (by first | exact Or.inl rfl | exact Or.inr rfl | assumption) (by omega) (by omega) ?_
            refine ⟨?_, hC1, hV1⟩
            subst hs
            simp_all [badB, bi_t, bi_f]
          · rw [bi_0] at c300
            refine r_lload_n (pc := 303) C dX10_isBad_303 rfl ?_
            refine r_lconst (pc := 304) C (lN 0) dX10_isBad_304 rfl ?_
            refine r_lcmp (pc := 305) C dX10_isBad_305 ?_
            refine r_if_eq (pc := 306) (tgt := 313) C dX10_isBad_306 (by decide) (fun c306 => ?_) (fun c306 => ?_)
            · rw [lg_cmp0] at c306
              refine r_iconst (pc := 313) C (nI 0) dX10_isBad_313 rfl ?_
              refine r_zret (pc := 314) C dX10_isBad_314 rfl (by first | exact Or.inl rfl | exact Or.inr rfl | assumption) (by omega) (by omega) ?_
              refine ⟨?_, hC1, hV1⟩
              subst hs
              simp_all [badB, bi_t, bi_f]
            · rw [lg_cmp0] at c306
              refine r_iconst (pc := 309) C (nI 1) dX10_isBad_309 rfl ?_
              refine r_goto (pc := 310) (tgt := 314) C dX10_isBad_310 (by decide) ?_
              refine r_zret (pc := 314) C dX10_isBad_314 rfl (by first | exact Or.inl rfl | exact Or.inr rfl | assumption) (by omega) (by omega) ?_
              refine ⟨?_, hC1, hV1⟩
              subst hs
              simp_all [badB, bi_t, bi_f]
        · exact absurd (Int32.le_refl _) c279
      · intro i s hi hs ih
        refine r_iload (pc := 272) C dX10_isBad_272 rfl ?_
        refine r_aload_n (pc := 274) C dX10_isBad_274 rfl ?_
        refine r_iload_n (pc := 275) C dX10_isBad_275 rfl ?_
        refine r_callV (pc := 276) C (mv_outputsOf hV1 htn) iX10_outputsOf ml_RX10_245 dX10_isBad_276 (ci := 11) rfl rfl hV1.1.1 rfl (by decide) rfl (by simp [cv, Value.category, va_rf]) (by omega) (by omega) (fun r276 S276 h276 => ?_)
        obtain ⟨rfl, e276⟩ := h276
        subst S276
        dsimp only [Option.toList, List.cons_append, List.nil_append]
        refine r_icmp_ge (pc := 279) (tgt := 299) C dX10_isBad_279 (by decide) (fun c279 => ?_) (fun c279 => ?_)
        · exact absurd c279 (nI_ge hi (by omega))
        · refine r_lload_n (pc := 282) C dX10_isBad_282 rfl ?_
          refine r_aload_n (pc := 283) C dX10_isBad_283 rfl ?_
          refine r_iload_n (pc := 284) C dX10_isBad_284 rfl ?_
          refine r_iload (pc := 285) C dX10_isBad_285 rfl ?_
          refine r_callV (pc := 287) C (mv_amount hV1 htn (fun _ => by omega)) iX10_amount ml_RX10_252 dX10_isBad_287 (ci := 11) rfl rfl hV1.1.1 rfl (by decide) rfl (by simp [cv, Value.category, va_rf]) (by omega) (by omega) (fun r287 S287 h287 => ?_)
          obtain ⟨rfl, e287⟩ := h287
          subst S287
          dsimp only [Option.toList, List.cons_append, List.nil_append]
          refine r_i2l (pc := 290) C dX10_isBad_290 ?_
          refine r_lsub (pc := 291) C dX10_isBad_291 ?_
          refine r_lstore_n (pc := 292) C dX10_isBad_292 (by decide) rfl ?_
          refine r_iinc (pc := 293) C _ dX10_isBad_293 rfl (nI_1 _) (by decide) rfl ?_
          refine r_goto (pc := 296) (tgt := 272) C dX10_isBad_296 (by decide) ?_
          exact r_lv C [(0, vr (some mo)), (1, vi (nI t)), (2, vi (bi (badI M n h t (nX (M 11) t)).1)), (3, vl _), (5, vi (nI (i + 1)))] rfl (ih _ (by simp only [sumO, hs]))
    have LX : ∀ i, i ≤ nX (M 11) t → True → J 70 [(0, vr (some mo)), (1, vi (nI t)), (2, vi (bi (badI M n h t i).1)), (3, vl (badI M n h t i).2), (5, vi (nI i))] [] S1 0 0 := by
      have := up_loop (σ := Unit) (nX (M 11) t) (fun i _ => J 70 [(0, vr (some mo)), (1, vi (nI t)), (2, vi (bi (badI M n h t i).1)), (3, vl (badI M n h t i).2), (5, vi (nI i))] [] S1 0 0) (fun _ _ => True) ?_ ?_
      · exact fun i hi _ => this i () hi trivial
      · intro _ _
        refine r_iload (pc := 70) C dX10_isBad_70 rfl ?_
        refine r_aload_n (pc := 72) C dX10_isBad_72 rfl ?_
        refine r_iload_n (pc := 73) C dX10_isBad_73 rfl ?_
        refine r_callV (pc := 74) C (mv_inputsOf hV1 htn) iX10_inputsOf ml_RX10_188 dX10_isBad_74 (ci := 11) rfl rfl hV1.1.1 rfl (by decide) rfl (by simp [cv, Value.category, va_rf]) (by omega) (by omega) (fun r74 S74 h74 => ?_)
        obtain ⟨rfl, e74⟩ := h74
        subst S74
        dsimp only [Option.toList, List.cons_append, List.nil_append]
        refine r_icmp_ge (pc := 77) (tgt := 269) C dX10_isBad_77 (by decide) (fun c77 => ?_) (fun c77 => ?_)
        · refine r_iconst (pc := 269) C (nI 0) dX10_isBad_269 rfl ?_
          refine r_istore (pc := 270) C dX10_isBad_270 (by decide) rfl ?_
          exact r_lv C [(0, vr (some mo)), (1, vi (nI t)), (2, vi (bi (badI M n h t (nX (M 11) t)).1)), (3, vl _), (5, vi (nI 0))] rfl (LO 0 _ (by omega) rfl)
        · exact absurd (Int32.le_refl _) c77
      · intro i _ hi _ ih
        have ih := ih () trivial
        have hix : xix (M 11) t i < 256 := rN_lt _ _ _
        generalize hb0 : (badI M n h t i).1 = b0
        generalize hs0 : (badI M n h t i).2 = s0
        have e1 : (badI M n h t (i + 1)).1 = bad3 M n h t i b0 := by simp only [badI, hb0]
        have e2 : (badI M n h t (i + 1)).2 = s0 + (if bad3 M n h t i b0 then lN 0 else (amt (M 11) (src M n t i) (xix (M 11) t i)).toInt64) := by simp only [badI, hb0, hs0]
        rw [e1, e2] at ih
        -- those that spend it before
        have L3 : ∀ a x, a ≤ n → x = bi (((b0 || twX M t i i) || noX M n h t i) || spX M n h t i a) → J 195 [(0, vr (some mo)), (1, vi (nI t)), (2, vi x), (3, vl s0), (5, vi (nI i)), (6, vi (xid (M 11) t i)), (7, vi (nI (xix (M 11) t i))), (8, vi (oI (fdo (M 10) (xid (M 11) t i) n))), (9, vi (nI a))] [] S1 0 0 := by
          refine up_loop _ _ _ ?_ ?_
          · intro x hx
            have hfin : x = bi (bad3 M n h t i b0) := hx
            refine r_iload (pc := 195) C dX10_isBad_195 rfl ?_
            refine r_aload_n (pc := 197) C dX10_isBad_197 rfl ?_
            refine r_mn (pc := 198) C hV1 dX10_isBad_198 fx_RX10_16 ?_
            refine r_icmp_ge (pc := 201) (tgt := 243) C dX10_isBad_201 (by decide) (fun c201 => ?_) (fun c201 => ?_)
            · refine r_lload_n (pc := 243) C dX10_isBad_243 rfl ?_
              refine r_iload_n (pc := 244) C dX10_isBad_244 rfl ?_
              refine r_if_eq (pc := 245) (tgt := 252) C dX10_isBad_245 (by decide) (fun c245 => ?_) (fun c245 => ?_)
              · rw [hfin, bi_0] at c245
                have hno : noX M n h t i = false := by cases hq : noX M n h t i <;> simp_all [bad3]
                obtain ⟨p, hp⟩ : ∃ p, fdo (M 10) (xid (M 11) t i) n = some p := by cases hq : fdo (M 10) (xid (M 11) t i) n with | none => rw [noX_none hq] at hno; cases hno | some p => exact ⟨p, rfl⟩
                have hsp : src M n t i = p := by simp only [src, hp, Option.getD_some]
                have hpn := (fdo_some hp).1
                have hRp := hV.R hpn
                rw [noX_some hp] at hno
                have hlt : xix (M 11) t i < nO (M 11) p := by simp at hno; exact hno.2
                rw [hp]
                refine r_aload_n (pc := 252) C dX10_isBad_252 rfl ?_
                refine r_iload (pc := 253) C dX10_isBad_253 rfl ?_
                refine r_iload (pc := 255) C dX10_isBad_255 rfl ?_
                refine r_callV (pc := 257) C (mv_amount hV1 hpn (fun q => by have := hRp.2.2.2.2 q; omega)) iX10_amount ml_RX10_252 dX10_isBad_257 (ci := 11) rfl rfl hV1.1.1 rfl (by decide) rfl (by simp [cv, Value.category, va_rf]) (by omega) (by omega) (fun r257 S257 h257 => ?_)
                obtain ⟨rfl, e257⟩ := h257
                subst S257
                dsimp only [Option.toList, List.cons_append, List.nil_append]
                refine r_i2l (pc := 260) C dX10_isBad_260 ?_
                refine r_ladd (pc := 261) C dX10_isBad_261 ?_
                refine r_lstore_n (pc := 262) C dX10_isBad_262 (by decide) rfl ?_
                refine r_iinc (pc := 263) C _ dX10_isBad_263 rfl (nI_1 _) (by decide) rfl ?_
                refine r_goto (pc := 266) (tgt := 70) C dX10_isBad_266 (by decide) ?_
                rw [hfin]
                first
                  | (simp only [c245t, if_true] at ih; rw [c245t]; exact r_lv C [(0, vr (some mo)), (1, vi (nI t)), (2, vi _), (3, vl _), (5, vi (nI (i + 1)))] rfl ih)
                  | (simp only [c245, Bool.false_eq_true, if_false, hsp] at ih; rw [c245]; exact r_lv C [(0, vr (some mo)), (1, vi (nI t)), (2, vi _), (3, vl _), (5, vi (nI (i + 1)))] rfl ih)
              · rw [hfin, bi_0] at c245
                have c245t := ts_nf c245
                refine r_lconst (pc := 248) C (lN 0) dX10_isBad_248 rfl ?_
                refine r_goto (pc := 249) (tgt := 261) C dX10_isBad_249 (by decide) ?_
                refine r_ladd (pc := 261) C dX10_isBad_261 ?_
                refine r_lstore_n (pc := 262) C dX10_isBad_262 (by decide) rfl ?_
                refine r_iinc (pc := 263) C _ dX10_isBad_263 rfl (nI_1 _) (by decide) rfl ?_
                refine r_goto (pc := 266) (tgt := 70) C dX10_isBad_266 (by decide) ?_
                rw [hfin]
                first
                  | (simp only [c245t, if_true] at ih; rw [c245t]; exact r_lv C [(0, vr (some mo)), (1, vi (nI t)), (2, vi _), (3, vl _), (5, vi (nI (i + 1)))] rfl ih)
                  | (simp only [c245, Bool.false_eq_true, if_false, hsp] at ih; rw [c245]; exact r_lv C [(0, vr (some mo)), (1, vi (nI t)), (2, vi _), (3, vl _), (5, vi (nI (i + 1)))] rfl ih)
            · exact absurd (Int32.le_refl _) c201
          · intro a x ha hx ih3
            subst hx
            refine r_iload (pc := 195) C dX10_isBad_195 rfl ?_
            refine r_aload_n (pc := 197) C dX10_isBad_197 rfl ?_
            refine r_mn (pc := 198) C hV1 dX10_isBad_198 fx_RX10_16 ?_
            refine r_icmp_ge (pc := 201) (tgt := 243) C dX10_isBad_201 (by decide) (fun c201 => ?_) (fun c201 => ?_)
            · exact absurd c201 (nI_ge ha (by omega))
            · refine r_iload_n (pc := 204) C dX10_isBad_204 rfl ?_
              refine r_if_ne (pc := 205) (tgt := 231) C dX10_isBad_205 (by decide) (fun c205 => ?_) (fun c205 => ?_)
              · rw [bi_0] at c205
                refine r_iconst (pc := 231) C (nI 1) dX10_isBad_231 rfl ?_
                refine r_goto (pc := 232) (tgt := 236) C dX10_isBad_232 (by decide) ?_
                refine r_istore_n (pc := 236) C dX10_isBad_236 (by decide) rfl ?_
                refine r_iinc (pc := 237) C _ dX10_isBad_237 rfl (nI_1 _) (by decide) rfl ?_
                refine r_goto (pc := 240) (tgt := 195) C dX10_isBad_240 (by decide) ?_
                refine r_lv C [(0, vr (some mo)), (1, vi (nI t)), (2, vi _), (3, vl s0), (5, vi (nI i)), (6, vi (xid (M 11) t i)), (7, vi (nI (xix (M 11) t i))), (8, vi (oI (fdo (M 10) (xid (M 11) t i) n))), (9, vi (nI (a + 1)))] rfl (ih3 _ ?_)
                have es : spX M n h t i (a + 1) = (spX M n h t i a || (anc M n h t a && spn M a (xid (M 11) t i) (xix (M 11) t i))) := rfl
                rw [es]
                generalize ((b0 || twX M t i i) || noX M n h t i) = q at *
                generalize spX M n h t i a = q2 at *
                cases q <;> cases q2 <;> simp_all [bi_t, bi_f]
              · rw [bi_0] at c205
                refine r_aload_n (pc := 208) C dX10_isBad_208 rfl ?_
                refine r_mA (pc := 209) C hV1 dX10_isBad_209 fx_RX10_52 (len := 140) (by decide) ?_
                refine r_iload (pc := 212) C dX10_isBad_212 rfl ?_
                refine r_mkL (pc := 214) C hV1 dX10_isBad_214 (k := 20) (by decide) (by omega) (hB _ (by omega)) ?_
                refine r_if_eq (pc := 215) (tgt := 235) C dX10_isBad_215 (by decide) (fun c215 => ?_) (fun c215 => ?_)
                · rw [bi_0] at c215
                  refine r_iconst (pc := 235) C (nI 0) dX10_isBad_235 rfl ?_
                  refine r_istore_n (pc := 236) C dX10_isBad_236 (by decide) rfl ?_
                  refine r_iinc (pc := 237) C _ dX10_isBad_237 rfl (nI_1 _) (by decide) rfl ?_
                  refine r_goto (pc := 240) (tgt := 195) C dX10_isBad_240 (by decide) ?_
                  refine r_lv C [(0, vr (some mo)), (1, vi (nI t)), (2, vi _), (3, vl s0), (5, vi (nI i)), (6, vi (xid (M 11) t i)), (7, vi (nI (xix (M 11) t i))), (8, vi (oI (fdo (M 10) (xid (M 11) t i) n))), (9, vi (nI (a + 1)))] rfl (ih3 _ ?_)
                  have es : spX M n h t i (a + 1) = (spX M n h t i a || (anc M n h t a && spn M a (xid (M 11) t i) (xix (M 11) t i))) := rfl
                  rw [es]
                  generalize ((b0 || twX M t i i) || noX M n h t i) = q at *
                  generalize spX M n h t i a = q2 at *
                  cases q <;> cases q2 <;> simp_all [bi_t, bi_f]
                · rw [bi_0] at c215
                  refine r_aload_n (pc := 218) C dX10_isBad_218 rfl ?_
                  refine r_iload (pc := 219) C dX10_isBad_219 rfl ?_
                  refine r_iload (pc := 221) C dX10_isBad_221 rfl ?_
                  refine r_iload (pc := 223) C dX10_isBad_223 rfl ?_
                  refine r_callV (pc := 225) C (cm_spends hV1 ha hix) iX10_spends ml_RX10_248 dX10_isBad_225 (ci := 11) rfl rfl hV1.1.1 rfl (by decide) rfl (by simp [cv, Value.category, va_rf]) (by omega) (by omega) (fun r225 S225 h225 => ?_)
                  obtain ⟨rfl, e225⟩ := h225
                  subst S225
                  dsimp only [Option.toList, List.cons_append, List.nil_append]
                  refine r_if_eq (pc := 228) (tgt := 235) C dX10_isBad_228 (by decide) (fun c228 => ?_) (fun c228 => ?_)
                  · rw [bi_0] at c228
                    refine r_iconst (pc := 235) C (nI 0) dX10_isBad_235 rfl ?_
                    refine r_istore_n (pc := 236) C dX10_isBad_236 (by decide) rfl ?_
                    refine r_iinc (pc := 237) C _ dX10_isBad_237 rfl (nI_1 _) (by decide) rfl ?_
                    refine r_goto (pc := 240) (tgt := 195) C dX10_isBad_240 (by decide) ?_
                    refine r_lv C [(0, vr (some mo)), (1, vi (nI t)), (2, vi _), (3, vl s0), (5, vi (nI i)), (6, vi (xid (M 11) t i)), (7, vi (nI (xix (M 11) t i))), (8, vi (oI (fdo (M 10) (xid (M 11) t i) n))), (9, vi (nI (a + 1)))] rfl (ih3 _ ?_)
                    have es : spX M n h t i (a + 1) = (spX M n h t i a || (anc M n h t a && spn M a (xid (M 11) t i) (xix (M 11) t i))) := rfl
                    rw [es]
                    generalize ((b0 || twX M t i i) || noX M n h t i) = q at *
                    generalize spX M n h t i a = q2 at *
                    cases q <;> cases q2 <;> simp_all [bi_t, bi_f]
                  · rw [bi_0] at c228
                    refine r_iconst (pc := 231) C (nI 1) dX10_isBad_231 rfl ?_
                    refine r_goto (pc := 232) (tgt := 236) C dX10_isBad_232 (by decide) ?_
                    refine r_istore_n (pc := 236) C dX10_isBad_236 (by decide) rfl ?_
                    refine r_iinc (pc := 237) C _ dX10_isBad_237 rfl (nI_1 _) (by decide) rfl ?_
                    refine r_goto (pc := 240) (tgt := 195) C dX10_isBad_240 (by decide) ?_
                    refine r_lv C [(0, vr (some mo)), (1, vi (nI t)), (2, vi _), (3, vl s0), (5, vi (nI i)), (6, vi (xid (M 11) t i)), (7, vi (nI (xix (M 11) t i))), (8, vi (oI (fdo (M 10) (xid (M 11) t i) n))), (9, vi (nI (a + 1)))] rfl (ih3 _ ?_)
                    have es : spX M n h t i (a + 1) = (spX M n h t i a || (anc M n h t a && spn M a (xid (M 11) t i) (xix (M 11) t i))) := rfl
                    rw [es]
                    generalize ((b0 || twX M t i i) || noX M n h t i) = q at *
                    generalize spX M n h t i a = q2 at *
                    cases q <;> cases q2 <;> simp_all [bi_t, bi_f]
        -- where it comes from
        have L2 : J 148 [(0, vr (some mo)), (1, vi (nI t)), (2, vi (bi (b0 || twX M t i i))), (3, vl s0), (5, vi (nI i)), (6, vi (xid (M 11) t i)), (7, vi (nI (xix (M 11) t i)))] [] S1 0 0 := by
          have hol : ∀ u, fdo (M 10) (xid (M 11) t i) n = some u → u < 1000 := fun u hu => by have := (fdo_some hu).1; omega
          have fin : ∀ x, x = bi ((b0 || twX M t i i) || noX M n h t i) → J 191 [(0, vr (some mo)), (1, vi (nI t)), (3, vl s0), (5, vi (nI i)), (6, vi (xid (M 11) t i)), (7, vi (nI (xix (M 11) t i))), (8, vi (oI (fdo (M 10) (xid (M 11) t i) n)))] [vi x] S1 0 0 := by
            intro x hx
            refine r_istore_n (pc := 191) C dX10_isBad_191 (by decide) rfl ?_
            refine r_iconst (pc := 192) C (nI 0) dX10_isBad_192 rfl ?_
            refine r_istore (pc := 193) C dX10_isBad_193 (by decide) rfl ?_
            exact r_lv C [(0, vr (some mo)), (1, vi (nI t)), (2, vi x), (3, vl s0), (5, vi (nI i)), (6, vi (xid (M 11) t i)), (7, vi (nI (xix (M 11) t i))), (8, vi (oI (fdo (M 10) (xid (M 11) t i) n))), (9, vi (nI 0))] rfl (L3 0 x (by omega) (by rw [hx]; simp [spX, anyU]))
          refine r_aload_n (pc := 148) C dX10_isBad_148 rfl ?_
          refine r_iload (pc := 149) C dX10_isBad_149 rfl ?_
          refine r_callV (pc := 151) C (mv_find hV1) iX10_find ml_RX10_198 dX10_isBad_151 (ci := 11) rfl rfl hV1.1.1 rfl (by decide) rfl (by simp [cv, Value.category, va_rf]) (by omega) (by omega) (fun r151 S151 h151 => ?_)
          obtain ⟨rfl, e151⟩ := h151
          subst S151
          dsimp only [Option.toList, List.cons_append, List.nil_append]
          refine r_istore (pc := 154) C dX10_isBad_154 (by decide) rfl ?_
          refine r_iload_n (pc := 156) C dX10_isBad_156 rfl ?_
          refine r_if_ne (pc := 157) (tgt := 186) C dX10_isBad_157 (by decide) (fun c157 => ?_) (fun c157 => ?_)
          · rw [bi_0] at c157
            have c157t := ts_nf c157
            refine r_iconst (pc := 186) C (nI 1) dX10_isBad_186 rfl ?_
            refine r_goto (pc := 187) (tgt := 191) C dX10_isBad_187 (by decide) ?_
            try rw [← show oI (fdo (M 10) (xid (M 11) t i) n) = nI p from by rw [hp]; rfl]
            refine r_lv C [(0, vr (some mo)), (1, vi (nI t)), (3, vl s0), (5, vi (nI i)), (6, vi (xid (M 11) t i)), (7, vi (nI (xix (M 11) t i))), (8, vi (oI (fdo (M 10) (xid (M 11) t i) n)))] rfl (fin _ ?_)
            first
              | (rw [c157t]; rfl)
              | simp_all [bi_t, bi_f]
          · rw [bi_0] at c157
            refine r_iload (pc := 160) C dX10_isBad_160 rfl ?_
            refine r_if_lt (pc := 162) (tgt := 186) C dX10_isBad_162 (by decide) (fun c162 => ?_) (fun c162 => ?_)
            · rw [oI_lt hol] at c162
              have hno := noX_none (h := h) c162
              refine r_iconst (pc := 186) C (nI 1) dX10_isBad_186 rfl ?_
              refine r_goto (pc := 187) (tgt := 191) C dX10_isBad_187 (by decide) ?_
              try rw [← show oI (fdo (M 10) (xid (M 11) t i) n) = nI p from by rw [hp]; rfl]
              refine r_lv C [(0, vr (some mo)), (1, vi (nI t)), (3, vl s0), (5, vi (nI i)), (6, vi (xid (M 11) t i)), (7, vi (nI (xix (M 11) t i))), (8, vi (oI (fdo (M 10) (xid (M 11) t i) n)))] rfl (fin _ ?_)
              first
                | (rw [c157t]; rfl)
                | simp_all [bi_t, bi_f]
            · rw [oI_lt hol] at c162
              obtain ⟨p, hp⟩ := Option.ne_none_iff_exists'.mp c162
              have hpn := (fdo_some hp).1
              have hno := noX_some (h := h) hp
              have hRp := hV.R hpn
              have hop := hRp.2.2.2.1
              refine r_aload_n (pc := 165) C dX10_isBad_165 rfl ?_
              refine r_mA (pc := 166) C hV1 dX10_isBad_166 fx_RX10_52 (len := 140) (by decide) ?_
              refine r_iload (pc := 169) C dX10_isBad_169 rfl ?_
              simp only [hp, oI]
              refine r_mkL (pc := 171) C hV1 dX10_isBad_171 (k := 20) (by decide) (by omega) (hB _ (by omega)) ?_
              refine r_if_eq (pc := 172) (tgt := 186) C dX10_isBad_172 (by decide) (fun c172 => ?_) (fun c172 => ?_)
              · rw [bi_0] at c172
                refine r_iconst (pc := 186) C (nI 1) dX10_isBad_186 rfl ?_
                refine r_goto (pc := 187) (tgt := 191) C dX10_isBad_187 (by decide) ?_
                try rw [← show oI (fdo (M 10) (xid (M 11) t i) n) = nI p from by rw [hp]; rfl]
                refine r_lv C [(0, vr (some mo)), (1, vi (nI t)), (3, vl s0), (5, vi (nI i)), (6, vi (xid (M 11) t i)), (7, vi (nI (xix (M 11) t i))), (8, vi (oI (fdo (M 10) (xid (M 11) t i) n)))] rfl (fin _ ?_)
                first
                  | (rw [c157t]; rfl)
                  | simp_all [bi_t, bi_f]
              · rw [bi_0] at c172
                refine r_iload (pc := 175) C dX10_isBad_175 rfl ?_
                refine r_aload_n (pc := 177) C dX10_isBad_177 rfl ?_
                refine r_iload (pc := 178) C dX10_isBad_178 rfl ?_
                try simp only [hp, oI]
                refine r_callV (pc := 180) C (mv_outputsOf hV1 hpn) iX10_outputsOf ml_RX10_245 dX10_isBad_180 (ci := 11) rfl rfl hV1.1.1 rfl (by decide) rfl (by simp [cv, Value.category, va_rf]) (by omega) (by omega) (fun r180 S180 h180 => ?_)
                obtain ⟨rfl, e180⟩ := h180
                subst S180
                dsimp only [Option.toList, List.cons_append, List.nil_append]
                refine r_icmp_lt (pc := 183) (tgt := 190) C dX10_isBad_183 (by decide) (fun c183 => ?_) (fun c183 => ?_)
                · rw [nI_ltI (by omega) (by omega)] at c183
                  refine r_iconst (pc := 190) C (nI 0) dX10_isBad_190 rfl ?_
                  try rw [← show oI (fdo (M 10) (xid (M 11) t i) n) = nI p from by rw [hp]; rfl]
                  refine r_lv C [(0, vr (some mo)), (1, vi (nI t)), (3, vl s0), (5, vi (nI i)), (6, vi (xid (M 11) t i)), (7, vi (nI (xix (M 11) t i))), (8, vi (oI (fdo (M 10) (xid (M 11) t i) n)))] rfl (fin _ ?_)
                  first
                    | (rw [c157t]; rfl)
                    | simp_all [bi_t, bi_f]
                · rw [nI_ltI (by omega) (by omega)] at c183
                  refine r_iconst (pc := 186) C (nI 1) dX10_isBad_186 rfl ?_
                  refine r_goto (pc := 187) (tgt := 191) C dX10_isBad_187 (by decide) ?_
                  try rw [← show oI (fdo (M 10) (xid (M 11) t i) n) = nI p from by rw [hp]; rfl]
                  refine r_lv C [(0, vr (some mo)), (1, vi (nI t)), (3, vl s0), (5, vi (nI i)), (6, vi (xid (M 11) t i)), (7, vi (nI (xix (M 11) t i))), (8, vi (oI (fdo (M 10) (xid (M 11) t i) n)))] rfl (fin _ ?_)
                  first
                    | (rw [c157t]; rfl)
                    | simp_all [bi_t, bi_f]
        -- the same input before
        have L1 : ∀ j x, j ≤ i → x = bi (b0 || twX M t i j) → J 101 [(0, vr (some mo)), (1, vi (nI t)), (2, vi x), (3, vl s0), (5, vi (nI i)), (6, vi (xid (M 11) t i)), (7, vi (nI (xix (M 11) t i))), (8, vi (nI j))] [] S1 0 0 := by
          refine up_loop _ _ _ ?_ ?_
          · intro x hx
            refine r_iload (pc := 101) C dX10_isBad_101 rfl ?_
            refine r_iload (pc := 103) C dX10_isBad_103 rfl ?_
            refine r_icmp_ge (pc := 105) (tgt := 148) C dX10_isBad_105 (by decide) (fun c105 => ?_) (fun c105 => ?_)
            · exact r_lv C [(0, vr (some mo)), (1, vi (nI t)), (2, vi _), (3, vl s0), (5, vi (nI i)), (6, vi (xid (M 11) t i)), (7, vi (nI (xix (M 11) t i)))] (by subst hx; rfl) L2
            · exact absurd (Int32.le_refl _) c105
          · intro j x hj hx ih1
            have hjx : xix (M 11) t j < 256 := rN_lt _ _ _
            subst hx
            refine r_iload (pc := 101) C dX10_isBad_101 rfl ?_
            refine r_iload (pc := 103) C dX10_isBad_103 rfl ?_
            refine r_icmp_ge (pc := 105) (tgt := 148) C dX10_isBad_105 (by decide) (fun c105 => ?_) (fun c105 => ?_)
            · exact absurd c105 (nI_ge hj (by omega))
            · refine r_iload_n (pc := 108) C dX10_isBad_108 rfl ?_
              refine r_if_ne (pc := 109) (tgt := 136) C dX10_isBad_109 (by decide) (fun c109 => ?_) (fun c109 => ?_)
              · rw [bi_0] at c109
                refine r_iconst (pc := 136) C (nI 1) dX10_isBad_136 rfl ?_
                refine r_goto (pc := 137) (tgt := 141) C dX10_isBad_137 (by decide) ?_
                refine r_istore_n (pc := 141) C dX10_isBad_141 (by decide) rfl ?_
                refine r_iinc (pc := 142) C _ dX10_isBad_142 rfl (nI_1 _) (by decide) rfl ?_
                refine r_goto (pc := 145) (tgt := 101) C dX10_isBad_145 (by decide) ?_
                refine r_lv C [(0, vr (some mo)), (1, vi (nI t)), (2, vi _), (3, vl s0), (5, vi (nI i)), (6, vi (xid (M 11) t i)), (7, vi (nI (xix (M 11) t i))), (8, vi (nI (j + 1)))] rfl (ih1 _ ?_)
                have es : twX M t i (j + 1) = (twX M t i j || (decide (xid (M 11) t j = xid (M 11) t i) && decide (xix (M 11) t j = xix (M 11) t i))) := rfl
                rw [es]
                generalize twX M t i j = q2 at *
                cases b0 <;> cases q2 <;> simp_all [bi_t, bi_f]
              · rw [bi_0] at c109
                refine r_aload_n (pc := 112) C dX10_isBad_112 rfl ?_
                refine r_iload_n (pc := 113) C dX10_isBad_113 rfl ?_
                refine r_iload (pc := 114) C dX10_isBad_114 rfl ?_
                refine r_callV (pc := 116) C (mv_inputId hV1 htn (by omega)) iX10_inputId ml_RX10_195 dX10_isBad_116 (ci := 11) rfl rfl hV1.1.1 rfl (by decide) rfl (by simp [cv, Value.category, va_rf]) (by omega) (by omega) (fun r116 S116 h116 => ?_)
                obtain ⟨rfl, e116⟩ := h116
                subst S116
                dsimp only [Option.toList, List.cons_append, List.nil_append]
                refine r_iload (pc := 119) C dX10_isBad_119 rfl ?_
                refine r_icmp_ne (pc := 121) (tgt := 140) C dX10_isBad_121 (by decide) (fun c121 => ?_) (fun c121 => ?_)
                · refine r_iconst (pc := 140) C (nI 0) dX10_isBad_140 rfl ?_
                  refine r_istore_n (pc := 141) C dX10_isBad_141 (by decide) rfl ?_
                  refine r_iinc (pc := 142) C _ dX10_isBad_142 rfl (nI_1 _) (by decide) rfl ?_
                  refine r_goto (pc := 145) (tgt := 101) C dX10_isBad_145 (by decide) ?_
                  refine r_lv C [(0, vr (some mo)), (1, vi (nI t)), (2, vi _), (3, vl s0), (5, vi (nI i)), (6, vi (xid (M 11) t i)), (7, vi (nI (xix (M 11) t i))), (8, vi (nI (j + 1)))] rfl (ih1 _ ?_)
                  have es : twX M t i (j + 1) = (twX M t i j || (decide (xid (M 11) t j = xid (M 11) t i) && decide (xix (M 11) t j = xix (M 11) t i))) := rfl
                  rw [es]
                  generalize twX M t i j = q2 at *
                  cases b0 <;> cases q2 <;> simp_all [bi_t, bi_f]
                · refine r_aload_n (pc := 124) C dX10_isBad_124 rfl ?_
                  refine r_iload_n (pc := 125) C dX10_isBad_125 rfl ?_
                  refine r_iload (pc := 126) C dX10_isBad_126 rfl ?_
                  refine r_callV (pc := 128) C (mv_inputIndex hV1 htn (by omega)) iX10_inputIndex ml_RX10_201 dX10_isBad_128 (ci := 11) rfl rfl hV1.1.1 rfl (by decide) rfl (by simp [cv, Value.category, va_rf]) (by omega) (by omega) (fun r128 S128 h128 => ?_)
                  obtain ⟨rfl, e128⟩ := h128
                  subst S128
                  dsimp only [Option.toList, List.cons_append, List.nil_append]
                  refine r_iload (pc := 131) C dX10_isBad_131 rfl ?_
                  refine r_icmp_ne (pc := 133) (tgt := 140) C dX10_isBad_133 (by decide) (fun c133 => ?_) (fun c133 => ?_)
                  · rw [nI_eq (by omega) (by omega)] at c133
                    refine r_iconst (pc := 140) C (nI 0) dX10_isBad_140 rfl ?_
                    refine r_istore_n (pc := 141) C dX10_isBad_141 (by decide) rfl ?_
                    refine r_iinc (pc := 142) C _ dX10_isBad_142 rfl (nI_1 _) (by decide) rfl ?_
                    refine r_goto (pc := 145) (tgt := 101) C dX10_isBad_145 (by decide) ?_
                    refine r_lv C [(0, vr (some mo)), (1, vi (nI t)), (2, vi _), (3, vl s0), (5, vi (nI i)), (6, vi (xid (M 11) t i)), (7, vi (nI (xix (M 11) t i))), (8, vi (nI (j + 1)))] rfl (ih1 _ ?_)
                    have es : twX M t i (j + 1) = (twX M t i j || (decide (xid (M 11) t j = xid (M 11) t i) && decide (xix (M 11) t j = xix (M 11) t i))) := rfl
                    rw [es]
                    generalize twX M t i j = q2 at *
                    cases b0 <;> cases q2 <;> simp_all [bi_t, bi_f]
                  · rw [nI_eq (by omega) (by omega)] at c133
                    refine r_iconst (pc := 136) C (nI 1) dX10_isBad_136 rfl ?_
                    refine r_goto (pc := 137) (tgt := 141) C dX10_isBad_137 (by decide) ?_
                    refine r_istore_n (pc := 141) C dX10_isBad_141 (by decide) rfl ?_
                    refine r_iinc (pc := 142) C _ dX10_isBad_142 rfl (nI_1 _) (by decide) rfl ?_
                    refine r_goto (pc := 145) (tgt := 101) C dX10_isBad_145 (by decide) ?_
                    refine r_lv C [(0, vr (some mo)), (1, vi (nI t)), (2, vi _), (3, vl s0), (5, vi (nI i)), (6, vi (xid (M 11) t i)), (7, vi (nI (xix (M 11) t i))), (8, vi (nI (j + 1)))] rfl (ih1 _ ?_)
                    have es : twX M t i (j + 1) = (twX M t i j || (decide (xid (M 11) t j = xid (M 11) t i) && decide (xix (M 11) t j = xix (M 11) t i))) := rfl
                    rw [es]
                    generalize twX M t i j = q2 at *
                    cases b0 <;> cases q2 <;> simp_all [bi_t, bi_f]
        refine r_iload (pc := 70) C dX10_isBad_70 rfl ?_
        refine r_aload_n (pc := 72) C dX10_isBad_72 rfl ?_
        refine r_iload_n (pc := 73) C dX10_isBad_73 rfl ?_
        refine r_callV (pc := 74) C (mv_inputsOf hV1 htn) iX10_inputsOf ml_RX10_188 dX10_isBad_74 (ci := 11) rfl rfl hV1.1.1 rfl (by decide) rfl (by simp [cv, Value.category, va_rf]) (by omega) (by omega) (fun r74 S74 h74 => ?_)
        obtain ⟨rfl, e74⟩ := h74
        subst S74
        dsimp only [Option.toList, List.cons_append, List.nil_append]
        refine r_icmp_ge (pc := 77) (tgt := 269) C dX10_isBad_77 (by decide) (fun c77 => ?_) (fun c77 => ?_)
        · exact absurd c77 (nI_ge hi (by omega))
        · refine r_aload_n (pc := 80) C dX10_isBad_80 rfl ?_
          refine r_iload_n (pc := 81) C dX10_isBad_81 rfl ?_
          refine r_iload (pc := 82) C dX10_isBad_82 rfl ?_
          refine r_callV (pc := 84) C (mv_inputId hV1 htn (by omega)) iX10_inputId ml_RX10_195 dX10_isBad_84 (ci := 11) rfl rfl hV1.1.1 rfl (by decide) rfl (by simp [cv, Value.category, va_rf]) (by omega) (by omega) (fun r84 S84 h84 => ?_)
          obtain ⟨rfl, e84⟩ := h84
          subst S84
          dsimp only [Option.toList, List.cons_append, List.nil_append]
          refine r_istore (pc := 87) C dX10_isBad_87 (by decide) rfl ?_
          refine r_aload_n (pc := 89) C dX10_isBad_89 rfl ?_
          refine r_iload_n (pc := 90) C dX10_isBad_90 rfl ?_
          refine r_iload (pc := 91) C dX10_isBad_91 rfl ?_
          refine r_callV (pc := 93) C (mv_inputIndex hV1 htn (by omega)) iX10_inputIndex ml_RX10_201 dX10_isBad_93 (ci := 11) rfl rfl hV1.1.1 rfl (by decide) rfl (by simp [cv, Value.category, va_rf]) (by omega) (by omega) (fun r93 S93 h93 => ?_)
          obtain ⟨rfl, e93⟩ := h93
          subst S93
          dsimp only [Option.toList, List.cons_append, List.nil_append]
          refine r_istore (pc := 96) C dX10_isBad_96 (by decide) rfl ?_
          refine r_iconst (pc := 98) C (nI 0) dX10_isBad_98 rfl ?_
          refine r_istore (pc := 99) C dX10_isBad_99 (by decide) rfl ?_
          exact r_lv C [(0, vr (some mo)), (1, vi (nI t)), (2, vi (bi b0)), (3, vl s0), (5, vi (nI i)), (6, vi (xid (M 11) t i)), (7, vi (nI (xix (M 11) t i))), (8, vi (nI 0))] rfl (L1 0 _ (by omega) (by simp [twX, anyU]))
    have LP : ∀ i x, i ≤ nP (M 11) t → x = bi (twP M t i) → J 9 [(0, vr (some mo)), (1, vi (nI t)), (2, vi x), (3, vi (nI i))] [] S1 0 0 := by
      refine up_loop _ _ _ ?_ ?_
      · intro x hx
        refine r_iload_n (pc := 9) C dX10_isBad_9 rfl ?_
        refine r_aload_n (pc := 10) C dX10_isBad_10 rfl ?_
        refine r_iload_n (pc := 11) C dX10_isBad_11 rfl ?_
        refine r_callV (pc := 12) C (mv_parentsOf hV1 ht140) iX10_parentsOf ml_RX10_182 dX10_isBad_12 (ci := 11) rfl rfl hV1.1.1 rfl (by decide) rfl (by simp [cv, Value.category, va_rf]) (by omega) (by omega) (fun r12 S12 h12 => ?_)
        obtain ⟨rfl, e12⟩ := h12
        subst S12
        dsimp only [Option.toList, List.cons_append, List.nil_append]
        refine r_icmp_ge (pc := 15) (tgt := 65) C dX10_isBad_15 (by decide) (fun c15 => ?_) (fun c15 => ?_)
        · refine r_lconst (pc := 65) C (lN 0) dX10_isBad_65 rfl ?_
          refine r_lstore_n (pc := 66) C dX10_isBad_66 (by decide) rfl ?_
          refine r_iconst (pc := 67) C (nI 0) dX10_isBad_67 rfl ?_
          refine r_istore (pc := 68) C dX10_isBad_68 (by decide) rfl ?_
          exact r_lv C [(0, vr (some mo)), (1, vi (nI t)), (2, vi _), (3, vl _), (5, vi (nI 0))] (by subst hx; rfl) (LX 0 (by omega) trivial)
        · exact absurd (Int32.le_refl _) c15
      · intro i x hi hx ih
        have LJ : ∀ j x, j ≤ i → x = bi (twP M t i || anyU (fun j => decide (pid (M 11) t i = pid (M 11) t j)) j) → J 21 [(0, vr (some mo)), (1, vi (nI t)), (2, vi x), (3, vi (nI i)), (4, vi (nI j))] [] S1 0 0 := by
          refine up_loop _ _ _ ?_ ?_
          · intro x hx
            refine r_iload (pc := 21) C dX10_isBad_21 rfl ?_
            refine r_iload_n (pc := 23) C dX10_isBad_23 rfl ?_
            refine r_icmp_ge (pc := 24) (tgt := 59) C dX10_isBad_24 (by decide) (fun c24 => ?_) (fun c24 => ?_)
            · refine r_iinc (pc := 59) C _ dX10_isBad_59 rfl (nI_1 _) (by decide) rfl ?_
              refine r_goto (pc := 62) (tgt := 9) C dX10_isBad_62 (by decide) ?_
              exact r_lv C [(0, vr (some mo)), (1, vi (nI t)), (2, vi x), (3, vi (nI (i + 1)))] rfl (ih _ hx)
            · exact absurd (Int32.le_refl _) c24
          · intro j x hj hx ih1
            subst hx
            refine r_iload (pc := 21) C dX10_isBad_21 rfl ?_
            refine r_iload_n (pc := 23) C dX10_isBad_23 rfl ?_
            refine r_icmp_ge (pc := 24) (tgt := 59) C dX10_isBad_24 (by decide) (fun c24 => ?_) (fun c24 => ?_)
            · exact absurd c24 (nI_ge hj (by omega))
            · refine r_iload_n (pc := 27) C dX10_isBad_27 rfl ?_
              refine r_if_ne (pc := 28) (tgt := 47) C dX10_isBad_28 (by decide) (fun c28 => ?_) (fun c28 => ?_)
              · rw [bi_0] at c28
                refine r_iconst (pc := 47) C (nI 1) dX10_isBad_47 rfl ?_
                refine r_goto (pc := 48) (tgt := 52) C dX10_isBad_48 (by decide) ?_
                refine r_istore_n (pc := 52) C dX10_isBad_52 (by decide) rfl ?_
                refine r_iinc (pc := 53) C _ dX10_isBad_53 rfl (nI_1 _) (by decide) rfl ?_
                refine r_goto (pc := 56) (tgt := 21) C dX10_isBad_56 (by decide) ?_
                refine r_lv C [(0, vr (some mo)), (1, vi (nI t)), (2, vi _), (3, vi (nI i)), (4, vi (nI (j + 1)))] rfl (ih1 _ ?_)
                simp only [anyU]
                generalize twP M t i = q at *
                generalize anyU (fun j => decide (pid (M 11) t i = pid (M 11) t j)) j = q2 at *
                cases q <;> cases q2 <;> simp_all [bi_t, bi_f]
              · rw [bi_0] at c28
                refine r_aload_n (pc := 31) C dX10_isBad_31 rfl ?_
                refine r_iload_n (pc := 32) C dX10_isBad_32 rfl ?_
                refine r_iload_n (pc := 33) C dX10_isBad_33 rfl ?_
                refine r_callV (pc := 34) C (mv_parentId hV1 ht140 (by omega)) iX10_parentId ml_RX10_224 dX10_isBad_34 (ci := 11) rfl rfl hV1.1.1 rfl (by decide) rfl (by simp [cv, Value.category, va_rf]) (by omega) (by omega) (fun r34 S34 h34 => ?_)
                obtain ⟨rfl, e34⟩ := h34
                subst S34
                dsimp only [Option.toList, List.cons_append, List.nil_append]
                refine r_aload_n (pc := 37) C dX10_isBad_37 rfl ?_
                refine r_iload_n (pc := 38) C dX10_isBad_38 rfl ?_
                refine r_iload (pc := 39) C dX10_isBad_39 rfl ?_
                refine r_callV (pc := 41) C (mv_parentId hV1 ht140 (by omega)) iX10_parentId ml_RX10_224 dX10_isBad_41 (ci := 11) rfl rfl hV1.1.1 rfl (by decide) rfl (by simp [cv, Value.category, va_rf]) (by omega) (by omega) (fun r41 S41 h41 => ?_)
                obtain ⟨rfl, e41⟩ := h41
                subst S41
                dsimp only [Option.toList, List.cons_append, List.nil_append]
                refine r_icmp_ne (pc := 44) (tgt := 51) C dX10_isBad_44 (by decide) (fun c44 => ?_) (fun c44 => ?_)
                · refine r_iconst (pc := 51) C (nI 0) dX10_isBad_51 rfl ?_
                  refine r_istore_n (pc := 52) C dX10_isBad_52 (by decide) rfl ?_
                  refine r_iinc (pc := 53) C _ dX10_isBad_53 rfl (nI_1 _) (by decide) rfl ?_
                  refine r_goto (pc := 56) (tgt := 21) C dX10_isBad_56 (by decide) ?_
                  refine r_lv C [(0, vr (some mo)), (1, vi (nI t)), (2, vi _), (3, vi (nI i)), (4, vi (nI (j + 1)))] rfl (ih1 _ ?_)
                  simp only [anyU]
                  generalize twP M t i = q at *
                  generalize anyU (fun j => decide (pid (M 11) t i = pid (M 11) t j)) j = q2 at *
                  cases q <;> cases q2 <;> simp_all [bi_t, bi_f]
                · refine r_iconst (pc := 47) C (nI 1) dX10_isBad_47 rfl ?_
                  refine r_goto (pc := 48) (tgt := 52) C dX10_isBad_48 (by decide) ?_
                  refine r_istore_n (pc := 52) C dX10_isBad_52 (by decide) rfl ?_
                  refine r_iinc (pc := 53) C _ dX10_isBad_53 rfl (nI_1 _) (by decide) rfl ?_
                  refine r_goto (pc := 56) (tgt := 21) C dX10_isBad_56 (by decide) ?_
                  refine r_lv C [(0, vr (some mo)), (1, vi (nI t)), (2, vi _), (3, vi (nI i)), (4, vi (nI (j + 1)))] rfl (ih1 _ ?_)
                  simp only [anyU]
                  generalize twP M t i = q at *
                  generalize anyU (fun j => decide (pid (M 11) t i = pid (M 11) t j)) j = q2 at *
                  cases q <;> cases q2 <;> simp_all [bi_t, bi_f]
        subst hx
        refine r_iload_n (pc := 9) C dX10_isBad_9 rfl ?_
        refine r_aload_n (pc := 10) C dX10_isBad_10 rfl ?_
        refine r_iload_n (pc := 11) C dX10_isBad_11 rfl ?_
        refine r_callV (pc := 12) C (mv_parentsOf hV1 ht140) iX10_parentsOf ml_RX10_182 dX10_isBad_12 (ci := 11) rfl rfl hV1.1.1 rfl (by decide) rfl (by simp [cv, Value.category, va_rf]) (by omega) (by omega) (fun r12 S12 h12 => ?_)
        obtain ⟨rfl, e12⟩ := h12
        subst S12
        dsimp only [Option.toList, List.cons_append, List.nil_append]
        refine r_icmp_ge (pc := 15) (tgt := 65) C dX10_isBad_15 (by decide) (fun c15 => ?_) (fun c15 => ?_)
        · exact absurd c15 (nI_ge hi (by omega))
        · refine r_iconst (pc := 18) C (nI 0) dX10_isBad_18 rfl ?_
          refine r_istore (pc := 19) C dX10_isBad_19 (by decide) rfl ?_
          exact r_lv C [(0, vr (some mo)), (1, vi (nI t)), (2, vi (bi (twP M t i))), (3, vi (nI i)), (4, vi (nI 0))] rfl (LJ 0 _ (by omega) (by simp [anyU]))
    refine r_iconst (pc := 5) C (nI 0) dX10_isBad_5 rfl ?_
    refine r_istore_n (pc := 6) C dX10_isBad_6 (by decide) rfl ?_
    refine r_iconst (pc := 7) C (nI 0) dX10_isBad_7 rfl ?_
    refine r_istore_n (pc := 8) C dX10_isBad_8 (by decide) rfl ?_
    exact r_lv C [(0, vr (some mo)), (1, vi (nI t)), (2, vi _), (3, vi (nI 0))] rfl (LP 0 _ (by omega) rfl)
  refine r_aload_n (pc := 0) C dX10_isBad_0 rfl ?_
  refine r_iload_n (pc := 1) C dX10_isBad_1 rfl ?_
  refine r_callV (pc := 2) C (cx_markAncestors hV ht) iX10_markAncestors ml_RX10_242 dX10_isBad_2 (ci := 11) rfl rfl hV.1.1 rfl (by decide) rfl (by simp [cv, Value.category, va_rf]) (by omega) (by omega) (fun r2 S2 h2 => ?_)
  obtain ⟨rfl, hCr, hV2, hB⟩ := h2
  have hC2 := hC0.trk hCr
  dsimp only [Option.toList, List.cons_append, List.nil_append]
  exact main _ hC2 hV2 hB
end Bad
