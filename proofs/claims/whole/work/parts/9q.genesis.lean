/-! The class: the genesis -/
/-- the genesis as it is made: t the transaction, its arrays, outputs and their lists -/
def GNS (g : GG) (S : hS) (t ra pa oa qa sa na : Nat) (O L : Nat → Nat) : Prop :=
  (sK S t = 10 ∧ sI S 900 t = nI 0) ∧ (sR S 901 t = some ra ∧ sK S ra = 22 ∧ sN S ra = 0) ∧ (sR S 902 t = some pa ∧ sR S 903 t = some pa ∧ sR S 904 t = some pa ∧ sK S pa = 33 ∧ sN S pa = 0) ∧ (sR S 905 t = some oa ∧ sK S oa = 101 ∧ sN S oa = 8 ∧ ∀ i, i < 8 → aR S 101 oa i = some (O i)) ∧ (∀ i, i < 8 → ON g S (O i) (L i) 1000000) ∧ (sR S 906 t = some qa ∧ sK S qa = 103 ∧ sN S qa = 0) ∧ (sR S 907 t = some sa ∧ sK S sa = 102 ∧ sN S sa = 0) ∧ (sR S 908 t = some na ∧ sK S na = 80 ∧ sN S na = 3 ∧ aJ S 80 na = fun _ => 0) ∧ (sI S 909 t = nI 0 ∧ sI S 910 t = nI 3 ∧ sI S 911 t = nI 0 ∧ sI S 912 t = nI 0 ∧ sI S 913 t = nI 0) ∧ ∀ i i', i < 8 → i' < 8 → (O i = O i' → i = i') ∧ (L i = L i' → i = i')
section Genesis
variable {l : Launch} {g : GG} {S S1 S' : hS} {oo : Nat}
theorem Fx.fe1 {E : List Nat} {S2 : hS} (h : Fx S S1) (h2 : FE E S1 S2) (hE : ∀ q ∈ E, sK S q = 0) : Fx S S2 := fun a ha => by
  obtain ⟨a1, a2, a3, a4, a5, a6, a7, a8⟩ := h a ha
  obtain ⟨b1, b2, b3, b4, b5, b6, b7, b8⟩ := h2 a (by rw [a1]; exact ha) (fun q => ha (hE a q))
  exact ⟨b1.trans a1, fun f => (b2 f).trans (a2 f), fun f => (b3 f).trans (a3 f), fun f => (b4 f).trans (a4 f), b5.trans a5, fun f => (b6 f).trans (a6 f), fun f => (b7 f).trans (a7 f), fun f => (b8 f).trans (a8 f)⟩
theorem cg_genesis : Sp l g mX2_makeGenesis 23 107 [] S (fun r S' => ∃ t ra pa oa qa sa na O L, r = some (vr (some t)) ∧ GNS g S' t ra pa oa qa sa na O L ∧ Fx S S' ∧ sK S t = 0 ∧ ∀ i, i < 8 → sK S (O i) = 0 ∧ sK S (L i) = 0) := by
  refine Sp.start (own := RX2) [] (by decide +kernel) rfl rfl (Nat.le_of_ble_eq_true rfl) ?_
  intro J C
  have P2 : ∀ (oa : Nat) (O L : Nat → Nat) (S1 : hS), Fx S S1 → sK S oa = 0 → sK S1 oa = 101 → sN S1 oa = 8 → (∀ k, k < 8 → aR S1 101 oa k = some (O k) ∧ ON g S1 (O k) (L k) 1000000 ∧ sK S (O k) = 0 ∧ sK S (L k) = 0) → (∀ i i', i < 8 → i' < 8 → (O i = O i' → i = i') ∧ (L i = L i' → i = i')) → J 32 [(0, vr (some oa))] [] S1 17 80 := by
    intro oa O L S1 hFx zoa koa noa hO hinj
    refine r_iconst (pc := 32) C (nI 0) dX2_makeGenesis_32 rfl ?_
    refine r_newa (pc := 33) C 33 dX2_makeGenesis_33 rfl (by decide) (wd_at 53 (by decide +kernel) rfl) (nI_pos (by omega)) (nI_clamp (by omega)) (by omega) (by omega) (by omega) (fun q33 hq33 => ?_)
    have z33 : sK S q33 = 0 := hFx.fresh hq33
    have f1 : Fx S1 (newA S1 q33 33 0) := Fx.na hq33
    have k33 : sK (newA S1 q33 33 0) q33 = 33 ∧ sN (newA S1 q33 33 0) q33 = 0 := ⟨sK_nas (n := 0), sN_nas (k := 33)⟩
    generalize newA S1 q33 33 0 = S2 at f1 k33 ⊢
    refine r_astore_n (pc := 35) C dX2_makeGenesis_35 (by decide) rfl ?_
    refine r_new (pc := 36) C dX2_makeGenesis_36 (ci := 9) (n := 16) rfl kl_RX2_49 rfl (by omega) (by omega) (fun q36 hq36 => ?_)
    have z36 : sK S q36 = 0 := (hFx.tr f1).fresh hq36
    have f2 : Fx S2 (newO S2 q36 10) := Fx.no hq36
    have k36 : sK (newO S2 q36 10) q36 = 10 := sK_nos
    generalize newO S2 q36 10 = S3 at f2 k36 ⊢
    refine r_dup (pc := 39) C dX2_makeGenesis_39 rfl ?_
    refine r_iconst (pc := 40) C (nI 0) dX2_makeGenesis_40 rfl ?_
    refine r_iconst (pc := 41) C (nI 0) dX2_makeGenesis_41 rfl ?_
    refine r_newa (pc := 42) C 22 dX2_makeGenesis_42 rfl (by decide) (wd_at 69 (by decide +kernel) rfl) (nI_pos (by omega)) (nI_clamp (by omega)) (by omega) (by omega) (by omega) (fun q42 hq42 => ?_)
    have z42 : sK S q42 = 0 := (hFx.tr (f1.tr f2)).fresh hq42
    have f3 : Fx S3 (newA S3 q42 22 0) := Fx.na hq42
    have k42 : sK (newA S3 q42 22 0) q42 = 22 ∧ sN (newA S3 q42 22 0) q42 = 0 := ⟨sK_nas (n := 0), sN_nas (k := 22)⟩
    generalize newA S3 q42 22 0 = S4 at f3 k42 ⊢
    have h33 := (f2.tr f3) q33 (by rw [k33.1]; decide)
    have h36 := f3 q36 (by rw [k36]; decide)
    have f14 : Fx S1 S4 := f1.tr (f2.tr f3)
    refine r_aload_n (pc := 44) C dX2_makeGenesis_44 rfl ?_
    refine r_aload_n (pc := 45) C dX2_makeGenesis_45 rfl ?_
    refine r_aload_n (pc := 46) C dX2_makeGenesis_46 rfl ?_
    refine r_aload_n (pc := 47) C dX2_makeGenesis_47 rfl ?_
    refine r_callI (pc := 48) C (cl_trinit (kp := 33) (kx := 33) (p := 0) (x := 0) (by rw [h36.1]; exact k36) (by rw [h33.1]; exact k33.1) (by omega) (by rw [h33.2.2.2.2.1]; exact k33.2) (by rw [h33.1]; exact k33.1) (by omega) (by rw [h33.2.2.2.2.1]; exact k33.2) (by omega) (by omega)) iX8_init ml_RX2_51 dX2_makeGenesis_48 rfl (by decide) rfl (by simp [cv, Value.category, va_rf]) (by omega) (by omega) (fun r48 S48 h48 => ?_)
    obtain ⟨rfl, qa, sa, na, hz, hTI, hFz⟩ := h48
    dsimp only [Option.toList, List.cons_append, List.nil_append]
    obtain ⟨t1, t2, ⟨t3, t4, t5, t6, t7⟩, t8, t9, t10, t11⟩ := hTI
    refine r_astore_n (pc := 51) C dX2_makeGenesis_51 (by decide) rfl ?_
    refine r_aload_n (pc := 52) C dX2_makeGenesis_52 rfl ?_
    refine r_iconst (pc := 53) C (nI 0) dX2_makeGenesis_53 rfl ?_
    refine r_putI (pc := 54) C dX2_makeGenesis_54 fx_RX2_54 (fp_9_9 _) t1 ?_
    refine r_aload_n (pc := 57) C dX2_makeGenesis_57 rfl ?_
    refine r_iconst (pc := 58) C (nI 3) dX2_makeGenesis_58 rfl ?_
    refine r_putI (pc := 59) C dX2_makeGenesis_59 fx_RX2_57 (fp_9_10 _) t1 ?_
    refine r_aload_n (pc := 62) C dX2_makeGenesis_62 rfl ?_
    refine r_aret (pc := 63) C dX2_makeGenesis_63 rfl (Or.inl ⟨_, rfl⟩) (by omega) (by omega) ?_
    have nt : ∀ y, sK S1 y ≠ 0 → y ≠ q36 := fun y hy => ne_kq (f1.fresh hq36) hy
    have g1 : ∀ y, sK S1 y ≠ 0 → _ := fun y hy => hFz y (by rw [(f14 y hy).1]; exact hy) (nt y hy)
    have g4 : ∀ y, sK S4 y ≠ 0 → y ≠ q36 → _ := fun y hy hn => hFz y hy hn
    have n33 : q33 ≠ q36 := fun e => by rw [e] at k33; rw [hq36] at k33; exact absurd k33.1 (by decide)
    have n42 : q42 ≠ q36 := fun e => by rw [e] at hq42; rw [hq42] at k36; cases k36
    have p33 := g4 q33 (by rw [h33.1, k33.1]; decide) n33
    have p42 := g4 q42 (by rw [k42.1]; decide) n42
    have poa := g1 oa (by rw [koa]; decide)
    have qoa := f14 oa (by rw [koa]; decide)
    have fE : FE [q36] S1 S48 := (Fx.fe f14).tr (hFz.fe (by simp))
    have fF : FE [q36] S48 (setI (setI S48 909 q36 (nI 0)) 910 q36 (nI 3)) := (FE.si (by simp)).tr (FE.si (by simp))
    have zz : sK S1 q36 = 0 := f1.fresh hq36
    refine ⟨q36, q42, q33, oa, qa, sa, na, O, L, rfl, ⟨⟨t1, ?_⟩, ⟨t3, p42.1.trans k42.1, p42.2.2.2.2.1.trans k42.2⟩, ⟨t4, t5, t6, p33.1.trans (h33.1.trans k33.1), p33.2.2.2.2.1.trans (h33.2.2.2.2.1.trans k33.2)⟩, ⟨t7, poa.1.trans (qoa.1.trans koa), poa.2.2.2.2.1.trans (qoa.2.2.2.2.1.trans noa), fun i hi => ?_⟩, fun i hi => ?_, t8, t9, t10, ⟨?_, sI_s, ?_, ?_, ?_⟩, hinj⟩, ?_, z36, fun i hi => (hO i hi).2.2⟩
    · rw [sI_n (Or.inl (by decide)), sI_n (Or.inl (by decide))]; exact t2
    · show aR S48 101 oa i = _
      rw [poa.2.2.2.2.2.2.2, qoa.2.2.2.2.2.2.2]; exact (hO i hi).1
    · have o := (hO i hi).2.1
      have no : O i ∉ [q36] := by simp only [List.mem_cons, List.not_mem_nil, or_false]; exact nt _ (by rw [o.1]; decide)
      have nl : L i ∉ [q36] := by simp only [List.mem_cons, List.not_mem_nil, or_false]; exact nt _ (by rw [o.2.2.2.2.1]; decide)
      exact (o.fe fE no nl).fe fF no nl
    · rw [sI_n (Or.inl (by decide))]; exact sI_s
    · rw [sI_n (Or.inl (by decide)), sI_n (Or.inl (by decide))]; exact t11.2.2.1
    · rw [sI_n (Or.inl (by decide)), sI_n (Or.inl (by decide))]; exact t11.2.2.2.1
    · rw [sI_n (Or.inl (by decide)), sI_n (Or.inl (by decide))]; exact t11.2.2.2.2
    · exact hFx.tr ((fE.tr fF).fx (fun q hq => by simp only [List.mem_cons, List.not_mem_nil, or_false] at hq; rw [hq]; exact zz))
  have Lp : ∀ (oa : Nat), sK S oa = 0 → ∀ i (S1 : hS), i ≤ 8 → (∃ O L : Nat → Nat, Fx S S1 ∧ sK S1 oa = 101 ∧ sN S1 oa = 8 ∧ (∀ k, k < i → aR S1 101 oa k = some (O k) ∧ ON g S1 (O k) (L k) 1000000 ∧ sK S (O k) = 0 ∧ sK S (L k) = 0) ∧ ∀ a b, a < i → b < i → (O a = O b → a = b) ∧ (L a = L b → a = b)) → J 8 [(0, vr (some oa)), (1, vi (nI i))] [] S1 (1 + 2 * i) (8 + 9 * i) := by
    intro oa zoa
    refine up_loop _ _ _ ?_ ?_
    · intro S1 hS
      obtain ⟨O, L, hFx, koa, noa, hO, hinj⟩ := hS
      refine r_iload_n (pc := 8) C dX2_makeGenesis_8 rfl ?_
      refine r_bipush (pc := 9) C (nI 8) dX2_makeGenesis_9 rfl ?_
      refine r_icmp_ge (pc := 11) (tgt := 32) C dX2_makeGenesis_11 (by decide) (fun c11 => ?_) (fun c11 => ?_)
      · exact r_lv C [(0, vr (some oa))] rfl (P2 oa O L S1 hFx zoa koa noa hO hinj)
      · exact absurd (Int32.le_refl _) c11
    · intro i S1 hi hS ih
      obtain ⟨O, L, hFx, koa, noa, hO, hinj⟩ := hS
      refine r_iload_n (pc := 8) C dX2_makeGenesis_8 rfl ?_
      refine r_bipush (pc := 9) C (nI 8) dX2_makeGenesis_9 rfl ?_
      refine r_icmp_ge (pc := 11) (tgt := 32) C dX2_makeGenesis_11 (by decide) (fun c11 => ?_) (fun c11 => ?_)
      · exact absurd c11 (nI_ge hi (by omega))
      · refine r_aload_n (pc := 14) C dX2_makeGenesis_14 rfl ?_
        refine r_iload_n (pc := 15) C dX2_makeGenesis_15 rfl ?_
        refine r_new (pc := 16) C dX2_makeGenesis_16 (ci := 4) (n := 6) rfl kl_RX2_43 rfl (by omega) (by omega) (fun q16 hq16 => ?_)
        have z16 : sK S q16 = 0 := hFx.fresh hq16
        have f1 : Fx S1 (newO S1 q16 5) := Fx.no hq16
        have k16 : sK (newO S1 q16 5) q16 = 5 := sK_nos
        generalize newO S1 q16 5 = S2 at f1 k16 ⊢
        refine r_dup (pc := 19) C dX2_makeGenesis_19 rfl ?_
        refine r_ldc (pc := 20) C kc_RX2_45 dX2_makeGenesis_20 ?_
        refine r_callI (pc := 22) C (cl_outinit (am := 1000000) k16) iX3_init ml_RX2_46 dX2_makeGenesis_22 rfl (by decide) rfl (by simp [cv, Value.category, va_rf]) (by omega) (by omega) (fun r22 S22 h22 => ?_)
        obtain ⟨rfl, lo, hlo, hON, hFz⟩ := h22
        dsimp only [Option.toList, List.cons_append, List.nil_append]
        have zlo1 : sK S1 lo = 0 := f1.fresh hlo
        have zlo : sK S lo = 0 := hFx.fresh zlo1
        have noa16 : oa ≠ q16 := ne_kq hq16 (by rw [koa]; decide)
        have g1 := f1 oa (by rw [koa]; decide)
        have go := hFz oa (by rw [g1.1, koa]; decide) noa16
        refine r_aast (pc := 25) C dX2_makeGenesis_25 (go.1.trans (g1.1.trans koa)) (by omega) (ci := 4) rfl rfl hON.1 (go.2.2.2.2.1.trans (g1.2.2.2.2.1.trans noa)) (vp_in_nI hi (by omega)) (nI_clamp (by omega)) ?_
        have f5 : FE [oa] S1 (putR S22 101 oa (va_up (aR S22 101 oa) i (some q16))) := ((Fx.fe f1).z hq16 hFz).tr (FE.pr (by simp))
        have hoa5 : aR (putR S22 101 oa (va_up (aR S22 101 oa) i (some q16))) 101 oa = va_up (aR S1 101 oa) i (some q16) := by rw [aR_ps, go.2.2.2.2.2.2.2, g1.2.2.2.2.2.2.2]
        have hON5 : ON g (putR S22 101 oa (va_up (aR S22 101 oa) i (some q16))) q16 lo 1000000 := hON.fe (E := [oa]) (FE.pr (by simp)) (by simp only [List.mem_cons, List.not_mem_nil, or_false]; exact fun e => noa16 e.symm) (by simp only [List.mem_cons, List.not_mem_nil, or_false]; exact fun e => (ne_kq zlo1 (show sK S1 oa ≠ 0 by rw [koa]; decide)) e.symm)
        have koa5 : sK (putR S22 101 oa (va_up (aR S22 101 oa) i (some q16))) oa = 101 ∧ sN (putR S22 101 oa (va_up (aR S22 101 oa) i (some q16))) oa = 8 := ⟨go.1.trans (g1.1.trans koa), go.2.2.2.2.1.trans (g1.2.2.2.2.1.trans noa)⟩
        generalize putR S22 101 oa (va_up (aR S22 101 oa) i (some q16)) = S5 at f5 hoa5 hON5 koa5 ⊢
        refine r_iinc (pc := 26) C _ dX2_makeGenesis_26 rfl (nI_1 _) (by decide) rfl ?_
        refine r_goto (pc := 29) (tgt := 8) C dX2_makeGenesis_29 (by decide) ?_
        have nw : ∀ y, sK S1 y ≠ 0 → sK S1 y ≠ 101 → y ∉ [oa] := fun y h1 h2 h4 => by
          simp only [List.mem_cons, List.not_mem_nil, or_false] at h4
          rw [h4, koa] at h2; exact h2 rfl
        refine r_widen C (k2 := 1 + 2 * (i + 1)) (n2 := 8 + 9 * (i + 1)) (by omega) (by omega) ?_
        refine r_lv C [(0, vr (some oa)), (1, vi (nI (i + 1)))] rfl (ih _ ⟨va_up O i q16, va_up L i lo, hFx.fe1 f5 (fun q hq => by simp only [List.mem_cons, List.not_mem_nil, or_false] at hq; rw [hq]; exact zoa), koa5.1, koa5.2, fun k hk => ?_, fun a b ha hb => ?_⟩)
        · by_cases e : k = i
          · subst e
            rw [hoa5, va_up_self, va_up_self, va_up_self]
            exact ⟨rfl, hON5, z16, zlo⟩
          · obtain ⟨p1, p2, p3, p4⟩ := hO k (by omega)
            rw [hoa5, va_up_ne _ _ e, va_up_ne _ _ e, va_up_ne _ _ e]
            exact ⟨p1, p2.fe f5 (nw _ (by rw [p2.1]; omega) (by rw [p2.1]; omega)) (nw _ (by rw [p2.2.2.2.2.1]; omega) (by rw [p2.2.2.2.2.1]; omega)), p3, p4⟩
        · have nO : ∀ k, k < i → O k ≠ q16 ∧ L k ≠ lo := fun k hk => ⟨ne_kq hq16 (by rw [(hO k hk).2.1.1]; omega), ne_kq zlo1 (by rw [(hO k hk).2.1.2.2.2.2.1]; omega)⟩
          by_cases ea : a = i
          · by_cases eb : b = i
            · exact ⟨fun _ => by omega, fun _ => by omega⟩
            · rw [ea, va_up_self, va_up_self, va_up_ne _ _ eb, va_up_ne _ _ eb]
              have q := nO b (by omega)
              exact ⟨fun z => absurd z.symm q.1, fun z => absurd z.symm q.2⟩
          · by_cases eb : b = i
            · rw [eb, va_up_self, va_up_self, va_up_ne _ _ ea, va_up_ne _ _ ea]
              have q := nO a (by omega)
              exact ⟨fun z => absurd z q.1, fun z => absurd z q.2⟩
            · rw [va_up_ne _ _ ea, va_up_ne _ _ ea, va_up_ne _ _ eb, va_up_ne _ _ eb]
              exact hinj a b (by omega) (by omega)
  refine r_bipush (pc := 0) C (nI 8) dX2_makeGenesis_0 rfl ?_
  refine r_newr (pc := 2) C 101 dX2_makeGenesis_2 rfl (by decide) kl_RX2_43 (List.mem_append_right _ (List.mem_of_getElem? (i := 119) (by decide +kernel))) (nI_pos (by omega)) (nI_clamp (by omega)) (by omega) (by omega) (by omega) (fun q2 hq2 => ?_)
  refine r_astore_n (pc := 5) C dX2_makeGenesis_5 (by decide) rfl ?_
  refine r_iconst (pc := 6) C (nI 0) dX2_makeGenesis_6 rfl ?_
  refine r_istore_n (pc := 7) C dX2_makeGenesis_7 (by decide) rfl ?_
  exact r_lv C [(0, vr (some q2)), (1, vi (nI 0))] rfl (Lp q2 hq2 0 _ (by omega) ⟨fun _ => 0, fun _ => 0, Fx.na hq2, sK_nas (n := 8), sN_nas (k := 101), fun k hk => absurd hk (by omega), fun a b ha => absurd ha (by omega)⟩)
end Genesis
