/-! The class: new transactions -/
section Ite
variable {S : hS} {k b f x q n r : Nat} {v : Int32} {w : Option Nat} {F : Nat → Int32} {FR : Nat → Option Nat}
theorem e_IR : sI (setR S k b w) f x = sI S f x := rfl
theorem e_IA : sI (newA S q k n) f x = sI S f x := rfl
theorem e_II : sI (setI S k b v) f x = if f = k ∧ x = b then v else sI S f x := by
  by_cases h : f = k ∧ x = b
  · rw [if_pos h, h.1, h.2, sI_s]
  · rw [if_neg h, sI_n (Classical.not_and_iff_not_or_not.mp h)]
theorem e_RI : sR (setI S k b v) f x = sR S f x := rfl
theorem e_RA : sR (newA S q k n) f x = sR S f x := rfl
theorem e_RR : sR (setR S k b w) f x = if f = k ∧ x = b then w else sR S f x := by
  by_cases h : f = k ∧ x = b
  · rw [if_pos h, h.1, h.2, sR_s]
  · rw [if_neg h, sR_n (Classical.not_and_iff_not_or_not.mp h)]
theorem e_KI : sK (setI S k b v) x = sK S x := rfl
theorem e_KR : sK (setR S k b w) x = sK S x := rfl
theorem e_KA : sK (newA S q k n) x = if x = q then k else sK S x := rfl
theorem e_NI : sN (setI S k b v) x = sN S x := rfl
theorem e_NR : sN (setR S k b w) x = sN S x := rfl
theorem e_NA : sN (newA S q k n) x = if x = q then n else sN S x := rfl
theorem e_JI : aJ (setI S k b v) r x = aJ S r x := rfl
theorem e_JR : aJ (setR S k b w) r x = aJ S r x := rfl
theorem e_JA : aJ (newA S q k n) r x = if x = q then (fun _ => 0) else aJ S r x := rfl
end Ite
/-- a transaction as it is made -/
def TI (S : hS) (t : Nat) (id : Int32) (ra pa ia xa oa qa sa na p x : Nat) : Prop :=
  sK S t = 10 ∧ sI S 900 t = id ∧ (sR S 901 t = some ra ∧ sR S 902 t = some pa ∧ sR S 903 t = some ia ∧ sR S 904 t = some xa ∧ sR S 905 t = some oa) ∧
  (sR S 906 t = some qa ∧ sK S qa = 103 ∧ sN S qa = p) ∧ (sR S 907 t = some sa ∧ sK S sa = 102 ∧ sN S sa = x) ∧ (sR S 908 t = some na ∧ sK S na = 80 ∧ sN S na = 3 ∧ aJ S 80 na = fun _ => 0) ∧
  (sI S 909 t = -1 ∧ sI S 910 t = nI 1 ∧ sI S 911 t = nI 0 ∧ sI S 912 t = nI 0 ∧ sI S 913 t = nI 0)
section NewT
variable {l : Launch} {g : GG} {S : hS}
theorem cl_trinit {t ra pa ia xa oa p x kp kx : Nat} {id : Int32} (hk : sK S t = 10) (hp : sK S pa = kp) (hkp : 20 ≤ kp) (np : sN S pa = p) (hx : sK S ia = kx) (hkx : 20 ≤ kx) (nx : sN S ia = x) (p4 : p ≤ 4) (x4 : x ≤ 4) : Sp l g mX8_init 3 11 [vr (some t), vi id, vr (some ra), vr (some pa), vr (some ia), vr (some xa), vr (some oa)] S (fun r S' => r = none ∧ ∃ qa sa na, (sK S qa = 0 ∧ sK S sa = 0 ∧ sK S na = 0) ∧ TI S' t id ra pa ia xa oa qa sa na p x ∧ Fz S S' t) := by
  refine Sp.start (own := RX8) [(0, vr (some t)), (1, vi id), (2, vr (some ra)), (3, vr (some pa)), (4, vr (some ia)), (5, vr (some xa)), (6, vr (some oa))] (by decide +kernel) rfl rfl (Nat.le_of_ble_eq_true rfl) ?_
  intro J C
  refine r_aload_n (pc := 0) C dX8_init_0 rfl ?_
  refine r_oinit (pc := 1) C dX8_init_1 ml_RX8_5 (by decide) (by decide) ?_
  refine r_aload_n (pc := 4) C dX8_init_4 rfl ?_
  refine r_iload_n (pc := 5) C dX8_init_5 rfl ?_
  refine r_putI (pc := 6) C dX8_init_6 fx_RX8_11 (fq_9_0 _ rfl rfl) hk ?_
  refine r_aload_n (pc := 9) C dX8_init_9 rfl ?_
  refine r_aload_n (pc := 10) C dX8_init_10 rfl ?_
  refine r_putR (pc := 11) C dX8_init_11 fx_RX8_17 (fq_9_1 _ rfl rfl) hk ?_
  refine r_aload_n (pc := 14) C dX8_init_14 rfl ?_
  refine r_aload_n (pc := 15) C dX8_init_15 rfl ?_
  refine r_putR (pc := 16) C dX8_init_16 fx_RX8_21 (fq_9_2 _ rfl rfl) hk ?_
  refine r_aload_n (pc := 19) C dX8_init_19 rfl ?_
  refine r_aload (pc := 20) C dX8_init_20 rfl ?_
  refine r_putR (pc := 22) C dX8_init_22 fx_RX8_25 (fq_9_3 _ rfl rfl) hk ?_
  refine r_aload_n (pc := 25) C dX8_init_25 rfl ?_
  refine r_aload (pc := 26) C dX8_init_26 rfl ?_
  refine r_putR (pc := 28) C dX8_init_28 fx_RX8_28 (fq_9_4 _ rfl rfl) hk ?_
  refine r_aload_n (pc := 31) C dX8_init_31 rfl ?_
  refine r_aload (pc := 32) C dX8_init_32 rfl ?_
  refine r_putR (pc := 34) C dX8_init_34 fx_RX8_31 (fq_9_5 _ rfl rfl) hk ?_
  have f1 : Fz S (setR (setR (setR (setR (setR (setI S 900 t id) 901 t (some ra)) 902 t (some pa)) 903 t (some ia)) 904 t (some xa)) 905 t (some oa)) t := (((((Fz.si Fz.rf).sr).sr).sr).sr).sr
  have g0 : sI (setR (setR (setR (setR (setR (setI S 900 t id) 901 t (some ra)) 902 t (some pa)) 903 t (some ia)) 904 t (some xa)) 905 t (some oa)) 900 t = id := by simp [e_IR, e_II]
  have g1 : sR (setR (setR (setR (setR (setR (setI S 900 t id) 901 t (some ra)) 902 t (some pa)) 903 t (some ia)) 904 t (some xa)) 905 t (some oa)) 901 t = some ra := by simp [e_RR, e_RI]
  have g2 : sR (setR (setR (setR (setR (setR (setI S 900 t id) 901 t (some ra)) 902 t (some pa)) 903 t (some ia)) 904 t (some xa)) 905 t (some oa)) 902 t = some pa := by simp [e_RR, e_RI]
  have g3 : sR (setR (setR (setR (setR (setR (setI S 900 t id) 901 t (some ra)) 902 t (some pa)) 903 t (some ia)) 904 t (some xa)) 905 t (some oa)) 903 t = some ia := by simp [e_RR, e_RI]
  have g4 : sR (setR (setR (setR (setR (setR (setI S 900 t id) 901 t (some ra)) 902 t (some pa)) 903 t (some ia)) 904 t (some xa)) 905 t (some oa)) 904 t = some xa := by simp [e_RR, e_RI]
  have g5 : sR (setR (setR (setR (setR (setR (setI S 900 t id) 901 t (some ra)) 902 t (some pa)) 903 t (some ia)) 904 t (some xa)) 905 t (some oa)) 905 t = some oa := by simp [e_RR, e_RI]
  have g6 : ∀ y, sK (setR (setR (setR (setR (setR (setI S 900 t id) 901 t (some ra)) 902 t (some pa)) 903 t (some ia)) 904 t (some xa)) 905 t (some oa)) y = sK S y := fun _ => rfl
  have g7 : ∀ y, sN (setR (setR (setR (setR (setR (setI S 900 t id) 901 t (some ra)) 902 t (some pa)) 903 t (some ia)) 904 t (some xa)) 905 t (some oa)) y = sN S y := fun _ => rfl
  generalize setR (setR (setR (setR (setR (setI S 900 t id) 901 t (some ra)) 902 t (some pa)) 903 t (some ia)) 904 t (some xa)) 905 t (some oa) = S1 at f1 g0 g1 g2 g3 g4 g5 g6 g7 ⊢
  have k1 : sK S1 t = 10 := by rw [g6]; exact hk
  refine r_aload_n (pc := 37) C dX8_init_37 rfl ?_
  refine r_aload_n (pc := 38) C dX8_init_38 rfl ?_
  refine r_alen (pc := 39) C dX8_init_39 (show sK S1 pa = kp by rw [g6]; exact hp) (by first | decide | omega) ?_
  rw [show sN S1 pa = p by rw [g7]; exact np]
  refine r_newr (pc := 40) C 103 dX8_init_40 rfl (by decide) kl_RX8_12 (List.mem_append_right _ (List.mem_of_getElem? (i := 167) (by decide +kernel))) (nI_pos (by omega)) (nI_clamp (by omega)) (by omega) (by omega) (by omega) (fun q40 hq40 => ?_)
  have n1 : t ≠ q40 := ne_kq hq40 (by omega)
  have n1p : pa ≠ q40 := ne_kq hq40 (by rw [g6]; omega)
  have n1i : ia ≠ q40 := ne_kq hq40 (by rw [g6]; omega)
  refine r_putR (pc := 43) C dX8_init_43 fx_RX8_35 (fq_9_6 _ rfl rfl) (show sK (newA S1 q40 103 p) t = 9 + 1 by rw [sK_na n1]; exact k1) ?_
  refine r_aload_n (pc := 46) C dX8_init_46 rfl ?_
  refine r_aload (pc := 47) C dX8_init_47 rfl ?_
  refine r_alen (pc := 49) C dX8_init_49 (show sK (setR (newA S1 q40 103 p) 906 t (some q40)) ia = kx by rw [e_KR, sK_na n1i, g6]; exact hx) (by first | decide | omega) ?_
  rw [show sN (setR (newA S1 q40 103 p) 906 t (some q40)) ia = x by rw [e_NR, sN_na n1i, g7]; exact nx]
  refine r_newr (pc := 50) C 102 dX8_init_50 rfl (by decide) kl_RX8_39 (List.mem_append_right _ (List.mem_of_getElem? (i := 119) (by decide +kernel))) (nI_pos (by omega)) (nI_clamp (by omega)) (by omega) (by omega) (by omega) (fun q50 hq50 => ?_)
  have n2 : t ≠ q50 := ne_kq hq50 (by rw [e_KR, sK_na n1]; omega)
  have n3 : q40 ≠ q50 := ne_kq hq50 (by rw [e_KR, sK_nas]; omega)
  have z50 : sK S1 q50 = 0 := by rw [e_KR, sK_na n3.symm] at hq50; exact hq50
  refine r_putR (pc := 53) C dX8_init_53 fx_RX8_41 (fq_9_7 _ rfl rfl) (show sK (newA (setR (newA S1 q40 103 p) 906 t (some q40)) q50 102 x) t = 9 + 1 by rw [sK_na n2, e_KR, sK_na n1]; exact k1) ?_
  refine r_aload_n (pc := 56) C dX8_init_56 rfl ?_
  refine r_iconst (pc := 57) C (nI 3) dX8_init_57 rfl ?_
  refine r_newa (pc := 58) C 80 dX8_init_58 rfl (by decide) (wd_at 244 (by decide +kernel) rfl) (nI_pos (by omega)) (nI_clamp (by omega)) (by omega) (by omega) (by omega) (fun q58 hq58 => ?_)
  have n4 : t ≠ q58 := ne_kq hq58 (by rw [e_KR, sK_na n2, e_KR, sK_na n1]; omega)
  have n5 : q40 ≠ q58 := ne_kq hq58 (by rw [e_KR, sK_na n3, e_KR, sK_nas]; omega)
  have n6 : q50 ≠ q58 := ne_kq hq58 (by rw [e_KR, sK_nas]; omega)
  have z58 : sK S1 q58 = 0 := by rw [e_KR, sK_na n6.symm, e_KR, sK_na n5.symm] at hq58; exact hq58
  have k2 : sK (newA (setR (newA (setR (newA S1 q40 103 p) 906 t (some q40)) q50 102 x) 907 t (some q50)) q58 80 3) t = 9 + 1 := by rw [sK_na n4, e_KR, sK_na n2, e_KR, sK_na n1]; exact k1
  refine r_putR (pc := 60) C dX8_init_60 fx_RX8_44 (fq_9_8 _ rfl rfl) k2 ?_
  refine r_aload_n (pc := 63) C dX8_init_63 rfl ?_
  refine r_iconst (pc := 64) C (-1) dX8_init_64 rfl ?_
  refine r_putI (pc := 65) C dX8_init_65 fx_RX8_48 (fp_9_9 _) k2 ?_
  refine r_aload_n (pc := 68) C dX8_init_68 rfl ?_
  refine r_iconst (pc := 69) C (nI 1) dX8_init_69 rfl ?_
  refine r_putI (pc := 70) C dX8_init_70 fx_RX8_51 (fp_9_10 _) k2 ?_
  refine r_aload_n (pc := 73) C dX8_init_73 rfl ?_
  refine r_iconst (pc := 74) C (nI 0) dX8_init_74 rfl ?_
  refine r_putI (pc := 75) C dX8_init_75 fx_RX8_54 (fp_9_11 _) k2 ?_
  refine r_aload_n (pc := 78) C dX8_init_78 rfl ?_
  refine r_iconst (pc := 79) C (nI 0) dX8_init_79 rfl ?_
  refine r_putI (pc := 80) C dX8_init_80 fx_RX8_57 (fp_9_12 _ (Or.inl rfl)) k2 ?_
  refine r_aload_n (pc := 83) C dX8_init_83 rfl ?_
  refine r_iconst (pc := 84) C (nI 0) dX8_init_84 rfl ?_
  refine r_putI (pc := 85) C dX8_init_85 fx_RX8_61 (fp_9_13 _ (Or.inl rfl)) k2 ?_
  refine r_aload_n (pc := 88) C dX8_init_88 rfl ?_
  refine r_iconst (pc := 89) C (nI 0) dX8_init_89 rfl ?_
  refine r_putI (pc := 90) C dX8_init_90 fx_RX8_64 (fp_9_14 _ (Or.inl rfl)) k2 ?_
  refine r_aload_n (pc := 93) C dX8_init_93 rfl ?_
  refine r_iconst (pc := 94) C (nI 0) dX8_init_94 rfl ?_
  refine r_putI (pc := 95) C dX8_init_95 fx_RX8_67 (fp_9_15 _ (Or.inl rfl)) k2 ?_
  refine r_ret (pc := 98) C dX8_init_98 rfl (by omega) (by omega) ?_
  refine ⟨rfl, q40, q50, q58, ⟨by rw [← g6]; exact hq40, by rw [← g6]; exact z50, by rw [← g6]; exact z58⟩, ⟨k2, ?_, ⟨?_, ?_, ?_, ?_, ?_⟩, ⟨?_, ?_, ?_⟩, ⟨?_, ?_, ?_⟩, ⟨?_, ?_, ?_, ?_⟩, ⟨?_, ?_, ?_, ?_, ?_⟩⟩, ?_⟩
  · simp [e_II, e_IR, e_IA, g0]
  · simp [e_RR, e_RI, e_RA, g1]
  · simp [e_RR, e_RI, e_RA, g2]
  · simp [e_RR, e_RI, e_RA, g3]
  · simp [e_RR, e_RI, e_RA, g4]
  · simp [e_RR, e_RI, e_RA, g5]
  · simp [e_RR, e_RI, e_RA]
  · simp [e_KI, e_KR, e_KA, n3, n5]
  · simp [e_NI, e_NR, e_NA, n3, n5]
  · simp [e_RR, e_RI, e_RA]
  · simp [e_KI, e_KR, e_KA, n6]
  · simp [e_NI, e_NR, e_NA, n6]
  · simp [e_RR, e_RI, e_RA]
  · simp [e_KI, e_KR, e_KA]
  · simp [e_NI, e_NR, e_NA]
  · simp [e_JI, e_JR, e_JA]
  · simp [e_II, e_IR, e_IA]
  · simp [e_II, e_IR, e_IA]
  · simp [e_II, e_IR, e_IA]
  · simp [e_II, e_IR, e_IA]
  · simp [e_II, e_IR, e_IA]
  · have w1 := (f1.x (Fx.na (k := 103) (n := p) hq40)).sr (f := 906) (v := some q40)
    have w2 := (w1.x (Fx.na (k := 102) (n := x) hq50)).sr (f := 907) (v := some q50)
    have w3 := (w2.x (Fx.na (k := 80) (n := 3) hq58)).sr (f := 908) (v := some q58)
    exact w3.si.si.si.si.si.si.si
end NewT
/-- all stands but what E names -/
def FE (E : List Nat) (S S' : hS) : Prop := ∀ a, sK S a ≠ 0 → a ∉ E → sK S' a = sK S a ∧ (∀ f, sI S' f a = sI S f a) ∧ (∀ f, sR S' f a = sR S f a) ∧ (∀ f, sJ S' f a = sJ S f a) ∧ sN S' a = sN S a ∧ (∀ r, aI S' r a = aI S r a) ∧ (∀ r, aJ S' r a = aJ S r a) ∧ (∀ r, aR S' r a = aR S r a)
section FE
variable {S S1 S2 : hS} {E : List Nat} {q : Nat}
theorem Fx.fe (h : Fx S S1) : FE E S S1 := fun a ha _ => h a ha
theorem Fz.fe (h : Fz S S1 q) (hq : q ∈ E) : FE E S S1 := fun a ha he => h a ha (fun e => he (by rw [e]; exact hq))
theorem FE.fx (h : FE E S S1) (hE : ∀ q ∈ E, sK S q = 0) : Fx S S1 := fun a ha => h a ha (fun q => ha (hE a q))
theorem FE.tr (h1 : FE E S S1) (h2 : FE E S1 S2) : FE E S S2 := fun a ha he => by
  obtain ⟨a1, a2, a3, a4, a5, a6, a7, a8⟩ := h1 a ha he
  obtain ⟨b1, b2, b3, b4, b5, b6, b7, b8⟩ := h2 a (by rw [a1]; exact ha) he
  exact ⟨b1.trans a1, fun f => (b2 f).trans (a2 f), fun f => (b3 f).trans (a3 f), fun f => (b4 f).trans (a4 f), b5.trans a5, fun f => (b6 f).trans (a6 f), fun f => (b7 f).trans (a7 f), fun f => (b8 f).trans (a8 f)⟩
theorem FE.z (h1 : FE E S S1) (hq : sK S q = 0) (h2 : Fz S1 S2 q) : FE E S S2 := fun a ha he => by
  obtain ⟨a1, a2, a3, a4, a5, a6, a7, a8⟩ := h1 a ha he
  obtain ⟨b1, b2, b3, b4, b5, b6, b7, b8⟩ := h2 a (by rw [a1]; exact ha) (ne_kq hq ha)
  exact ⟨b1.trans a1, fun f => (b2 f).trans (a2 f), fun f => (b3 f).trans (a3 f), fun f => (b4 f).trans (a4 f), b5.trans a5, fun f => (b6 f).trans (a6 f), fun f => (b7 f).trans (a7 f), fun f => (b8 f).trans (a8 f)⟩
theorem FE.si {f : Nat} {v : Int32} (hq : q ∈ E) : FE E S (setI S f q v) := (Fz.si Fz.rf).fe hq
theorem FE.rp {a f : Int32} (hq : q ∈ E) : FE E S (rput S q a f) := ((Fz.si Fz.rf).si).fe hq
theorem FE.pr {r : Nat} {F : Nat → Option Nat} (hq : q ∈ E) : FE E S (putR S r q F) := fun a ha he => ⟨rfl, fun _ => rfl, fun _ => rfl, fun _ => rfl, rfl, fun _ => rfl, fun _ => rfl, fun r => aR_pn (Or.inr (fun e => he (by rw [e]; exact hq)))⟩
theorem FE.pi {r : Nat} {F : Nat → Int32} (hq : q ∈ E) : FE E S (putI S r q F) := fun a ha he => ⟨rfl, fun _ => rfl, fun _ => rfl, fun _ => rfl, rfl, fun r => aI_pn (Or.inr (fun e => he (by rw [e]; exact hq))), fun _ => rfl, fun _ => rfl⟩
theorem FE.sub {E2 : List Nat} (h : FE E S S1) (hE : ∀ q ∈ E, q ∈ E2 ∨ sK S q = 0) : FE E2 S S1 := fun a ha he => h a ha (fun q => (hE a q).elim he ha)
end FE
