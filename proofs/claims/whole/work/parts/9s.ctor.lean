/-! The class: a new node -/
abbrev FT (S S' : hS) : Prop := Ag (fun _ _ => True) (fun _ _ => True) (fun _ _ => True) S S'
section CtorN
variable {l : Launch} {g : GG} {S S1 S2 S' : hS} {po x pe tp dg go ch q mi : Nat} {sd k al b1 b2 v : Int32} {G : Nat → Int32} {T O : Nat → Nat}
theorem FT.cf {L : List Nat} (h : FT S S1) : Cf po L S S1 := h.mo (fun _ _ _ => trivial) (fun _ _ _ => trivial) (fun _ _ _ => trivial)
theorem ltI_1 : k < nI 1 ↔ k ≤ 0 := by
  rcases pk_ix k (n := 1) (by omega) with h | h | ⟨i, hi, rfl⟩
  · exact ⟨fun _ => Int32.le_of_lt h, fun _ => Int32.lt_of_lt_of_le h (by decide)⟩
  · exact ⟨fun q => absurd h (Int32.not_le.mpr q), fun q => absurd (Int32.le_trans h q) (by decide)⟩
  · have : i = 0 := by omega
    subst this
    exact ⟨fun _ => by decide, fun _ => by decide⟩
theorem gt_n {m : Nat} (hm : m < 1000) : nI m < v ↔ nI (m + 1) ≤ v := by
  refine ⟨fun h => ?_, fun h => ?_⟩
  · rcases pk_ix v (n := m + 1) (by omega) with q | q | ⟨i, hi, rfl⟩
    · exact absurd (Int32.lt_trans h q) (nI_pos (by omega))
    · exact q
    · have := (nI_ltI (by omega) (by omega)).mp h; omega
  · exact Int32.not_le.mp (fun q => nI_le1 (k := m) (by omega) h q)
theorem Ag.jq {P R A : Nat → Nat → Prop} {f : Nat} {v : Int64} (h : Ag P R A S S1) (hq : sK S q = 0) : Ag P R A S (setJ S1 f q v) := fun y hy => by
  obtain ⟨a1, a2, a3, a4, a5⟩ := h y hy
  exact ⟨a1, a2, fun f' hf => ⟨(a3 f' hf).1, (sJ_n (Or.inr (ne_fr hq hy))).trans (a3 f' hf).2⟩, a4, a5⟩
/-- a node's numbers -/
def NF (S : hS) (x : Nat) (k al b1 b2 : Int32) : Prop := sK S x = 11 ∧ sI S 1000 x = nI (pK k) ∧ sI S 1001 x = nI (pA k al) ∧ sI S 1002 x = nI (pB b1) ∧ sI S 1003 x = nI (pC b1 b2)
theorem NF.ft (h : NF S x k al b1 b2) (hF : FT S S1) : NF S1 x k al b1 b2 := by
  have hx : sK S x ≠ 0 := by rw [h.1]; decide
  exact ⟨by rw [hF.k hx]; exact h.1, by rw [hF.i hx trivial]; exact h.2.1, by rw [hF.i hx trivial]; exact h.2.2.1, by rw [hF.i hx trivial]; exact h.2.2.2.1, by rw [hF.i hx trivial]; exact h.2.2.2.2⟩
theorem NF.cf {L : List Nat} (h : NF S x k al b1 b2) (hF : Cf po L S S1) (hL : 0 ∉ L) : NF S1 x k al b1 b2 := by
  have hx : sK S x ≠ 0 := by rw [h.1]; decide
  have hi : ∀ f, 1000 ≤ f → f < 1100 → sI S1 f x = sI S f x := fun f f1 f2 => hF.i hx (by rw [kf_0 f1 f2]; exact hL)
  exact ⟨by rw [hF.k hx]; exact h.1, by rw [hi _ (by omega) (by omega)]; exact h.2.1, by rw [hi _ (by omega) (by omega)]; exact h.2.2.1, by rw [hi _ (by omega) (by omega)]; exact h.2.2.2.1, by rw [hi _ (by omega) (by omega)]; exact h.2.2.2.2⟩
theorem cf_nr {f : Nat} {v : Option Nat} (h1 : 1000 ≤ f) (h2 : f < 1100) : Cf po [0] S (setR S f x v) := Ag.sr (fun z => z (by rw [kf_0 h1 h2]; decide))
theorem rx_k {f : Nat} {y : Option Nat} {L : List Nat} (h : sR S f x = y) (hk : sK S x = 11) (hF : Cf po L S S1) (hL : 0 ∉ L) (h1 : 1000 ≤ f) (h2 : f < 1100) : sR S1 f x = y := by
  rw [hF.r (by rw [hk]; decide) (by rw [kf_0 h1 h2]; exact hL)]; exact h
theorem gf_cf (hz : sK S go = 0) (h : FT S S1) (h2 : GF go S1 S2) : Cf po [4, 5] S S2 := fun y hy => by
  have hne : y ≠ go := ne_fr hz hy
  obtain ⟨a1, a2, a3, a4, a5⟩ := h y hy
  obtain ⟨c1, c2, c3, c4, c5⟩ := h2 y (by rw [a1]; exact hy)
  have f3 : ∀ f, kf po f y ∉ [4, 5] → 3 ≤ f := fun f hf => by
    by_cases e : 3 ≤ f
    · exact e
    · exfalso; apply hf; unfold kf; rw [if_pos (by omega)]; split <;> decide
  have r4 : ∀ r, ka r ∉ [4, 5] → r < 104 := fun r hr => by
    by_cases e : r < 104
    · exact e
    · exfalso; apply hr; unfold ka; (repeat' split) <;> first | decide | omega
  exact ⟨c1.trans a1, c2.trans a2, fun f hf => ⟨(c3 f ⟨hne, f3 f hf⟩).1.trans (a3 f trivial).1, (c3 f ⟨hne, f3 f hf⟩).2.trans (a3 f trivial).2⟩, fun f hf => (c4 f ⟨hne, f3 f hf⟩).trans (a4 f trivial), fun r hr => ⟨(c5 r (r4 r hr)).1.trans (a5 r trivial).1, (c5 r (r4 r hr)).2.1.trans (a5 r trivial).2.1, (c5 r (r4 r hr)).2.2.trans (a5 r trivial).2.2⟩⟩
theorem fi_33 {j : Nat} : Fi0 33 j = 0 := by unfold Fi0; rw [uk_n (by decide), uk_n (by decide), uk_n (by decide), uk_n (by decide)]; rfl
theorem fi_25 {j : Nat} (hj : j < 6) : Fi0 25 j = -1 := by
  unfold Fi0
  rw [uk_n (by decide), uk_n (by decide), uk_s]
  exact if_pos hj
theorem fi_6 {j : Nat} (hj : j < 20) : Fi0 6 j = nI 1 := by
  unfold Fi0
  rw [uk_n (by decide), uk_n (by decide), uk_n (by decide), uk_s]
  exact if_pos hj
theorem g0_2 : G0 k al b1 b2 2 = nI (pK k) := by unfold G0; rw [pk_un (by decide), pk_un (by decide), pk_un (by decide), pk_us]
theorem g0_3 : G0 k al b1 b2 3 = nI (pA k al) := by unfold G0; rw [pk_un (by decide), pk_un (by decide), pk_us]
theorem g0_4 : G0 k al b1 b2 4 = nI (pB b1) := by unfold G0; rw [pk_un (by decide), pk_us]
theorem g0_5 : G0 k al b1 b2 5 = nI (pC b1 b2) := by unfold G0; rw [pk_us]
theorem g0_n {i : Nat} (hi : 6 ≤ i) : G0 k al b1 b2 i = gN i := by unfold G0; rw [pk_un (by omega), pk_un (by omega), pk_un (by omega), pk_un (by omega)]
theorem gN_8 : gN 8 = nI 0 := by unfold gN; rw [pk_un (by decide), pk_un (by decide), pk_un (by decide)]; rfl
theorem gN_29 : gN 29 = nI 0 := by unfold gN; rw [pk_un (by decide), pk_un (by decide), pk_un (by decide)]; rfl
theorem gN_30 : gN 30 = nI 0 := by unfold gN; rw [pk_un (by decide), pk_un (by decide), pk_un (by decide)]; rfl
theorem gN_19 : gN 19 = nI 1 := by unfold gN; rw [pk_us]
theorem hd0 : ∀ k, k < 1 → hdN M0 k < 1 := fun k hk => by
  have : k = 0 := by omega
  subst this
  decide
theorem cx_init (hM : MIR g mi) (hk : sK S x = 11) : Sp l g mX9_init 40 1219 [vr (some x), vi sd, vi k, vi al, vi b1, vi b2] S (fun r S' => r = none ∧ ∃ pe tp dg go po ch T O, NB S' x pe tp dg go po ch (G0 k al b1 b2) ∧ CPe S' pe Fi0 sd.toInt64 ∧ CTp S' tp Fi0 (G0 k al b1 b2) ∧ CDg S' dg ∧ CGr g S' po go T O M0 (G0 k al b1 b2) 1 1 1 ∧ CPl g S' po T Fi0 (pK k) [] (fun _ => 0) ∧ CCh S' ch Fi0 (G0 k al b1 b2)) := by
  refine Sp.start (own := RX9) [(0, vr (some x)), (1, vi sd), (2, vi k), (3, vi al), (4, vi b1), (5, vi b2)] (by decide +kernel) rfl rfl (Nat.le_of_ble_eq_true rfl) ?_
  intro J C
  have K165 : ∀ S0 pe tp dg go T O, NF S0 x k al b1 b2 → sR S0 1004 x = some pe → CPe S0 pe Fi0 sd.toInt64 → sR S0 1005 x = some tp → CTp S0 tp Fi0 (G0 k al b1 b2) → sR S0 1006 x = some dg → CDg S0 dg → sR S0 1007 x = some go → (∀ po, sK S0 po = 0 → CG g S0 po go T O M0 1 1 1) → sI S0 300 go = nI (pB b1) → sI S0 301 go = nI (pC b1 b2) → sK S0 go = 4 → J 165 [(0, vr (some x)), (1, vi sd), (2, vi k), (3, vi al), (4, vi b1), (5, vi b2)] [] S0 38 1208 := by
    intro S0 pe tp dg go T O hF r4 hPe r5 hTp r6 hDg r7 hCG g1 g2 kgo
    refine r_aload_n (pc := 165) C dX9_init_165 rfl ?_
    refine r_new (pc := 166) C dX9_init_166 (ci := 0) (n := 3) rfl kl_RX9_54 rfl (by omega) (by omega) (fun q166 hq166 => ?_)
    have hz166 := hq166
    refine r_dup (pc := 169) C dX9_init_169 rfl ?_
    refine r_callI (pc := 170) C (ct_alinit (sK_nos (S := S0) (q := q166) (k := 1))) iJx4a65c_init_da8c8 ml_RX9_56 dX9_init_170 rfl (by decide) rfl (by simp [cv, Value.category, va_rf]) (by omega) (by omega) (fun r170 S170 h170 => ?_)
    obtain ⟨rfl, e170⟩ := h170
    dsimp only [Option.toList, List.cons_append, List.nil_append]
    obtain ⟨X1, E1⟩ := al_new hq166 e170
    have hN1 : FT S0 S170 := X1.ag
    clear e170
    refine r_putR (pc := 173) C dX9_init_173 fx_RX9_57 (fq_10_8 _ rfl rfl) ((hF.ft hN1).1) ?_
    have hnx : q166 ≠ x := fun e => by have := hF.1; rw [← e, hq166] at this; cases this
    have f2 : Cf q166 [0] S0 (setR S170 1008 x (some q166)) := (hN1.cf).tr (cf_nr (by omega) (by omega))
    have E2 : EL g (setR S170 1008 x (some q166)) q166 := E1.sr hnx
    have r8 : sR (setR S170 1008 x (some q166)) 1008 x = some q166 := sR_s
    have hx0 : sK S0 x ≠ 0 := by rw [hF.1]; decide
    have rr : ∀ f, f ≠ 1008 → sR (setR S170 1008 x (some q166)) f x = sR S0 f x := fun f hf => by rw [sR_n (Or.inl hf), hN1.r hx0 trivial]
    have ii : ∀ f, sI (setR S170 1008 x (some q166)) f x = sI S0 f x := fun f => hN1.i hx0 trivial
    have kx : sK (setR S170 1008 x (some q166)) x = 11 := (hF.ft hN1).1
    generalize setR S170 1008 x (some q166) = S1 at f2 E2 r8 rr ii kx ⊢
    refine r_aload_n (pc := 176) C dX9_init_176 rfl ?_
    refine r_bipush (pc := 177) C (nI 8) dX9_init_177 rfl ?_
    refine r_newr (pc := 179) C 100 dX9_init_179 rfl (by decide) kl_RX9_61 (List.mem_append_right _ (List.mem_of_getElem? (i := 333) (by decide +kernel))) (nI_pos (by omega)) (nI_clamp (by omega)) (by omega) (by omega) (by omega) (fun q179 hq179 => ?_)
    have X3 : Fx S1 (newA S1 q179 100 8) := Fx.na hq179
    have hN3 : FT S1 (newA S1 q179 100 8) := X3.ag
    have hx1 : sK S1 x ≠ 0 := by rw [kx]; decide
    refine r_putR (pc := 182) C dX9_init_182 fx_RX9_63 (fq_10_9 _ rfl rfl) (show sK (newA S1 q179 100 8) x = 10 + 1 by rw [hN3.k hx1]; exact kx) ?_
    refine r_aload_n (pc := 185) C dX9_init_185 rfl ?_
    refine r_iconst (pc := 186) C (nI 0) dX9_init_186 rfl ?_
    refine r_putI (pc := 187) C dX9_init_187 fx_RX9_67 (fp_10_10 _) (show sK (newA S1 q179 100 8) x = 10 + 1 by rw [hN3.k hx1]; exact kx) ?_
    refine r_aload_n (pc := 190) C dX9_init_190 rfl ?_
    refine r_iconst (pc := 191) C (nI 0) dX9_init_191 rfl ?_
    refine r_putI (pc := 192) C dX9_init_192 fx_RX9_70 (fp_10_11 _) (show sK (newA S1 q179 100 8) x = 10 + 1 by rw [hN3.k hx1]; exact kx) ?_
    refine r_ret (pc := 195) C dX9_init_195 rfl (by omega) (by omega) ?_
    have f4 : Cf q166 [0] S1 (setI (setI (setR (newA S1 q179 100 8) 1009 x (some q179)) 1010 x (nI 0)) 1011 x (nI 0)) := ((hN3.cf).tr (cf_nr (by omega) (by omega))).tr ((Ag.si (fun z => z (by rw [kf_0 (by omega) (by omega)]; decide))).tr (Ag.si (fun z => z (by rw [kf_0 (by omega) (by omega)]; decide))))
    have fa : Cf q166 [0] S0 (setI (setI (setR (newA S1 q179 100 8) 1009 x (some q179)) 1010 x (nI 0)) 1011 x (nI 0)) := f2.tr f4
    have ri : ∀ f, f ≠ 1010 → f ≠ 1011 → sI (setI (setI (setR (newA S1 q179 100 8) 1009 x (some q179)) 1010 x (nI 0)) 1011 x (nI 0)) f x = sI S0 f x := fun f n1 n2 => by rw [sI_n (Or.inl n2), sI_n (Or.inl n1)]; exact (hN3.i hx1 trivial).trans (ii f)
    have rs : ∀ f, f ≠ 1009 → sR (setI (setI (setR (newA S1 q179 100 8) 1009 x (some q179)) 1010 x (nI 0)) 1011 x (nI 0)) f x = sR S1 f x := fun f n1 => by show sR (setR (newA S1 q179 100 8) 1009 x (some q179)) f x = _; rw [sR_n (Or.inl n1)]; exact hN3.r hx1 trivial
    have hg0 : sK S0 go ≠ 0 := by rw [kgo]; decide
    refine ⟨rfl, pe, tp, dg, go, q166, q179, T, O, ⟨⟨(hN3.k hx1).trans kx, ?_, ?_, ?_, ?_⟩, ⟨?_, ?_, ?_, ?_, ?_, ?_⟩, ?_, ?_⟩, hPe.kp fa (by decide), hTp.kp fa (by decide), hDg.kp fa (by decide), ⟨(hCG q166 hz166).keep hd0 (fa.gi (by decide)), ?_, ?_⟩, ⟨⟨fun p hp => ?_, List.nodup_nil, (fun p hp => by cases hp)⟩, ?_, (fun p hp => by cases hp), (fun p hp => by cases hp)⟩, ⟨⟨sK_nas (n := 8), sN_nas (k := 100)⟩, fun j hj => Or.inl ⟨?_, by rw [fi_33]; decide⟩, fun i j co co' hi hj q1 => ?_⟩⟩
    · rw [ri _ (by decide) (by decide), g0_2]; exact hF.2.1
    · rw [ri _ (by decide) (by decide), g0_3]; exact hF.2.2.1
    · rw [ri _ (by decide) (by decide), g0_4]; exact hF.2.2.2.1
    · rw [ri _ (by decide) (by decide), g0_5]; exact hF.2.2.2.2
    · rw [rs _ (by decide), rr _ (by decide)]; exact r4
    · rw [rs _ (by decide), rr _ (by decide)]; exact r5
    · rw [rs _ (by decide), rr _ (by decide)]; exact r6
    · rw [rs _ (by decide), rr _ (by decide)]; exact r7
    · rw [rs _ (by decide)]; exact r8
    · exact sR_s
    · rw [sI_n (Or.inl (by decide)), sI_s, g0_n (by decide), gN_29]
    · rw [sI_s, g0_n (by decide), gN_30]
    · rw [fa.i hg0 (by rw [kf_4 (by omega) (by omega)]; decide), g0_4]; exact g1
    · rw [fa.i hg0 (by rw [kf_4 (by omega) (by omega)]; decide), g0_5]; exact g2
    · refine ⟨(fun q => by cases q), fun q => absurd ?_ q⟩
      rw [fi_25 hp]; decide
    · have e3 := E2.fx X3
      have hn2 : q166 ≠ x := hnx
      exact EL.la ⟨e3.1, by rw [sI_n (Or.inr hn2), sI_n (Or.inr hn2)]; exact e3.2.1, by show sR (setR (newA S1 q179 100 8) 1009 x (some q179)) 1 q166 = _; rw [sR_n (Or.inr hn2)]; exact e3.2.2⟩
    · show aR (newA S1 q179 100 8) 100 q179 j = none
      rw [aR_nas]
    · rw [show aR (setI (setI (setR (newA S1 q179 100 8) 1009 x (some q179)) 1010 x (nI 0)) 1011 x (nI 0)) 100 q179 i = aR (newA S1 q179 100 8) 100 q179 i from rfl, aR_nas] at q1
      cases q1
  have K112 : ∀ S0, NF S0 x k al b1 b2 → J 112 [(0, vr (some x)), (1, vi sd), (2, vi k), (3, vi al), (4, vi b1), (5, vi b2)] [] S0 0 0 := by
    intro S0 hF
    refine r_aload_n (pc := 112) C dX9_init_112 rfl ?_
    refine r_new (pc := 113) C dX9_init_113 (ci := 5) (n := 2) rfl kl_RX9_22 rfl (by omega) (by omega) (fun q113 hq113 => ?_)
    have z113 := hq113
    refine r_dup (pc := 116) C dX9_init_116 rfl ?_
    refine r_iload_n (pc := 117) C dX9_init_117 rfl ?_
    refine r_callI (pc := 118) C (cl_pinit (sd := sd) (sK_nos (S := S0) (q := q113) (k := 6))) iX4_init ml_RX9_24 dX9_init_118 rfl (by decide) rfl (by simp [cv, Value.category, va_rf]) (by omega) (by omega) (fun r118 S118 h118 => ?_)
    obtain ⟨rfl, wa, fw, hwa, e118, hfw⟩ := h118
    dsimp only [Option.toList, List.cons_append, List.nil_append]
    have nw : q113 ≠ wa := fun e => by rw [← e, sK_nos] at hwa; cases hwa
    have zwa : sK S0 wa = 0 := by rw [← sK_no (S := S0) (q := q113) (k := 6) nw.symm]; exact hwa
    have A1 : FT S0 S118 := by rw [e118]; exact (((((Fx.no hq113).ag).jq hq113).naz hwa).rz hq113).pz zwa
    have P1 : CPe S118 q113 Fi0 sd.toInt64 := by
      rw [e118]
      refine ⟨wa, ⟨?_, (show sR (setR (newA (setJ (newO S0 q113 6) 501 q113 sd.toInt64) wa 30 20) 500 q113 (some wa)) 500 q113 = some wa from sR_s), sK_nas (n := 20), sN_nas (k := 30)⟩, fun p hp => ?_, ?_⟩
      · show sK (newA (setJ (newO S0 q113 6) 501 q113 sd.toInt64) wa 30 20) q113 = 6
        rw [sK_na nw]; exact sK_nos
      · rw [aI_ps, hfw p hp]
        exact (fi_6 hp).symm
      · show sJ (setJ (newO S0 q113 6) 501 q113 sd.toInt64) 501 q113 = _
        simp [sJ, setJ, u2]
    clear e118
    have hF1 := hF.ft A1
    refine r_putR (pc := 121) C dX9_init_121 fx_RX9_27 (fq_10_4 _ rfl rfl) hF1.1 ?_
    have c1 : Cf 0 [0] S118 (setR S118 1004 x (some q113)) := cf_nr (by omega) (by omega)
    have P2 := P1.kp c1 (by decide)
    have hF2 : NF (setR S118 1004 x (some q113)) x k al b1 b2 := hF1
    have r4 : sR (setR S118 1004 x (some q113)) 1004 x = some q113 := sR_s
    generalize setR S118 1004 x (some q113) = S1 at c1 P2 hF2 r4 ⊢
    refine r_aload_n (pc := 124) C dX9_init_124 rfl ?_
    refine r_new (pc := 125) C dX9_init_125 (ci := 8) (n := 2) rfl kl_RX9_31 rfl (by omega) (by omega) (fun q125 hq125 => ?_)
    refine r_dup (pc := 128) C dX9_init_128 rfl ?_
    refine r_callI (pc := 129) C (cl_tinit (sK_nos (S := S1) (q := q125) (k := 9))) iX7_init ml_RX9_33 dX9_init_129 rfl (by decide) rfl (by simp [cv, Value.category, va_rf]) (by omega) (by omega) (fun r129 S129 h129 => ?_)
    obtain ⟨rfl, ba, hba, e129⟩ := h129
    dsimp only [Option.toList, List.cons_append, List.nil_append]
    have nb : q125 ≠ ba := fun e => by rw [← e, sK_nos] at hba; cases hba
    have A2 : FT S1 S129 := by rw [e129]; exact ((((Fx.no hq125).ag).naz hba).rz hq125).iz hq125
    have T1 : CTp S129 q125 Fi0 (G0 k al b1 b2) := by
      rw [e129]
      refine ⟨ba, 0, ⟨?_, sR_s, sK_nas (n := 128), sN_nas (k := 21)⟩, sI_s, by omega, (by rw [g0_n (by decide), gN_8]), fun i hi => absurd hi (Nat.not_lt_zero _), fun i hi => ?_⟩
      · show sK (newA (newO S1 q125 9) ba 21 128) q125 = 9
        rw [sK_na nb]; exact sK_nos
      · show fB (aI (newA (newO S1 q125 9) ba 21 128) 21 ba i)
        rw [aI_nas]; rfl
    clear e129
    have hF3 := hF2.ft A2
    have r4b : sR S129 1004 x = some q113 := rx_k (po := 0) (L := []) r4 hF2.1 A2.cf (by decide) (by omega) (by omega)
    have P3 : CPe S129 q113 Fi0 sd.toInt64 := P2.kp (po := 0) (L := []) A2.cf (by decide)
    refine r_putR (pc := 132) C dX9_init_132 fx_RX9_34 (fq_10_5 _ rfl rfl) hF3.1 ?_
    have c2 : Cf 0 [0] S129 (setR S129 1005 x (some q125)) := cf_nr (by omega) (by omega)
    have P4 := P3.kp c2 (by decide)
    have T2 := T1.kp c2 (by decide)
    have hF4 : NF (setR S129 1005 x (some q125)) x k al b1 b2 := hF3
    have r4c : sR (setR S129 1005 x (some q125)) 1004 x = some q113 := by rw [sR_n (Or.inl (by decide))]; exact r4b
    have r5 : sR (setR S129 1005 x (some q125)) 1005 x = some q125 := sR_s
    generalize setR S129 1005 x (some q125) = S2 at c2 P4 T2 hF4 r4c r5 ⊢
    refine r_aload_n (pc := 135) C dX9_init_135 rfl ?_
    refine r_new (pc := 136) C dX9_init_136 (ci := 2) (n := 2) rfl kl_RX9_38 rfl (by omega) (by omega) (fun q136 hq136 => ?_)
    refine r_dup (pc := 139) C dX9_init_139 rfl ?_
    refine r_callI (pc := 140) C (cl_dinit (sK_nos (S := S2) (q := q136) (k := 3))) iX1_init ml_RX9_40 dX9_init_140 rfl (by decide) rfl (by simp [cv, Value.category, va_rf]) (by omega) (by omega) (fun r140 S140 h140 => ?_)
    obtain ⟨rfl, da, ta, hda, hta, hdt, e140⟩ := h140
    dsimp only [Option.toList, List.cons_append, List.nil_append]
    have nd : q136 ≠ da := fun e => by rw [← e, sK_nos] at hda; cases hda
    have nt : q136 ≠ ta := fun e => by rw [← e, sK_nos] at hta; cases hta
    have A3 : FT S2 S140 := by rw [e140]; exact (((((Fx.no hq136).ag).naz hda).rz hq136).naz (by show sK (newA (newO S2 q136 3) da 31 64) ta = 0; rw [sK_na hdt.symm]; exact hta)).rz hq136
    have D1 : CDg S140 q136 := by
      rw [e140]
      refine ⟨da, ta, ?_, ?_, sR_s, ⟨?_, ?_⟩, sK_nas (n := 8), sN_nas (k := 32)⟩
      · show sK (newA (setR (newA (newO S2 q136 3) da 31 64) 200 q136 (some da)) ta 32 8) q136 = 3
        rw [sK_na nt]; show sK (newA (newO S2 q136 3) da 31 64) q136 = 3; rw [sK_na nd]; exact sK_nos
      · rw [sR_n (Or.inl (by decide))]; show sR (setR (newA (newO S2 q136 3) da 31 64) 200 q136 (some da)) 200 q136 = _; exact sR_s
      · show sK (newA (setR (newA (newO S2 q136 3) da 31 64) 200 q136 (some da)) ta 32 8) da = 31
        rw [sK_na hdt]; exact sK_nas (n := 64)
      · show sN (newA (setR (newA (newO S2 q136 3) da 31 64) 200 q136 (some da)) ta 32 8) da = 64
        rw [sN_na hdt]; exact sN_nas (k := 31)
    clear e140
    have hF5 := hF4.ft A3
    have r4d : sR S140 1004 x = some q113 := rx_k (po := 0) (L := []) r4c hF4.1 A3.cf (by decide) (by omega) (by omega)
    have r5d : sR S140 1005 x = some q125 := rx_k (po := 0) (L := []) r5 hF4.1 A3.cf (by decide) (by omega) (by omega)
    have P5 : CPe S140 q113 Fi0 sd.toInt64 := P4.kp (po := 0) (L := []) A3.cf (by decide)
    have T3 : CTp S140 q125 Fi0 (G0 k al b1 b2) := T2.kp (po := 0) (L := []) A3.cf (by decide)
    refine r_putR (pc := 143) C dX9_init_143 fx_RX9_41 (fq_10_6 _ rfl rfl) hF5.1 ?_
    have c3 : Cf 0 [0] S140 (setR S140 1006 x (some q136)) := cf_nr (by omega) (by omega)
    have P6 := P5.kp c3 (by decide)
    have T4 := T3.kp c3 (by decide)
    have D2 := D1.kp c3 (by decide)
    have hF6 : NF (setR S140 1006 x (some q136)) x k al b1 b2 := hF5
    have r4e : sR (setR S140 1006 x (some q136)) 1004 x = some q113 := by rw [sR_n (Or.inl (by decide))]; exact r4d
    have r5e : sR (setR S140 1006 x (some q136)) 1005 x = some q125 := by rw [sR_n (Or.inl (by decide))]; exact r5d
    have r6 : sR (setR S140 1006 x (some q136)) 1006 x = some q136 := sR_s
    generalize setR S140 1006 x (some q136) = S3 at c3 P6 T4 D2 hF6 r4e r5e r6 ⊢
    refine r_aload_n (pc := 146) C dX9_init_146 rfl ?_
    refine r_new (pc := 147) C dX9_init_147 (ci := 3) (n := 6) rfl kl_RX9_45 rfl (by omega) (by omega) (fun q147 hq147 => ?_)
    have A4 : FT S3 (newO S3 q147 4) := (Fx.no hq147).ag
    have hF7 := hF6.ft A4
    refine r_dup (pc := 150) C dX9_init_150 rfl ?_
    refine r_aload_n (pc := 151) C dX9_init_151 rfl ?_
    refine r_getI (pc := 152) C dX9_init_152 fx_RX9_16 hF7.1 ?_
    rw [hF7.2.2.2.1]
    refine r_aload_n (pc := 155) C dX9_init_155 rfl ?_
    refine r_getI (pc := 156) C dX9_init_156 fx_RX9_19 hF7.1 ?_
    rw [hF7.2.2.2.2]
    refine r_callI (pc := 159) C (cg_ginit hM (sK_nos (S := S3) (q := q147) (k := 4))) iX2_init ml_RX9_47 dX9_init_159 rfl (by decide) rfl (by simp [cv, Value.category, va_rf]) (by omega) (by omega) (fun r159 S159 h159 => ?_)
    obtain ⟨rfl, T, O, hCG, g1, g2, hGF⟩ := h159
    dsimp only [Option.toList, List.cons_append, List.nil_append]
    have c4 : Cf 0 [4, 5] S3 S159 := gf_cf hq147 A4 hGF
    have kgo : sK S159 q147 = 4 := by rw [hGF.k (by rw [sK_nos]; decide)]; exact sK_nos
    have hF8 : NF S159 x k al b1 b2 := hF6.cf c4 (by decide)
    refine r_putR (pc := 162) C dX9_init_162 fx_RX9_50 (fq_10_7 _ rfl rfl) hF8.1 ?_
    have c5 : Cf 0 [0] S159 (setR S159 1007 x (some q147)) := cf_nr (by omega) (by omega)
    have ngo : q147 ≠ x := fun e => by have := hF6.1; rw [← e, hq147] at this; cases this
    refine r_widen C (k2 := 38) (n2 := 1208) (by omega) (by omega) ?_
    refine r_lv C [(0, vr (some x)), (1, vi sd), (2, vi k), (3, vi al), (4, vi b1), (5, vi b2)] rfl (K165 (setR S159 1007 x (some q147)) q113 q125 q136 q147 T O hF8 ?_ ((P6.kp c4 (by decide)).kp c5 (by decide)) ?_ ((T4.kp c4 (by decide)).kp c5 (by decide)) ?_ ((D2.kp c4 (by decide)).kp c5 (by decide)) sR_s (fun po hpo => (hCG po hpo).keep hd0 (Ag.sr (by unfold iP; omega))) g1 g2 kgo)
    · rw [sR_n (Or.inl (by decide))]; exact rx_k r4e hF6.1 c4 (by decide) (by omega) (by omega)
    · rw [sR_n (Or.inl (by decide))]; exact rx_k r5e hF6.1 c4 (by decide) (by omega) (by omega)
    · rw [sR_n (Or.inl (by decide))]; exact rx_k r6 hF6.1 c4 (by decide) (by omega) (by omega)
  have K109 : ∀ S0 v, v = nI (pC b1 b2) → sK S0 x = 11 → sI S0 1000 x = nI (pK k) → sI S0 1001 x = nI (pA k al) → sI S0 1002 x = nI (pB b1) → J 109 [(0, vr (some x)), (1, vi sd), (2, vi k), (3, vi al), (4, vi b1), (5, vi b2)] [vi v, vr (some x)] S0 0 0 := by
    intro S0 v hv kx h0 h1 h2
    refine r_putI (pc := 109) C dX9_init_109 fx_RX9_19 (fq_10_3 _ rfl rfl) kx ?_
    exact r_lv C [(0, vr (some x)), (1, vi sd), (2, vi k), (3, vi al), (4, vi b1), (5, vi b2)] rfl (K112 _ ⟨kx, by rw [sI_n (Or.inl (by decide))]; exact h0, by rw [sI_n (Or.inl (by decide))]; exact h1, by rw [sI_n (Or.inl (by decide))]; exact h2, by rw [sI_s, hv]⟩)
  have K78 : ∀ S0 v, v = nI (pB b1) → sK S0 x = 11 → sI S0 1000 x = nI (pK k) → sI S0 1001 x = nI (pA k al) → J 78 [(0, vr (some x)), (1, vi sd), (2, vi k), (3, vi al), (4, vi b1), (5, vi b2)] [vi v, vr (some x)] S0 0 0 := by
    intro S0 v hv kx h0 h1
    subst hv
    have hB := @pB_b b1
    refine r_putI (pc := 78) C dX9_init_78 fx_RX9_16 (fq_10_2 _ rfl rfl) kx ?_
    have e0 : sI (setI S0 1002 x (nI (pB b1))) 1000 x = nI (pK k) := by rw [sI_n (Or.inl (by decide))]; exact h0
    have e1 : sI (setI S0 1002 x (nI (pB b1))) 1001 x = nI (pA k al) := by rw [sI_n (Or.inl (by decide))]; exact h1
    have e2 : sI (setI S0 1002 x (nI (pB b1))) 1002 x = nI (pB b1) := sI_s
    have kx1 : sK (setI S0 1002 x (nI (pB b1))) x = 10 + 1 := kx
    generalize setI S0 1002 x (nI (pB b1)) = S1 at e0 e1 e2 kx1 ⊢
    refine r_aload_n (pc := 81) C dX9_init_81 rfl ?_
    refine r_iload (pc := 82) C dX9_init_82 rfl ?_
    refine r_aload_n (pc := 84) C dX9_init_84 rfl ?_
    refine r_getI (pc := 85) C dX9_init_85 fx_RX9_16 kx1 ?_
    rw [e2]
    refine r_icmp_lt (pc := 88) (tgt := 103) C dX9_init_88 (by decide) (fun c88 => ?_) (fun c88 => ?_)
    · have e : nI (pB b1 + 4) = nI (pC b1 b2) := by rw [show pC b1 b2 = pB b1 + 4 from if_neg (fun q => Int32.not_le.mpr c88 q.1)]
      refine r_aload_n (pc := 103) C dX9_init_103 rfl ?_
      refine r_getI (pc := 104) C dX9_init_104 fx_RX9_16 kx1 ?_
      rw [e2]
      refine r_iconst (pc := 107) C (nI 4) dX9_init_107 rfl ?_
      refine r_iadd (pc := 108) C dX9_init_108 ?_
      try simp only [nI_add, pk_mul]
      exact r_lv C [(0, vr (some x)), (1, vi sd), (2, vi k), (3, vi al), (4, vi b1), (5, vi b2)] rfl (K109 _ _ e kx1 e0 e1 e2)
    · have c88' := Int32.not_lt.mp c88
      refine r_iload (pc := 91) C dX9_init_91 rfl ?_
      refine r_bipush (pc := 93) C (nI 40) dX9_init_93 rfl ?_
      refine r_icmp_gt (pc := 95) (tgt := 103) C dX9_init_95 (by decide) (fun c95 => ?_) (fun c95 => ?_)
      · have e : nI (pB b1 + 4) = nI (pC b1 b2) := by rw [show pC b1 b2 = pB b1 + 4 from if_neg (fun q => Int32.not_le.mpr q.2 ((gt_n (m := 40) (by omega)).mp c95))]
        refine r_aload_n (pc := 103) C dX9_init_103 rfl ?_
        refine r_getI (pc := 104) C dX9_init_104 fx_RX9_16 kx1 ?_
        rw [e2]
        refine r_iconst (pc := 107) C (nI 4) dX9_init_107 rfl ?_
        refine r_iadd (pc := 108) C dX9_init_108 ?_
        try simp only [nI_add, pk_mul]
        exact r_lv C [(0, vr (some x)), (1, vi sd), (2, vi k), (3, vi al), (4, vi b1), (5, vi b2)] rfl (K109 _ _ e kx1 e0 e1 e2)
      · have e1' : pC b1 b2 = b2.toNatClampNeg := if_pos ⟨c88', Int32.not_le.mp (fun q => c95 ((gt_n (m := 40) (by omega)).mpr q))⟩
        have e : b2 = nI (pC b1 b2) := by rw [e1', nI_self (Int32.not_lt.mpr (Int32.le_trans (nI_pos' (by omega)) c88'))]
        refine r_iload (pc := 98) C dX9_init_98 rfl ?_
        refine r_goto (pc := 100) (tgt := 109) C dX9_init_100 (by decide) ?_
        exact r_lv C [(0, vr (some x)), (1, vi sd), (2, vi k), (3, vi al), (4, vi b1), (5, vi b2)] rfl (K109 _ _ e kx1 e0 e1 e2)
  have K55 : ∀ S0 v, v = nI (pA k al) → sK S0 x = 11 → sI S0 1000 x = nI (pK k) → J 55 [(0, vr (some x)), (1, vi sd), (2, vi k), (3, vi al), (4, vi b1), (5, vi b2)] [vi v, vr (some x)] S0 0 0 := by
    intro S0 v hv kx h0
    subst hv
    refine r_putI (pc := 55) C dX9_init_55 fx_RX9_13 (fq_10_1 _ rfl rfl) kx ?_
    refine r_aload_n (pc := 58) C dX9_init_58 rfl ?_
    refine r_iload (pc := 59) C dX9_init_59 rfl ?_
    refine r_iconst (pc := 61) C (nI 1) dX9_init_61 rfl ?_
    refine r_icmp_lt (pc := 62) (tgt := 77) C dX9_init_62 (by decide) (fun c62 => ?_) (fun c62 => ?_)
    · have e : nI 3 = nI (pB b1) := by rw [show pB b1 = 3 from if_neg (fun q => Int32.not_le.mpr q.1 (ltI_1.mp c62))]
      refine r_iconst (pc := 77) C (nI 3) dX9_init_77 rfl ?_
      exact r_lv C [(0, vr (some x)), (1, vi sd), (2, vi k), (3, vi al), (4, vi b1), (5, vi b2)] rfl (K78 _ _ e kx (by rw [sI_n (Or.inl (by decide))]; exact h0) sI_s)
    · have c62' : 0 < b1 := Int32.not_le.mp (fun q => c62 (ltI_1.mpr q))
      refine r_iload (pc := 65) C dX9_init_65 rfl ?_
      refine r_bipush (pc := 67) C (nI 20) dX9_init_67 rfl ?_
      refine r_icmp_gt (pc := 69) (tgt := 77) C dX9_init_69 (by decide) (fun c69 => ?_) (fun c69 => ?_)
      · have e : nI 3 = nI (pB b1) := by rw [show pB b1 = 3 from if_neg (fun q => Int32.not_le.mpr q.2 ((gt_n (m := 20) (by omega)).mp c69))]
        refine r_iconst (pc := 77) C (nI 3) dX9_init_77 rfl ?_
        exact r_lv C [(0, vr (some x)), (1, vi sd), (2, vi k), (3, vi al), (4, vi b1), (5, vi b2)] rfl (K78 _ _ e kx (by rw [sI_n (Or.inl (by decide))]; exact h0) sI_s)
      · have e1 : pB b1 = b1.toNatClampNeg := if_pos ⟨c62', Int32.not_le.mp (fun q => c69 ((gt_n (m := 20) (by omega)).mpr q))⟩
        have e : b1 = nI (pB b1) := by rw [e1, nI_self (pos_nn c62')]
        refine r_iload (pc := 72) C dX9_init_72 rfl ?_
        refine r_goto (pc := 74) (tgt := 78) C dX9_init_74 (by decide) ?_
        exact r_lv C [(0, vr (some x)), (1, vi sd), (2, vi k), (3, vi al), (4, vi b1), (5, vi b2)] rfl (K78 _ _ e kx (by rw [sI_n (Or.inl (by decide))]; exact h0) sI_s)
  have K21 : ∀ v, v = nI (pK k) → J 21 [(0, vr (some x)), (1, vi sd), (2, vi k), (3, vi al), (4, vi b1), (5, vi b2)] [vi v, vr (some x)] S 0 0 := by
    intro v hv
    subst hv
    have hB := @pK_b k
    refine r_putI (pc := 21) C dX9_init_21 fx_RX9_7 (fq_10_0 _ rfl rfl) hk ?_
    have e0 : sI (setI S 1000 x (nI (pK k))) 1000 x = nI (pK k) := sI_s
    have kx1 : sK (setI S 1000 x (nI (pK k))) x = 10 + 1 := hk
    generalize setI S 1000 x (nI (pK k)) = S1 at e0 kx1 ⊢
    refine r_aload_n (pc := 24) C dX9_init_24 rfl ?_
    refine r_getI (pc := 25) C dX9_init_25 fx_RX9_7 kx1 ?_
    rw [e0]
    refine r_iconst (pc := 28) C (nI 2) dX9_init_28 rfl ?_
    refine r_idiv (pc := 29) C dX9_init_29 (by decide) ?_
    rw [pk_div (d := 2) (by omega) (by omega) (by omega)]
    refine r_istore (pc := 30) C dX9_init_30 (by decide) rfl ?_
    refine r_aload_n (pc := 32) C dX9_init_32 rfl ?_
    refine r_iload_n (pc := 33) C dX9_init_33 rfl ?_
    refine r_iload (pc := 34) C dX9_init_34 rfl ?_
    refine r_icmp_le (pc := 36) (tgt := 51) C dX9_init_36 (by decide) (fun c36 => ?_) (fun c36 => ?_)
    · have e : nI (pK k / 2 + 1) = nI (pA k al) := by rw [show pA k al = pK k / 2 + 1 from if_neg (fun q => Int32.not_le.mpr q.1 c36)]
      refine r_iload (pc := 51) C dX9_init_51 rfl ?_
      refine r_iconst (pc := 53) C (nI 1) dX9_init_53 rfl ?_
      refine r_iadd (pc := 54) C dX9_init_54 ?_
      try simp only [nI_add, pk_mul]
      exact r_lv C [(0, vr (some x)), (1, vi sd), (2, vi k), (3, vi al), (4, vi b1), (5, vi b2)] rfl (K55 _ _ e kx1 e0)
    · have c36' := Int32.not_le.mp c36
      refine r_iload_n (pc := 39) C dX9_init_39 rfl ?_
      refine r_aload_n (pc := 40) C dX9_init_40 rfl ?_
      refine r_getI (pc := 41) C dX9_init_41 fx_RX9_7 kx1 ?_
      rw [e0]
      refine r_icmp_gt (pc := 44) (tgt := 51) C dX9_init_44 (by decide) (fun c44 => ?_) (fun c44 => ?_)
      · have e : nI (pK k / 2 + 1) = nI (pA k al) := by rw [show pA k al = pK k / 2 + 1 from if_neg (fun q => Int32.not_le.mpr c44 q.2)]
        refine r_iload (pc := 51) C dX9_init_51 rfl ?_
        refine r_iconst (pc := 53) C (nI 1) dX9_init_53 rfl ?_
        refine r_iadd (pc := 54) C dX9_init_54 ?_
        try simp only [nI_add, pk_mul]
        exact r_lv C [(0, vr (some x)), (1, vi sd), (2, vi k), (3, vi al), (4, vi b1), (5, vi b2)] rfl (K55 _ _ e kx1 e0)
      · have e1 : pA k al = al.toNatClampNeg := if_pos ⟨c36', Int32.not_lt.mp c44⟩
        have e : al = nI (pA k al) := by rw [e1, nI_self (pos_nn (Int32.lt_of_le_of_lt (nI_pos' (by omega)) c36'))]
        refine r_iload_n (pc := 47) C dX9_init_47 rfl ?_
        refine r_goto (pc := 48) (tgt := 55) C dX9_init_48 (by decide) ?_
        exact r_lv C [(0, vr (some x)), (1, vi sd), (2, vi k), (3, vi al), (4, vi b1), (5, vi b2)] rfl (K55 _ _ e kx1 e0)
  refine r_aload_n (pc := 0) C dX9_init_0 rfl ?_
  refine r_oinit (pc := 1) C dX9_init_1 ml_RX9_1 (by decide) (by decide) ?_
  refine r_aload_n (pc := 4) C dX9_init_4 rfl ?_
  refine r_iload_n (pc := 5) C dX9_init_5 rfl ?_
  refine r_iconst (pc := 6) C (nI 1) dX9_init_6 rfl ?_
  refine r_icmp_lt (pc := 7) (tgt := 20) C dX9_init_7 (by decide) (fun c7 => ?_) (fun c7 => ?_)
  · have e : nI 4 = nI (pK k) := by rw [show pK k = 4 from if_neg (fun q => Int32.not_le.mpr q.1 (ltI_1.mp c7))]
    refine r_iconst (pc := 20) C (nI 4) dX9_init_20 rfl ?_
    exact r_lv C [(0, vr (some x)), (1, vi sd), (2, vi k), (3, vi al), (4, vi b1), (5, vi b2)] rfl (K21 _ e)
  · have c7' : 0 < k := Int32.not_le.mp (fun q => c7 (ltI_1.mpr q))
    refine r_iload_n (pc := 10) C dX9_init_10 rfl ?_
    refine r_bipush (pc := 11) C (nI 10) dX9_init_11 rfl ?_
    refine r_icmp_gt (pc := 13) (tgt := 20) C dX9_init_13 (by decide) (fun c13 => ?_) (fun c13 => ?_)
    · have e : nI 4 = nI (pK k) := by rw [show pK k = 4 from if_neg (fun q => Int32.not_le.mpr q.2 ((gt_n (m := 10) (by omega)).mp c13))]
      refine r_iconst (pc := 20) C (nI 4) dX9_init_20 rfl ?_
      exact r_lv C [(0, vr (some x)), (1, vi sd), (2, vi k), (3, vi al), (4, vi b1), (5, vi b2)] rfl (K21 _ e)
    · have e1 : pK k = k.toNatClampNeg := if_pos ⟨c7', Int32.not_le.mp (fun q => c13 ((gt_n (m := 10) (by omega)).mpr q))⟩
      have e : k = nI (pK k) := by rw [e1, nI_self (pos_nn c7')]
      refine r_iload_n (pc := 16) C dX9_init_16 rfl ?_
      refine r_goto (pc := 17) (tgt := 21) C dX9_init_17 (by decide) ?_
      exact r_lv C [(0, vr (some x)), (1, vi sd), (2, vi k), (3, vi al), (4, vi b1), (5, vi b2)] rfl (K21 _ e)
end CtorN
