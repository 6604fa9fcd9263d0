/-! The class: answer, won -/
section Answer3
variable {l : Launch} {g : GG} {S S1 S' : hS} {po x pe tp dg go ch n h a k p pp t mi j al mc ms : Nat} {T O Pp : Nat → Nat} {M F : MM} {G : Nat → Int32} {X : Int64} {L Ls : List Nat} {w : Bool} {v y : Int32} {Post : Option AV → hS → Prop} {J : JJ}
theorem NB.won {z : Int32} (hN : NB S x pe tp dg go po ch G) : NB (setI S 1011 x z) x pe tp dg go po ch (upd G 30 z) := by
  obtain ⟨⟨a0, a1, a2, a3, a4⟩, b, c1, c2⟩ := hN
  refine ⟨⟨a0, ?_, ?_, ?_, ?_⟩, b, ?_, ?_⟩
  · rw [sI_n (Or.inl (by decide)), pk_un (by decide)]; exact a1
  · rw [sI_n (Or.inl (by decide)), pk_un (by decide)]; exact a2
  · rw [sI_n (Or.inl (by decide)), pk_un (by decide)]; exact a3
  · rw [sI_n (Or.inl (by decide)), pk_un (by decide)]; exact a4
  · rw [sI_n (Or.inl (by decide)), pk_un (by decide)]; exact c1
  · rw [sI_s, pk_us]
theorem NB.so {z : Int32} (hN : NB S x pe tp dg go po ch G) : NB (setI S 1010 x z) x pe tp dg go po ch (upd G 29 z) := by
  obtain ⟨⟨a0, a1, a2, a3, a4⟩, b, c1, c2⟩ := hN
  refine ⟨⟨a0, ?_, ?_, ?_, ?_⟩, b, ?_, ?_⟩
  · rw [sI_n (Or.inl (by decide)), pk_un (by decide)]; exact a1
  · rw [sI_n (Or.inl (by decide)), pk_un (by decide)]; exact a2
  · rw [sI_n (Or.inl (by decide)), pk_un (by decide)]; exact a3
  · rw [sI_n (Or.inl (by decide)), pk_un (by decide)]; exact a4
  · rw [sI_s, pk_us]
  · rw [sI_n (Or.inl (by decide)), pk_un (by decide)]; exact c2
theorem cf_nd {f : Nat} {z : Int32} (h1 : 1000 ≤ f) (h2 : f < 1100) : Cf po [0] S (setI S f x z) := Ag.si (fun q => q (by rw [kf_0 h1 h2]; decide))
theorem cx_answerW (hM : MIR g mi) (hN : NB S x pe tp dg go po ch G) (hC : CGr g S po go T O M G n h a) (hI : IV M n h a) (hn : n ≤ 65) (hP : CPl g S po T F k Ls Pp) (hu : Nu F) (hD : Ds F k) (hk : k ≤ 10) (hal : G 3 = nI al) (hal2 : al ≤ k) (hp : plc (F 25) v = some p) (hj : anJ F k (some p) y = some j) (hsd : F 28 (10 * p + j) = 0) (hW : anW F p j w k al = true) (h26 : F 26 p = nI t) (hd : hdB M h t = true) (hc : chitB M t = false) : Sp l g mX9_answer 65 6500 [vr (some x), vi v, vi y, vi (bi w)] S (fun r S' => r = some (vi (nI 1)) ∧ NB S' x pe tp dg go po ch (upd G 30 (G 30 + nI 1)) ∧ (∃ Ls', CPl g S' po T (um (anF F p j w) 25 p (-1)) k Ls' Pp) ∧ CGr g S' po go T O (clo M n h t true (G 4) (G 5) a).1 G n h (clo M n h t true (G 4) (G 5) a).2 ∧ Cf po [0, 4, 5] S S') := by
  have hG := hI.1
  have ht := hdB_lt hG hd
  have hm := (hP.at hp).1
  have hjk : j < k := (lastU_lt hj).1
  have e1 : sdn (anF F p j w 28) p k (nI 1) = al := of_decide_eq_true hW
  refine Sp.start (own := RX9) [(0, vr (some x)), (1, vi v), (2, vi y), (3, vi (bi w))] (by decide +kernel) rfl rfl (Nat.le_of_ble_eq_true rfl) ?_
  intro J C
  refine an_pre C hN hP hu hD hk hp hj hsd ?_
  intro S1 hP1 hf1
  have hN1 := hN.kp hf1 (by decide)
  have hq := hP1.2.2.1 p hm
  have hu1 : Nu (anF F p j w) := by
    unfold Nu
    rw [anF_n (show 25 ≠ 28 by decide)]
    exact hu
  have hp1 : plc (anF F p j w 25) v = some p := by rw [anF_n (show 25 ≠ 28 by decide)]; exact hp
  obtain ⟨-, i0, hi0, ei, ev⟩ := hP1.at hp1
  obtain ⟨t2, q0, q1, q2⟩ := hq.2.2.1
  rw [anF_n (show 26 ≠ 28 by decide)] at q2
  have et : t2 = t := nI_inj' (q2.symm.trans h26) (by omega) (by have := hG.1; omega)
  subst et
  have fw : Cf po [0] S1 (setI S1 1011 x (G 30 + nI 1)) := cf_nd (by omega) (by omega)
  have hNw : NB (setI S1 1011 x (G 30 + nI 1)) x pe tp dg go po ch (upd G 30 (G 30 + nI 1)) := hN1.won
  have hPw := hP1.kp fw (by decide)
  refine r_aload (pc := 74) C dX9_answer_74 rfl ?_
  refine r_getI (pc := 76) C dX9_answer_76 fx_RX9_214 hq.1.1 ?_
  rw [hq.2.2.2.2.2.1, e1]
  refine r_aload_n (pc := 79) C dX9_answer_79 rfl ?_
  refine r_getI (pc := 80) C dX9_answer_80 fx_RX9_13 hN1.1.1 ?_
  rw [hN1.1.2.2.1, hal]
  refine r_icmp_lt (pc := 83) (tgt := 116) C dX9_answer_83 (by decide) (fun c83 => ?_) (fun c83 => ?_)
  · exact (Int32.lt_irrefl c83).elim
  · refine r_aload_n (pc := 86) C dX9_answer_86 rfl ?_
    refine r_dup (pc := 87) C dX9_answer_87 rfl ?_
    refine r_getI (pc := 88) C dX9_answer_88 fx_RX9_70 hN1.1.1 ?_
    rw [hN1.2.2.2]
    refine r_iconst (pc := 91) C (nI 1) dX9_answer_91 rfl ?_
    refine r_iadd (pc := 92) C dX9_answer_92 ?_
    refine r_putI (pc := 93) C dX9_answer_93 fx_RX9_70 (fp_10_11 _) hN1.1.1 ?_
    refine r_aload_n (pc := 96) C dX9_answer_96 rfl ?_
    refine r_iload_n (pc := 97) C dX9_answer_97 rfl ?_
    refine r_callV (pc := 98) C (cx_drop hNw hPw hu1 hi0 ev) iX9_dropOpenPoll ml_RX9_217 dX9_answer_98 (ci := 10) rfl rfl hNw.1.1 rfl (by decide) rfl (by simp [cv, Value.category, va_rf]) (by omega) (by omega) (fun r98 S98 h98 => ?_)
    obtain ⟨rfl, hP2, hA2⟩ := h98
    dsimp only [Option.toList, List.cons_append, List.nil_append]
    have hf2 : Cf po [5] (setI S1 1011 x (G 30 + nI 1)) S98 := hA2.cf
    have hf3 : Cf po [0, 5] S S98 := (hf1.up (by decide)).tr ((fw.up (by decide)).tr (hf2.up (by decide)))
    have hN2 := hNw.kp hf2 (by decide)
    have hC2 := hC.kp hG hf3 (by decide)
    rw [ei] at hP2
    have hpk : sK S98 (Pp p) = 7 := by rw [hf2.k (show sK S1 (Pp p) ≠ 0 by rw [hq.1.1]; decide)]; exact hq.1.1
    have hpr : sR S98 601 (Pp p) = some (T t2) := (hA2.2.2.2.1 601 (Pp p) (by omega)).trans q1
    refine r_aload_n (pc := 101) C dX9_answer_101 rfl ?_
    refine r_getR (pc := 102) C dX9_answer_102 fx_RX9_50 hN2.1.1 hN2.2.1.2.2.2.1 ?_
    refine r_aload (pc := 105) C dX9_answer_105 rfl ?_
    refine r_getR (pc := 107) C dX9_answer_107 fx_RX9_188 hpk hpr ?_
    refine r_iconst (pc := 110) C (nI 1) dX9_answer_110 rfl ?_
    refine r_callV (pc := 111) C (cg_learn (w := true) (b1 := G 4) (b2 := G 5) hM hn hC2.1 rfl rfl rfl hI ⟨hC2.2.1, hC2.2.2⟩ hd hc) iX2_learn ml_RX9_220 dX9_answer_111 (ci := 3) rfl rfl hC2.1.pG.gk rfl (by decide) rfl (by simp [cv, Value.category, va_rf]) (by omega) (by omega) (fun r111 S111 h111 => ?_)
    obtain ⟨rfl, hC3, hg3⟩ := h111
    dsimp only [Option.toList, List.cons_append, List.nil_append]
    refine r_iconst (pc := 114) C (nI 1) dX9_answer_114 rfl ?_
    refine r_iret (pc := 115) C dX9_answer_115 rfl (by omega) (by omega) ?_
    exact ⟨rfl, hN2.kp (Cf.gr hg3) (by decide), ⟨_, hP2.kp (Cf.gr hg3) (by decide)⟩, hC2.cl hC3 hg3, (hf3.up (by decide)).tr ((Cf.gr hg3).up (by decide))⟩
end Answer3
