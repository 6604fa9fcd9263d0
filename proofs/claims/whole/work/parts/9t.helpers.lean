/-! The law's helpers -/
theorem cst_a : Cond.castable Ea Ea ∈ lw_tbl := List.mem_append_right _ (List.mem_of_getElem? (i := 657) (by decide +kernel))
theorem cst_s : Cond.castable Es Es ∈ lw_tbl := List.mem_append_right _ (List.mem_of_getElem? (i := 807) (by decide +kernel))
theorem cst_n : Cond.castable En En ∈ lw_tbl := List.mem_append_right _ (List.mem_of_getElem? (i := 891) (by decide +kernel))
theorem cst_i : Cond.castable Ei Ei ∈ lw_tbl := List.mem_append_right _ (List.mem_of_getElem? (i := 967) (by decide +kernel))
theorem nc_sa : Cond.not (.castable Es Ea) ∈ flatC (Jvm.Cond.and given_1 narrow_1) := by decide +kernel
theorem nc_sn : Cond.not (.castable Es En) ∈ flatC (Jvm.Cond.and given_1 narrow_1) := by decide +kernel
section Helpers
variable {l : Launch} {g : GG} {S : hS} {x ou mc ms : Nat} {p0 p1 p2 v : Int32} {P : hS → Prop} {b : Bool}
def hhL_take : HT := [(0, 9, 12, 13), (0, 9, 15, 15)]
def mL_take : MD := (yL_take, cL_take, 4, (some .int), 14, 346)
theorem iL_take : MSH mL_take hhL_take 3 := ⟨wd_at 647 (by decide +kernel) rfl, wd_at 0 (by decide +kernel) rfl, wd_at 648 (by decide +kernel) rfl, by decide +kernel, by decide +kernel, by decide +kernel⟩
theorem ml_RL_72 : Cond.methodLink RL 72 mL_take.y ∈ Wd := wd_at 646 (by decide +kernel) rfl
theorem hL_take (kx : sK S x = 11) (h : Sp l g mX9_take mc ms [vr (some x), vi p0] S (fun r S' => r = some (vi v) ∧ P S')) (ko : ∀ S', P S' → sK S' ou = 81 ∧ sN S' ou = 1) : SpH l g mL_take hhL_take mc ms [vr (some x), vi p0, vr (some ou)] S (fun r S' => r = some (vi (nI 0)) ∧ ∃ S1, P S1 ∧ S' = putJ S1 81 ou (vp_updL (aJ S1 81 ou) 0 v.toInt64)) := by
  refine SpH.start (own := RL) [(0, vr (some x)), (1, vi p0), (2, vr (some ou))] (by decide +kernel) rfl rfl (Nat.le_of_ble_eq_true rfl) ?_
  intro J CH
  have C := CH.cx
  refine r_aload_n (pc := 0) C dL_take_0 rfl ?_
  refine r_iconst (pc := 1) C (nI 0) dL_take_1 rfl ?_
  refine r_aload_n (pc := 2) C dL_take_2 rfl ?_
  refine r_iload_n (pc := 3) C dL_take_3 rfl ?_
  refine r_callV (pc := 4) C (h) iX9_take ml_RL_7 dL_take_4 (ci := 10) rfl rfl kx rfl (by decide) rfl (by simp [cv, Value.category, va_rf]) (by omega) (by omega) (fun r4 S4 h4 => ?_)
  obtain ⟨rfl, hp⟩ := h4
  dsimp only [Option.toList, List.cons_append, List.nil_append]
  refine r_i2l (pc := 7) C dL_take_7 ?_
  refine r_last (pc := 8) C dL_take_8 (ko _ hp).1 (by decide) (ko _ hp).2 (vp_in_nI (by omega) (by omega)) (nI_clamp (by omega)) ?_
  refine r_goto (pc := 9) (tgt := 18) C dL_take_9 (by decide) ?_
  refine r_iconst (pc := 18) C (nI 0) dL_take_18 rfl ?_
  refine r_iret (pc := 19) C dL_take_19 rfl (by omega) (by omega) ?_
  exact ⟨rfl, _, hp, rfl⟩
theorem hL_take_a (kx : sK S x = 11) (h : SpT l g mX9_take mc ms [vr (some x), vi p0] S Ea P) : SpH l g mL_take hhL_take mc ms [vr (some x), vi p0, vr (some ou)] S (fun r S' => r = some (vi (nI 1)) ∧ P S') := by
  refine SpH.start (own := RL) [(0, vr (some x)), (1, vi p0), (2, vr (some ou))] (by decide +kernel) rfl rfl (Nat.le_of_ble_eq_true rfl) ?_
  intro J CH
  have C := CH.cx
  refine r_aload_n (pc := 0) C dL_take_0 rfl ?_
  refine r_iconst (pc := 1) C (nI 0) dL_take_1 rfl ?_
  refine r_aload_n (pc := 2) C dL_take_2 rfl ?_
  refine r_iload_n (pc := 3) C dL_take_3 rfl ?_
  refine r_callVT (pc := 4) CH (n := 1) (idx := 7) (ci := 10) (As := [vi p0]) (st := [vi (nI 0), vr (some ou)]) h iX9_take ml_RL_7 dL_take_4 rfl rfl kx rfl ⟨by decide, by decide⟩ rfl (by simp [cv, Value.category, va_rf]) (by omega) (by omega) [] (0, 9, 12, 13) [(0, 9, 15, 15)] rfl (fun z hz => by cases hz) ⟨by decide, by decide⟩ (by decide) kl_RL_13 cst_a (fun q S' hp => ?_)
  refine r_astore_n (pc := 12) C dL_take_12 (by decide) rfl ?_
  refine r_iconst (pc := 13) C (nI 1) dL_take_13 rfl ?_
  refine r_iret (pc := 14) C dL_take_14 rfl (by omega) (by omega) ?_
  exact ⟨rfl, hp⟩
theorem hL_take_s (kx : sK S x = 11) (h : SpT l g mX9_take mc ms [vr (some x), vi p0] S Es P) : SpH l g mL_take hhL_take mc ms [vr (some x), vi p0, vr (some ou)] S (fun r S' => r = some (vi (nI 2)) ∧ P S') := by
  refine SpH.start (own := RL) [(0, vr (some x)), (1, vi p0), (2, vr (some ou))] (by decide +kernel) rfl rfl (Nat.le_of_ble_eq_true rfl) ?_
  intro J CH
  have C := CH.cx
  refine r_aload_n (pc := 0) C dL_take_0 rfl ?_
  refine r_iconst (pc := 1) C (nI 0) dL_take_1 rfl ?_
  refine r_aload_n (pc := 2) C dL_take_2 rfl ?_
  refine r_iload_n (pc := 3) C dL_take_3 rfl ?_
  refine r_callVT (pc := 4) CH (n := 1) (idx := 7) (ci := 10) (As := [vi p0]) (st := [vi (nI 0), vr (some ou)]) h iX9_take ml_RL_7 dL_take_4 rfl rfl kx rfl ⟨by decide, by decide⟩ rfl (by simp [cv, Value.category, va_rf]) (by omega) (by omega) [(0, 9, 12, 13)] (0, 9, 15, 15) [] rfl (fun z hz => by rw [List.mem_singleton.mp hz]; exact ⟨⟨by decide, by decide⟩, by decide, Ea, kl_RL_13, nc_sa⟩) ⟨by decide, by decide⟩ (by decide) kl_RL_15 cst_s (fun q S' hp => ?_)
  refine r_astore_n (pc := 15) C dL_take_15 (by decide) rfl ?_
  refine r_iconst (pc := 16) C (nI 2) dL_take_16 rfl ?_
  refine r_iret (pc := 17) C dL_take_17 rfl (by omega) (by omega) ?_
  exact ⟨rfl, hp⟩
def hhL_poll : HT := [(0, 8, 11, 21), (0, 8, 14, 15)]
def mL_poll : MD := (yL_poll, cL_poll, 3, (some .int), 9, 234)
theorem iL_poll : MSH mL_poll hhL_poll 2 := ⟨wd_at 878 (by decide +kernel) rfl, wd_at 0 (by decide +kernel) rfl, wd_at 879 (by decide +kernel) rfl, by decide +kernel, by decide +kernel, by decide +kernel⟩
theorem ml_RL_83 : Cond.methodLink RL 83 mL_poll.y ∈ Wd := wd_at 877 (by decide +kernel) rfl
theorem hL_poll (kx : sK S x = 11) (h : Sp l g mX9_poll mc ms [vr (some x)] S (fun r S' => r = some (vi v) ∧ P S')) (ko : ∀ S', P S' → sK S' ou = 81 ∧ sN S' ou = 1) : SpH l g mL_poll hhL_poll mc ms [vr (some x), vr (some ou)] S (fun r S' => r = some (vi (nI 0)) ∧ ∃ S1, P S1 ∧ S' = putJ S1 81 ou (vp_updL (aJ S1 81 ou) 0 v.toInt64)) := by
  refine SpH.start (own := RL) [(0, vr (some x)), (1, vr (some ou))] (by decide +kernel) rfl rfl (Nat.le_of_ble_eq_true rfl) ?_
  intro J CH
  have C := CH.cx
  refine r_aload_n (pc := 0) C dL_poll_0 rfl ?_
  refine r_iconst (pc := 1) C (nI 0) dL_poll_1 rfl ?_
  refine r_aload_n (pc := 2) C dL_poll_2 rfl ?_
  refine r_callV (pc := 3) C (h) iX9_poll ml_RL_17 dL_poll_3 (ci := 10) rfl rfl kx rfl (by decide) rfl (by simp [cv, Value.category, va_rf]) (by omega) (by omega) (fun r3 S3 h3 => ?_)
  obtain ⟨rfl, hp⟩ := h3
  dsimp only [Option.toList, List.cons_append, List.nil_append]
  refine r_i2l (pc := 6) C dL_poll_6 ?_
  refine r_last (pc := 7) C dL_poll_7 (ko _ hp).1 (by decide) (ko _ hp).2 (vp_in_nI (by omega) (by omega)) (nI_clamp (by omega)) ?_
  refine r_goto (pc := 8) (tgt := 17) C dL_poll_8 (by decide) ?_
  refine r_iconst (pc := 17) C (nI 0) dL_poll_17 rfl ?_
  refine r_iret (pc := 18) C dL_poll_18 rfl (by omega) (by omega) ?_
  exact ⟨rfl, _, hp, rfl⟩
theorem hL_poll_n (kx : sK S x = 11) (h : SpT l g mX9_poll mc ms [vr (some x)] S En P) : SpH l g mL_poll hhL_poll mc ms [vr (some x), vr (some ou)] S (fun r S' => r = some (vi (nI 1)) ∧ P S') := by
  refine SpH.start (own := RL) [(0, vr (some x)), (1, vr (some ou))] (by decide +kernel) rfl rfl (Nat.le_of_ble_eq_true rfl) ?_
  intro J CH
  have C := CH.cx
  refine r_aload_n (pc := 0) C dL_poll_0 rfl ?_
  refine r_iconst (pc := 1) C (nI 0) dL_poll_1 rfl ?_
  refine r_aload_n (pc := 2) C dL_poll_2 rfl ?_
  refine r_callVT (pc := 3) CH (n := 0) (idx := 17) (ci := 10) (As := []) (st := [vi (nI 0), vr (some ou)]) h iX9_poll ml_RL_17 dL_poll_3 rfl rfl kx rfl ⟨by decide, by decide⟩ rfl (by simp [cv, Value.category, va_rf]) (by omega) (by omega) [] (0, 8, 11, 21) [(0, 8, 14, 15)] rfl (fun z hz => by cases hz) ⟨by decide, by decide⟩ (by decide) kl_RL_21 cst_n (fun q S' hp => ?_)
  refine r_astore_n (pc := 11) C dL_poll_11 (by decide) rfl ?_
  refine r_iconst (pc := 12) C (nI 1) dL_poll_12 rfl ?_
  refine r_iret (pc := 13) C dL_poll_13 rfl (by omega) (by omega) ?_
  exact ⟨rfl, hp⟩
theorem hL_poll_s (kx : sK S x = 11) (h : SpT l g mX9_poll mc ms [vr (some x)] S Es P) : SpH l g mL_poll hhL_poll mc ms [vr (some x), vr (some ou)] S (fun r S' => r = some (vi (nI 2)) ∧ P S') := by
  refine SpH.start (own := RL) [(0, vr (some x)), (1, vr (some ou))] (by decide +kernel) rfl rfl (Nat.le_of_ble_eq_true rfl) ?_
  intro J CH
  have C := CH.cx
  refine r_aload_n (pc := 0) C dL_poll_0 rfl ?_
  refine r_iconst (pc := 1) C (nI 0) dL_poll_1 rfl ?_
  refine r_aload_n (pc := 2) C dL_poll_2 rfl ?_
  refine r_callVT (pc := 3) CH (n := 0) (idx := 17) (ci := 10) (As := []) (st := [vi (nI 0), vr (some ou)]) h iX9_poll ml_RL_17 dL_poll_3 rfl rfl kx rfl ⟨by decide, by decide⟩ rfl (by simp [cv, Value.category, va_rf]) (by omega) (by omega) [(0, 8, 11, 21)] (0, 8, 14, 15) [] rfl (fun z hz => by rw [List.mem_singleton.mp hz]; exact ⟨⟨by decide, by decide⟩, by decide, En, kl_RL_21, nc_sn⟩) ⟨by decide, by decide⟩ (by decide) kl_RL_15 cst_s (fun q S' hp => ?_)
  refine r_astore_n (pc := 14) C dL_poll_14 (by decide) rfl ?_
  refine r_iconst (pc := 15) C (nI 2) dL_poll_15 rfl ?_
  refine r_iret (pc := 16) C dL_poll_16 rfl (by omega) (by omega) ?_
  exact ⟨rfl, hp⟩
def hhL_sampled : HT := [(0, 10, 13, 27)]
def mL_sampled : MD := (yL_sampled, cL_sampled, 5, (some .int), 7, 169)
theorem iL_sampled : MSH mL_sampled hhL_sampled 4 := ⟨wd_at 958 (by decide +kernel) rfl, wd_at 0 (by decide +kernel) rfl, wd_at 959 (by decide +kernel) rfl, by decide +kernel, by decide +kernel, by decide +kernel⟩
theorem ml_RL_87 : Cond.methodLink RL 87 mL_sampled.y ∈ Wd := wd_at 957 (by decide +kernel) rfl
theorem hL_sampled (kx : sK S x = 11) (h : Sp l g mX9_sampled mc ms [vr (some x), vi p0, vi p1] S (fun r S' => r = some (vi v) ∧ P S')) (ko : ∀ S', P S' → sK S' ou = 81 ∧ sN S' ou = 1) : SpH l g mL_sampled hhL_sampled mc ms [vr (some x), vi p0, vi p1, vr (some ou)] S (fun r S' => r = some (vi (nI 0)) ∧ ∃ S1, P S1 ∧ S' = putJ S1 81 ou (vp_updL (aJ S1 81 ou) 0 v.toInt64)) := by
  refine SpH.start (own := RL) [(0, vr (some x)), (1, vi p0), (2, vi p1), (3, vr (some ou))] (by decide +kernel) rfl rfl (Nat.le_of_ble_eq_true rfl) ?_
  intro J CH
  have C := CH.cx
  refine r_aload_n (pc := 0) C dL_sampled_0 rfl ?_
  refine r_iconst (pc := 1) C (nI 0) dL_sampled_1 rfl ?_
  refine r_aload_n (pc := 2) C dL_sampled_2 rfl ?_
  refine r_iload_n (pc := 3) C dL_sampled_3 rfl ?_
  refine r_iload_n (pc := 4) C dL_sampled_4 rfl ?_
  refine r_callV (pc := 5) C (h) iX9_sampled ml_RL_23 dL_sampled_5 (ci := 10) rfl rfl kx rfl (by decide) rfl (by simp [cv, Value.category, va_rf]) (by omega) (by omega) (fun r5 S5 h5 => ?_)
  obtain ⟨rfl, hp⟩ := h5
  dsimp only [Option.toList, List.cons_append, List.nil_append]
  refine r_i2l (pc := 8) C dL_sampled_8 ?_
  refine r_last (pc := 9) C dL_sampled_9 (ko _ hp).1 (by decide) (ko _ hp).2 (vp_in_nI (by omega) (by omega)) (nI_clamp (by omega)) ?_
  refine r_goto (pc := 10) (tgt := 17) C dL_sampled_10 (by decide) ?_
  refine r_iconst (pc := 17) C (nI 0) dL_sampled_17 rfl ?_
  refine r_iret (pc := 18) C dL_sampled_18 rfl (by omega) (by omega) ?_
  exact ⟨rfl, _, hp, rfl⟩
theorem hL_sampled_i (kx : sK S x = 11) (h : SpT l g mX9_sampled mc ms [vr (some x), vi p0, vi p1] S Ei P) : SpH l g mL_sampled hhL_sampled mc ms [vr (some x), vi p0, vi p1, vr (some ou)] S (fun r S' => r = some (vi (nI 1)) ∧ P S') := by
  refine SpH.start (own := RL) [(0, vr (some x)), (1, vi p0), (2, vi p1), (3, vr (some ou))] (by decide +kernel) rfl rfl (Nat.le_of_ble_eq_true rfl) ?_
  intro J CH
  have C := CH.cx
  refine r_aload_n (pc := 0) C dL_sampled_0 rfl ?_
  refine r_iconst (pc := 1) C (nI 0) dL_sampled_1 rfl ?_
  refine r_aload_n (pc := 2) C dL_sampled_2 rfl ?_
  refine r_iload_n (pc := 3) C dL_sampled_3 rfl ?_
  refine r_iload_n (pc := 4) C dL_sampled_4 rfl ?_
  refine r_callVT (pc := 5) CH (n := 2) (idx := 23) (ci := 10) (As := [vi p0, vi p1]) (st := [vi (nI 0), vr (some ou)]) h iX9_sampled ml_RL_23 dL_sampled_5 rfl rfl kx rfl ⟨by decide, by decide⟩ rfl (by simp [cv, Value.category, va_rf]) (by omega) (by omega) [] (0, 10, 13, 27) [] rfl (fun z hz => by cases hz) ⟨by decide, by decide⟩ (by decide) kl_RL_27 cst_i (fun q S' hp => ?_)
  refine r_astore (pc := 13) C dL_sampled_13 (by decide) rfl ?_
  refine r_iconst (pc := 15) C (nI 1) dL_sampled_15 rfl ?_
  refine r_iret (pc := 16) C dL_sampled_16 rfl (by omega) (by omega) ?_
  exact ⟨rfl, hp⟩
def hhL_answer : HT := [(0, 12, 15, 13), (0, 12, 19, 15)]
def mL_answer : MD := (yL_answer, cL_answer, 6, (some .int), 12, 306)
theorem iL_answer : MSH mL_answer hhL_answer 5 := ⟨wd_at 983 (by decide +kernel) rfl, wd_at 0 (by decide +kernel) rfl, wd_at 984 (by decide +kernel) rfl, by decide +kernel, by decide +kernel, by decide +kernel⟩
theorem ml_RL_91 : Cond.methodLink RL 91 mL_answer.y ∈ Wd := wd_at 982 (by decide +kernel) rfl
theorem hL_answer (kx : sK S x = 11) (h : Sp l g mX9_answer mc ms [vr (some x), vi p0, vi p1, vi p2] S (fun r S' => r = some (vi v) ∧ P S')) (ko : ∀ S', P S' → sK S' ou = 81 ∧ sN S' ou = 1) : SpH l g mL_answer hhL_answer mc ms [vr (some x), vi p0, vi p1, vi p2, vr (some ou)] S (fun r S' => r = some (vi (nI 0)) ∧ ∃ S1, P S1 ∧ S' = putJ S1 81 ou (vp_updL (aJ S1 81 ou) 0 v.toInt64)) := by
  refine SpH.start (own := RL) [(0, vr (some x)), (1, vi p0), (2, vi p1), (3, vi p2), (4, vr (some ou))] (by decide +kernel) rfl rfl (Nat.le_of_ble_eq_true rfl) ?_
  intro J CH
  have C := CH.cx
  refine r_aload (pc := 0) C dL_answer_0 rfl ?_
  refine r_iconst (pc := 2) C (nI 0) dL_answer_2 rfl ?_
  refine r_aload_n (pc := 3) C dL_answer_3 rfl ?_
  refine r_iload_n (pc := 4) C dL_answer_4 rfl ?_
  refine r_iload_n (pc := 5) C dL_answer_5 rfl ?_
  refine r_iload_n (pc := 6) C dL_answer_6 rfl ?_
  refine r_callV (pc := 7) C (h) iX9_answer ml_RL_29 dL_answer_7 (ci := 10) rfl rfl kx rfl (by decide) rfl (by simp [cv, Value.category, va_rf]) (by omega) (by omega) (fun r7 S7 h7 => ?_)
  obtain ⟨rfl, hp⟩ := h7
  dsimp only [Option.toList, List.cons_append, List.nil_append]
  refine r_i2l (pc := 10) C dL_answer_10 ?_
  refine r_last (pc := 11) C dL_answer_11 (ko _ hp).1 (by decide) (ko _ hp).2 (vp_in_nI (by omega) (by omega)) (nI_clamp (by omega)) ?_
  refine r_goto (pc := 12) (tgt := 23) C dL_answer_12 (by decide) ?_
  refine r_iconst (pc := 23) C (nI 0) dL_answer_23 rfl ?_
  refine r_iret (pc := 24) C dL_answer_24 rfl (by omega) (by omega) ?_
  exact ⟨rfl, _, hp, rfl⟩
theorem hL_answer_a (kx : sK S x = 11) (h : SpT l g mX9_answer mc ms [vr (some x), vi p0, vi p1, vi p2] S Ea P) : SpH l g mL_answer hhL_answer mc ms [vr (some x), vi p0, vi p1, vi p2, vr (some ou)] S (fun r S' => r = some (vi (nI 1)) ∧ P S') := by
  refine SpH.start (own := RL) [(0, vr (some x)), (1, vi p0), (2, vi p1), (3, vi p2), (4, vr (some ou))] (by decide +kernel) rfl rfl (Nat.le_of_ble_eq_true rfl) ?_
  intro J CH
  have C := CH.cx
  refine r_aload (pc := 0) C dL_answer_0 rfl ?_
  refine r_iconst (pc := 2) C (nI 0) dL_answer_2 rfl ?_
  refine r_aload_n (pc := 3) C dL_answer_3 rfl ?_
  refine r_iload_n (pc := 4) C dL_answer_4 rfl ?_
  refine r_iload_n (pc := 5) C dL_answer_5 rfl ?_
  refine r_iload_n (pc := 6) C dL_answer_6 rfl ?_
  refine r_callVT (pc := 7) CH (n := 3) (idx := 29) (ci := 10) (As := [vi p0, vi p1, vi p2]) (st := [vi (nI 0), vr (some ou)]) h iX9_answer ml_RL_29 dL_answer_7 rfl rfl kx rfl ⟨by decide, by decide⟩ rfl (by simp [cv, Value.category, va_rf]) (by omega) (by omega) [] (0, 12, 15, 13) [(0, 12, 19, 15)] rfl (fun z hz => by cases hz) ⟨by decide, by decide⟩ (by decide) kl_RL_13 cst_a (fun q S' hp => ?_)
  refine r_astore (pc := 15) C dL_answer_15 (by decide) rfl ?_
  refine r_iconst (pc := 17) C (nI 1) dL_answer_17 rfl ?_
  refine r_iret (pc := 18) C dL_answer_18 rfl (by omega) (by omega) ?_
  exact ⟨rfl, hp⟩
theorem hL_answer_s (kx : sK S x = 11) (h : SpT l g mX9_answer mc ms [vr (some x), vi p0, vi p1, vi p2] S Es P) : SpH l g mL_answer hhL_answer mc ms [vr (some x), vi p0, vi p1, vi p2, vr (some ou)] S (fun r S' => r = some (vi (nI 2)) ∧ P S') := by
  refine SpH.start (own := RL) [(0, vr (some x)), (1, vi p0), (2, vi p1), (3, vi p2), (4, vr (some ou))] (by decide +kernel) rfl rfl (Nat.le_of_ble_eq_true rfl) ?_
  intro J CH
  have C := CH.cx
  refine r_aload (pc := 0) C dL_answer_0 rfl ?_
  refine r_iconst (pc := 2) C (nI 0) dL_answer_2 rfl ?_
  refine r_aload_n (pc := 3) C dL_answer_3 rfl ?_
  refine r_iload_n (pc := 4) C dL_answer_4 rfl ?_
  refine r_iload_n (pc := 5) C dL_answer_5 rfl ?_
  refine r_iload_n (pc := 6) C dL_answer_6 rfl ?_
  refine r_callVT (pc := 7) CH (n := 3) (idx := 29) (ci := 10) (As := [vi p0, vi p1, vi p2]) (st := [vi (nI 0), vr (some ou)]) h iX9_answer ml_RL_29 dL_answer_7 rfl rfl kx rfl ⟨by decide, by decide⟩ rfl (by simp [cv, Value.category, va_rf]) (by omega) (by omega) [(0, 12, 15, 13)] (0, 12, 19, 15) [] rfl (fun z hz => by rw [List.mem_singleton.mp hz]; exact ⟨⟨by decide, by decide⟩, by decide, Ea, kl_RL_13, nc_sa⟩) ⟨by decide, by decide⟩ (by decide) kl_RL_15 cst_s (fun q S' hp => ?_)
  refine r_astore (pc := 19) C dL_answer_19 (by decide) rfl ?_
  refine r_iconst (pc := 21) C (nI 2) dL_answer_21 rfl ?_
  refine r_iret (pc := 22) C dL_answer_22 rfl (by omega) (by omega) ?_
  exact ⟨rfl, hp⟩
def hhL_look : HT := [(0, 10, 13, 27)]
def mL_look : MD := (yL_look, cL_look, 5, (some .int), 7, 170)
theorem iL_look : MSH mL_look hhL_look 4 := ⟨wd_at 1000 (by decide +kernel) rfl, wd_at 0 (by decide +kernel) rfl, wd_at 1001 (by decide +kernel) rfl, by decide +kernel, by decide +kernel, by decide +kernel⟩
theorem ml_RL_99 : Cond.methodLink RL 99 mL_look.y ∈ Wd := wd_at 999 (by decide +kernel) rfl
theorem hL_look (kx : sK S x = 11) (h : Sp l g mX9_look mc ms [vr (some x), vi p0, vi p1] S (fun r S' => r = some (vi v) ∧ P S')) (ko : ∀ S', P S' → sK S' ou = 81 ∧ sN S' ou = 1) : SpH l g mL_look hhL_look mc ms [vr (some x), vi p0, vi p1, vr (some ou)] S (fun r S' => r = some (vi (nI 0)) ∧ ∃ S1, P S1 ∧ S' = putJ S1 81 ou (vp_updL (aJ S1 81 ou) 0 v.toInt64)) := by
  refine SpH.start (own := RL) [(0, vr (some x)), (1, vi p0), (2, vi p1), (3, vr (some ou))] (by decide +kernel) rfl rfl (Nat.le_of_ble_eq_true rfl) ?_
  intro J CH
  have C := CH.cx
  refine r_aload_n (pc := 0) C dL_look_0 rfl ?_
  refine r_iconst (pc := 1) C (nI 0) dL_look_1 rfl ?_
  refine r_aload_n (pc := 2) C dL_look_2 rfl ?_
  refine r_iload_n (pc := 3) C dL_look_3 rfl ?_
  refine r_iload_n (pc := 4) C dL_look_4 rfl ?_
  refine r_callV (pc := 5) C (h) iX9_look ml_RL_33 dL_look_5 (ci := 10) rfl rfl kx rfl (by decide) rfl (by simp [cv, Value.category, va_rf]) (by omega) (by omega) (fun r5 S5 h5 => ?_)
  obtain ⟨rfl, hp⟩ := h5
  dsimp only [Option.toList, List.cons_append, List.nil_append]
  refine r_i2l (pc := 8) C dL_look_8 ?_
  refine r_last (pc := 9) C dL_look_9 (ko _ hp).1 (by decide) (ko _ hp).2 (vp_in_nI (by omega) (by omega)) (nI_clamp (by omega)) ?_
  refine r_goto (pc := 10) (tgt := 17) C dL_look_10 (by decide) ?_
  refine r_iconst (pc := 17) C (nI 0) dL_look_17 rfl ?_
  refine r_iret (pc := 18) C dL_look_18 rfl (by omega) (by omega) ?_
  exact ⟨rfl, _, hp, rfl⟩
theorem hL_look_i (kx : sK S x = 11) (h : SpT l g mX9_look mc ms [vr (some x), vi p0, vi p1] S Ei P) : SpH l g mL_look hhL_look mc ms [vr (some x), vi p0, vi p1, vr (some ou)] S (fun r S' => r = some (vi (nI 1)) ∧ P S') := by
  refine SpH.start (own := RL) [(0, vr (some x)), (1, vi p0), (2, vi p1), (3, vr (some ou))] (by decide +kernel) rfl rfl (Nat.le_of_ble_eq_true rfl) ?_
  intro J CH
  have C := CH.cx
  refine r_aload_n (pc := 0) C dL_look_0 rfl ?_
  refine r_iconst (pc := 1) C (nI 0) dL_look_1 rfl ?_
  refine r_aload_n (pc := 2) C dL_look_2 rfl ?_
  refine r_iload_n (pc := 3) C dL_look_3 rfl ?_
  refine r_iload_n (pc := 4) C dL_look_4 rfl ?_
  refine r_callVT (pc := 5) CH (n := 2) (idx := 33) (ci := 10) (As := [vi p0, vi p1]) (st := [vi (nI 0), vr (some ou)]) h iX9_look ml_RL_33 dL_look_5 rfl rfl kx rfl ⟨by decide, by decide⟩ rfl (by simp [cv, Value.category, va_rf]) (by omega) (by omega) [] (0, 10, 13, 27) [] rfl (fun z hz => by cases hz) ⟨by decide, by decide⟩ (by decide) kl_RL_27 cst_i (fun q S' hp => ?_)
  refine r_astore (pc := 13) C dL_look_13 (by decide) rfl ?_
  refine r_iconst (pc := 15) C (nI 1) dL_look_15 rfl ?_
  refine r_iret (pc := 16) C dL_look_16 rfl (by omega) (by omega) ?_
  exact ⟨rfl, hp⟩
def hhL_set : HT := [(0, 12, 15, 27)]
def mL_set : MD := (yL_set, cL_set, 6, (some .int), 7, 171)
theorem iL_set : MSH mL_set hhL_set 5 := ⟨wd_at 1023 (by decide +kernel) rfl, wd_at 0 (by decide +kernel) rfl, wd_at 1024 (by decide +kernel) rfl, by decide +kernel, by decide +kernel, by decide +kernel⟩
theorem ml_RL_102 : Cond.methodLink RL 102 mL_set.y ∈ Wd := wd_at 1022 (by decide +kernel) rfl
theorem hL_set (kx : sK S x = 11) (h : Sp l g mX9_set mc ms [vr (some x), vi p0, vi p1, vi p2] S (fun r S' => r = some (vi v) ∧ P S')) (ko : ∀ S', P S' → sK S' ou = 81 ∧ sN S' ou = 1) : SpH l g mL_set hhL_set mc ms [vr (some x), vi p0, vi p1, vi p2, vr (some ou)] S (fun r S' => r = some (vi (nI 0)) ∧ ∃ S1, P S1 ∧ S' = putJ S1 81 ou (vp_updL (aJ S1 81 ou) 0 v.toInt64)) := by
  refine SpH.start (own := RL) [(0, vr (some x)), (1, vi p0), (2, vi p1), (3, vi p2), (4, vr (some ou))] (by decide +kernel) rfl rfl (Nat.le_of_ble_eq_true rfl) ?_
  intro J CH
  have C := CH.cx
  refine r_aload (pc := 0) C dL_set_0 rfl ?_
  refine r_iconst (pc := 2) C (nI 0) dL_set_2 rfl ?_
  refine r_aload_n (pc := 3) C dL_set_3 rfl ?_
  refine r_iload_n (pc := 4) C dL_set_4 rfl ?_
  refine r_iload_n (pc := 5) C dL_set_5 rfl ?_
  refine r_iload_n (pc := 6) C dL_set_6 rfl ?_
  refine r_callV (pc := 7) C (h) iX9_set ml_RL_36 dL_set_7 (ci := 10) rfl rfl kx rfl (by decide) rfl (by simp [cv, Value.category, va_rf]) (by omega) (by omega) (fun r7 S7 h7 => ?_)
  obtain ⟨rfl, hp⟩ := h7
  dsimp only [Option.toList, List.cons_append, List.nil_append]
  refine r_i2l (pc := 10) C dL_set_10 ?_
  refine r_last (pc := 11) C dL_set_11 (ko _ hp).1 (by decide) (ko _ hp).2 (vp_in_nI (by omega) (by omega)) (nI_clamp (by omega)) ?_
  refine r_goto (pc := 12) (tgt := 19) C dL_set_12 (by decide) ?_
  refine r_iconst (pc := 19) C (nI 0) dL_set_19 rfl ?_
  refine r_iret (pc := 20) C dL_set_20 rfl (by omega) (by omega) ?_
  exact ⟨rfl, _, hp, rfl⟩
theorem hL_set_i (kx : sK S x = 11) (h : SpT l g mX9_set mc ms [vr (some x), vi p0, vi p1, vi p2] S Ei P) : SpH l g mL_set hhL_set mc ms [vr (some x), vi p0, vi p1, vi p2, vr (some ou)] S (fun r S' => r = some (vi (nI 1)) ∧ P S') := by
  refine SpH.start (own := RL) [(0, vr (some x)), (1, vi p0), (2, vi p1), (3, vi p2), (4, vr (some ou))] (by decide +kernel) rfl rfl (Nat.le_of_ble_eq_true rfl) ?_
  intro J CH
  have C := CH.cx
  refine r_aload (pc := 0) C dL_set_0 rfl ?_
  refine r_iconst (pc := 2) C (nI 0) dL_set_2 rfl ?_
  refine r_aload_n (pc := 3) C dL_set_3 rfl ?_
  refine r_iload_n (pc := 4) C dL_set_4 rfl ?_
  refine r_iload_n (pc := 5) C dL_set_5 rfl ?_
  refine r_iload_n (pc := 6) C dL_set_6 rfl ?_
  refine r_callVT (pc := 7) CH (n := 3) (idx := 36) (ci := 10) (As := [vi p0, vi p1, vi p2]) (st := [vi (nI 0), vr (some ou)]) h iX9_set ml_RL_36 dL_set_7 rfl rfl kx rfl ⟨by decide, by decide⟩ rfl (by simp [cv, Value.category, va_rf]) (by omega) (by omega) [] (0, 12, 15, 27) [] rfl (fun z hz => by cases hz) ⟨by decide, by decide⟩ (by decide) kl_RL_27 cst_i (fun q S' hp => ?_)
  refine r_astore (pc := 15) C dL_set_15 (by decide) rfl ?_
  refine r_iconst (pc := 17) C (nI 1) dL_set_17 rfl ?_
  refine r_iret (pc := 18) C dL_set_18 rfl (by omega) (by omega) ?_
  exact ⟨rfl, hp⟩
def hhL_meet : HT := [(0, 10, 13, 13)]
def mL_meet : MD := (yL_meet, cL_meet, 5, (some .int), 7, 123)
theorem iL_meet : MSH mL_meet hhL_meet 4 := ⟨wd_at 1033 (by decide +kernel) rfl, wd_at 0 (by decide +kernel) rfl, wd_at 1034 (by decide +kernel) rfl, by decide +kernel, by decide +kernel, by decide +kernel⟩
theorem ml_RL_123 : Cond.methodLink RL 123 mL_meet.y ∈ Wd := wd_at 1032 (by decide +kernel) rfl
theorem hL_meet (kx : sK S x = 11) (h : Sp l g mX9_meet mc ms [vr (some x), vi p0, vi p1] S (fun r S' => r = some (vi v) ∧ P S')) (ko : ∀ S', P S' → sK S' ou = 81 ∧ sN S' ou = 1) : SpH l g mL_meet hhL_meet mc ms [vr (some x), vi p0, vi p1, vr (some ou)] S (fun r S' => r = some (vi (nI 0)) ∧ ∃ S1, P S1 ∧ S' = putJ S1 81 ou (vp_updL (aJ S1 81 ou) 0 v.toInt64)) := by
  refine SpH.start (own := RL) [(0, vr (some x)), (1, vi p0), (2, vi p1), (3, vr (some ou))] (by decide +kernel) rfl rfl (Nat.le_of_ble_eq_true rfl) ?_
  intro J CH
  have C := CH.cx
  refine r_aload_n (pc := 0) C dL_meet_0 rfl ?_
  refine r_iconst (pc := 1) C (nI 0) dL_meet_1 rfl ?_
  refine r_aload_n (pc := 2) C dL_meet_2 rfl ?_
  refine r_iload_n (pc := 3) C dL_meet_3 rfl ?_
  refine r_iload_n (pc := 4) C dL_meet_4 rfl ?_
  refine r_callV (pc := 5) C (h) iX9_meet ml_RL_40 dL_meet_5 (ci := 10) rfl rfl kx rfl (by decide) rfl (by simp [cv, Value.category, va_rf]) (by omega) (by omega) (fun r5 S5 h5 => ?_)
  obtain ⟨rfl, hp⟩ := h5
  dsimp only [Option.toList, List.cons_append, List.nil_append]
  refine r_i2l (pc := 8) C dL_meet_8 ?_
  refine r_last (pc := 9) C dL_meet_9 (ko _ hp).1 (by decide) (ko _ hp).2 (vp_in_nI (by omega) (by omega)) (nI_clamp (by omega)) ?_
  refine r_goto (pc := 10) (tgt := 17) C dL_meet_10 (by decide) ?_
  refine r_iconst (pc := 17) C (nI 0) dL_meet_17 rfl ?_
  refine r_iret (pc := 18) C dL_meet_18 rfl (by omega) (by omega) ?_
  exact ⟨rfl, _, hp, rfl⟩
theorem hL_meet_a (kx : sK S x = 11) (h : SpT l g mX9_meet mc ms [vr (some x), vi p0, vi p1] S Ea P) : SpH l g mL_meet hhL_meet mc ms [vr (some x), vi p0, vi p1, vr (some ou)] S (fun r S' => r = some (vi (nI 1)) ∧ P S') := by
  refine SpH.start (own := RL) [(0, vr (some x)), (1, vi p0), (2, vi p1), (3, vr (some ou))] (by decide +kernel) rfl rfl (Nat.le_of_ble_eq_true rfl) ?_
  intro J CH
  have C := CH.cx
  refine r_aload_n (pc := 0) C dL_meet_0 rfl ?_
  refine r_iconst (pc := 1) C (nI 0) dL_meet_1 rfl ?_
  refine r_aload_n (pc := 2) C dL_meet_2 rfl ?_
  refine r_iload_n (pc := 3) C dL_meet_3 rfl ?_
  refine r_iload_n (pc := 4) C dL_meet_4 rfl ?_
  refine r_callVT (pc := 5) CH (n := 2) (idx := 40) (ci := 10) (As := [vi p0, vi p1]) (st := [vi (nI 0), vr (some ou)]) h iX9_meet ml_RL_40 dL_meet_5 rfl rfl kx rfl ⟨by decide, by decide⟩ rfl (by simp [cv, Value.category, va_rf]) (by omega) (by omega) [] (0, 10, 13, 13) [] rfl (fun z hz => by cases hz) ⟨by decide, by decide⟩ (by decide) kl_RL_13 cst_a (fun q S' hp => ?_)
  refine r_astore (pc := 13) C dL_meet_13 (by decide) rfl ?_
  refine r_iconst (pc := 15) C (nI 1) dL_meet_15 rfl ?_
  refine r_iret (pc := 16) C dL_meet_16 rfl (by omega) (by omega) ?_
  exact ⟨rfl, hp⟩
def hhL_votes : HT := [(0, 7, 10, 13), (0, 7, 14, 15)]
def mL_votes : MD := (yL_votes, cL_votes, 5, (some .int), 7, 124)
theorem iL_votes : MSH mL_votes hhL_votes 4 := ⟨wd_at 1042 (by decide +kernel) rfl, wd_at 0 (by decide +kernel) rfl, wd_at 1043 (by decide +kernel) rfl, by decide +kernel, by decide +kernel, by decide +kernel⟩
theorem ml_RL_126 : Cond.methodLink RL 126 mL_votes.y ∈ Wd := wd_at 1041 (by decide +kernel) rfl
theorem hL_votes (kx : sK S x = 11) (h : Sp l g mX9_votes mc ms [vr (some x), vi p0, vi p1, vi p2] S (fun r S' => r = none ∧ P S')) : SpH l g mL_votes hhL_votes mc ms [vr (some x), vi p0, vi p1, vi p2] S (fun r S' => r = some (vi (nI 0)) ∧ P S') := by
  refine SpH.start (own := RL) [(0, vr (some x)), (1, vi p0), (2, vi p1), (3, vi p2)] (by decide +kernel) rfl rfl (Nat.le_of_ble_eq_true rfl) ?_
  intro J CH
  have C := CH.cx
  refine r_aload_n (pc := 0) C dL_votes_0 rfl ?_
  refine r_iload_n (pc := 1) C dL_votes_1 rfl ?_
  refine r_iload_n (pc := 2) C dL_votes_2 rfl ?_
  refine r_iload_n (pc := 3) C dL_votes_3 rfl ?_
  refine r_callV (pc := 4) C (h) iX9_votes ml_RL_43 dL_votes_4 (ci := 10) rfl rfl kx rfl (by decide) rfl (by simp [cv, Value.category, va_rf]) (by omega) (by omega) (fun r4 S4 h4 => ?_)
  obtain ⟨rfl, hp⟩ := h4
  dsimp only [Option.toList, List.cons_append, List.nil_append]
  refine r_goto (pc := 7) (tgt := 18) C dL_votes_7 (by decide) ?_
  refine r_iconst (pc := 18) C (nI 0) dL_votes_18 rfl ?_
  refine r_iret (pc := 19) C dL_votes_19 rfl (by omega) (by omega) ?_
  exact ⟨rfl, hp⟩
theorem hL_votes_a (kx : sK S x = 11) (h : SpT l g mX9_votes mc ms [vr (some x), vi p0, vi p1, vi p2] S Ea P) : SpH l g mL_votes hhL_votes mc ms [vr (some x), vi p0, vi p1, vi p2] S (fun r S' => r = some (vi (nI 1)) ∧ P S') := by
  refine SpH.start (own := RL) [(0, vr (some x)), (1, vi p0), (2, vi p1), (3, vi p2)] (by decide +kernel) rfl rfl (Nat.le_of_ble_eq_true rfl) ?_
  intro J CH
  have C := CH.cx
  refine r_aload_n (pc := 0) C dL_votes_0 rfl ?_
  refine r_iload_n (pc := 1) C dL_votes_1 rfl ?_
  refine r_iload_n (pc := 2) C dL_votes_2 rfl ?_
  refine r_iload_n (pc := 3) C dL_votes_3 rfl ?_
  refine r_callVT (pc := 4) CH (n := 3) (idx := 43) (ci := 10) (As := [vi p0, vi p1, vi p2]) (st := []) h iX9_votes ml_RL_43 dL_votes_4 rfl rfl kx rfl ⟨by decide, by decide⟩ rfl (by simp [cv, Value.category, va_rf]) (by omega) (by omega) [] (0, 7, 10, 13) [(0, 7, 14, 15)] rfl (fun z hz => by cases hz) ⟨by decide, by decide⟩ (by decide) kl_RL_13 cst_a (fun q S' hp => ?_)
  refine r_astore (pc := 10) C dL_votes_10 (by decide) rfl ?_
  refine r_iconst (pc := 12) C (nI 1) dL_votes_12 rfl ?_
  refine r_iret (pc := 13) C dL_votes_13 rfl (by omega) (by omega) ?_
  exact ⟨rfl, hp⟩
theorem hL_votes_s (kx : sK S x = 11) (h : SpT l g mX9_votes mc ms [vr (some x), vi p0, vi p1, vi p2] S Es P) : SpH l g mL_votes hhL_votes mc ms [vr (some x), vi p0, vi p1, vi p2] S (fun r S' => r = some (vi (nI 2)) ∧ P S') := by
  refine SpH.start (own := RL) [(0, vr (some x)), (1, vi p0), (2, vi p1), (3, vi p2)] (by decide +kernel) rfl rfl (Nat.le_of_ble_eq_true rfl) ?_
  intro J CH
  have C := CH.cx
  refine r_aload_n (pc := 0) C dL_votes_0 rfl ?_
  refine r_iload_n (pc := 1) C dL_votes_1 rfl ?_
  refine r_iload_n (pc := 2) C dL_votes_2 rfl ?_
  refine r_iload_n (pc := 3) C dL_votes_3 rfl ?_
  refine r_callVT (pc := 4) CH (n := 3) (idx := 43) (ci := 10) (As := [vi p0, vi p1, vi p2]) (st := []) h iX9_votes ml_RL_43 dL_votes_4 rfl rfl kx rfl ⟨by decide, by decide⟩ rfl (by simp [cv, Value.category, va_rf]) (by omega) (by omega) [(0, 7, 10, 13)] (0, 7, 14, 15) [] rfl (fun z hz => by rw [List.mem_singleton.mp hz]; exact ⟨⟨by decide, by decide⟩, by decide, Ea, kl_RL_13, nc_sa⟩) ⟨by decide, by decide⟩ (by decide) kl_RL_15 cst_s (fun q S' hp => ?_)
  refine r_astore (pc := 14) C dL_votes_14 (by decide) rfl ?_
  refine r_iconst (pc := 16) C (nI 2) dL_votes_16 rfl ?_
  refine r_iret (pc := 17) C dL_votes_17 rfl (by omega) (by omega) ?_
  exact ⟨rfl, hp⟩
def hhL_round : HT := [(0, 16, 19, 13)]
def mL_round : MD := (yL_round, cL_round, 4, (some .int), 7, 146)
theorem iL_round : MSH mL_round hhL_round 3 := ⟨wd_at 1056 (by decide +kernel) rfl, wd_at 0 (by decide +kernel) rfl, wd_at 1057 (by decide +kernel) rfl, by decide +kernel, by decide +kernel, by decide +kernel⟩
theorem ml_RL_130 : Cond.methodLink RL 130 mL_round.y ∈ Wd := wd_at 1055 (by decide +kernel) rfl
theorem hL_round (kx : sK S x = 11) (h : Sp l g mX9_round mc ms [vr (some x), vi p0] S (fun r S' => r = some (vi (bi b)) ∧ P S')) (ko : ∀ S', P S' → sK S' ou = 81 ∧ sN S' ou = 1) : SpH l g mL_round hhL_round mc ms [vr (some x), vi p0, vr (some ou)] S (fun r S' => r = some (vi (nI 0)) ∧ ∃ S1, P S1 ∧ S' = putJ S1 81 ou (vp_updL (aJ S1 81 ou) 0 (if b then 1 else 0))) := by
  refine SpH.start (own := RL) [(0, vr (some x)), (1, vi p0), (2, vr (some ou))] (by decide +kernel) rfl rfl (Nat.le_of_ble_eq_true rfl) ?_
  intro J CH
  have C := CH.cx
  refine r_aload_n (pc := 0) C dL_round_0 rfl ?_
  refine r_iconst (pc := 1) C (nI 0) dL_round_1 rfl ?_
  refine r_aload_n (pc := 2) C dL_round_2 rfl ?_
  refine r_iload_n (pc := 3) C dL_round_3 rfl ?_
  refine r_callV (pc := 4) C (h) iX9_round ml_RL_47 dL_round_4 (ci := 10) rfl rfl kx rfl (by decide) rfl (by simp [cv, Value.category, va_rf]) (by omega) (by omega) (fun r4 S4 h4 => ?_)
  obtain ⟨rfl, hp⟩ := h4
  dsimp only [Option.toList, List.cons_append, List.nil_append]
  refine r_if_eq (pc := 7) (tgt := 14) C dL_round_7 (by decide) (fun c7 => ?_) (fun c7 => ?_)
  · have hb : b = false := by rw [bi_0] at c7; exact c7
    refine r_lconst (pc := 14) C (lN 0) dL_round_14 rfl ?_
    refine r_last (pc := 15) C dL_round_15 (ko _ hp).1 (by decide) (ko _ hp).2 (vp_in_nI (by omega) (by omega)) (nI_clamp (by omega)) ?_
    refine r_goto (pc := 16) (tgt := 22) C dL_round_16 (by decide) ?_
    refine r_iconst (pc := 22) C (nI 0) dL_round_22 rfl ?_
    refine r_iret (pc := 23) C dL_round_23 rfl (by omega) (by omega) ?_
    exact ⟨rfl, _, hp, by rw [hb]; rfl⟩
  · have hb : b = true := by rw [bi_0] at c7; exact ts_nf c7
    refine r_lconst (pc := 10) C (lN 1) dL_round_10 rfl ?_
    refine r_goto (pc := 11) (tgt := 15) C dL_round_11 (by decide) ?_
    refine r_last (pc := 15) C dL_round_15 (ko _ hp).1 (by decide) (ko _ hp).2 (vp_in_nI (by omega) (by omega)) (nI_clamp (by omega)) ?_
    refine r_goto (pc := 16) (tgt := 22) C dL_round_16 (by decide) ?_
    refine r_iconst (pc := 22) C (nI 0) dL_round_22 rfl ?_
    refine r_iret (pc := 23) C dL_round_23 rfl (by omega) (by omega) ?_
    exact ⟨rfl, _, hp, by rw [hb]; rfl⟩
theorem hL_round_a (kx : sK S x = 11) (h : SpT l g mX9_round mc ms [vr (some x), vi p0] S Ea P) : SpH l g mL_round hhL_round mc ms [vr (some x), vi p0, vr (some ou)] S (fun r S' => r = some (vi (nI 1)) ∧ P S') := by
  refine SpH.start (own := RL) [(0, vr (some x)), (1, vi p0), (2, vr (some ou))] (by decide +kernel) rfl rfl (Nat.le_of_ble_eq_true rfl) ?_
  intro J CH
  have C := CH.cx
  refine r_aload_n (pc := 0) C dL_round_0 rfl ?_
  refine r_iconst (pc := 1) C (nI 0) dL_round_1 rfl ?_
  refine r_aload_n (pc := 2) C dL_round_2 rfl ?_
  refine r_iload_n (pc := 3) C dL_round_3 rfl ?_
  refine r_callVT (pc := 4) CH (n := 1) (idx := 47) (ci := 10) (As := [vi p0]) (st := [vi (nI 0), vr (some ou)]) h iX9_round ml_RL_47 dL_round_4 rfl rfl kx rfl ⟨by decide, by decide⟩ rfl (by simp [cv, Value.category, va_rf]) (by omega) (by omega) [] (0, 16, 19, 13) [] rfl (fun z hz => by cases hz) ⟨by decide, by decide⟩ (by decide) kl_RL_13 cst_a (fun q S' hp => ?_)
  refine r_astore_n (pc := 19) C dL_round_19 (by decide) rfl ?_
  refine r_iconst (pc := 20) C (nI 1) dL_round_20 rfl ?_
  refine r_iret (pc := 21) C dL_round_21 rfl (by omega) (by omega) ?_
  exact ⟨rfl, hp⟩
end Helpers
