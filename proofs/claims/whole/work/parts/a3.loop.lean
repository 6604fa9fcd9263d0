/-! The law: its loop -/
section Loop
variable {l : Launch} {g : GG} {J : JJ} {S : hS} {b L x mo ou mi : Nat} {xs : Nat → Int32}
theorem INV.nx {c : Nat} (hI : INV g S x mo ou c) (hc : c < 64) : INV g S x mo ou (c + 1) := by
  obtain ⟨pe, tp, dg, go, po, ch, T, O, M, F, G, X, n, h, a, k, al, tn, Ls, Pp, hB, hX, hO, ⟨p1, p2, p3, p4⟩, q, r, s, t, ⟨g1, g2, g3, g4, g5, g6, g7, g8, np, g9, g10⟩, f⟩ := hI
  exact ⟨pe, tp, dg, go, po, ch, T, O, M, F, G, X, n, h, a, k, al, tn, Ls, Pp, hB, hX, hO, ⟨p1, p2, by omega, by omega⟩, q, r, s, t, ⟨g1, g2, g3, g4, g5, g6, g7, g8, np, g9, by omega⟩, f⟩
theorem INV.ou' {c : Nat} (hI : INV g S x mo ou c) : OU S ou := by
  obtain ⟨pe, tp, dg, go, po, ch, T, O, M, F, G, X, n, h, a, k, al, tn, Ls, Pp, hB, hX, hO, hV⟩ := hI
  exact hO
theorem INV.kx {c : Nat} (hI : INV g S x mo ou c) : sK S x = 11 ∧ c ≤ 64 := by
  obtain ⟨pe, tp, dg, go, po, ch, T, O, M, F, G, X, n, h, a, k, al, tn, Ls, Pp, hB, hX, hO, hV⟩ := hI
  exact ⟨hB.1.1.1, hV.1.2.2.2⟩
theorem i4 {c : Nat} : nI (5 + 4 * c) + Int32.ofInt 4 = nI (5 + 4 * (c + 1)) := by
  show nI (5 + 4 * c) + nI 4 = _
  rw [nI_add]
  congr 1
theorem gt_L {c : Nat} (hL : L ≤ 261) (h : ¬ 5 + 4 * c + 4 ≤ L) (hc : c ≤ 64) : nI L - nI 4 < nI (5 + 4 * c) := by
  by_cases h4 : 4 ≤ L
  · rw [pk_sub h4]; exact nI_lt (by omega) (by omega)
  · have : L = 0 ∨ L = 1 ∨ L = 2 ∨ L = 3 := by omega
    have h0 : nI L - nI 4 < 0 := by rcases this with rfl | rfl | rfl | rfl <;> decide
    exact Int32.lt_of_lt_of_le h0 (nI_pos' (by omega))
theorem law_loop (C : Cx l g mL_law 600128 7301030 RL (fun _ _ => False) J) (hX : SX g b L xs) (hL : L ≤ 261) (hl : l.stackTraces = false) (hM : MIR g mi) (fin : ∀ S lv kc ns, kc ≤ 600128 → ns ≤ 7301030 → J 1124 lv [vi (nI 1)] S kc ns) : ∀ f c S kc ns, 65 ≤ c + f → INV g S x mo ou c → kc ≤ 100 + 727 * c → ns ≤ 20000 + 70828 * c → J 73 [(0, vr (some b)), (1, vr (some x)), (2, vr (some mo)), (3, vr (some ou)), (4, vi (nI (5 + 4 * c)))] [] S kc ns := by
  intro f
  induction f with
  | zero => intro c S kc ns hf hI _ _; have := hI.kx.2; omega
  | succ f ih =>
    intro c S kc ns hf hI hk hn
    obtain ⟨kx, hc64⟩ := hI.kx
    by_cases hlt : 5 + 4 * c + 4 ≤ L
    · have hc : c < 64 := by omega
      have kn : ∀ mc ms S', mc ≤ 727 → ms ≤ 70828 → INV g S' x mo ou (c + 1) → J 1117 [(0, vr (some b)), (1, vr (some x)), (2, vr (some mo)), (3, vr (some ou)), (4, vi (nI (5 + 4 * c)))] [] S' (kc + mc) (ns + ms) := by
        intro mc ms S' m1 m2 hI'
        refine r_iinc (pc := 1117) C (nI (5 + 4 * (c + 1))) dL_law_1117 rfl i4 (by decide) rfl ?_
        refine r_goto (pc := 1120) (tgt := 73) C dL_law_1120 (by decide) ?_
        exact r_lv C [(0, vr (some b)), (1, vr (some x)), (2, vr (some mo)), (3, vr (some ou)), (4, vi (nI (5 + 4 * (c + 1))))] rfl (ih (c + 1) S' _ _ (by omega) hI' (by omega) (by omega))
      have K89 : ∀ v, v < 32 → J 89 [(0, vr (some b)), (1, vr (some x)), (2, vr (some mo)), (3, vr (some ou)), (4, vi (nI (5 + 4 * c)))] [vi (nI v)] S kc ns := by
        intro v hv
        have h19 : v = 0 ∨ v = 1 ∨ v = 2 ∨ v = 3 ∨ v = 4 ∨ v = 5 ∨ v = 6 ∨ v = 7 ∨ v = 8 ∨ v = 9 ∨ v = 10 ∨ v = 11 ∨ v = 12 ∨ v = 13 ∨ v = 14 ∨ v = 15 ∨ v = 16 ∨ v = 17 ∨ v = 18 ∨ 19 ≤ v := by omega
        rcases h19 with rfl | rfl | rfl | rfl | rfl | rfl | rfl | rfl | rfl | rfl | rfl | rfl | rfl | rfl | rfl | rfl | rfl | rfl | rfl | h19
        · refine r_swIn (pc := 89) C dL_law_89 (tgt := 180) (by decide) (by decide) (off := 91) rfl (by decide) ?_
          exact lc_weigh C hX hL (by omega) kx (st_weigh (p0 := xs (5 + 4 * c + 1)) (p1 := xs (5 + 4 * c + 2)) hI hc) (by omega) (by omega) (fun S' h => kn 0 0 S' (by omega) (by omega) h)
        · refine r_swIn (pc := 89) C dL_law_89 (tgt := 217) (by decide) (by decide) (off := 128) rfl (by decide) ?_
          exact lc_feed C hX hL (by omega) kx (st_feed (p0 := xs (5 + 4 * c + 1)) hI hc) (by omega) (by omega) (fun S' h => kn 0 0 S' (by omega) (by omega) h)
        · refine r_swIn (pc := 89) C dL_law_89 (tgt := 242) (by decide) (by decide) (off := 153) rfl (by decide) ?_
          obtain ⟨mc, ms, m1, m2, hT⟩ := st_take (l := l) (p0 := xs (5 + 4 * c + 1)) hM hl hI hc
          exact lc_take C hX hL (by omega) hT (fun S' h => h.ou') (by omega) (by omega) (fun S' h => kn mc ms S' m1 m2 h)
        · refine r_swIn (pc := 89) C dL_law_89 (tgt := 298) (by decide) (by decide) (off := 209) rfl (by decide) ?_
          exact lc_query C hX hL (by omega) kx (st_query (p0 := xs (5 + 4 * c + 1)) hI hc) (by omega) (by omega) (fun S' h => kn 0 0 S' (by omega) (by omega) h)
        · refine r_swIn (pc := 89) C dL_law_89 (tgt := 323) (by decide) (by decide) (off := 234) rfl (by decide) ?_
          obtain ⟨mc, ms, m1, m2, hT⟩ := st_poll (l := l)  hM hl hI hc
          exact lc_poll C hX hL (by omega) hT (fun S' h => h.ou') (by omega) (by omega) (fun S' h => kn mc ms S' m1 m2 h)
        · refine r_swIn (pc := 89) C dL_law_89 (tgt := 367) (by decide) (by decide) (off := 278) rfl (by decide) ?_
          obtain ⟨mc, ms, m1, m2, hT⟩ := st_sampled (l := l) (p0 := xs (5 + 4 * c + 1)) (p1 := xs (5 + 4 * c + 2)) hl hI hc
          exact lc_sampled C hX hL (by omega) hT (fun S' h => h.ou') (by omega) (by omega) (fun S' h => kn mc ms S' m1 m2 h)
        · refine r_swIn (pc := 89) C dL_law_89 (tgt := 435) (by decide) (by decide) (off := 346) rfl (by decide) ?_
          obtain ⟨mc, ms, m1, m2, hT⟩ := st_answer (l := l) (p0 := xs (5 + 4 * c + 1)) (p1 := xs (5 + 4 * c + 2)) (b := !decide (xs (5 + 4 * c + 3) = 0)) hM hl hI hc
          exact lc_answer C hX hL (by omega) (by simp) hT (fun S' h => h.ou') (by omega) (by omega) (fun S' h => kn mc ms S' m1 m2 h)
        · refine r_swIn (pc := 89) C dL_law_89 (tgt := 531) (by decide) (by decide) (off := 442) rfl (by decide) ?_
          obtain ⟨mc, ms, m1, m2, hT⟩ := st_expire (l := l) (p0 := xs (5 + 4 * c + 1)) hM hI hc
          exact lc_expire C hX hL (by omega) kx hT (by omega) (by omega) (fun S' h => kn mc ms S' m1 m2 h)
        · refine r_swIn (pc := 89) C dL_law_89 (tgt := 556) (by decide) (by decide) (off := 467) rfl (by decide) ?_
          obtain ⟨mc, ms, m1, m2, hT⟩ := st_look (l := l) (p0 := xs (5 + 4 * c + 1)) (p1 := xs (5 + 4 * c + 2)) hl hI hc
          exact lc_look C hX hL (by omega) hT (fun S' h => h.ou') (by omega) (by omega) (fun S' h => kn mc ms S' m1 m2 h)
        · refine r_swIn (pc := 89) C dL_law_89 (tgt := 624) (by decide) (by decide) (off := 535) rfl (by decide) ?_
          obtain ⟨mc, ms, m1, m2, hT⟩ := st_set (l := l) (p0 := xs (5 + 4 * c + 1)) (p1 := xs (5 + 4 * c + 2)) (p2 := xs (5 + 4 * c + 3)) hl hI hc
          exact lc_set C hX hL (by omega) hT (fun S' h => h.ou') (by omega) (by omega) (fun S' h => kn mc ms S' m1 m2 h)
        · refine r_swIn (pc := 89) C dL_law_89 (tgt := 704) (by decide) (by decide) (off := 615) rfl (by decide) ?_
          exact lc_byteOf C hX hL (by omega) kx (st_byteOf (p0 := xs (5 + 4 * c + 1)) (p1 := xs (5 + 4 * c + 2)) hI hc) (by omega) (by omega) (fun S' h => kn 0 0 S' (by omega) (by omega) h)
        · refine r_swIn (pc := 89) C dL_law_89 (tgt := 741) (by decide) (by decide) (off := 652) rfl (by decide) ?_
          exact lc_listed C hX hL (by omega) kx (st_listed (p0 := xs (5 + 4 * c + 1)) (p1 := xs (5 + 4 * c + 2)) hI hc) (by omega) (by omega) (fun S' h => kn 0 0 S' (by omega) (by omega) h)
        · refine r_swIn (pc := 89) C dL_law_89 (tgt := 778) (by decide) (by decide) (off := 689) rfl (by decide) ?_
          exact lc_unspent C hX hL (by omega) kx (st_unspent (p0 := xs (5 + 4 * c + 1)) (p1 := xs (5 + 4 * c + 2)) hI hc) (by omega) (by omega) (fun S' h => kn 0 0 S' (by omega) (by omega) h)
        · refine r_swIn (pc := 89) C dL_law_89 (tgt := 815) (by decide) (by decide) (off := 726) rfl (by decide) ?_
          obtain ⟨mc, ms, m1, m2, hT⟩ := st_begin (l := l) (p0 := xs (5 + 4 * c + 1)) (p1 := xs (5 + 4 * c + 2)) (p2 := xs (5 + 4 * c + 3)) hI hc
          exact lc_begin C hX hL (by omega) kx hT (by omega) (by omega) (fun S' h => kn mc ms S' m1 m2 h)
        · refine r_swIn (pc := 89) C dL_law_89 (tgt := 864) (by decide) (by decide) (off := 775) rfl (by decide) ?_
          obtain ⟨mc, ms, m1, m2, hT⟩ := st_meet (l := l) (p0 := xs (5 + 4 * c + 1)) (p1 := xs (5 + 4 * c + 2)) hl hI hc
          exact lc_meet C hX hL (by omega) hT (fun S' h => h.ou') (by omega) (by omega) (fun S' h => kn mc ms S' m1 m2 h)
        · refine r_swIn (pc := 89) C dL_law_89 (tgt := 932) (by decide) (by decide) (off := 843) rfl (by decide) ?_
          obtain ⟨mc, ms, m1, m2, hT⟩ := st_votes (l := l) (p0 := xs (5 + 4 * c + 1)) (p1 := xs (5 + 4 * c + 2)) (p2 := xs (5 + 4 * c + 3)) hl hI hc
          exact lc_votes C hX hL (by omega) hT (by omega) (by omega) (fun S' h => kn mc ms S' m1 m2 h)
        · refine r_swIn (pc := 89) C dL_law_89 (tgt := 992) (by decide) (by decide) (off := 903) rfl (by decide) ?_
          obtain ⟨mc, ms, m1, m2, hT⟩ := st_round (l := l) (p0 := xs (5 + 4 * c + 1)) hl hI hc
          exact lc_round C hX hL (by omega) hT (fun S' h => h.ou') (by omega) (by omega) (fun S' h => kn mc ms S' m1 m2 h)
        · refine r_swIn (pc := 89) C dL_law_89 (tgt := 1055) (by decide) (by decide) (off := 966) rfl (by decide) ?_
          exact lc_state C hX hL (by omega) kx (st_state (p0 := xs (5 + 4 * c + 1)) (p1 := xs (5 + 4 * c + 2)) hI hc) (by omega) (by omega) (fun S' h => kn 0 0 S' (by omega) (by omega) h)
        · refine r_swIn (pc := 89) C dL_law_89 (tgt := 1092) (by decide) (by decide) (off := 1003) rfl (by decide) ?_
          exact lc_count C hX hL (by omega) kx (st_count (p0 := xs (5 + 4 * c + 1)) hI hc) (by omega) (by omega) (fun S' h => kn 0 0 S' (by omega) (by omega) h)
        · refine r_swOut (pc := 89) C dL_law_89 (tgt := 1117) (sw_out (k := 18) (by omega) (Or.inr (nI_le h19 (by omega)))) (by decide) ?_
          exact kn 0 0 S (by omega) (by omega) (hI.nx hc)
      refine r_iload (pc := 73) C dL_law_73 rfl ?_
      refine r_aload_n (pc := 75) C dL_law_75 rfl ?_
      refine r_slen (pc := 76) C hX dL_law_76 ?_
      refine r_iconst (pc := 77) C (nI 4) dL_law_77 rfl ?_
      refine r_isub (pc := 78) C dL_law_78 ?_
      rw [pk_sub (by omega)]
      refine r_icmp_gt (pc := 79) (tgt := 1123) C dL_law_79 (by decide) (fun c79 => ?_) (fun c79 => ?_)
      · exact absurd c79 (nI_nlt (by omega) (by omega))
      · refine r_aload_n (pc := 82) C dL_law_82 rfl ?_
        refine r_iload (pc := 83) C dL_law_83 rfl ?_
        refine r_sld (pc := 85) C hX dL_law_85 (vp_in_nI (by omega) (by omega)) (nI_clamp (by omega)) ?_
        refine r_bipush (pc := 86) C (nI 31) dL_law_86 rfl ?_
        refine r_iand (pc := 88) C dL_law_88 ?_
        rw [pk_and _ 5 (by decide)]
        exact K89 _ (Nat.mod_lt _ (by decide))
    · refine r_iload (pc := 73) C dL_law_73 rfl ?_
      refine r_aload_n (pc := 75) C dL_law_75 rfl ?_
      refine r_slen (pc := 76) C hX dL_law_76 ?_
      refine r_iconst (pc := 77) C (nI 4) dL_law_77 rfl ?_
      refine r_isub (pc := 78) C dL_law_78 ?_
      refine r_icmp_gt (pc := 79) (tgt := 1123) C dL_law_79 (by decide) (fun c79 => ?_) (fun c79 => ?_)
      · refine r_iconst (pc := 1123) C (nI 1) dL_law_1123 rfl ?_
        exact fin _ _ _ _ (by omega) (by omega)
      · exact absurd (gt_L hL hlt hc64) c79
end Loop
