/-! The reference's memory as a whole: arrays F, numbers G, the generator X -/
def rk : Nat → Option Nat := fun r => match r with
  | 20 => some 11
  | 85 => some 14
  | 86 => some 15
  | 87 => some 20
  | 88 => some 21
  | 89 => some 31
  | 90 => some 36
  | 36 => some 6
  | 37 => some 7
  | 40 => some 10
  | 42 => some 12
  | 43 => some 13
  | 46 => some 16
  | 48 => some 18
  | 52 => some 22
  | 53 => some 23
  | 54 => some 24
  | 55 => some 25
  | 56 => some 26
  | 57 => some 27
  | 58 => some 28
  | 62 => some 32
  | 63 => some 33
  | 64 => some 34
  | 65 => some 35
  | 67 => some 37
  | 68 => some 38
  | 69 => some 39
  | 70 => some 40
  | 71 => some 41
  | 72 => some 42
  | 73 => some 43
  | _ => none
def mks : List Nat := marrs.map (fun q => q.1)
theorem rk_mkd : ∀ k ∈ mks, rk (mkd k) = some k := by decide
theorem mkd_rk {r k : Nat} (h : rk r = some k) : mkd k = r ∧ k ∈ mks := by
  unfold rk at h
  split at h <;> first | (cases h; exact ⟨rfl, by decide⟩) | cases h
def mput (S : hS) (mo : Nat) (F : MM) (G : Nat → Int32) (X : Int64) : hS :=
  (S.1, (fun f a => if 1100 ≤ f ∧ a = mo then G (f - 1100) else S.2.1 f a), S.2.2.1, (fun f a => if f = 1101 ∧ a = mo then X else S.2.2.2.1 f a), S.2.2.2.2.1, (fun r a => match rk r with
    | some k => if a = ma S mo k then F k else S.2.2.2.2.2.1 r a
    | none => S.2.2.2.2.2.1 r a), S.2.2.2.2.2.2)
def uk (F : MM) (k : Nat) (f : Nat → Int32) : MM := fun j => if j = k then f else F j
section Mput
variable {S : hS} {mo : Nat} {F F' : MM} {G G' : Nat → Int32} {X X' : Int64}
theorem uk_s {k : Nat} {f : Nat → Int32} : uk F k f k = f := by simp [uk]
theorem uk_n {k j : Nat} {f : Nat → Int32} (h : j ≠ k) : uk F k f j = F j := by simp [uk, h]
theorem uk_uk {k : Nat} {f f' : Nat → Int32} : uk (uk F k f) k f' = uk F k f' := by funext j; simp only [uk]; split <;> rfl
theorem aI_mput {k : Nat} (hk : k ∈ mks) : aI (mput S mo F G X) (mkd k) (ma S mo k) = F k := by
  show (match rk (mkd k) with | some k' => if ma S mo k = ma S mo k' then F k' else S.2.2.2.2.2.1 (mkd k) (ma S mo k) | none => S.2.2.2.2.2.1 (mkd k) (ma S mo k)) = F k
  rw [rk_mkd k hk]
  simp
theorem sI_mput {k : Nat} : sI (mput S mo F G X) (1100 + k) mo = G k := by
  show (if 1100 ≤ 1100 + k ∧ mo = mo then G (1100 + k - 1100) else S.2.1 (1100 + k) mo) = G k
  rw [if_pos ⟨Nat.le_add_right _ _, rfl⟩, Nat.add_sub_cancel_left]
theorem sJ_mput : sJ (mput S mo F G X) 1101 mo = X := by
  show (if 1101 = 1101 ∧ mo = mo then X else S.2.2.2.1 1101 mo) = X
  simp
theorem setI_mput {k : Nat} {v : Int32} : setI (mput S mo F G X) (1100 + k) mo v = mput S mo F (upd G k v) X := by
  unfold setI mput
  simp only [Prod.mk.injEq, true_and, and_true]
  funext f a
  simp only [u2, upd]
  by_cases hf : f = 1100 + k
  · subst hf
    by_cases ha : a = mo
    · subst ha; simp
    · simp [ha]
  · simp only [if_neg hf]
    by_cases hc : 1100 ≤ f ∧ a = mo
    · rw [if_pos hc, if_pos hc, if_neg (by omega)]
    · rw [if_neg hc, if_neg hc]
theorem setJ_mput {v : Int64} : setJ (mput S mo F G X) 1101 mo v = mput S mo F G v := by
  unfold setJ mput
  simp only [Prod.mk.injEq, true_and, and_true]
  funext f a
  simp only [u2]
  by_cases hf : f = 1101
  · subst hf
    by_cases ha : a = mo
    · subst ha; simp
    · simp [ha]
  · simp [hf]
theorem putI_mput {k : Nat} {f : Nat → Int32} (hk : k ∈ mks) : putI (mput S mo F G X) (mkd k) (ma S mo k) f = mput S mo (uk F k f) G X := by
  unfold putI mput
  simp only [Prod.mk.injEq, true_and, and_true]
  funext r a
  simp only [u2r]
  by_cases hr : r = mkd k
  · subst hr
    rw [rk_mkd k hk]
    simp only [if_true]
    by_cases ha : a = ma S mo k
    · simp [ha, uk]
    · simp [ha]
  · rw [if_neg hr]
    cases hq : rk r with
    | none => rfl
    | some j =>
      obtain ⟨e1, e2⟩ := mkd_rk hq
      have : j ≠ k := fun e => hr (by rw [← e1, e])
      simp only [uk, if_neg this]
theorem mput_mput : mput (mput S mo F G X) mo F' G' X' = mput S mo F' G' X' := by
  unfold mput
  simp only [Prod.mk.injEq, true_and, and_true]
  refine ⟨?_, ?_, ?_⟩
  · funext f a
    by_cases hc : 1100 ≤ f ∧ a = mo
    · simp [hc]
    · simp [hc]
  · funext f a
    by_cases hc : f = 1101 ∧ a = mo
    · simp [hc]
    · simp [hc]
  · funext r a
    cases rk r with
    | none => rfl
    | some k =>
      show (if a = ma S mo k then F' k else if a = ma S mo k then F k else S.2.2.2.2.2.1 r a) = (if a = ma S mo k then F' k else S.2.2.2.2.2.1 r a)
      by_cases hc : a = ma S mo k
      · rw [if_pos hc, if_pos hc]
      · rw [if_neg hc, if_neg hc, if_neg hc]
theorem mput_self (h : ∀ k ∈ mks, F k = mI S mo k) : mput S mo F (fun k => sI S (1100 + k) mo) (sJ S 1101 mo) = S := by
  unfold mput
  rcases S with ⟨s1, s2, s3, s4, s5, s6, s7, s8⟩
  simp only [Prod.mk.injEq, true_and, and_true]
  refine ⟨?_, ?_, ?_⟩
  · funext f a
    split
    · next hc =>
      obtain ⟨h1, rfl⟩ := hc
      show s2 (1100 + (f - 1100)) a = s2 f a
      rw [show 1100 + (f - 1100) = f by omega]
    · rfl
  · funext f a
    split
    · next hc => obtain ⟨rfl, rfl⟩ := hc; rfl
    · rfl
  · funext r a
    cases hq : rk r with
    | none => rfl
    | some k =>
      obtain ⟨e1, e2⟩ := mkd_rk hq
      show (if a = _ then F k else s6 r a) = s6 r a
      split
      · next hc => rw [h k e2]; subst hc; rw [← e1]; rfl
      · rfl
theorem MO_mput : MO (mput S mo F G X) mo = MO S mo := rfl
theorem mkS_mput {f : Nat → Int32} : mkS (mput S mo F G X) mo f = mput S mo (uk F 20 f) G X := putI_mput (by decide)
end Mput
/-- the memory has n known ones, h held ones -/
def NH (F : MM) (G : Nat → Int32) (n h : Nat) : Prop := G 9 = nI n ∧ G 17 = nI h ∧ GV F n h
theorem NH.V {S : hS} {mo : Nat} {F : MM} {G : Nat → Int32} {X : Int64} {n h : Nat} (hN : NH F G n h) (hM : MO S mo) : MV (mput S mo F G X) mo F n h := by
  refine ⟨hM, (sI_mput (k := 9)).trans hN.1, (sI_mput (k := 17)).trans hN.2.1, fun k hk => ?_, hN.2.2⟩
  exact aI_mput (by
    simp only [gk, List.mem_cons, List.not_mem_nil, or_false] at hk
    rcases hk with rfl | rfl | rfl | rfl | rfl | rfl | rfl | rfl | rfl | rfl | rfl <;> decide)
/-- what hangs on the identifiers, rows and held ones alone -/
def Sm (M M' : MM) : Prop := M' 10 = M 10 ∧ M' 11 = M 11 ∧ M' 16 = M 16
theorem GV.sm {M M' : MM} {n h : Nat} (e : Sm M M') (hG : GV M n h) : GV M' n h := by
  obtain ⟨e10, e11, e16⟩ := e
  have e1 : ∀ t i, par M' n t i = par M n t i := fun t i => by simp only [par, e10, e11]
  have e2 : ∀ t i, src M' n t i = src M n t i := fun t i => by simp only [src, e10, e11]
  have e3 : ∀ k, hdN M' k = hdN M k := fun k => by simp only [hdN, e16]
  refine ⟨hG.1, hG.2.1, fun t ht => by rw [e11]; exact hG.2.2.1 t ht, fun k hk => ?_⟩
  obtain ⟨h1, h2, h3, h4⟩ := hG.2.2.2 k hk
  refine ⟨by rw [e16, e3]; exact h1, by rw [e3]; exact h2, ?_, ?_⟩
  · intro i hi
    rw [e3, e11] at hi ⊢
    rw [e10, e1]
    exact h3 i hi
  · intro i hi
    rw [e3, e11] at hi ⊢
    rw [e10, e2]
    exact h4 i hi
