/-! Numbers -/
def bi (b : Bool) : Int32 := if b then nI 1 else nI 0
theorem bi_0 {b : Bool} : (bi b = 0) = (b = false) := by cases b <;> simp [bi, nI]
theorem bi_t : bi true = nI 1 := rfl
theorem bi_f : bi false = nI 0 := rfl
theorem bi_01 (b : Bool) : bi b = 0 ∨ bi b = 1 := by cases b <;> simp [bi, nI]
theorem bi_inj {a b : Bool} (h : bi a = bi b) : a = b := by
  cases a <;> cases b <;> first | rfl | (simp [bi, nI] at h)
theorem nI_c1 : nI 1 = 1 := rfl
/-- some f i, i < n -/
def anyU (f : Nat → Bool) : Nat → Bool
  | 0 => false
  | n + 1 => anyU f n || f n
def allU (f : Nat → Bool) : Nat → Bool
  | 0 => true
  | n + 1 => allU f n && f n
def cntU (f : Nat → Bool) : Nat → Nat
  | 0 => 0
  | n + 1 => cntU f n + (if f n then 1 else 0)
theorem anyU_iff {f : Nat → Bool} {n : Nat} : anyU f n = true ↔ ∃ i, i < n ∧ f i = true := by
  induction n with
  | zero => simp [anyU]
  | succ n ih =>
    simp only [anyU, Bool.or_eq_true, ih]
    constructor
    · rintro (⟨i, h1, h2⟩ | h)
      · exact ⟨i, by omega, h2⟩
      · exact ⟨n, by omega, h⟩
    · rintro ⟨i, h1, h2⟩
      by_cases h : i = n
      · subst h; exact Or.inr h2
      · exact Or.inl ⟨i, by omega, h2⟩
theorem allU_iff {f : Nat → Bool} {n : Nat} : allU f n = true ↔ ∀ i, i < n → f i = true := by
  induction n with
  | zero => simp [allU]
  | succ n ih =>
    simp only [allU, Bool.and_eq_true, ih]
    constructor
    · rintro ⟨h1, h2⟩ i hi
      by_cases h : i = n
      · subst h; exact h2
      · exact h1 i (by omega)
    · intro h
      exact ⟨fun i hi => h i (by omega), h n (by omega)⟩
theorem cntU_le {f : Nat → Bool} {n : Nat} : cntU f n ≤ n := by
  induction n with
  | zero => exact Nat.le_refl _
  | succ n ih => simp only [cntU]; split <;> omega
theorem cntU_congr {f h : Nat → Bool} {n : Nat} (e : ∀ i, i < n → f i = h i) : cntU f n = cntU h n := by
  induction n with
  | zero => rfl
  | succ n ih => simp only [cntU]; rw [ih (fun i hi => e i (by omega)), e n (by omega)]
theorem anyU_congr {f h : Nat → Bool} {n : Nat} (e : ∀ i, i < n → f i = h i) : anyU f n = anyU h n := by
  induction n with
  | zero => rfl
  | succ n ih => simp only [anyU]; rw [ih (fun i hi => e i (by omega)), e n (by omega)]
theorem allU_congr {f h : Nat → Bool} {n : Nat} (e : ∀ i, i < n → f i = h i) : allU f n = allU h n := by
  induction n with
  | zero => rfl
  | succ n ih => simp only [allU]; rw [ih (fun i hi => e i (by omega)), e n (by omega)]
theorem nI_tb (n : Nat) : (nI n).toBitVec = BitVec.ofNat 32 n := rfl
theorem tb_inj {x y : Int32} (h : x.toBitVec = y.toBitVec) : x = y := by
  cases x; cases y
  simp only [Int32.toBitVec] at h
  congr 1
  cases ‹UInt32›; cases ‹UInt32›
  simpa using h
theorem nI_or (a b : Nat) : nI a ||| nI b = nI (a ||| b) := by
  apply tb_inj
  show (nI a).toBitVec ||| (nI b).toBitVec = _
  rw [nI_tb, nI_tb, nI_tb]
  apply BitVec.eq_of_toNat_eq
  simp [BitVec.toNat_or, Nat.or_mod_two_pow]
theorem nI_of_bv (x : Int32) : x = nI x.toBitVec.toNat := by
  apply tb_inj
  rw [nI_tb]
  simp
/-- four bytes, the highest first -/
def w4 (a b c d : Nat) : Nat := a * 16777216 + b * 65536 + c * 256 + d
theorem w4_or {a b c d : Nat} (ha : a < 256) (hb : b < 256) (hc : c < 256) (hd : d < 256) : ((nI a <<< (nI 24 &&& 31) ||| nI b <<< (nI 16 &&& 31)) ||| nI c <<< (nI 8 &&& 31)) ||| nI d = nI (w4 a b c d) := by
  rw [pk_shlN (nI 24 &&& 31) 24 (by decide) (by omega), pk_shlN (nI 16 &&& 31) 16 (by decide) (by omega), pk_shlN (nI 8 &&& 31) 8 (by decide) (by omega)]
  rw [nI_or, nI_or, nI_or]
  congr 1
  have e1 : a * 2 ^ 24 ||| b * 2 ^ 16 = a * 2 ^ 24 + b * 2 ^ 16 := by
    rw [show a * 2 ^ 24 = a <<< 24 by rw [Nat.shiftLeft_eq], Nat.shiftLeft_add_eq_or_of_lt (by omega)]
  have e2 : (a * 2 ^ 24 + b * 2 ^ 16) ||| c * 2 ^ 8 = a * 2 ^ 24 + b * 2 ^ 16 + c * 2 ^ 8 := by
    rw [show a * 2 ^ 24 + b * 2 ^ 16 = (a * 256 + b) <<< 16 by rw [Nat.shiftLeft_eq]; omega, Nat.shiftLeft_add_eq_or_of_lt (by omega)]
  have e3 : (a * 2 ^ 24 + b * 2 ^ 16 + c * 2 ^ 8) ||| d = a * 2 ^ 24 + b * 2 ^ 16 + c * 2 ^ 8 + d := by
    rw [show a * 2 ^ 24 + b * 2 ^ 16 + c * 2 ^ 8 = (a * 65536 + b * 256 + c) <<< 8 by rw [Nat.shiftLeft_eq]; omega, Nat.shiftLeft_add_eq_or_of_lt (by omega)]
  rw [e1, e2, e3]
  unfold w4
  omega
theorem dec1 (x : Int32) : x + Int32.ofInt (-1) = x - 1 := by
  rw [Int32.sub_eq_add_neg]
  rfl
/-! loops with more than one changing thing -/
theorem up2 {A B : Type} (N : Nat) (J : Nat → A → B → Prop) (I : Nat → A → B → Prop) (hx : ∀ a b, I N a b → J N a b) (hs : ∀ i a b, i < N → I i a b → (∀ a' b', I (i + 1) a' b' → J (i + 1) a' b') → J i a b) : ∀ i a b, i ≤ N → I i a b → J i a b := by
  have h : ∀ k i a b, i + k = N → I i a b → J i a b := by
    intro k
    induction k with
    | zero => intro i a b e h; rw [Nat.add_zero] at e; subst e; exact hx a b h
    | succ k ih => intro i a b e h; exact hs i a b (by omega) h (fun a' b' h' => ih (i + 1) a' b' (by omega) h')
  intro i a b hi hI
  exact h (N - i) i a b (by omega) hI
theorem up3 {A B D : Type} (N : Nat) (J : Nat → A → B → D → Prop) (I : Nat → A → B → D → Prop) (hx : ∀ a b c, I N a b c → J N a b c) (hs : ∀ i a b c, i < N → I i a b c → (∀ a' b' c', I (i + 1) a' b' c' → J (i + 1) a' b' c') → J i a b c) : ∀ i a b c, i ≤ N → I i a b c → J i a b c := by
  have h : ∀ k i a b c, i + k = N → I i a b c → J i a b c := by
    intro k
    induction k with
    | zero => intro i a b c e h; rw [Nat.add_zero] at e; subst e; exact hx a b c h
    | succ k ih => intro i a b c e h; exact hs i a b c (by omega) h (fun a' b' c' h' => ih (i + 1) a' b' c' (by omega) h')
  intro i a b c hi hI
  exact h (N - i) i a b c (by omega) hI
theorem dn2 {A B : Type} (J : Nat → A → B → Prop) (I : Nat → A → B → Prop) (hx : ∀ a b, I 0 a b → J 0 a b) (hs : ∀ i a b, I (i + 1) a b → (∀ a' b', I i a' b' → J i a' b') → J (i + 1) a b) : ∀ i a b, I i a b → J i a b := by
  intro i
  induction i with
  | zero => exact hx
  | succ i ih => intro a b h; exact hs i a b h (fun a' b' h' => ih a' b' h')
theorem ts_nf {x : Bool} (h : ¬ x = false) : x = true := by cases x <;> simp_all
theorem upd_upd {f : Nat → Int32} {k : Nat} {x y : Int32} : upd (upd f k x) k y = upd f k y := by funext j; simp only [upd]; split <;> rfl
