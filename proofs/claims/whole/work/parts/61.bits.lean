/-! Bits of long words -/
def bt (x : Int64) (i : Nat) : Bool := x.toBitVec.getLsbD i
theorem bt_or {x y : Int64} {i : Nat} : bt (x ||| y) i = (bt x i || bt y i) := by
  unfold bt
  rw [Int64.toBitVec_or, BitVec.getLsbD_or]
theorem bt_zero {i : Nat} : bt 0 i = false := by
  unfold bt
  rw [show (0 : Int64).toBitVec = 0#64 from rfl, BitVec.getLsbD_zero]
theorem sh_l : ∀ j, j < 64 → ((nI j).toInt64 &&& 63).toBitVec.smod 64 = BitVec.ofNat 64 j := by decide +kernel
theorem sh_u : ∀ j, j < 64 → ((nI j).toInt64.toUInt64 &&& Int64.toUInt64 63).toBitVec % 64 = BitVec.ofNat 64 j := by decide +kernel
theorem bt_sh {i j : Nat} (hi : i < 64) (hj : j < 64) : bt (lN 1 <<< ((nI j).toInt64 &&& 63)) i = decide (i = j) := by
  unfold bt
  rw [Int64.toBitVec_shiftLeft, sh_l j hj, show (lN 1).toBitVec = 1#64 from rfl, BitVec.shiftLeft_eq', BitVec.toNat_ofNat, Nat.mod_eq_of_lt (show j < 2 ^ 64 by omega), BitVec.getLsbD_shiftLeft, BitVec.getLsbD_one]
  by_cases e : i = j
  · subst e; simp [hi]
  · rw [decide_eq_false e]
    by_cases q : i < j
    · simp [q]
    · have : ¬ i - j = 0 := by omega
      simp [this]
theorem bt_test {x : Int64} {j : Nat} (hj : j < 64) : (lg_cmp ((x.toUInt64 >>> ((nI j).toInt64.toUInt64 &&& Int64.toUInt64 63)).toInt64 &&& lN 1) (lN 0) = 0) = (bt x j = false) := by
  have hz : ∀ y : Int64, (lg_cmp y (lN 0) = 0) = (y = 0) := fun y => by
    unfold lg_cmp
    simp only [eq_iff_iff]
    constructor
    · intro h
      split at h
      · cases h
      · split at h
        · assumption
        · cases h
    · intro h
      subst h
      decide
  rw [hz, eq_iff_iff]
  have e : ((x.toUInt64 >>> ((nI j).toInt64.toUInt64 &&& Int64.toUInt64 63)).toInt64 &&& lN 1).toBitVec = (x.toBitVec >>> j) &&& 1#64 := by
    rw [Int64.toBitVec_and]
    show (x.toUInt64 >>> ((nI j).toInt64.toUInt64 &&& Int64.toUInt64 63)).toBitVec &&& _ = _
    rw [UInt64.toBitVec_shiftRight, sh_u j hj, BitVec.ushiftRight_eq', BitVec.toNat_ofNat, Nat.mod_eq_of_lt (show j < 2 ^ 64 by omega)]
    rfl
  constructor
  · intro h
    have h2 : (x.toBitVec >>> j) &&& 1#64 = 0#64 := by rw [← e, h]; rfl
    have h3 := congrArg (fun z => BitVec.getLsbD z 0) h2
    simpa [bt] using h3
  · intro h
    apply Int64.toBitVec_inj.mp
    rw [e]
    show _ = 0#64
    apply BitVec.eq_of_getLsbD_eq
    intro i hi
    rw [BitVec.getLsbD_and, BitVec.getLsbD_ushiftRight, BitVec.getLsbD_one, BitVec.getLsbD_zero]
    by_cases q : i = 0
    · subst q
      unfold bt at h
      simp [h]
    · simp [q]
/-! how many: by bytes -/
def m5 : Nat → Nat
  | 0 => 0
  | k + 1 => 85 + 256 * m5 k
def m3 : Nat → Nat
  | 0 => 0
  | k + 1 => 51 + 256 * m3 k
def mf : Nat → Nat
  | 0 => 0
  | k + 1 => 15 + 256 * mf k
def g1 (k X : Nat) : Nat := X - ((X / 2) &&& m5 k)
def g2 (k X : Nat) : Nat := (X &&& m3 k) + ((X / 4) &&& m3 k)
def g3 (k X : Nat) : Nat := (X + X / 16) &&& mf k
def pop8 (a : Nat) : Nat := cntU (fun i => a.testBit i) 8
def bB : Nat → Nat → Nat
  | 0, _ => 0
  | k + 1, X => pop8 (X % 256) + 256 * bB k (X / 256)
def bS : Nat → Nat → Nat
  | 0, _ => 0
  | k + 1, X => pop8 (X % 256) + bS k (X / 256)
theorem and_split (x y : Nat) : x &&& y = (x % 256 &&& y % 256) + 256 * ((x / 256) &&& (y / 256)) := by
  have h1 : (x &&& y) % 2 ^ 8 = (x % 2 ^ 8) &&& (y % 2 ^ 8) := Nat.and_mod_two_pow
  have h2 : (x &&& y) / 2 ^ 8 = (x / 2 ^ 8) &&& (y / 2 ^ 8) := Nat.and_div_two_pow
  have h3 := Nat.mod_add_div (x &&& y) 256
  rw [show (256 : Nat) = 2 ^ 8 from rfl] at h3 ⊢
  rw [h1, h2] at h3
  exact h3.symm
def ga1 (a : Nat) : Nat := a - ((a / 2) &&& 85)
def ga2 (a : Nat) : Nat := (a &&& 51) + ((a / 4) &&& 51)
def ga3 (a : Nat) : Nat := (a + a / 16) &&& 15
theorem by_ok : allU (fun a => allU (fun b => decide ((a / 2 + 128 * b) &&& 85 = (a / 2) &&& 85)) 2 && decide ((a / 2) &&& 85 ≤ a) && allU (fun b => decide ((ga1 a / 4 + 64 * b) &&& 51 = (ga1 a / 4) &&& 51)) 4 && decide (ga1 a < 256) && decide (ga2 (ga1 a) ≤ 68) && decide (ga2 (ga1 a) % 16 ≤ 4) && decide (ga3 (ga2 (ga1 a)) = pop8 a) && decide (pop8 a ≤ 8)) 256 = true := by decide +kernel
theorem by_at {a : Nat} (ha : a < 256) : (∀ b, b < 2 → (a / 2 + 128 * b) &&& 85 = (a / 2) &&& 85) ∧ (a / 2) &&& 85 ≤ a ∧ (∀ b, b < 4 → (ga1 a / 4 + 64 * b) &&& 51 = (ga1 a / 4) &&& 51) ∧ ga1 a < 256 ∧ ga2 (ga1 a) ≤ 68 ∧ ga2 (ga1 a) % 16 ≤ 4 ∧ ga3 (ga2 (ga1 a)) = pop8 a ∧ pop8 a ≤ 8 := by
  have h := allU_iff.mp by_ok a ha
  simp only [Bool.and_eq_true, decide_eq_true_eq, allU_iff] at h
  obtain ⟨⟨⟨⟨⟨⟨⟨h1, h2⟩, h3⟩, h4⟩, h5⟩, h6⟩, h7⟩, h8⟩ := h
  exact ⟨h1, h2, h3, h4, h5, h6, h7, h8⟩
theorem m5_s {k : Nat} : m5 (k + 1) % 256 = 85 ∧ m5 (k + 1) / 256 = m5 k := by simp only [m5]; omega
theorem m3_s {k : Nat} : m3 (k + 1) % 256 = 51 ∧ m3 (k + 1) / 256 = m3 k := by simp only [m3]; omega
theorem mf_s {k : Nat} : mf (k + 1) % 256 = 15 ∧ mf (k + 1) / 256 = mf k := by simp only [mf]; omega
theorem g1_s {k X : Nat} : g1 (k + 1) X = ga1 (X % 256) + 256 * g1 k (X / 256) ∧ ((X / 2) &&& m5 (k + 1)) ≤ X := by
  have ha := by_at (Nat.mod_lt X (show 0 < 256 by omega))
  have hle : ((X / 256) / 2) &&& m5 k ≤ X / 256 := Nat.le_trans Nat.and_le_left (Nat.div_le_self _ _)
  have e1 : X / 2 % 256 = X % 256 / 2 + 128 * (X / 256 % 2) := by omega
  have e2 : X / 2 / 256 = X / 256 / 2 := by omega
  have e3 := and_split (X / 2) (m5 (k + 1))
  rw [m5_s.1, m5_s.2, e1, e2, ha.1 _ (Nat.mod_lt _ (by omega))] at e3
  have h2 := ha.2.1
  unfold g1 ga1
  rw [e3]
  omega
theorem g2_s {k X a : Nat} (ha : a < 256) (he : X % 256 = ga1 a) : g2 (k + 1) X = ga2 (ga1 a) + 256 * g2 k (X / 256) := by
  have h := by_at ha
  have e1 : X / 4 % 256 = X % 256 / 4 + 64 * (X / 256 % 4) := by omega
  have e2 : X / 4 / 256 = X / 256 / 4 := by omega
  have e3 := and_split (X / 4) (m3 (k + 1))
  rw [m3_s.1, m3_s.2, e1, e2, he, h.2.2.1 _ (Nat.mod_lt _ (by omega))] at e3
  have e4 := and_split X (m3 (k + 1))
  rw [m3_s.1, m3_s.2, he] at e4
  unfold g2 ga2
  rw [e3, e4]
  omega
theorem ga3_hi {z r : Nat} (hz : z ≤ 72) (hr : r ≤ 4) : ((z + 16 * r) % 256) &&& 15 = z &&& 15 := by
  have : allU (fun z => allU (fun r => decide (((z + 16 * r) % 256) &&& 15 = z &&& 15)) 5) 73 = true := by decide +kernel
  have h := allU_iff.mp (allU_iff.mp this z (by omega)) r (by omega)
  exact of_decide_eq_true h
theorem g3_s {k X a : Nat} (ha : a < 256) (he : X % 256 = ga2 (ga1 a)) (hr : X / 256 % 16 ≤ 4) : g3 (k + 1) X = pop8 a + 256 * g3 k (X / 256) := by
  have h := by_at ha
  have e1 : (X + X / 16) % 256 = (X % 256 + X % 256 / 16 + 16 * (X / 256 % 16)) % 256 := by omega
  have e2 : (X + X / 16) / 256 = X / 256 + X / 256 / 16 := by omega
  have e3 := and_split (X + X / 16) (mf (k + 1))
  rw [mf_s.1, mf_s.2, e1, e2, he, ga3_hi (by omega) hr] at e3
  unfold g3
  rw [e3, ← h.2.2.2.2.2.2.1]
  rfl
theorem g12_lo : ∀ k X, X < 256 ^ k → g2 k (g1 k X) % 16 ≤ 4
  | 0, X, h => by
    have : X = 0 := by simpa using h
    subst this
    decide
  | k + 1, X, h => by
    have ha := Nat.mod_lt X (show 0 < 256 by omega)
    have hh := by_at ha
    have e1 := (g1_s (k := k) (X := X)).1
    have e2 : g1 (k + 1) X % 256 = ga1 (X % 256) := by rw [e1]; omega
    rw [g2_s ha e2]
    omega
theorem g123 : ∀ k X, X < 256 ^ k → g3 k (g2 k (g1 k X)) = bB k X
  | 0, X, h => by
    have : X = 0 := by simpa using h
    subst this
    rfl
  | k + 1, X, h => by
    have ha := Nat.mod_lt X (show 0 < 256 by omega)
    have hh := by_at ha
    have hX : X / 256 < 256 ^ k := by rw [Nat.pow_succ] at h; omega
    have e1 := (g1_s (k := k) (X := X)).1
    have e2 : g1 (k + 1) X % 256 = ga1 (X % 256) := by rw [e1]; omega
    have e3 : g1 (k + 1) X / 256 = g1 k (X / 256) := by rw [e1]; omega
    have e4 := g2_s (k := k) ha e2
    rw [e3] at e4
    have e5 : g2 (k + 1) (g1 (k + 1) X) % 256 = ga2 (ga1 (X % 256)) := by rw [e4]; omega
    have e6 : g2 (k + 1) (g1 (k + 1) X) / 256 = g2 k (g1 k (X / 256)) := by rw [e4]; omega
    rw [g3_s ha e5 (by rw [e6]; exact g12_lo k _ hX), e6, g123 k _ hX]
    rfl
theorem cntU_add {f : Nat → Bool} {m : Nat} : ∀ n, cntU f (m + n) = cntU f m + cntU (fun i => f (m + i)) n
  | 0 => rfl
  | n + 1 => by
    rw [← Nat.add_assoc]
    simp only [cntU]
    rw [cntU_add n, Nat.add_assoc]
theorem bS_cnt : ∀ k X, cntU (fun i => X.testBit i) (8 * k) = bS k X
  | 0, X => rfl
  | k + 1, X => by
    rw [show 8 * (k + 1) = 8 + 8 * k by omega, cntU_add]
    have e1 : cntU (fun i => X.testBit i) 8 = pop8 (X % 256) := cntU_congr (fun i hi => by
      rw [show (256 : Nat) = 2 ^ 8 from rfl, Nat.testBit_mod_two_pow]
      simp [hi])
    have e2 : cntU (fun i => X.testBit (8 + i)) (8 * k) = cntU (fun i => (X / 256).testBit i) (8 * k) := cntU_congr (fun i _ => by
      rw [show (256 : Nat) = 2 ^ 8 from rfl, Nat.testBit_div_two_pow, Nat.add_comm])
    rw [e1, e2, bS_cnt k]
    rfl
def bc1 (x : Int64) : Int64 := x - ((x.toUInt64 >>> ((nI 1).toInt64.toUInt64 &&& Int64.toUInt64 63)).toInt64 &&& 6148914691236517205)
def bc2 (x : Int64) : Int64 := (x &&& 3689348814741910323) + ((x.toUInt64 >>> ((nI 2).toInt64.toUInt64 &&& Int64.toUInt64 63)).toInt64 &&& 3689348814741910323)
def bc3 (x : Int64) : Int64 := (x + (x.toUInt64 >>> ((nI 4).toInt64.toUInt64 &&& Int64.toUInt64 63)).toInt64) &&& 1085102592571150095
def bc4 (j : Nat) (x : Int64) : Int64 := x + (x.toUInt64 >>> ((nI j).toInt64.toUInt64 &&& Int64.toUInt64 63)).toInt64
def bcs (x : Int64) : Int32 := (bc4 32 (bc4 16 (bc4 8 (bc3 (bc2 (bc1 x)))))).toInt32 &&& nI 127
abbrev uN (x : Int64) : Nat := x.toBitVec.toNat
theorem uN_lt (x : Int64) : uN x < 2 ^ 64 := x.toBitVec.isLt
theorem uN_sh {x : Int64} {j : Nat} (hj : j < 64) : uN (x.toUInt64 >>> ((nI j).toInt64.toUInt64 &&& Int64.toUInt64 63)).toInt64 = uN x / 2 ^ j := by
  show (x.toUInt64 >>> ((nI j).toInt64.toUInt64 &&& Int64.toUInt64 63)).toBitVec.toNat = _
  rw [UInt64.toBitVec_shiftRight, sh_u j hj, BitVec.ushiftRight_eq', BitVec.toNat_ofNat, Nat.mod_eq_of_lt (show j < 2 ^ 64 by omega), BitVec.toNat_ushiftRight, Nat.shiftRight_eq_div_pow]
  rfl
theorem uN_and {x y : Int64} : uN (x &&& y) = uN x &&& uN y := by
  show (x &&& y).toBitVec.toNat = _
  rw [Int64.toBitVec_and, BitVec.toNat_and]
theorem uN_add {x y : Int64} (h : uN x + uN y < 2 ^ 64) : uN (x + y) = uN x + uN y := by
  show (x + y).toBitVec.toNat = _
  rw [Int64.toBitVec_add, BitVec.toNat_add, Nat.mod_eq_of_lt h]
theorem uN_sub {x y : Int64} (h : uN y ≤ uN x) : uN (x - y) = uN x - uN y := by
  show (x - y).toBitVec.toNat = _
  rw [Int64.toBitVec_sub, BitVec.toNat_sub]
  have h1 := uN_lt x
  have h2 := uN_lt y
  show (2 ^ 64 - uN y + uN x) % 2 ^ 64 = uN x - uN y
  generalize uN x = a at *
  generalize uN y = b at *
  omega
theorem dv1 {a w : Nat} (ha : a < 256) : (a + 256 * w) / 256 = w := by omega
theorem dv2 {a b w : Nat} (ha : a < 256) (hb : b < 256) : (a + 256 * (b + 256 * w)) / 65536 = w := by omega
theorem dv4 {a b c d w : Nat} (ha : a < 256) (hb : b < 256) (hc : c < 256) (hd : d < 256) : (a + 256 * (b + 256 * (c + 256 * (d + 256 * w)))) / 4294967296 = w := by omega
theorem st8 {a b x y r s u : Nat} (h1 : r = a + 256 * s) (h2 : s = b + 256 * u) (hx : x = r + s) (hy : y = s + u) : x = (a + b) + 256 * y := by omega
theorem st9 {a b x y r s u v : Nat} (h1 : r = a + 256 * s) (h2 : u = b + 256 * v) (hx : x = r + u) (hy : y = s + v) : x = (a + b) + 256 * y := by omega
theorem sum8 {c0 c1 c2 c3 c4 c5 c6 c7 N z1 z2 z3 : Nat} (p0 : c0 ≤ 8) (p1 : c1 ≤ 8) (p2 : c2 ≤ 8) (p3 : c3 ≤ 8) (p4 : c4 ≤ 8) (p5 : c5 ≤ 8) (p6 : c6 ≤ 8) (p7 : c7 ≤ 8) (hN : N = c0 + 256 * (c1 + 256 * (c2 + 256 * (c3 + 256 * (c4 + 256 * (c5 + 256 * (c6 + 256 * c7))))))) (h1 : z1 = N + N / 256) (h2 : z2 = z1 + z1 / 65536) (h3 : z3 = z2 + z2 / 4294967296) : z3 % 128 = c0 + (c1 + (c2 + (c3 + (c4 + (c5 + (c6 + c7)))))) ∧ z3 < 2 ^ 63 ∧ z2 < 2 ^ 63 ∧ z1 < 2 ^ 63 ∧ N < 2 ^ 62 := by
  have bN : N ≤ 578721382704613384 := by omega
  have b1 : z1 ≤ 2 * N := by omega
  have b2 : z2 ≤ 4 * N := by omega
  have b3 : z3 ≤ 8 * N := by omega
  refine ⟨?_, by omega, by omega, by omega, by omega⟩
  generalize r7 : c7 = R7 at hN
  generalize r6 : c6 + 256 * R7 = R6 at hN
  generalize r5 : c5 + 256 * R6 = R5 at hN
  generalize r4 : c4 + 256 * R5 = R4 at hN
  generalize r3 : c3 + 256 * R4 = R3 at hN
  generalize r2 : c2 + 256 * R3 = R2 at hN
  generalize r1 : c1 + 256 * R2 = R1 at hN
  have r8 : R7 = c7 + 256 * 0 := by omega
  have r9 : (0 : Nat) = 0 + 256 * 0 := by omega
  rw [show N / 256 = R1 by rw [hN]; exact dv1 (by omega)] at h1
  have a0 := st9 hN r1.symm h1 rfl
  have a1 := st9 r1.symm r2.symm (x := R1 + R2) rfl rfl
  have a2 := st9 r2.symm r3.symm (x := R2 + R3) rfl rfl
  have a3 := st9 r3.symm r4.symm (x := R3 + R4) rfl rfl
  have a4 := st9 r4.symm r5.symm (x := R4 + R5) rfl rfl
  have a5 := st9 r5.symm r6.symm (x := R5 + R6) rfl rfl
  have a6 := st9 r6.symm r8 (x := R6 + R7) rfl rfl
  have a7 := st9 r8 r9 (x := R7 + 0) rfl rfl
  generalize R1 + R2 = P1 at a0 a1
  generalize R2 + R3 = P2 at a1 a2
  generalize R3 + R4 = P3 at a2 a3
  generalize R4 + R5 = P4 at a3 a4
  generalize R5 + R6 = P5 at a4 a5
  generalize R6 + R7 = P6 at a5 a6
  generalize R7 + 0 = P7 at a6 a7
  rw [show z1 / 65536 = P2 by rw [a0, a1]; exact dv2 (by omega) (by omega)] at h2
  have e0 := st9 a0 a2 h2 rfl
  have e1 := st9 a1 a3 (x := P1 + P3) rfl rfl
  have e2 := st9 a2 a4 (x := P2 + P4) rfl rfl
  have e3 := st9 a3 a5 (x := P3 + P5) rfl rfl
  have e4 := st9 a4 a6 (x := P4 + P6) rfl rfl
  generalize P1 + P3 = Q1 at e0 e1
  generalize P2 + P4 = Q2 at e1 e2
  generalize P3 + P5 = Q3 at e2 e3
  generalize P4 + P6 = Q4 at e3 e4
  rw [show z2 / 4294967296 = Q4 by rw [e0, e1, e2, e3]; exact dv4 (by omega) (by omega) (by omega) (by omega)] at h3
  have f0 := st9 e0 e4 h3 rfl
  clear e0 e1 e2 e3 e4 a0 a1 a2 a3 a4 a5 a6 a7 h1 h2 h3 hN r1 r2 r3 r4 r5 r6 r8 r9 bN b1 b2 b3
  rw [f0]
  omega
theorem bB_8 {X z1 z2 z3 : Nat} (h1 : z1 = bB 8 X + bB 8 X / 256) (h2 : z2 = z1 + z1 / 65536) (h3 : z3 = z2 + z2 / 4294967296) : z3 % 128 = bS 8 X ∧ z3 < 2 ^ 63 ∧ z2 < 2 ^ 63 ∧ z1 < 2 ^ 63 ∧ bB 8 X < 2 ^ 62 := by
  have p := fun Y : Nat => (by_at (Nat.mod_lt Y (show 0 < 256 by omega))).2.2.2.2.2.2.2
  exact sum8 (p X) (p _) (p _) (p _) (p _) (p _) (p _) (p _) rfl h1 h2 h3
theorem bcs_eq (x : Int64) : bcs x = nI (cntU (bt x) 64) := by
  have hX := uN_lt x
  have e5 : uN (6148914691236517205 : Int64) = m5 8 := by decide
  have e3 : uN (3689348814741910323 : Int64) = m3 8 := by decide
  have ef : uN (1085102592571150095 : Int64) = mf 8 := by decide
  have h1 : uN (bc1 x) = g1 8 (uN x) := by
    unfold bc1
    have : uN ((x.toUInt64 >>> ((nI 1).toInt64.toUInt64 &&& Int64.toUInt64 63)).toInt64 &&& 6148914691236517205) = (uN x / 2) &&& m5 8 := by rw [uN_and, uN_sh (by omega), e5]
    rw [uN_sub (by rw [this]; exact (g1_s (k := 7)).2), this]
    rfl
  have hm3 : ∀ z, z &&& m3 8 ≤ 3689348814741910323 := fun z => Nat.le_trans Nat.and_le_right (by decide)
  have h2 : uN (bc2 (bc1 x)) = g2 8 (g1 8 (uN x)) := by
    unfold bc2
    have a1 : uN (bc1 x &&& 3689348814741910323) = g1 8 (uN x) &&& m3 8 := by rw [uN_and, e3, h1]
    have a2 : uN (((bc1 x).toUInt64 >>> ((nI 2).toInt64.toUInt64 &&& Int64.toUInt64 63)).toInt64 &&& 3689348814741910323) = (g1 8 (uN x) / 4) &&& m3 8 := by rw [uN_and, uN_sh (by omega), e3, h1]
    rw [uN_add (by rw [a1, a2]; have := hm3 (g1 8 (uN x)); have := hm3 (g1 8 (uN x) / 4); omega), a1, a2]
    rfl
  have h2b : g2 8 (g1 8 (uN x)) ≤ 2 * 3689348814741910323 := by
    unfold g2
    have := hm3 (g1 8 (uN x))
    have := hm3 (g1 8 (uN x) / 4)
    omega
  have h3 : uN (bc3 (bc2 (bc1 x))) = bB 8 (uN x) := by
    unfold bc3
    rw [uN_and, uN_add (by rw [uN_sh (by omega), h2]; omega), uN_sh (by omega), h2, ef]
    exact g123 8 (uN x) (by rw [show (256 : Nat) ^ 8 = 2 ^ 64 from rfl]; exact hX)
  generalize hz1 : bB 8 (uN x) + bB 8 (uN x) / 256 = z1
  generalize hz2 : z1 + z1 / 65536 = z2
  generalize hz3 : z2 + z2 / 4294967296 = z3
  obtain ⟨b1, b2, b3, b4, b5⟩ := bB_8 hz1.symm hz2.symm hz3.symm
  have st : ∀ (y : Int64) (j N z : Nat), j < 64 → uN y = N → N + N / 2 ^ j = z → z < 2 ^ 63 → uN (bc4 j y) = z := fun y j N z hj hy hN hz => by
    unfold bc4
    rw [uN_add (by rw [uN_sh hj, hy, hN]; omega), uN_sh hj, hy, hN]
  have h4 := st _ 8 _ _ (by omega) h3 (show bB 8 (uN x) + bB 8 (uN x) / 2 ^ 8 = z1 from hz1) b4
  have h5 := st _ 16 _ _ (by omega) h4 (show z1 + z1 / 2 ^ 16 = z2 from hz2) b3
  have h6 := st _ 32 _ _ (by omega) h5 (show z2 + z2 / 2 ^ 32 = z3 from hz3) b2
  unfold bcs
  rw [pk_and _ 7 (by decide)]
  have e7 : (bc4 32 (bc4 16 (bc4 8 (bc3 (bc2 (bc1 x)))))).toInt32.toBitVec.toNat = z3 % 2 ^ 32 := by
    rw [Int64.toBitVec_toInt32, BitVec.signExtend_eq_setWidth_of_le _ (by decide), BitVec.toNat_setWidth]
    rw [show (bc4 32 (bc4 16 (bc4 8 (bc3 (bc2 (bc1 x)))))).toBitVec.toNat = z3 from h6]
  rw [e7]
  have e8 : z3 % 2 ^ 32 % 2 ^ 7 = bS 8 (uN x) := by rw [← b1]; omega
  rw [e8, ← bS_cnt]
  rfl
section BitC
variable {l : Launch} {g : GG} {S : hS}
theorem ct_bitCount {x : Int64} : Sp l g mJ13_bitCount_95d88 0 0 [vl x] S (fun r S' => r = some (vi (nI (cntU (bt x) 64))) ∧ S' = S) := by
  refine Sp.start (own := RJ13) [(0, vl x)] (by decide +kernel) rfl rfl (Nat.le_of_ble_eq_true rfl) ?_
  intro J C
  refine r_lload_n (pc := 0) C dJ13_bitCount_95d88_0 rfl ?_
  refine r_lload_n (pc := 1) C dJ13_bitCount_95d88_1 rfl ?_
  refine r_iconst (pc := 2) C (nI 1) dJ13_bitCount_95d88_2 rfl ?_
  refine r_lushr (pc := 3) C dJ13_bitCount_95d88_3 ?_
  refine r_ldc2 (pc := 4) C kc_RJ13_314 dJ13_bitCount_95d88_4 ?_
  refine r_land (pc := 7) C dJ13_bitCount_95d88_7 ?_
  refine r_lsub (pc := 8) C dJ13_bitCount_95d88_8 ?_
  refine r_lstore_n (pc := 9) C dJ13_bitCount_95d88_9 (by decide) rfl ?_
  generalize h1 : x - ((x.toUInt64 >>> ((nI 1).toInt64.toUInt64 &&& Int64.toUInt64 63)).toInt64 &&& 6148914691236517205) = x1
  refine r_lload_n (pc := 10) C dJ13_bitCount_95d88_10 rfl ?_
  refine r_ldc2 (pc := 11) C kc_RJ13_316 dJ13_bitCount_95d88_11 ?_
  refine r_land (pc := 14) C dJ13_bitCount_95d88_14 ?_
  refine r_lload_n (pc := 15) C dJ13_bitCount_95d88_15 rfl ?_
  refine r_iconst (pc := 16) C (nI 2) dJ13_bitCount_95d88_16 rfl ?_
  refine r_lushr (pc := 17) C dJ13_bitCount_95d88_17 ?_
  refine r_ldc2 (pc := 18) C kc_RJ13_316 dJ13_bitCount_95d88_18 ?_
  refine r_land (pc := 21) C dJ13_bitCount_95d88_21 ?_
  refine r_ladd (pc := 22) C dJ13_bitCount_95d88_22 ?_
  refine r_lstore_n (pc := 23) C dJ13_bitCount_95d88_23 (by decide) rfl ?_
  generalize h2 : (x1 &&& 3689348814741910323) + ((x1.toUInt64 >>> ((nI 2).toInt64.toUInt64 &&& Int64.toUInt64 63)).toInt64 &&& 3689348814741910323) = x2
  refine r_lload_n (pc := 24) C dJ13_bitCount_95d88_24 rfl ?_
  refine r_lload_n (pc := 25) C dJ13_bitCount_95d88_25 rfl ?_
  refine r_iconst (pc := 26) C (nI 4) dJ13_bitCount_95d88_26 rfl ?_
  refine r_lushr (pc := 27) C dJ13_bitCount_95d88_27 ?_
  refine r_ladd (pc := 28) C dJ13_bitCount_95d88_28 ?_
  refine r_ldc2 (pc := 29) C kc_RJ13_318 dJ13_bitCount_95d88_29 ?_
  refine r_land (pc := 32) C dJ13_bitCount_95d88_32 ?_
  refine r_lstore_n (pc := 33) C dJ13_bitCount_95d88_33 (by decide) rfl ?_
  refine r_lload_n (pc := 34) C dJ13_bitCount_95d88_34 rfl ?_
  refine r_lload_n (pc := 35) C dJ13_bitCount_95d88_35 rfl ?_
  refine r_bipush (pc := 36) C (nI 8) dJ13_bitCount_95d88_36 rfl ?_
  refine r_lushr (pc := 38) C dJ13_bitCount_95d88_38 ?_
  refine r_ladd (pc := 39) C dJ13_bitCount_95d88_39 ?_
  refine r_lstore_n (pc := 40) C dJ13_bitCount_95d88_40 (by decide) rfl ?_
  refine r_lload_n (pc := 41) C dJ13_bitCount_95d88_41 rfl ?_
  refine r_lload_n (pc := 42) C dJ13_bitCount_95d88_42 rfl ?_
  refine r_bipush (pc := 43) C (nI 16) dJ13_bitCount_95d88_43 rfl ?_
  refine r_lushr (pc := 45) C dJ13_bitCount_95d88_45 ?_
  refine r_ladd (pc := 46) C dJ13_bitCount_95d88_46 ?_
  refine r_lstore_n (pc := 47) C dJ13_bitCount_95d88_47 (by decide) rfl ?_
  refine r_lload_n (pc := 48) C dJ13_bitCount_95d88_48 rfl ?_
  refine r_lload_n (pc := 49) C dJ13_bitCount_95d88_49 rfl ?_
  refine r_bipush (pc := 50) C (nI 32) dJ13_bitCount_95d88_50 rfl ?_
  refine r_lushr (pc := 52) C dJ13_bitCount_95d88_52 ?_
  refine r_ladd (pc := 53) C dJ13_bitCount_95d88_53 ?_
  refine r_lstore_n (pc := 54) C dJ13_bitCount_95d88_54 (by decide) rfl ?_
  refine r_lload_n (pc := 55) C dJ13_bitCount_95d88_55 rfl ?_
  refine r_l2i (pc := 56) C dJ13_bitCount_95d88_56 ?_
  refine r_bipush (pc := 57) C (nI 127) dJ13_bitCount_95d88_57 rfl ?_
  refine r_iand (pc := 59) C dJ13_bitCount_95d88_59 ?_
  refine r_iret (pc := 60) C dJ13_bitCount_95d88_60 rfl (by omega) (by omega) ?_
  exact ⟨by rw [← bcs_eq]; subst h2; subst h1; rfl, rfl⟩
end BitC
