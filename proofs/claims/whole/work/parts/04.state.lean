/-! The heap as functions: the kind of each cell (0: none of ours), its fields by a number of the field (100 times the kind of object plus the place), its elements by the kind of array -/
abbrev hS : Type := (Nat → Nat) × (Nat → Nat → Int32) × (Nat → Nat → Option Nat) × (Nat → Nat → Int64) × (Nat → Nat) × (Nat → Nat → Nat → Int32) × (Nat → Nat → Nat → Int64) × (Nat → Nat → Nat → Option Nat)
def sK (S : hS) : Nat → Nat := S.1
def sI (S : hS) : Nat → Nat → Int32 := S.2.1
def sR (S : hS) : Nat → Nat → Option Nat := S.2.2.1
def sJ (S : hS) : Nat → Nat → Int64 := S.2.2.2.1
def sN (S : hS) : Nat → Nat := S.2.2.2.2.1
def aI (S : hS) : Nat → Nat → Nat → Int32 := S.2.2.2.2.2.1
def aJ (S : hS) : Nat → Nat → Nat → Int64 := S.2.2.2.2.2.2.1
def aR (S : hS) : Nat → Nat → Nat → Option Nat := S.2.2.2.2.2.2.2
def u2 {α : Type} (f : Nat → Nat → α) (i a : Nat) (v : α) : Nat → Nat → α := fun j b => if j = i then (if b = a then v else f j b) else f j b
def u2r {α : Type} (f : Nat → Nat → Nat → α) (i a : Nat) (v : Nat → α) : Nat → Nat → Nat → α := fun j b => if j = i then (if b = a then v else f j b) else f j b
def setI (S : hS) (f a : Nat) (v : Int32) : hS := (S.1, u2 S.2.1 f a v, S.2.2)
def setR (S : hS) (f a : Nat) (v : Option Nat) : hS := (S.1, S.2.1, u2 S.2.2.1 f a v, S.2.2.2)
def setJ (S : hS) (f a : Nat) (v : Int64) : hS := (S.1, S.2.1, S.2.2.1, u2 S.2.2.2.1 f a v, S.2.2.2.2)
def putI (S : hS) (r a : Nat) (v : Nat → Int32) : hS := (S.1, S.2.1, S.2.2.1, S.2.2.2.1, S.2.2.2.2.1, u2r S.2.2.2.2.2.1 r a v, S.2.2.2.2.2.2)
def putJ (S : hS) (r a : Nat) (v : Nat → Int64) : hS := (S.1, S.2.1, S.2.2.1, S.2.2.2.1, S.2.2.2.2.1, S.2.2.2.2.2.1, u2r S.2.2.2.2.2.2.1 r a v, S.2.2.2.2.2.2.2)
def putR (S : hS) (r a : Nat) (v : Nat → Option Nat) : hS := (S.1, S.2.1, S.2.2.1, S.2.2.2.1, S.2.2.2.2.1, S.2.2.2.2.2.1, S.2.2.2.2.2.2.1, u2r S.2.2.2.2.2.2.2 r a v)
/-- a new object, a new array, at q -/
def newO (S : hS) (q k : Nat) : hS := (va_up S.1 q k, fun f a => if a = q then 0 else S.2.1 f a, fun f a => if a = q then none else S.2.2.1 f a, fun f a => if a = q then 0 else S.2.2.2.1 f a, S.2.2.2.2)
def newA (S : hS) (q k n : Nat) : hS := (va_up S.1 q k, S.2.1, S.2.2.1, S.2.2.2.1, va_up S.2.2.2.2.1 q n, (fun r a => if a = q then (fun _ => 0) else S.2.2.2.2.2.1 r a), (fun r a => if a = q then (fun _ => 0) else S.2.2.2.2.2.2.1 r a), (fun r a => if a = q then (fun _ => none) else S.2.2.2.2.2.2.2 r a))
/-- what a field holds, as the machine has it -/
def fval (S : hS) (t f a : Nat) : Value := match t with
  | 0 => .int (sI S f a)
  | 1 => va_rf (sR S f a)
  | _ => .long (sJ S f a)
def fsF (S : hS) (ci a : Nat) : List Value := (List.range (tgs ci).length).map (fun k => fval S ((tgs ci).getD k 0) (100 * ci + k) a)
/-- the numbers of the kinds of objects, those of the arrays, the state when the law began, its arguments, where three constant arrays lie -/
abbrev GG : Type := va_G × (Nat → ClassId) × State × Array Value × (Nat → Nat)
abbrev gS (g : GG) : State := g.2.2.1
abbrev gA (g : GG) : Array Value := g.2.2.2.1
abbrev gH (g : GG) : Heap := g.2.2.1.heap
abbrev gT (g : GG) : Nat → Nat := g.2.2.2.2
def AA (g : GG) : Nat → Prop := fun q => (gH g).size ≤ q
/-- which array class a kind of array has: 0 byte, 1 int, 2 long, 3 boolean, 4 Choice, 5 Output, 6 Transaction, 7 Object -/
def ac (k : Nat) : Nat := if k < 30 then 0 else if k < 80 then 1 else if k < 85 then 2 else if k < 100 then 3 else if k = 100 then 4 else if k < 103 then 5 else if k = 103 then 6 else 7
def aV (S : hS) (k a : Nat) : vp_A := (sN S a, if ac k = 2 then .inr (.inl (aJ S k a)) else if ac k < 4 then .inl (aI S k a) else .inr (.inr (.inr (.inr (aR S k a)))))
def cF (g : GG) (S : hS) (a : Nat) : va_E := if sK S a < 20 then .inr (sK S a - 1, fsF S (sK S a - 1) a) else .inl (g.2.1 (ac (sK S a)), aV S (sK S a) a)
def tyA : Nat → FieldType := fun j => match j with
  | 0 => .byte
  | 1 => .int
  | 2 => .long
  | 3 => .boolean
  | 4 => .object RX0
  | 5 => .object RX3
  | 6 => .object RX8
  | _ => .object "java/lang/Object"
def tysF (g : GG) : List (ClassId × FieldType) := (List.range 8).map (fun j => (g.2.1 j, tyA j))
theorem tysF_at (g : GG) {j : Nat} (h : j < 8) : (tysF g)[j]? = some (g.2.1 j, tyA j) := by simp [tysF, h]
def HP (g : GG) (S : hS) (H : Heap) : Prop := ∃ L : List Nat, (∀ a, sK S a ≠ 0 ↔ a ∈ L) ∧ va_P g.1 vwCl (va_pl L (cF g S)) H ∧ va_D (AA g) (va_pl L (cF g S)) ∧ va_S (AA g) (gH g) H []
def LO (g : GG) (locs : List Loc) : Prop := ∀ x ∈ locs, AA g x.base
theorem HP.S {g : GG} {S : hS} {H : Heap} {locs : List Loc} (h : HP g S H) (hl : LO g locs) : va_S (AA g) (gH g) H locs := by
  obtain ⟨L, -, -, -, h1, h2, -⟩ := h
  exact ⟨h1, h2, hl⟩
/-- one cell is put anew -/
theorem HP.of {g : GG} {S S' : hS} {H : Heap} {L : List Nat} (hL : ∀ a, sK S' a ≠ 0 ↔ a ∈ L) {f : Nat → va_E} (hf : ∀ a, f a = cF g S' a) {locs : List Loc} (hP : va_P g.1 vwCl (va_pl L f) H) (hD : va_D (AA g) (va_pl L f)) (hS : va_S (AA g) (gH g) H locs) : HP g S' H ∧ LO g locs := by
  have e : va_pl L f = va_pl L (cF g S') := va_pl_congr hf
  rw [e] at hP hD
  exact ⟨⟨L, hL, hP, hD, hS.1, hS.2.1, fun _ h => by simp at h⟩, hS.2.2⟩
theorem fsF_at {S : hS} {ci k t a : Nat} (h : (tgs ci)[k]? = some t) : (fsF S ci a)[k]? = some (fval S t (100 * ci + k) a) := by
  have hk : k < (tgs ci).length := (List.getElem?_eq_some_iff.mp h).1
  have e : (tgs ci)[k] = t := by rw [List.getElem?_eq_getElem hk] at h; exact Option.some.inj h
  simp [fsF, hk, e]
theorem fsF_len (S : hS) (ci a : Nat) : (fsF S ci a).length = (tgs ci).length := by simp [fsF]
theorem fsF_set {S S' : hS} {ci k a : Nat} {v : Value} {t : Nat} (h : (tgs ci)[k]? = some t) (h1 : fval S' t (100 * ci + k) a = v) (h2 : ∀ t' k', k' ≠ k → fval S' t' (100 * ci + k') a = fval S t' (100 * ci + k') a) : (fsF S ci a).set k v = fsF S' ci a := by
  have hk : k < (tgs ci).length := (List.getElem?_eq_some_iff.mp h).1
  have e : (tgs ci).getD k 0 = t := by simp [h]
  apply List.ext_getElem?
  intro j
  by_cases hj : j = k
  · subst hj
    rw [List.getElem?_set_self (by rw [fsF_len]; exact hk), fsF_at h, h1]
  · rw [List.getElem?_set_ne (Ne.symm hj)]
    by_cases hl : j < (tgs ci).length
    · have hj2 : (tgs ci)[j]? = some (tgs ci)[j] := List.getElem?_eq_getElem hl
      rw [fsF_at hj2, fsF_at hj2, h2 _ j hj]
    · rw [List.getElem?_eq_none (by rw [fsF_len]; omega), List.getElem?_eq_none (by rw [fsF_len]; omega)]
theorem fval_setI_ne {S : hS} {f a t j b : Nat} {v : Int32} (h : ¬ (j = f ∧ b = a)) : fval (setI S f a v) t j b = fval S t j b := by
  unfold fval
  split
  · simp only [sI, setI, u2]
    by_cases h1 : j = f
    · subst h1
      rw [if_pos rfl, if_neg (fun q => h ⟨rfl, q⟩)]
    · rw [if_neg h1]
  · rfl
  · rfl
theorem fval_setR_ne {S : hS} {f a t j b : Nat} {v : Option Nat} (h : ¬ (j = f ∧ b = a)) : fval (setR S f a v) t j b = fval S t j b := by
  unfold fval
  split
  · rfl
  · simp only [sR, setR, u2]
    by_cases h1 : j = f
    · subst h1
      rw [if_pos rfl, if_neg (fun q => h ⟨rfl, q⟩)]
    · rw [if_neg h1]
  · rfl
theorem fval_setJ_ne {S : hS} {f a t j b : Nat} {v : Int64} (h : ¬ (j = f ∧ b = a)) : fval (setJ S f a v) t j b = fval S t j b := by
  unfold fval
  split
  · rfl
  · rfl
  · simp only [sJ, setJ, u2]
    by_cases h1 : j = f
    · subst h1
      rw [if_pos rfl, if_neg (fun q => h ⟨rfl, q⟩)]
    · rw [if_neg h1]
theorem cF_fields {g : GG} {S S' : hS} {ci k a t : Nat} {v : Value} (hk : sK S a = ci + 1) (hc : ci < 12) (ht : (tgs ci)[k]? = some t) (hK : S'.1 = S.1) (hA : S'.2.2.2.2 = S.2.2.2.2) (hv : fval S' t (100 * ci + k) a = v)
    (ho : ∀ t' j b, ¬ (j = 100 * ci + k ∧ b = a) → fval S' t' j b = fval S t' j b) (b : Nat) : va_up (cF g S) a (.inr (ci, (fsF S ci a).set k v)) b = cF g S' b := by
  have hKb : ∀ b, sK S' b = sK S b := fun b => by show S'.1 b = S.1 b; rw [hK]
  have hAb : ∀ k b, aV S' k b = aV S k b := fun k b => by
    simp only [aV, sN, aI, aJ, aR, hA]
  by_cases hb : b = a
  · subst hb
    rw [va_up_self]
    unfold cF
    rw [hKb, hk, if_pos (by omega)]
    show (Sum.inr (ci, _) : va_E) = Sum.inr (ci + 1 - 1, fsF S' (ci + 1 - 1) b)
    rw [show ci + 1 - 1 = ci by omega]
    rw [fsF_set (S' := S') ht hv (fun t' k' h => ho t' _ _ (fun q => h (by omega)))]
  · rw [va_up_ne _ _ hb]
    unfold cF
    rw [hKb, hAb]
    split
    · have : fsF S (sK S b - 1) b = fsF S' (sK S b - 1) b := by
        unfold fsF
        apply List.map_congr_left
        intro x _
        exact (ho _ _ _ (fun q => hb q.2)).symm
      rw [this]
    · rfl
