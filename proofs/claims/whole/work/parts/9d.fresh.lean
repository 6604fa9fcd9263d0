/-! What is written into new cells leaves the old ones alone; the graph with a transaction marked as polled -/
section Fresh
variable {P R A : Nat → Nat → Prop} {g : GG} {S S1 : hS} {q po go n h a t : Nat} {T O : Nat → Nat} {M : MM} {G : Nat → Int32}
theorem ne_fr {y : Nat} (hq : sK S q = 0) (hy : sK S y ≠ 0) : y ≠ q := fun e => hy (by rw [e]; exact hq)
theorem Ag.iz {f : Nat} {v : Int32} (h : Ag P R A S S1) (hq : sK S q = 0) : Ag P R A S (setI S1 f q v) := fun y hy => by
  obtain ⟨a1, a2, a3, a4, a5⟩ := h y hy
  exact ⟨a1, a2, fun f' hf => ⟨(sI_n (Or.inr (ne_fr hq hy))).trans (a3 f' hf).1, (a3 f' hf).2⟩, a4, a5⟩
theorem Ag.rz {f : Nat} {v : Option Nat} (h : Ag P R A S S1) (hq : sK S q = 0) : Ag P R A S (setR S1 f q v) := fun y hy => by
  obtain ⟨a1, a2, a3, a4, a5⟩ := h y hy
  exact ⟨a1, a2, a3, fun f' hf => (sR_n (Or.inr (ne_fr hq hy))).trans (a4 f' hf), a5⟩
theorem Ag.pz {r : Nat} {F : Nat → Int32} (h : Ag P R A S S1) (hq : sK S q = 0) : Ag P R A S (putI S1 r q F) := fun y hy => by
  obtain ⟨a1, a2, a3, a4, a5⟩ := h y hy
  exact ⟨a1, a2, a3, a4, fun r' hr => ⟨(aI_pn (Or.inr (ne_fr hq hy))).trans (a5 r' hr).1, (a5 r' hr).2.1, (a5 r' hr).2.2⟩⟩
theorem Ag.naz {k N : Nat} (h : Ag P R A S S1) (hq : sK S1 q = 0) : Ag P R A S (newA S1 q k N) := h.tr (Fx.na hq).ag
theorem Ag.noz {k : Nat} (h : Ag P R A S S1) (hq : sK S1 q = 0) : Ag P R A S (newO S1 q k) := h.tr (Fx.no hq).ag
theorem Ag.jz {f x : Nat} {v : Int64} (h : Ag P R A S S1) (hp : ¬ P f x) : Ag P R A S (setJ S1 f x v) := h.tr (Ag.sj hp)
/-- a transaction is marked as polled: only that field changes -/
theorem CGr.pol (hC : CGr g S po go T O M G n h a) (hG : GV M n h) (ht : t < n) : CGr g (setI S 913 (T t) (nI 1)) po go T O (um M 15 t (nI 1)) G n h a := by
  have sy : Sy M (um M 15 t (nI 1)) := um_sy (by decide)
  have e14 : um M 15 t (nI 1) 14 = M 14 := um_n (by decide)
  have e13 : um M 15 t (nI 1) 13 = M 13 := um_n (by decide)
  refine ⟨?_, ?_, ?_⟩
  · have q := hC.1.pds (v := nI 1) hG.hn ht
    show CR g _ po go T O _ n h a (fun u => nI (conf (um M 15 t (nI 1)) n h u)) (acO (um M 15 t (nI 1)) n h) (mem (um M 15 t (nI 1)) n h)
    rw [sy.cf e14, sy.me, acO_of sy e13]
    exact q
  · rw [sI_n (Or.inl (by decide))]; exact hC.2.1
  · rw [sI_n (Or.inl (by decide))]; exact hC.2.2
theorem cf_pol {v : Int32} {y : Nat} : Cf po [4] S (setI S 913 y v) := Ag.si (fun z => z (by rw [show kf po 913 y = 4 from kf_gi (Or.inr (Or.inr ⟨by omega, by omega⟩))]; decide))
end Fresh
