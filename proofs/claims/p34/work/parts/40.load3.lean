def FrV (M M' : Mem) (m : Nat) : Prop := (∀ r, r ≠ m → r ≠ m + 1 → r ≠ m + 2 → r ≠ m + 4 → M' r = M r) ∧ M' m 5 = M m 5 ∧ M' m 2 = 0 ∧ M' m 0 = 0 ∧ M' (m + 2) 0 = 0 ∧ M' (m + 2) 1 = 0
theorem FrV.u {M M' M'' : Mem} {m : Nat} (h : FrV M M' m) (h2 : FrU M' M'' m) : FrV M M'' m := by
  obtain ⟨a1, a2, a3, a4, a5, a6⟩ := h
  refine ⟨fun r b1 b2 b3 b4 => (h2.1 r b1 b4).trans (a1 r b1 b2 b3 b4), (h2.2 5 (by omega) (by omega)).trans a2, (h2.2 2 (by omega) (by omega)).trans a3, (h2.2 0 (by omega) (by omega)).trans a4, ?_, ?_⟩
  · rw [h2.1 (m + 2) (by omega) (by omega)]; exact a5
  · rw [h2.1 (m + 2) (by omega) (by omega)]; exact a6
theorem FrV.s {M M' : Mem} {m : Nat} {f : Nat → Int32} (h : FrV M M' m) : FrV M (sR M' (m + 1) f) m := by
  obtain ⟨a1, a2, a3, a4, a5, a6⟩ := h
  have e : ∀ r, r ≠ m + 1 → sR M' (m + 1) f r = M' r := fun r hr => sR_o _ _ _ hr
  refine ⟨fun r b1 b2 b3 b4 => (e r b2).trans (a1 r b1 b2 b3 b4), ?_, ?_, ?_, ?_, ?_⟩
  · rw [e m (by omega)]; exact a2
  · rw [e m (by omega)]; exact a3
  · rw [e m (by omega)]; exact a4
  · rw [e (m + 2) (by omega)]; exact a5
  · rw [e (m + 2) (by omega)]; exact a6