theorem in255 {c : Int32} (h : inB c 0 255 = true) : ∃ n, n < 256 ∧ c = nI n := by
  unfold inB at h
  rw [Bool.and_eq_true] at h
  obtain ⟨n, hn, rfl⟩ := nI_of (x := c) (Int32.not_lt.mpr (of_decide_eq_true h.1))
  exact ⟨n, by have := (nI_leI (a := n) (b := 255) (by omega) (by omega)).mp (of_decide_eq_true h.2); omega, rfl⟩