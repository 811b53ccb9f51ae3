theorem left_nn {B : Nat} {s : Nat → Int32} (hI : IR B s) {d : Int32} (h : cpass s d = true) : ∃ n, n < 90 ∧ s (129 + 5 * tn d + 2) = nI n := by
  obtain ⟨nf, nt, nc, nd, hI⟩ := hI
  have bn := hI.ld
  obtain ⟨d', hd, ed, hl⟩ := hI.qPa.mp h
  obtain ⟨n, -, n2, n3⟩ := (hI.da hd).1
  refine ⟨n, ?_, by rw [ed, tn_nI (by omega)]; exact n3⟩
  rw [n3] at hl
  exact (nI_ltI (a := n) (b := 90) (by omega) (by omega)).mp hl
theorem in3 {g : Nat} (hg : g < 100000) : inB (nI g) 30001 30009 = (decide (30001 ≤ g) && decide (g ≤ 30009)) := by
  unfold inB
  congr 1
  · exact decide_eq_decide.mpr (nI_leI (a := 30001) (b := g) (by omega) (by omega))
  · exact decide_eq_decide.mpr (nI_leI (a := g) (b := 30009) (by omega) (by omega))
theorem dan_lt {B nf nt nc nd : Nat} {s : Nat → Int32} (hI : Inv B nf nt nc nd s) {g : Nat} (h : isD s (nI (g / 1000 % 10)) = true) : g / 1000 % 10 < nd := by
  obtain ⟨d, hd, ed⟩ := hI.xD.mp h
  have := (nI_eq (a := g / 1000 % 10) (b := d) (by omega) (by have := hI.ld; omega)).mp ed
  omega
theorem gc_keep {B g : Nat} {s : Nat → Int32} (hI : IR B s) : Kp3 (B + 100) s (gcS g s) := by
  have hrf : Kp3 (B + 100) s s := (Kp3.rf hI).up (by omega)
  rcases (show g / 10000 = 1 ∨ g / 10000 = 2 ∨ g / 10000 = 3 ∨ g / 10000 = 4 ∨ g / 10000 = 5 ∨ g / 10000 = 6 ∨ g / 10000 = 7 ∨ g / 10000 = 8 ∨ g / 10000 = 9 ∨ (g / 10000 < 1 ∨ 9 < g / 10000) by omega) with h | h | h | h | h | h | h | h | h | h
  · rw [gcS_1 h]
    split
    · next hg =>
      rw [Bool.and_eq_true] at hg
      exact (kp_ts hI hg.2).1.up (by omega)
    · exact hrf
  · rw [gcS_2 h]
    split
    · next hg =>
      rw [Bool.and_eq_true] at hg
      exact (kp_le hI hg.2).1.up (by omega)
    · exact hrf
  · rw [gcS_3 h]
    split
    · exact (kp_wk hI (g % 100)).1.up (by omega)
    · exact hrf
  · rw [gcS_4 h]
    split
    · next hg =>
      rw [Bool.and_eq_true] at hg
      exact (kp_pa hI hg.2).1.up (by omega)
    · exact hrf
  · rw [gcS_5 h]
    split
    · next hg =>
      rw [Bool.and_eq_true] at hg
      exact (kp_dr hI hg.2).1.up (by omega)
    · exact hrf
  · rw [gcS_6 h]; exact hrf
  · rw [gcS_7 h]; exact hrf
  · rw [gcS_8 h]; exact hrf
  · rw [gcS_9 h]; exact hrf
  · rw [gcS_0 h]; exact hrf
