/-! ===== what a week keeps ===== -/
section WEEKI
variable {B nf nt nc nd : Nat} {s : Nat → Int32}
theorem nI_sub1 {n : Nat} (h : 1 ≤ n) : nI n - 1 = nI (n - 1) := nI_pr h
theorem pos_bd {x : Int32} (h : bd 0 99 x) (h2 : 0 < x) : ∃ n, 1 ≤ n ∧ n ≤ 99 ∧ x = nI n := by
  obtain ⟨n, -, h3, rfl⟩ := h
  exact ⟨n, (nI_ltI (a := 0) (b := n) (by omega) (by omega)).mp h2, h3, rfl⟩
theorem inv_dan (h : Inv B nf nt nc nd s) {k d : Nat} (hk : k < nc) (hd : d < nd) (hp : 0 < s (129 + 5 * d + 2)) : Inv B nf nt nc nd (danS s k d) := by
  obtain ⟨⟨b1, b2, b3, b4⟩, h2, hf, hk2, hd2, hs⟩ := h
  have hnf := b1.2
  have hnc := b3.2
  have hnd := b4.2
  have e : ∀ j, j ≠ 6 → j ≠ 39 + 9 * k + 7 → j ≠ 129 + 5 * d + 1 → j ≠ 129 + 5 * d + 2 → j ≠ 129 + 5 * d + 3 → danS s k d j = s j := fun j h1 h2 h3 h4 h5 => by
    unfold danS
    simp (disch := omega) only [upd_ne]
  have e6 : danS s k d 6 = s 6 + 1 := by unfold danS; simp (disch := omega) only [upd_ne, upd_same]
  have e7 : danS s k d (39 + 9 * k + 7) = s (39 + 9 * k + 7) + 1 := by unfold danS; simp (disch := omega) only [upd_ne, upd_same]
  have eL : danS s k d (129 + 5 * d + 2) = s (129 + 5 * d + 2) - 1 := by unfold danS; simp (disch := omega) only [upd_ne, upd_same]
  have eU : danS s k d (129 + 5 * d + 3) = s (129 + 5 * d + 3) + 1 := by unfold danS; simp (disch := omega) only [upd_ne, upd_same]
  refine ⟨⟨?_, ?_, ?_, ?_⟩, ?_, fun f hf' => ?_, fun k' hk' => ?_, fun d' hd' => ?_, ?_⟩
  · simp (disch := omega) only [e]; exact b1
  · simp (disch := omega) only [e]; exact b2
  · simp (disch := omega) only [e]; exact b3
  · simp (disch := omega) only [e]; exact b4
  · simp (disch := omega) only [e]; exact h2
  · unfold FlOK; simp (disch := omega) only [e]; exact hf f hf'
  · unfold ClOK; simp (disch := omega) only [e]; exact hk2 k' hk'
  · unfold DaOK
    by_cases e0 : d' = d
    · subst e0
      rw [eL, eU, e _ (by omega) (by omega) (by omega) (by omega) (by omega)]
      obtain ⟨n1, n4⟩ := hd2 d' hd'
      obtain ⟨n, n2, n3, n5⟩ := pos_bd n1 hp
      refine ⟨⟨n - 1, by omega, by omega, by rw [n5, nI_sub1 n2]⟩, ?_⟩
      rw [n4]; grind
    · simp (disch := omega) only [e]; exact hd2 d' hd'
  · obtain ⟨c1, c2, c3⟩ := hs
    refine ⟨?_, ?_, ?_⟩
    · rw [e 5 (by omega) (by omega) (by omega) (by omega) (by omega), c1]
      exact sumI_congr fun k hk => (e _ (by omega) (by omega) (by omega) (by omega) (by omega)).symm
    · rw [sumI_one (g := fun d => s (129 + 5 * d + 3)) hd (fun k hk hne => e _ (by omega) (by omega) (by omega) (by omega) (by omega)), ← c2, eU, e6]
      grind
    · rw [sumI_one (g := fun k => s (39 + 9 * k + 7)) hk (fun k hk hne => e _ (by omega) (by omega) (by omega) (by omega) (by omega)), e7, e6, e 10 (by omega) (by omega) (by omega) (by omega) (by omega), c3]
      grind
theorem inv_hold (h : Inv B nf nt nc nd s) {k b : Nat} (hk : k < nc) (hb : bd 0 b (s (39 + 9 * k + 6))) (hB : b + 1 ≤ B) : Inv B nf nt nc nd (holdS s k) := by
  obtain ⟨⟨b1, b2, b3, b4⟩, h2, hf, hk2, hd2, hs⟩ := h
  have hnf := b1.2
  have hnc := b3.2
  have hnd := b4.2
  have e : ∀ j, j ≠ 7 → j ≠ 39 + 9 * k + 6 → holdS s k j = s j := fun j h1 h2 => by
    unfold holdS
    simp (disch := omega) only [upd_ne]
  have e6 : holdS s k (39 + 9 * k + 6) = s (39 + 9 * k + 6) + 1 := by unfold holdS; simp (disch := omega) only [upd_ne, upd_same]
  refine ⟨⟨?_, ?_, ?_, ?_⟩, ?_, fun f hf' => ?_, fun k' hk' => ?_, fun d' hd' => ?_, ?_⟩
  · simp (disch := omega) only [e]; exact b1
  · simp (disch := omega) only [e]; exact b2
  · simp (disch := omega) only [e]; exact b3
  · simp (disch := omega) only [e]; exact b4
  · simp (disch := omega) only [e]; exact h2
  · unfold FlOK; simp (disch := omega) only [e]; exact hf f hf'
  · unfold ClOK
    by_cases e0 : k' = k
    · subst e0
      rw [e6]
      simp (disch := omega) only [e]
      obtain ⟨n1, n2, n3, n4⟩ := hk2 k' hk'
      obtain ⟨n, n5, n6, n7⟩ := hb
      exact ⟨n1, n2, ⟨n + 1, by omega, by omega, by rw [n7, nI_1]⟩, n4⟩
    · simp (disch := omega) only [e]; exact hk2 k' hk'
  · unfold DaOK; simp (disch := omega) only [e]; exact hd2 d' hd'
  · obtain ⟨c1, c2, c3⟩ := hs
    refine ⟨?_, ?_, ?_⟩
    · rw [e 5 (by omega) (by omega), c1]
      exact sumI_congr fun k hk => (e _ (by omega) (by omega)).symm
    · rw [e 6 (by omega) (by omega), c2]
      exact sumI_congr fun k hk => (e _ (by omega) (by omega)).symm
    · rw [e 6 (by omega) (by omega), e 10 (by omega) (by omega), c3]
      exact congrArg _ (sumI_congr fun k hk => (e _ (by omega) (by omega)).symm)
theorem inv_lo {i : Nat} {x : Int32} (hi : i = 4 ∨ i = 7 ∨ i = 8) (h : Inv B nf nt nc nd s) : Inv B nf nt nc nd (upd s i x) := by
  obtain ⟨⟨b1, b2, b3, b4⟩, h2, hf, hk, hd, hs⟩ := h
  refine ⟨⟨?_, ?_, ?_, ?_⟩, ?_, fun f hf' => ?_, fun k hk' => ?_, fun d hd' => ?_, ?_⟩
  · simp (disch := omega) only [upd_ne]; exact b1
  · simp (disch := omega) only [upd_ne]; exact b2
  · simp (disch := omega) only [upd_ne]; exact b3
  · simp (disch := omega) only [upd_ne]; exact b4
  · simp (disch := omega) only [upd_ne]; exact h2
  · unfold FlOK; simp (disch := omega) only [upd_ne]; exact hf f hf'
  · unfold ClOK; simp (disch := omega) only [upd_ne]; exact hk k hk'
  · unfold DaOK; simp (disch := omega) only [upd_ne]; exact hd d hd'
  · unfold SmOK; simp (disch := omega) only [upd_ne]; exact hs
theorem inv_dn {w : Int32} {k : Nat} (hk : k < nc) (h : Inv B nf nt nc nd s) (hw : ∀ d, d < nd → bitS w (nI d) = true → 0 < s (129 + 5 * d + 2)) : ∀ n, n ≤ nd → Inv B nf nt nc nd (dnN w k n s)
  | 0, _ => h
  | n + 1, hn => by
    have ih := inv_dn hk h hw n (by omega)
    show Inv B nf nt nc nd (if bitS w (nI n) then danS (dnN w k n s) k n else dnN w k n s)
    split
    · refine inv_dan ih hk (by omega) ?_
      rw [dn_2 (Nat.lt_of_lt_of_le hk h.lc), if_neg (by omega)]
      exact hw n (by omega) (by assumption)
    · exact ih
theorem com_bit {k d : Nat} (hnd : nd ≤ 12) (hd : d < nd) : bitS (comI s k nd) (nI d) = comB s k d := by
  rw [bitS_bt (by omega), comI_bt hnd (by omega), decide_eq_true hd]
  rfl
/-- what holds while the classes are gone through -/
def InvW (B nf nt nc nd k : Nat) (s : Nat → Int32) : Prop := Inv (B + 1) nf nt nc nd s ∧ ∀ k', k ≤ k' → k' < nc → bd 0 B (s (39 + 9 * k' + 6))
theorem invW_s {k : Nat} (hk : k < nc) (h : InvW B nf nt nc nd k s) : InvW B nf nt nc nd (k + 1) (stepC nd s k) := by
  obtain ⟨h1, h2⟩ := h
  have hnc := h1.lc
  unfold stepC
  split
  · refine ⟨inv_lo (by omega) h1, fun k' a b => ?_⟩
    rw [upd_ne (by omega)]
    exact h2 k' (by omega) b
  · refine ⟨inv_dn hk (inv_hold h1 hk (h2 k (Nat.le_refl _) hk) (Nat.le_refl _)) (fun d hd hb => ?_) nd (Nat.le_refl _), fun k' a b => ?_⟩
    · rw [com_bit h1.ld hd] at hb
      unfold comB at hb
      rw [Bool.and_eq_true] at hb
      have e : holdS s k (129 + 5 * d + 2) = s (129 + 5 * d + 2) := by unfold holdS; simp (disch := omega) only [upd_ne]
      rw [e]
      exact of_decide_eq_true hb.2
    · rw [dn_o (by omega) (by omega) (by omega)]
      have e : holdS s k (39 + 9 * k' + 6) = s (39 + 9 * k' + 6) := by unfold holdS; simp (disch := omega) only [upd_ne]
      rw [e]
      exact h2 k' (by omega) b
theorem invW_c (h : Inv B nf nt nc nd s) : ∀ k, k ≤ nc → InvW B nf nt nc nd k (clsN nd k s)
  | 0, _ => ⟨h.up (Nat.le_succ B), fun k' _ hk' => (h.cl hk').2.2.1⟩
  | k + 1, hk => invW_s (by omega) (invW_c h k (by omega))
theorem inv_ri (h : Inv B nf nt nc nd s) (n : Nat) : Inv B nf nt nc nd (riseN n s) := by
  obtain ⟨⟨b1, b2, b3, b4⟩, h2, hf, hk, hd, hs⟩ := h
  have hnf := b1.2
  have hnc := b3.2
  have hnd := b4.2
  refine ⟨⟨?_, ?_, ?_, ?_⟩, ?_, fun f hf' => ?_, fun k hk' => ?_, fun d hd' => ?_, ?_⟩
  · rw [ri_l (by omega)]; exact b1
  · rw [ri_l (by omega)]; exact b2
  · rw [ri_l (by omega)]; exact b3
  · rw [ri_l (by omega)]; exact b4
  · rw [ri_l (by omega)]; exact h2
  · unfold FlOK; rw [ri_l (by omega), ri_l (by omega), ri_l (by omega)]; exact hf f hf'
  · unfold ClOK; rw [ri_l (by omega), ri_l (by omega), ri_l (by omega), ri_l (by omega)]; exact hk k hk'
  · unfold DaOK; rw [ri_2 (by omega) (by omega), ri_2 (by omega) (by omega), ri_2 (by omega) (by omega)]; exact hd d hd'
  · obtain ⟨c1, c2, c3⟩ := hs
    refine ⟨?_, ?_, ?_⟩
    · rw [ri_l (by omega), c1]
      exact sumI_congr fun k hk => (ri_2 (by omega) (by omega) n).symm
    · rw [ri_l (by omega), c2]
      exact sumI_congr fun k hk => (ri_2 (by omega) (by omega) n).symm
    · rw [ri_l (by omega), ri_l (by omega), c3]
      exact congrArg _ (sumI_congr fun k hk => (ri_l (by omega) n).symm)
theorem inv_week (h : Inv B nf nt nc nd s) : Inv (B + 1) nf nt nc nd (weekS nc nd s) :=
  inv_ri (invW_c (inv_lo (Or.inl rfl) h) nc (Nat.le_refl _)).1 nd
theorem inv_wk (h : Inv B nf nt nc nd s) : ∀ n, Inv (B + n) nf nt nc nd (wkN nc nd n s)
  | 0 => h
  | n + 1 => inv_week (inv_wk h n)
/-- the cells of those who come -/
theorem com_eq {M : Mem} {o k : Nat} (hr : RepS M o nf nt nc nd s) (hI : Inv B nf nt nc nd s) (hk : k < nc) : sumI nd (fun j => if (bitS (M (o + 13 + k) 6) (nI j) && decide (0 < M (o + 24 + j) 2)) = true then (1 : Int32) else 0) = bitsI (comI s k nd) := by
  rw [bits_com hI.ld]
  apply sumI_congr
  intro j hj
  unfold comB
  rw [(hr.2.2.2.1 k hk).2.2.2.2.2.2.1, (hr.2.2.2.2 j hj).2.2.1]
theorem cnt_com (hI : Inv B nf nt nc nd s) {k : Nat} : cntW (comI s k nd) nd = bitsI (comI s k nd) := by
  rw [bits_com hI.ld]
  apply sumI_congr
  intro d hd
  rw [com_bit hI.ld hd]
end WEEKI
