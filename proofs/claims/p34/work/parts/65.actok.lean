/-! ===== p34: a deed keeps what holds ===== -/
def LJ (B : Nat) (s : Nat → Int32) : Prop := ∃ nf nt nc nd : Nat, Inv B nf nt nc nd s ∧ LqK B nf nt nc nd s
theorem LJ.up {B B' : Nat} {s : Nat → Int32} (h : LJ B s) (hB : B ≤ B') : LJ B' s := by
  obtain ⟨nf, nt, nc, nd, h1, h2⟩ := h
  exact ⟨nf, nt, nc, nd, h1.up hB, h2.up hB⟩
theorem nn {n : Nat} (h : n < 2 ^ 31) : 0 ≤ nI n := (nI_leI (a := 0) (b := n) (by decide) h).mpr (Nat.zero_le n)
theorem whyI_nn (s : Nat → Int32) (nc : Nat) (st lv : Int32) (f t : Nat) (dy hr : Int32) : 0 ≤ whyI s nc st lv f t dy hr := by
  unfold whyI
  repeat' split
  all_goals decide
theorem whyS_nn (s : Nat → Int32) (nc d k f : Nat) : 0 ≤ whyS s nc d k f := by
  unfold whyS
  repeat' split
  all_goals decide
theorem bits_ge (x : Int32) : 0 ≤ bitsI x := by
  obtain ⟨u, h1, h2⟩ := bits_nn x
  rw [h2]; exact nn (by omega)
section AOK
variable {B nf nt nc nd : Nat} {s : Nat → Int32}
def AOk (B : Nat) (p : Int32 × (Nat → Int32)) : Prop := 0 ≤ p.1 ∧ LJ (B + 9) p.2
theorem LJ.of {B' : Nat} {s' : Nat → Int32} {a b c d : Nat} (h1 : Inv B a b c d s') (h2 : LqK B a b c d s') (hB : B ≤ B') : LJ B' s' := ⟨a, b, c, d, h1.up hB, h2.up hB⟩
theorem lj_tc (hI : Inv B nf nt nc nd s) (h : LqK B nf nt nc nd s) (hn : nc < 10) {st lv dy hr : Int32} {f t : Nat} (hf : f < nf) (ht : t < nt) (h1 : bd 0 3 st) (h2 : bd 1 5 lv) (h3 : bd 0 5 dy) : LJ B (tcT s st lv (nI f) (nI t) dy hr) := by
  have bf := hI.lf
  have bt := hI.lt
  unfold tcT wCl
  rw [hI.n2, tn_nI (by omega), tn_nI (by omega)]
  split
  · exact ⟨_, _, _, _, inv_cl hI hn hf h3, lk_cl hI h hn hf ht h1 h2 (by assumption)⟩
  · exact ⟨_, _, _, _, hI.r9, lk_lo hI h (Or.inl rfl)⟩
theorem lj_ts (hI : Inv B nf nt nc nd s) (h : LqK B nf nt nc nd s) {d k : Nat} (hd : d < nd) (hk : k < nc) : LJ B (tsT s (nI d) (nI k)) := by
  have bn := hI.ld
  have bc := hI.lc
  unfold tsT wSe
  rw [hI.n2, tn_nI (by omega), tn_nI (by omega)]
  split
  · rename_i hw
    exact ⟨_, _, _, _, inv_en hI hd hk (whyS_bit hw), lk_en hI h hd hk hw⟩
  · exact ⟨_, _, _, _, hI.r9, lk_lo hI h (Or.inl rfl)⟩
theorem ok_J (hI : Inv B nf nt nc nd s) (h : LqK B nf nt nc nd s) {n : Nat} (hn : n ≤ 9) : AOk B (actJ nc nd s n) := by
  refine ⟨?_, (show LJ (B + n) (wkN nc nd n s) from ⟨_, _, _, _, inv_wk hI n, lk_wk hI h n⟩).up (by omega)⟩
  obtain ⟨u, h1, h2⟩ := wk_nn hI n
  show 0 ≤ wkN nc nd n s 6 - s 6
  rw [h2, show s 6 + nI u - s 6 = nI u by grind]
  exact nn (by omega)
theorem ok_dr (hI : Inv B nf nt nc nd s) (h : LqK B nf nt nc nd s) {k : Nat} (hk : k < nc) : AOk B (bitsI (s (39 + 9 * k + 8)), drS s nc k) := ⟨bits_ge _, LJ.of (inv_dr hI hk) (lk_dr hI h hk) (by omega)⟩
theorem ok_I (hI : Inv B nf nt nc nd s) (h : LqK B nf nt nc nd s) (w : Nat) (y : Int32) : AOk B (actI nc nd s w y) := by
  unfold actI
  split
  · split
    · exact ok_dr hI h (upN_lt _ (by omega))
    · exact ok_J hI h (by omega)
  · exact ok_J hI h (by have := upN_lt y (m := 4) (by omega); omega)
theorem ok_H (hI : Inv B nf nt nc nd s) (h : LqK B nf nt nc nd s) (w : Nat) (y : Int32) : AOk B (actH nc nd s w y) := by
  unfold actH
  split
  · split
    · refine ⟨?_, LJ.of (inv_tune (k := 0) hI (by omega) (fun _ => bd_w (bd_1up (m := 4) (by omega)) (by omega))) (lk_lo (i := 11) hI h (Or.inr rfl)) (by omega)⟩
      obtain ⟨n, _, n2, n3⟩ := hI.s11
      show 0 ≤ s 11
      rw [n3]; exact nn (by omega)
    · refine ⟨?_, LJ.of (inv_12 hI) (lk_12 hI h (bd_1up (m := 50) (by omega))) (by omega)⟩
      obtain ⟨n, _, n2, n3⟩ := h.1
      show 0 ≤ s 12
      rw [n3]; exact nn (by omega)
  · exact ok_I hI h w y
theorem ok_E (hI : Inv B nf nt nc nd s) (h : LqK B nf nt nc nd s) (w : Nat) {d : Nat} (hd : d < nd) (y : Int32) : AOk B (actE nc nd s w d y) := by
  unfold actE
  split
  · rename_i q
    have hk : upN (y >>> (5 &&& 31)) nc < nc := upN_lt _ (by omega)
    split
    · rename_i q2
      exact ⟨bits_ge _, LJ.of (inv_le hI hd hk (wSe_1 hI hd hk q2.1)) (lk_le hI h hd hk (wSe_1 hI hd hk q2.1)) (by omega)⟩
    · exact ⟨whyS_nn _ _ _ _ _, (lj_ts hI h hd hk).up (by omega)⟩
  · exact ok_H hI h w y
theorem ok_D (hI : Inv B nf nt nc nd s) (h : LqK B nf nt nc nd s) (w : Nat) {d : Nat} (hd : d < nd) (y : Int32) : AOk B (actD nc nd s w d y) := by
  unfold actD
  split
  · split
    · rename_i hl
      refine ⟨?_, LJ.of (inv_pa hI hd hl) (lk_pa hI h hd) (by omega)⟩
      obtain ⟨l, _, l2, l3⟩ := (hI.da hd).1
      show 0 ≤ s (129 + 5 * d + 2) + 10
      rw [l3, show (10 : Int32) = nI 10 from rfl, nI_add]
      exact nn (by omega)
    · exact ok_J hI h (by omega)
  · exact ok_E hI h w hd y
theorem ok_C (hI : Inv B nf nt nc nd s) (h : LqK B nf nt nc nd s) (w : Nat) (hf0 : 0 < nf) (ht0 : 0 < nt) (hd0 : 0 < nd) (y : Int32) : AOk B (actC nf nt nc nd s w y) := by
  have bf := hI.lf
  unfold actC
  split
  · unfold actS
    split
    · exact ⟨whyI_nn _ _ _ _ _ _ _ _, (lj_tc hI h (by assumption) (bstN_lt (by omega) (upN_lt _ hf0)) (upN_lt _ ht0) (bd_up (m := 4) (by omega)) (bd_w (bd_1up (m := 3) (by omega)) (by omega)) (bd_up (m := 6) (by omega))).up (by omega)⟩
    · exact ok_dr hI h (Nat.lt_of_lt_of_le (upN_lt y (m := 10) (by omega)) (by omega))
  · exact ok_D hI h w (upN_lt _ hd0) y
theorem ok_F (hI : Inv B nf nt nc nd s) (h : LqK B nf nt nc nd s) (x y : Int32) : AOk B (actF nf nt nc nd s x y) := by
  have bf := hI.lf
  have bt := hI.lt
  have bn := hI.ld
  unfold actF
  split
  · refine ⟨nn (by omega), LJ.of (inv_fl hI (by omega) (bd_up (m := 5) (by omega)) (bd_up (m := 61) (by omega)) ?_) (lk_fl hI h (by omega)) (by omega)⟩
    split
    · exact bd_1up (m := 30) (by omega)
    · exact bd_w (bd_1up (m := 3) (by omega)) (by omega)
  · unfold actA
    split
    · exact ⟨nn (by omega), LJ.of (inv_te hI (by omega)) (lk_te hI h (by omega)) (by omega)⟩
    · unfold actB
      split
      · exact ⟨nn (by omega), LJ.of (inv_da hI (by omega)) (lk_da hI h (by omega)) (by omega)⟩
      · exact ok_C hI h _ (by omega) (by omega) (by omega) y
end AOK
