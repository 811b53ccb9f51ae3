/-! ===== p34: what the sums say ===== -/
section LSUM
variable {B nf nt nc nd : Nat} {s : Nat → Int32}
theorem cN2 (hI : Inv B nf nt nc nd s) : cN s 2 = nc := hI.n2
theorem s_seats (hI : Inv B nf nt nc nd s) (h : LqK B nf nt nc nd s) : sumI nd (fun d => daV s d 5) = sumI nc (fun k => bitsI (s (39 + 9 * k + 8))) := by
  have bn := hI.ld
  have bc := hI.lc
  have e1 : sumI nd (fun d => daV s d 5) = nI (sumN nd (fun d => sumN nc (fun k => if bt (s (39 + 9 * k + 8)) d = true then 1 else 0))) := by
    apply sumI_N
    intro d hd
    unfold daV
    rw [if_pos rfl, hI.n2]
    apply sumI_N
    intro k hk
    rw [bitS_bt (by omega)]
    split <;> rfl
  have e2 : sumI nc (fun k => bitsI (s (39 + 9 * k + 8))) = nI (sumN nc (fun k => sumN nd (fun d => if bt (s (39 + 9 * k + 8)) d = true then 1 else 0))) := by
    apply sumI_N
    intro k hk
    rw [bits_N]
    congr 1
    have h0 : (12 : Nat) = nd + (12 - nd) := by omega
    conv => lhs; rw [h0]
    rw [sumN_add, sumN_congr (n := 12 - nd) (g := fun _ => 0) (fun j hj => by rw [(h.2.2.1 k hk).1 (nd + j) (by omega) (by omega)]; rfl), sumN_c]
    omega
  rw [e1, e2, sumN_sw]
theorem s_left {p l : Nat → Int32} : ∀ n, sumI n (fun d => 10 * p d - l d) + sumI n l = 10 * sumI n p
  | 0 => by show (0 : Int32) + 0 = 10 * 0; decide
  | n + 1 => by
    have ih := s_left (p := p) (l := l) n
    show (sumI n _ + (10 * p n - l n)) + (sumI n l + l n) = 10 * (sumI n p + p n)
    grind
theorem s_ten (hI : Inv B nf nt nc nd s) : 10 * s 5 = s 6 + leftV s := by
  obtain ⟨c1, c2, -⟩ := hI.sm
  unfold leftV
  rw [hI.n3, c1, c2, sumI_congr (f := fun d => s (129 + 5 * d + 3)) (g := fun d => 10 * s (129 + 5 * d + 4) - s (129 + 5 * d + 2)) (fun d hd => (hI.da hd).2)]
  exact (s_left nd).symm
theorem s_uses (hI : Inv B nf nt nc nd s) (h : LqK B nf nt nc nd s) (hB : B < 1000000) : sumI nc (fun k => s (39 + 9 * k + 7)) ≤ s 6 := by
  obtain ⟨v, u, u1, u2, u3⟩ := h.2.2.2.2.2.1
  rw [hI.sm.2.2, u1, sumI_N u2, nI_add, nI_leI (by omega) (by omega)]
  omega
theorem pick {g : Nat} : ∀ {n : Nat}, g < n → sumN n (fun f => if g = f then 1 else 0) = 1
  | 0, h => absurd h (by omega)
  | n + 1, h => by
    show sumN n _ + (if g = n then 1 else 0) = 1
    by_cases q : g = n
    · subst q
      rw [if_pos rfl, sumN_congr (g := fun _ => 0) (fun k hk => if_neg (by omega)), sumN_c]
      omega
    · rw [if_neg q, pick (by omega)]
theorem s_pick {w n : Nat} (hn : n ≤ 100) (hI : Inv B nf nt nc nd s) (h : ∀ k, k < nc → ∃ f, f < n ∧ s (39 + 9 * k + w) = nI f) : sumI n (fun f => clsV s w (nI f)) = nI nc := by
  have e : ∃ g : Nat → Nat, ∀ k, k < nc → g k < n ∧ s (39 + 9 * k + w) = nI (g k) := ⟨fun k => tn (s (39 + 9 * k + w)), fun k hk => by
    obtain ⟨f, h1, h2⟩ := h k hk
    have e : tn (s (39 + 9 * k + w)) = f := by rw [h2, tn_nI (by omega)]
    show tn (s (39 + 9 * k + w)) < n ∧ _ = nI (tn (s (39 + 9 * k + w)))
    rw [e]
    exact ⟨h1, h2⟩⟩
  obtain ⟨g, hg⟩ := e
  have e1 : sumI n (fun f => clsV s w (nI f)) = nI (sumN n (fun f => sumN nc (fun k => if g k = f then 1 else 0))) := by
    apply sumI_N
    intro f hf
    unfold clsV
    rw [hI.n2]
    apply sumI_N
    intro k hk
    rw [(hg k hk).2]
    have := (hg k hk).1
    by_cases q : g k = f
    · rw [if_pos (by rw [q]), if_pos q]; rfl
    · rw [if_neg (fun e => q ((nI_eq (by omega) (by omega)).mp e)), if_neg q]; rfl
  rw [e1, sumN_sw, sumN_congr (g := fun _ => 1) (fun k hk => pick (hg k hk).1), sumN_c]
  congr 1
  omega
theorem s_hours (hI : Inv B nf nt nc nd s) (h : LqK B nf nt nc nd s) : sumI nf (fun f => clsV s 2 (nI f)) = nI nc := s_pick (by have := hI.lf; omega) hI fun k hk => by
  obtain ⟨f, t, a1, a2, a3, a4, -⟩ := h.2.1 k hk
  exact ⟨f, a1, a3⟩
theorem s_taught (hI : Inv B nf nt nc nd s) (h : LqK B nf nt nc nd s) : sumI nt (fun t => clsV s 3 (nI t)) = nI nc := s_pick (by have := hI.lt; omega) hI fun k hk => by
  obtain ⟨f, t, a1, a2, a3, a4, -⟩ := h.2.1 k hk
  exact ⟨t, a2, a4⟩
theorem any_le {P : Nat → Bool} : ∀ n, (if anyB n P = true then 1 else 0) ≤ sumN n (fun k => if P k = true then 1 else 0)
  | 0 => by show (if false = true then 1 else 0) ≤ 0; decide
  | n + 1 => by
    have ih := any_le (P := P) n
    show (if (anyB n P || P n) = true then 1 else 0) ≤ sumN n _ + (if P n = true then 1 else 0)
    cases h1 : anyB n P <;> cases h2 : P n <;> simp [h1] at ih ⊢ <;> omega
theorem s_days (hI : Inv B nf nt nc nd s) (t : Nat) : dayV s t ≤ clsV s 3 (nI t) := by
  have bc := hI.lc
  unfold dayV clsV
  rw [hI.n2, bits_N]
  have e1 : sumI nc (fun k => if s (39 + 9 * k + 3) = nI t then (1 : Int32) else 0) = nI (sumN nc (fun k => if decide (s (39 + 9 * k + 3) = nI t) = true then 1 else 0)) := sumI_N fun k hk => by
    by_cases q : s (39 + 9 * k + 3) = nI t <;> simp [q] <;> rfl
  rw [e1]
  have hle : sumN 12 (fun d => if bt (orI nc (fun c => if s (39 + 9 * c + 3) = nI t then 1 <<< (s (39 + 9 * c + 4) &&& 31) else 0)) d = true then 1 else 0) ≤ sumN nc (fun k => if decide (s (39 + 9 * k + 3) = nI t) = true then 1 else 0) := by
    refine Nat.le_trans (sumN_le (g := fun d => sumN nc (fun k => if bt (if s (39 + 9 * k + 3) = nI t then 1 <<< (s (39 + 9 * k + 4) &&& 31) else 0) d = true then 1 else 0)) fun d hd => ?_) ?_
    · rw [orI_bt]; exact any_le nc
    · rw [sumN_sw]
      refine sumN_le fun k hk => ?_
      by_cases q : s (39 + 9 * k + 3) = nI t
      · obtain ⟨g, -, g1, g2⟩ := (hI.cl hk).2.1
        rw [g2]
        simp only [q, if_true, decide_true]
        rw [sumN_congr (g := fun d => if g = d then 1 else 0) (fun d hd => by
          rw [bt1 (by omega) (by omega)]
          by_cases z : d = g
          · subst z; simp
          · rw [decide_eq_false z, if_neg (by decide), if_neg (fun e => z e.symm)]), pick (by omega)]
        exact Nat.le_refl _
      · simp only [q, if_false, decide_false]
        rw [sumN_congr (g := fun _ => 0) (fun d hd => by rw [b_0]; rfl), sumN_c]
        exact Nat.zero_le _
  have hb : sumN nc (fun k => if decide (s (39 + 9 * k + 3) = nI t) = true then 1 else 0) ≤ nc := sumN_b nc
  rw [nI_leI (by omega) (by omega)]
  exact hle
theorem em_ne {f : Nat → Int32} : ∀ k n, n + k < 1000 → 1 ≤ n → emF f k n ≠ 0
  | 0, n, h1, h2 => by
    show (if 0 < f n then (-1 : Int32) else nI n) ≠ 0
    split
    · decide
    · exact fun e => absurd ((nI_eq (a := n) (b := 0) (by omega) (by omega)).mp e) (by omega)
  | k + 1, n, h1, h2 => by
    show (if 0 < f n then emF f k (n + 1) else nI n) ≠ 0
    split
    · exact em_ne k (n + 1) (by omega) (by omega)
    · exact fun e => absurd ((nI_eq (a := n) (b := 0) (by omega) (by omega)).mp e) (by omega)
theorem s_empty (hI : Inv B nf nt nc nd s) {d : Nat} (hd : d < nd) : emF (leftF s d) 100 0 = 0 ↔ s (129 + 5 * d + 2) = 0 := by
  obtain ⟨l, -, l1, l2⟩ := (hI.da hd).1
  have e : leftF s d 0 = s (129 + 5 * d + 2) := rfl
  show (if 0 < leftF s d 0 then emF (leftF s d) 99 1 else nI 0) = 0 ↔ _
  rw [e, l2, show (0 : Int32) = nI 0 from rfl]
  by_cases q : l = 0
  · subst q
    rw [if_neg (by decide)]
  · rw [if_pos ((nI_ltI (by omega) (by omega)).mpr (by omega))]
    constructor
    · exact fun h => absurd h (em_ne 99 1 (by omega) (by omega))
    · exact fun h => absurd ((nI_eq (by omega) (by omega)).mp h) q
theorem s_room (hI : Inv B nf nt nc nd s) {k f : Nat} (hf : f < nf) (e : s (39 + 9 * k + 2) = nI f) : tkV s k ≤ s (13 + 4 * f + 3) := by
  have bf := hI.lf
  rw [tkV_f (by omega) e]
  obtain ⟨-, ⟨b, -, b2, b3⟩, ⟨p, p1, p2, p3⟩⟩ := hI.fl hf
  unfold tkI
  rw [b3, p3, show nI b / 2 = nI (b / 2) from pk_div (d := 2) (by omega) (by omega) (by omega)]
  split
  · rename_i h
    have := (nI_ltI (by omega) (by omega)).mp h.2
    rw [nI_leI (by omega) (by omega)]; omega
  · rw [nI_leI (by omega) (by omega)]; omega
end LSUM
