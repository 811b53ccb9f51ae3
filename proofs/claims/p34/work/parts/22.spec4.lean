/-! ===== weeks, copies, drops: closed forms ===== -/
def cpA (M : Mem) (a a2 n w : Nat) : Mem := fun r j => if a ≤ r ∧ r < a + n ∧ j < w then M (a2 + (r - a)) j else M r j
theorem cpA_0 (M : Mem) (a a2 w : Nat) : cpA M a a2 0 w = M := by
  funext r j
  exact if_neg (by omega)
theorem cpA_o {M : Mem} {a a2 n w r j : Nat} (h : r < a ∨ a + n ≤ r) : cpA M a a2 n w r j = M r j := if_neg (by omega)
theorem cpA_f {M : Mem} {a a2 n w r : Nat} (h : r < a ∨ a + n ≤ r) : cpA M a a2 n w r = M r := by
  funext j
  exact cpA_o h
theorem cpA_a {M : Mem} {a a2 n w f j : Nat} (hf : f < n) (hj : j < w) : cpA M a a2 n w (a + f) j = M (a2 + f) j := by
  unfold cpA
  rw [if_pos (by omega), Nat.add_sub_cancel_left]
theorem cpA_s {M : Mem} {a a2 k w : Nat} (hd : a2 + k < a ∨ a ≤ a2) : sR (cpA M a a2 k w) (a + k) (cpR w (cpA M a a2 k w (a2 + k)) (cpA M a a2 k w (a + k))) = cpA M a a2 (k + 1) w := by
  rw [cpA_f (r := a2 + k) (by omega), cpA_f (r := a + k) (by omega)]
  funext r j
  by_cases h : r = a + k
  · subst h
    rw [sR_s]
    unfold cpR cpA
    by_cases hj : j < w
    · rw [if_pos hj, if_pos (by omega), Nat.add_sub_cancel_left]
    · rw [if_neg hj, if_neg (by omega)]
  · show (if r = a + k then _ else _) = _
    rw [if_neg h]
    unfold cpA
    by_cases h2 : a ≤ r ∧ r < a + k ∧ j < w
    · rw [if_pos h2, if_pos (by omega)]
    · rw [if_neg h2, if_neg (by omega)]
def dnA (M : Mem) (a n : Nat) (lv seats : Int32) : Mem := fun r j => if a ≤ r ∧ r < a + n ∧ (bitS seats (nI (r - a)) && decide (0 < M r 2)) = true then danceR (M r) lv j else M r j
theorem dnA_0 (M : Mem) (a : Nat) (lv seats : Int32) : dnA M a 0 lv seats = M := by
  funext r j
  exact if_neg (by omega)
theorem dnA_o {M : Mem} {a n r j : Nat} {lv seats : Int32} (h : r < a ∨ a + n ≤ r) : dnA M a n lv seats r j = M r j := if_neg (by omega)
theorem dnA_f {M : Mem} {a n r : Nat} {lv seats : Int32} (h : r < a ∨ a + n ≤ r) : dnA M a n lv seats r = M r := by
  funext j
  exact dnA_o h
theorem dnA_a {M : Mem} {a n f j : Nat} {lv seats : Int32} (hf : f < n) : dnA M a n lv seats (a + f) j = if (bitS seats (nI f) && decide (0 < M (a + f) 2)) = true then danceR (M (a + f)) lv j else M (a + f) j := by
  unfold dnA
  rw [Nat.add_sub_cancel_left]
  by_cases h : (bitS seats (nI f) && decide (0 < M (a + f) 2)) = true
  · rw [if_pos ⟨by omega, by omega, h⟩, if_pos h]
  · rw [if_neg (fun q => h q.2.2), if_neg h]
theorem dnA_y {M : Mem} {a k : Nat} {lv seats : Int32} (h : (bitS seats (nI k) && decide (0 < M (a + k) 2)) = true) : sR (dnA M a k lv seats) (a + k) (danceR (dnA M a k lv seats (a + k)) lv) = dnA M a (k + 1) lv seats := by
  rw [dnA_f (r := a + k) (by omega)]
  funext r j
  by_cases h0 : r = a + k
  · subst h0
    rw [sR_s, dnA_a (by omega), if_pos h]
  · show (if r = a + k then _ else _) = _
    rw [if_neg h0]
    unfold dnA
    by_cases h2 : a ≤ r ∧ r < a + k ∧ (bitS seats (nI (r - a)) && decide (0 < M r 2)) = true
    · rw [if_pos h2, if_pos ⟨h2.1, by omega, h2.2.2⟩]
    · rw [if_neg h2, if_neg (fun q => h2 ⟨q.1, by omega, q.2.2⟩)]
theorem dnA_n {M : Mem} {a k : Nat} {lv seats : Int32} (h : (bitS seats (nI k) && decide (0 < M (a + k) 2)) = false) : dnA M a k lv seats = dnA M a (k + 1) lv seats := by
  funext r j
  unfold dnA
  by_cases h0 : r = a + k
  · subst h0
    rw [if_neg (by omega), if_neg (fun q => by rw [Nat.add_sub_cancel_left, h] at q; cases q.2.2)]
  · by_cases h2 : a ≤ r ∧ r < a + k ∧ (bitS seats (nI (r - a)) && decide (0 < M r 2)) = true
    · rw [if_pos h2, if_pos ⟨h2.1, by omega, h2.2.2⟩]
    · rw [if_neg h2, if_neg (fun q => h2 ⟨q.1, by omega, q.2.2⟩)]
def rsA (M : Mem) (a n : Nat) (x : Int32) : Mem := fun r j => if a ≤ r ∧ r < a + n then riseR (M r) x j else M r j
theorem rsA_0 (M : Mem) (a : Nat) (x : Int32) : rsA M a 0 x = M := by
  funext r j
  exact if_neg (by omega)
theorem rsA_o {M : Mem} {a n r j : Nat} {x : Int32} (h : r < a ∨ a + n ≤ r) : rsA M a n x r j = M r j := if_neg (by omega)
theorem rsA_a {M : Mem} {a n f j : Nat} {x : Int32} (hf : f < n) : rsA M a n x (a + f) j = riseR (M (a + f)) x j := if_pos (by omega)
theorem rsA_s {M : Mem} {a k : Nat} {x : Int32} : sR (rsA M a k x) (a + k) (riseR (rsA M a k x (a + k)) x) = rsA M a (k + 1) x := by
  have e : rsA M a k x (a + k) = M (a + k) := by funext j; exact rsA_o (by omega)
  rw [e]
  funext r j
  by_cases h0 : r = a + k
  · subst h0
    rw [sR_s, rsA_a (by omega)]
  · show (if r = a + k then _ else _) = _
    rw [if_neg h0]
    unfold rsA
    by_cases h2 : a ≤ r ∧ r < a + k
    · rw [if_pos h2, if_pos (by omega)]
    · rw [if_neg h2, if_neg (by omega)]
/-- the reference's week, entry by entry -/
def cntW (w : Int32) (n : Nat) : Int32 := sumI n (fun d => if bitS w (nI d) = true then 1 else 0)
theorem dn_o {w : Int32} {k j : Nat} {s : Nat → Int32} (hj : j < 129) (h6 : j ≠ 6) (h7 : j ≠ 39 + 9 * k + 7) : ∀ n, dnN w k n s j = s j
  | 0 => rfl
  | n + 1 => by
    show (if bitS w (nI n) then danS (dnN w k n s) k n else dnN w k n s) j = s j
    split
    · unfold danS
      simp (disch := omega) only [upd_ne]
      exact dn_o hj h6 h7 n
    · exact dn_o hj h6 h7 n
theorem dn_6 {w : Int32} {k : Nat} {s : Nat → Int32} : ∀ n, dnN w k n s 6 = s 6 + cntW w n
  | 0 => by show s 6 = s 6 + 0; grind
  | n + 1 => by
    show (if bitS w (nI n) then danS (dnN w k n s) k n else dnN w k n s) 6 = s 6 + (cntW w n + (if bitS w (nI n) = true then 1 else 0))
    split
    · unfold danS
      simp (disch := omega) only [upd_ne, upd_same]
      rw [dn_6 n]; grind
    · rw [dn_6 n]; grind
theorem dn_7 {w : Int32} {k : Nat} {s : Nat → Int32} : ∀ n, dnN w k n s (39 + 9 * k + 7) = s (39 + 9 * k + 7) + (if k < 10 then cntW w n else dnN w k n s (39 + 9 * k + 7) - s (39 + 9 * k + 7))
  | 0 => by
    show s (39 + 9 * k + 7) = _
    split
    · show s (39 + 9 * k + 7) = s (39 + 9 * k + 7) + 0; grind
    · show s (39 + 9 * k + 7) = s (39 + 9 * k + 7) + (s (39 + 9 * k + 7) - s (39 + 9 * k + 7)); grind
  | n + 1 => by
    by_cases hk : k < 10
    · rw [if_pos hk]
      have ih := dn_7 (w := w) (k := k) (s := s) n
      rw [if_pos hk] at ih
      show (if bitS w (nI n) then danS (dnN w k n s) k n else dnN w k n s) (39 + 9 * k + 7) = s (39 + 9 * k + 7) + (cntW w n + (if bitS w (nI n) = true then 1 else 0))
      split
      · unfold danS
        simp (disch := omega) only [upd_ne, upd_same]
        rw [ih]; grind
      · rw [ih]; grind
    · rw [if_neg hk]; grind
theorem dn_lv {w : Int32} {k d : Nat} {s : Nat → Int32} (hk : k < 10) : ∀ n, dnN w k n s (129 + 5 * d) = s (129 + 5 * d)
  | 0 => rfl
  | n + 1 => by
    show (if bitS w (nI n) then danS (dnN w k n s) k n else dnN w k n s) _ = _
    split
    · unfold danS
      simp (disch := omega) only [upd_ne]
      exact dn_lv hk n
    · exact dn_lv hk n
theorem dn_4 {w : Int32} {k d : Nat} {s : Nat → Int32} (hk : k < 10) : ∀ n, dnN w k n s (129 + 5 * d + 4) = s (129 + 5 * d + 4)
  | 0 => rfl
  | n + 1 => by
    show (if bitS w (nI n) then danS (dnN w k n s) k n else dnN w k n s) _ = _
    split
    · unfold danS
      simp (disch := omega) only [upd_ne]
      exact dn_4 hk n
    · exact dn_4 hk n
theorem dn_2 {w : Int32} {k d : Nat} {s : Nat → Int32} (hk : k < 10) : ∀ n, dnN w k n s (129 + 5 * d + 2) = if d < n ∧ bitS w (nI d) = true then s (129 + 5 * d + 2) - 1 else s (129 + 5 * d + 2)
  | 0 => (if_neg (by omega)).symm
  | n + 1 => by
    show (if bitS w (nI n) then danS (dnN w k n s) k n else dnN w k n s) _ = _
    by_cases hd : d = n
    · subst hd
      by_cases hb : bitS w (nI d) = true
      · rw [if_pos hb, if_pos ⟨by omega, hb⟩]
        unfold danS
        simp (disch := omega) only [upd_ne, upd_same]
        rw [dn_2 hk d, if_neg (by omega)]
      · rw [if_neg hb, if_neg (fun q => hb q.2), dn_2 hk d, if_neg (by omega)]
    · have e : (if bitS w (nI n) then danS (dnN w k n s) k n else dnN w k n s) (129 + 5 * d + 2) = dnN w k n s (129 + 5 * d + 2) := by
        split
        · unfold danS
          simp (disch := omega) only [upd_ne]
        · rfl
      rw [e, dn_2 hk n]
      by_cases h2 : d < n ∧ bitS w (nI d) = true
      · rw [if_pos h2, if_pos ⟨by omega, h2.2⟩]
      · rw [if_neg h2, if_neg (fun q => h2 ⟨by omega, q.2⟩)]
def stpI (s : Nat → Int32) (k d : Nat) : Int32 := if s (39 + 9 * k + 1) < s (129 + 5 * d) then 1 else s (39 + 9 * k + 1)
theorem dn_1 {w : Int32} {k d : Nat} {s : Nat → Int32} (hk : k < 10) : ∀ n, dnN w k n s (129 + 5 * d + 1) = if d < n ∧ bitS w (nI d) = true then s (129 + 5 * d + 1) + stpI s k d else s (129 + 5 * d + 1)
  | 0 => (if_neg (by omega)).symm
  | n + 1 => by
    show (if bitS w (nI n) then danS (dnN w k n s) k n else dnN w k n s) _ = _
    by_cases hd : d = n
    · subst hd
      by_cases hb : bitS w (nI d) = true
      · rw [if_pos hb, if_pos ⟨by omega, hb⟩]
        unfold danS
        simp (disch := omega) only [upd_ne, upd_same]
        rw [dn_1 hk d, if_neg (by omega), dn_lv hk d, dn_o (by omega) (by omega) (by omega)]
        rfl
      · rw [if_neg hb, if_neg (fun q => hb q.2), dn_1 hk d, if_neg (by omega)]
    · have e : (if bitS w (nI n) then danS (dnN w k n s) k n else dnN w k n s) (129 + 5 * d + 1) = dnN w k n s (129 + 5 * d + 1) := by
        split
        · unfold danS
          simp (disch := omega) only [upd_ne]
        · rfl
      rw [e, dn_1 hk n]
      by_cases h2 : d < n ∧ bitS w (nI d) = true
      · rw [if_pos h2, if_pos ⟨by omega, h2.2⟩]
      · rw [if_neg h2, if_neg (fun q => h2 ⟨by omega, q.2⟩)]
theorem ri_o {j : Nat} {s : Nat → Int32} (h : ∀ d, j ≠ 129 + 5 * d ∧ j ≠ 129 + 5 * d + 1) : ∀ n, riseN n s j = s j
  | 0 => rfl
  | n + 1 => by
    show riseS (riseN n s) n j = s j
    unfold riseS
    split
    · rw [upd_ne (h n).2, upd_ne (h n).1, ri_o h n]
    · exact ri_o h n
theorem ri_2 {d i : Nat} {s : Nat → Int32} (h : 2 ≤ i) (h2 : i < 5) (n : Nat) : riseN n s (129 + 5 * d + i) = s (129 + 5 * d + i) := ri_o (fun d' => by omega) n
theorem ri_l {j : Nat} {s : Nat → Int32} (h : j < 129) (n : Nat) : riseN n s j = s j := ri_o (fun d' => by omega) n
def risC (s : Nat → Int32) (d : Nat) : Prop := s 12 ≤ s (129 + 5 * d + 1) ∧ s (129 + 5 * d) < 5
theorem ri_01 {d : Nat} {s : Nat → Int32} : ∀ n, (d < n → (risC s d → riseN n s (129 + 5 * d) = s (129 + 5 * d) + 1 ∧ riseN n s (129 + 5 * d + 1) = 0) ∧ (¬ risC s d → riseN n s (129 + 5 * d) = s (129 + 5 * d) ∧ riseN n s (129 + 5 * d + 1) = s (129 + 5 * d + 1))) ∧ (n ≤ d → riseN n s (129 + 5 * d) = s (129 + 5 * d) ∧ riseN n s (129 + 5 * d + 1) = s (129 + 5 * d + 1))
  | 0 => ⟨fun h => absurd h (by omega), fun _ => ⟨rfl, rfl⟩⟩
  | n + 1 => by
    obtain ⟨i1, i2⟩ := ri_01 (d := d) (s := s) n
    have hs : riseN (n + 1) s = riseS (riseN n s) n := rfl
    rw [hs]
    have hne : n ≠ d → riseS (riseN n s) n (129 + 5 * d) = riseN n s (129 + 5 * d) ∧ riseS (riseN n s) n (129 + 5 * d + 1) = riseN n s (129 + 5 * d + 1) := by
      intro hn
      unfold riseS
      split
      · simp (disch := omega) only [upd_ne, and_self]
      · exact ⟨rfl, rfl⟩
    constructor
    · intro hd
      by_cases e : n = d
      · subst e
        obtain ⟨a1, a2⟩ := i2 (Nat.le_refl _)
        have a3 : riseN n s 12 = s 12 := ri_l (by omega) n
        constructor
        · rintro ⟨c1, c2⟩
          unfold riseS
          rw [a1, a2, a3, if_pos ⟨c1, c2⟩]
          simp (disch := omega) only [upd_ne, upd_same, and_self]
        · intro hc
          unfold risC at hc
          unfold riseS
          rw [a1, a2, a3, if_neg hc]
          exact ⟨a1, a2⟩
      · obtain ⟨e1, e2⟩ := hne e
        rw [e1, e2]
        exact i1 (by omega)
    · intro hd
      obtain ⟨e1, e2⟩ := hne (by omega)
      rw [e1, e2]
      exact i2 (by omega)
