def cN (s : Nat → Int32) (j : Nat) : Nat := (s j).toNatClampNeg
def wkN (nc nd : Nat) : Nat → (Nat → Int32) → (Nat → Int32)
  | 0, s => s
  | n + 1, s => weekS nc nd (wkN nc nd n s)
theorem wkN_low {nc nd j : Nat} (h : lowJ j) : ∀ (n : Nat) (s : Nat → Int32), wkN nc nd n s j = s j
  | 0, s => rfl
  | n + 1, s => by
    show weekS nc nd (wkN nc nd n s) j = s j
    rw [weekS_low h, wkN_low h n s]
def cpB (s : Nat → Int32) (a b n : Nat) : Nat → Int32 := fun j => if 189 * b ≤ j ∧ j < 189 * b + n then s (189 * a + (j - 189 * b)) else s j
theorem cpB_0 (s : Nat → Int32) (a b : Nat) : cpB s a b 0 = s := by
  funext j
  exact if_neg (by omega)
theorem cpB_s {s : Nat → Int32} {a b k : Nat} (hab : a ≠ b) (hk : k < 189) : upd (cpB s a b k) (189 * b + k) (cpB s a b k (189 * a + k)) = cpB s a b (k + 1) := by
  have e : cpB s a b k (189 * a + k) = s (189 * a + k) := if_neg (by omega)
  rw [e]
  funext j
  by_cases h : j = 189 * b + k
  · subst h
    rw [upd_same]
    unfold cpB
    rw [if_pos (by omega)]
    congr 1
    omega
  · rw [upd_ne h]
    unfold cpB
    by_cases h2 : 189 * b ≤ j ∧ j < 189 * b + k
    · rw [if_pos h2, if_pos (by omega)]
    · rw [if_neg h2, if_neg (by omega)]
def zrN (s : Nat → Int32) (n : Nat) : Nat → Int32 := fun j => if j < n then 0 else s j
theorem zrN_0 (s : Nat → Int32) : zrN s 0 = s := by
  funext j
  exact if_neg (by omega)
theorem zrN_s (s : Nat → Int32) (k : Nat) : upd (zrN s k) k 0 = zrN s (k + 1) := by
  funext j
  by_cases h : j = k
  · subst h
    rw [upd_same]
    exact (if_pos (by omega)).symm
  · rw [upd_ne h]
    unfold zrN
    by_cases h2 : j < k
    · rw [if_pos h2, if_pos (by omega)]
    · rw [if_neg h2, if_neg (by omega)]
/-- the shift behind a dropped class -/
def shN (s : Nat → Int32) (k n : Nat) : Nat → Int32 := fun j => if 39 + 9 * k ≤ j ∧ j < 39 + 9 * k + n then s (j + 9) else s j
theorem shN_0 (s : Nat → Int32) (k : Nat) : shN s k 0 = s := by
  funext j
  exact if_neg (by omega)
theorem shN_s (s : Nat → Int32) (k n : Nat) : upd (shN s k n) (39 + 9 * k + n) (shN s k n (39 + 9 * k + n + 9)) = shN s k (n + 1) := by
  have e : shN s k n (39 + 9 * k + n + 9) = s (39 + 9 * k + n + 9) := if_neg (by omega)
  rw [e]
  funext j
  by_cases h : j = 39 + 9 * k + n
  · subst h
    rw [upd_same]
    exact (if_pos (by omega)).symm
  · rw [upd_ne h]
    unfold shN
    by_cases h2 : 39 + 9 * k ≤ j ∧ j < 39 + 9 * k + n
    · rw [if_pos h2, if_pos (by omega)]
    · rw [if_neg h2, if_neg (by omega)]
def da0 (s : Nat → Int32) (b n : Nat) : Nat → Int32 := fun j => if j = b then 1 else if b < j ∧ j < b + n then 0 else s j
theorem da0_1 (s : Nat → Int32) (b : Nat) : upd s b 1 = da0 s b 1 := by
  funext j
  unfold da0
  by_cases h : j = b
  · subst h
    rw [upd_same, if_pos rfl]
  · rw [upd_ne h, if_neg h, if_neg (by omega)]
theorem da0_s (s : Nat → Int32) (b n : Nat) (h0 : 1 ≤ n) : upd (da0 s b n) (b + n) 0 = da0 s b (n + 1) := by
  funext j
  unfold da0
  by_cases h : j = b + n
  · subst h
    rw [upd_same, if_neg (by omega), if_pos (by omega)]
  · rw [upd_ne h]
    by_cases h1 : j = b
    · rw [if_pos h1, if_pos h1]
    · rw [if_neg h1, if_neg h1]
      by_cases h2 : b < j ∧ j < b + n
      · rw [if_pos h2, if_pos (by omega)]
      · rw [if_neg h2, if_neg (by omega)]
def isTm (st lv dy hr : Int32) : Bool := inB st 0 3 && (inB lv 1 5 && (inB dy 0 5 && inB hr 0 5))
def isFl (a b c d : Int32) : Bool := inB a 1 9 && (inB b 0 4 && (inB c 0 60 && inB d 1 30))
def szL (n : Int32) : Int64 := if n = 1 then 100000 else if n = 2 then 10000000000 else 1000000000000000
theorem nI_pr {n : Nat} (h : 1 ≤ n) : nI n - 1 = nI (n - 1) := by
  have e := nI_pred (n - 1)
  rw [Nat.sub_add_cancel h] at e
  exact e
theorem inB_no {v hi : Int32} (h : inB v 0 hi = false) : inB v 0 hi = false := h
theorem nI_lt_of {v : Int32} {n : Nat} (hn : n < 100000) (h : inB v 0 (nI n - 1) = true) : ∃ k, k < n ∧ v = nI k := by
  unfold inB at h
  rw [Bool.and_eq_true] at h
  have h1 := of_decide_eq_true h.1
  have h2 := of_decide_eq_true h.2
  obtain ⟨k, hk, rfl⟩ := nI_of (x := v) (Int32.not_lt.mpr h1)
  refine ⟨k, ?_, rfl⟩
  rcases Nat.eq_zero_or_pos n with e | e
  · subst e
    exfalso
    have h3 : nI k ≤ (-1 : Int32) := h2
    have h4 := Int32.le_iff_toInt_le.mp h3
    rw [nI_toInt hk] at h4
    have h5 : (-1 : Int32).toInt = -1 := by decide
    omega
  · have h3 : nI n - 1 = nI (n - 1) := nI_pr e
    rw [h3] at h2
    have := (nI_leI (a := k) (b := n - 1) (by omega) (by omega)).mp h2
    omega
theorem inB_yes {n k : Nat} (hn : n < 100000) (hk : k < n) : inB (nI k) 0 (nI n - 1) = true := by
  have h3 : nI n - 1 = nI (n - 1) := nI_pr (by omega)
  unfold inB
  rw [h3, Bool.and_eq_true]
  exact ⟨decide_eq_true ((nI_leI (a := 0) (b := k) (by omega) (by omega)).mpr (Nat.zero_le _)), decide_eq_true ((nI_leI (a := k) (b := n - 1) (by omega) (by omega)).mpr (by omega))⟩
def cpass (s : Nat → Int32) (v : Int32) : Bool := inB v 0 (s 3 - 1) && decide (s (129 + 5 * v.toNatClampNeg + 2) < 90)
theorem cpass_yes {s : Nat → Int32} {nd d : Nat} (h3 : s 3 = nI nd) (hnd : nd ≤ 12) (hd : d < nd) : cpass s (nI d) = decide (s (129 + 5 * d + 2) < 90) := by
  unfold cpass
  rw [h3, inB_yes (by omega) hd, nI_clamp (by omega)]
  rfl
theorem qeqL {Q : Rs → Kp → Mem → Prop} {κ : Kp} {M : Mem} {v v' : Int64} (h : Q (.inl (some (.long v'))) κ M) (e1 : v = v') : Q (.inl (some (.long v))) κ M := by subst e1; exact h
theorem mul9 (n : Nat) : (9 : Int32) * nI n = nI (9 * n) := by
  simp only [nI, Int32.ofNat_mul]
  rfl
theorem da_ix (n : Nat) : (129 : Int32) + 5 * nI n = nI (129 + 5 * n) := by
  simp only [nI, Int32.ofNat_mul, Int32.ofNat_add]
  rfl
theorem shN_o2 {s : Nat → Int32} {k n : Nat} : shN s k n 2 = s 2 := if_neg (by omega)
theorem shN_dr {s : Nat → Int32} {n k : Nat} (h : k < n) : shN (upd (upd s 10 (s 10 + s (39 + 9 * k + 7))) 2 (nI (n - 1))) k (9 * (n - 1) - 9 * k) = drS s n k := by
  funext j
  show (if _ then _ else _) = (if _ then _ else _)
  rw [show 39 + 9 * k + (9 * (n - 1) - 9 * k) = 39 + 9 * (n - 1) by omega]
theorem da0_3 {s : Nat → Int32} {n k : Nat} : da0 s (129 + 5 * n) k 3 = s 3 := by
  unfold da0
  rw [if_neg (by omega), if_neg (by omega)]
def tcS (s : Nat → Int32) (nc : Nat) (st lv : Int32) (f t : Nat) (dy hr : Int32) : Nat → Int32 := if whyI s nc st lv f t dy hr = 0 then clS s nc st lv (nI f) (nI t) dy hr else upd s 9 (s 9 + 1)
def tsS (s : Nat → Int32) (nc d k f : Nat) : Nat → Int32 := if whyS s nc d k f = 0 then enS s (nI d) k else upd s 9 (s 9 + 1)
theorem whyI_pos (s : Nat → Int32) (nc : Nat) (st lv : Int32) (f t : Nat) (dy hr : Int32) : (0 < whyI s nc st lv f t dy hr ↔ whyI s nc st lv f t dy hr ≠ 0) := by
  unfold whyI
  repeat' split
  all_goals decide
theorem whyS_pos (s : Nat → Int32) (nc d k f : Nat) : (0 < whyS s nc d k f ↔ whyS s nc d k f ≠ 0) := by
  unfold whyS
  repeat' split
  all_goals decide