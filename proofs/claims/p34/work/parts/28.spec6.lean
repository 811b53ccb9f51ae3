/-! ===== the text: what both readers read ===== -/
def TxOK (t : Nat → Int32) (len : Nat) : Prop := len ≤ 120 ∧ ∀ j, j < len → ∃ c, c < 256 ∧ t j = nI c
def ch (t : Nat → Int32) (p : Nat) : Nat := (t p).toNatClampNeg
theorem TxOK.at {t : Nat → Int32} {len p : Nat} (h : TxOK t len) (hp : p < len) : t p = nI (ch t p) ∧ ch t p < 256 := by
  obtain ⟨c, h1, h2⟩ := h.2 p hp
  unfold ch
  rw [h2, nI_clamp (by omega)]
  exact ⟨rfl, h1⟩
def d1B (t : Nat → Int32) (len lo hi p : Nat) : Bool := decide (p < len) && (decide (48 + lo ≤ ch t p) && decide (ch t p ≤ 48 + hi))
def dv (t : Nat → Int32) (p : Nat) : Int32 := nI (ch t p - 48)
def dw (t : Nat → Int32) (p : Nat) : Int32 := nI (10 * (ch t p - 48) + (ch t (p + 1) - 48))
def lo2 (t : Nat → Int32) (lo p : Nat) : Nat := if ch t p - 48 = lo / 10 then lo % 10 else 0
def hi2 (t : Nat → Int32) (hi p : Nat) : Nat := if ch t p - 48 = hi / 10 then hi % 10 else 9
def rdL (t : Nat → Int32) (len : Nat) : List (Bool × Nat × Nat) → Nat → Bool × Nat
  | [], p => (true, p)
  | q :: qs, p => if q.1 = true then (if d1B t len (q.2.1 / 10) (q.2.2 / 10) p = true then (if d1B t len (lo2 t q.2.1 p) (hi2 t q.2.2 p) (p + 1) = true then rdL t len qs (p + 2) else (false, p + 1)) else (false, p))
    else (if d1B t len q.2.1 q.2.2 p = true then rdL t len qs (p + 1) else (false, p))
def valL (t : Nat → Int32) : List (Bool × Nat × Nat) → Nat → Nat → Int32
  | [], _, _ => 0
  | q :: _, p, 0 => if q.1 = true then dw t p else dv t p
  | q :: qs, p, i + 1 => valL t qs (if q.1 = true then p + 2 else p + 1) i
def flds (c : Nat) : Option (List (Bool × Nat × Nat)) :=
  if c = 102 then some [(false, 1, 9), (false, 0, 4), (true, 0, 60), (true, 1, 30)]
  else if c = 116 then some [(true, 0, 15), (false, 1, 5)]
  else if c = 99 then some [(false, 0, 3), (false, 1, 5), (false, 0, 3), (false, 0, 4), (false, 0, 5), (false, 0, 5)]
  else if c = 112 then some [(true, 0, 11)]
  else if c = 101 ∨ c = 108 then some [(true, 0, 11), (false, 0, 9)]
  else if c = 120 then some [(false, 0, 9)]
  else if c = 119 then some [(false, 1, 9)]
  else if c = 100 then some [] else none
def rdC (t : Nat → Int32) (len p : Nat) : Bool × Nat := match flds (ch t p) with
  | none => (false, p)
  | some qs => rdL t len qs (p + 1)
theorem rdC_no {t : Nat → Int32} {len p : Nat} (h : flds (ch t p) = none) : rdC t len p = (false, p) := by unfold rdC; rw [h]
theorem rdC_yes {t : Nat → Int32} {len p : Nat} {qs : List (Bool × Nat × Nat)} (h : flds (ch t p) = some qs) : rdC t len p = rdL t len qs (p + 1) := by unfold rdC; rw [h]
section RD
variable {t : Nat → Int32} {len p lo hi : Nat} {qs : List (Bool × Nat × Nat)} {r : Bool × Nat}
theorem rd1y (h : d1B t len lo hi p = true) (k : rdL t len qs (p + 1) = r) : rdL t len ((false, lo, hi) :: qs) p = r := by
  show (if false = true then _ else (if d1B t len lo hi p = true then _ else _)) = r
  rw [if_neg (by decide), if_pos h]; exact k
theorem rd1n (h : d1B t len lo hi p = false) : rdL t len ((false, lo, hi) :: qs) p = (false, p) := by
  show (if false = true then _ else (if d1B t len lo hi p = true then _ else _)) = _
  rw [if_neg (by decide), if_neg (by rw [h]; decide)]
theorem rd2y (h : d1B t len (lo / 10) (hi / 10) p = true) (h2 : d1B t len (lo2 t lo p) (hi2 t hi p) (p + 1) = true) (k : rdL t len qs (p + 2) = r) : rdL t len ((true, lo, hi) :: qs) p = r := by
  show (if true = true then (if d1B t len (lo / 10) (hi / 10) p = true then (if d1B t len (lo2 t lo p) (hi2 t hi p) (p + 1) = true then _ else _) else _) else _) = r
  rw [if_pos rfl, if_pos h, if_pos h2]; exact k
theorem rd2n (h : d1B t len (lo / 10) (hi / 10) p = false) : rdL t len ((true, lo, hi) :: qs) p = (false, p) := by
  show (if true = true then (if d1B t len (lo / 10) (hi / 10) p = true then (if d1B t len (lo2 t lo p) (hi2 t hi p) (p + 1) = true then _ else _) else _) else _) = _
  rw [if_pos rfl, if_neg (by rw [h]; decide)]
theorem rd2m (h : d1B t len (lo / 10) (hi / 10) p = true) (h2 : d1B t len (lo2 t lo p) (hi2 t hi p) (p + 1) = false) : rdL t len ((true, lo, hi) :: qs) p = (false, p + 1) := by
  show (if true = true then (if d1B t len (lo / 10) (hi / 10) p = true then (if d1B t len (lo2 t lo p) (hi2 t hi p) (p + 1) = true then _ else _) else _) else _) = _
  rw [if_pos rfl, if_pos h, if_neg (by rw [h2]; decide)]
theorem rd0 : rdL t len [] p = (true, p) := rfl
theorem d1_lt (h : d1B t len lo hi p = true) : p < len ∧ 48 + lo ≤ ch t p ∧ ch t p ≤ 48 + hi := by
  unfold d1B at h
  rw [Bool.and_eq_true, Bool.and_eq_true] at h
  exact ⟨of_decide_eq_true h.1, of_decide_eq_true h.2.1, of_decide_eq_true h.2.2⟩
theorem dw_of (hlh : lo ≤ hi) (h : d1B t len (lo / 10) (hi / 10) p = true) (h2 : d1B t len (lo2 t lo p) (hi2 t hi p) (p + 1) = true) : lo ≤ 10 * (ch t p - 48) + (ch t (p + 1) - 48) ∧ 10 * (ch t p - 48) + (ch t (p + 1) - 48) ≤ hi := by
  obtain ⟨-, a1, a2⟩ := d1_lt h
  obtain ⟨-, b1, b2⟩ := d1_lt h2
  unfold lo2 at b1
  unfold hi2 at b2
  split at b1 <;> split at b2 <;> omega
end RD
theorem rdL_val {t : Nat → Int32} {len : Nat} : ∀ (qs : List (Bool × Nat × Nat)) (p e : Nat), (∀ q ∈ qs, q.2.1 ≤ q.2.2) → rdL t len qs p = (true, e) → (p ≤ e ∧ (qs ≠ [] → e ≤ len)) ∧ ∀ i lo hi b, qs[i]? = some (b, lo, hi) → ∃ v, lo ≤ v ∧ v ≤ hi ∧ valL t qs p i = nI v
  | [], p, e, _, h => by
    cases h
    exact ⟨⟨Nat.le_refl _, fun h => absurd rfl h⟩, fun i lo hi b h => by cases h⟩
  | (false, l, u) :: qs, p, e, hq, h => by
    cases hd : d1B t len l u p with
    | false => rw [rd1n hd] at h; cases h
    | true =>
      have h2 : rdL t len qs (p + 1) = (true, e) := by
        rw [← h, rd1y hd rfl]
      obtain ⟨⟨i1, i2⟩, i3⟩ := rdL_val qs (p + 1) e (fun q hm => hq q (List.mem_cons_of_mem _ hm)) h2
      obtain ⟨a1, a2, a3⟩ := d1_lt hd
      refine ⟨⟨by omega, fun _ => ?_⟩, fun i lo hi b hi2 => ?_⟩
      · cases qs with
        | nil => cases h2; omega
        | cons a b => exact i2 (by simp)
      · cases i with
        | zero =>
          have hi2 : some (false, l, u) = some (b, lo, hi) := hi2
          cases hi2
          exact ⟨ch t p - 48, by omega, by omega, rfl⟩
        | succ i => exact i3 i lo hi b hi2
  | (true, l, u) :: qs, p, e, hq, h => by
    cases hd : d1B t len (l / 10) (u / 10) p with
    | false => rw [rd2n hd] at h; cases h
    | true =>
      cases hd2 : d1B t len (lo2 t l p) (hi2 t u p) (p + 1) with
      | false => rw [rd2m hd hd2] at h; cases h
      | true =>
        have h2 : rdL t len qs (p + 2) = (true, e) := by
          rw [← h, rd2y hd hd2 rfl]
        obtain ⟨⟨i1, i2⟩, i3⟩ := rdL_val qs (p + 2) e (fun q hm => hq q (List.mem_cons_of_mem _ hm)) h2
        obtain ⟨a1, a2, a3⟩ := d1_lt hd2
        refine ⟨⟨by omega, fun _ => ?_⟩, fun i lo hi b hi2 => ?_⟩
        · cases qs with
          | nil => cases h2; omega
          | cons a b => exact i2 (by simp)
        · cases i with
          | zero =>
            have hi2 : some (true, l, u) = some (b, lo, hi) := hi2
            cases hi2
            obtain ⟨c1, c2⟩ := dw_of (hq _ List.mem_cons_self) hd hd2
            exact ⟨_, c1, c2, rfl⟩
          | succ i => exact i3 i lo hi b hi2
theorem flds_ok {c : Nat} {qs : List (Bool × Nat × Nat)} (h : flds c = some qs) : ∀ q ∈ qs, q.2.1 ≤ q.2.2 := by
  unfold flds at h
  repeat' split at h
  all_goals cases h
  all_goals decide
theorem rdC_pos {t : Nat → Int32} {len p e : Nat} (hp : p < len) (h : rdC t len p = (true, e)) : p < e ∧ e ≤ len := by
  cases hf : flds (ch t p) with
  | none => rw [rdC_no hf] at h; cases h
  | some qs =>
    rw [rdC_yes hf] at h
    obtain ⟨⟨h1, h2⟩, -⟩ := rdL_val qs (p + 1) e (flds_ok hf) h
    refine ⟨h1, ?_⟩
    cases qs with
    | nil => cases h; exact hp
    | cons a b => exact h2 (by simp)
/-- the commands up to the first error or the end -/
def prs (t : Nat → Int32) (len : Nat) : Nat → Nat → Bool × Nat
  | 0, p => (true, p)
  | n + 1, p => if p < len then (if (rdC t len p).1 = true then prs t len n (rdC t len p).2 else (false, (rdC t len p).2)) else (true, p)
def isSt (t : Nat → Int32) (len : Nat) : Bool × Nat := if 0 < len ∧ ch t 0 = 83 then prs t len 120 1 else (false, 0)
theorem prs_end {t : Nat → Int32} {len p : Nat} (h : ¬ p < len) : ∀ n, prs t len n p = (true, p)
  | 0 => rfl
  | n + 1 => if_neg h
theorem prs_y {t : Nat → Int32} {len p n e : Nat} (h : p < len) (hr : rdC t len p = (true, e)) : prs t len (n + 1) p = prs t len n e := by
  show (if p < len then (if (rdC t len p).1 = true then prs t len n (rdC t len p).2 else (false, (rdC t len p).2)) else (true, p)) = _
  rw [if_pos h, hr]; rfl
theorem prs_n {t : Nat → Int32} {len p n e : Nat} (h : p < len) (hr : rdC t len p = (false, e)) : prs t len (n + 1) p = (false, e) := by
  show (if p < len then (if (rdC t len p).1 = true then prs t len n (rdC t len p).2 else (false, (rdC t len p).2)) else (true, p)) = _
  rw [if_pos h, hr]; rfl
/-- reading a digit, as ints -/
theorem d1_iff {t : Nat → Int32} {len p lo hi : Nat} (hT : TxOK t len) (hp : p < len) (hlo : lo < 1000) (hhi : hi < 1000) : d1B t len lo hi p = (decide (nI lo ≤ t p - 48) && decide (t p - 48 ≤ nI hi)) := by
  obtain ⟨h1, h2⟩ := hT.at hp
  unfold d1B
  rw [h1, decide_eq_true hp, Bool.true_and]
  generalize ch t p = c at h2
  have e48 : (48 : Int32).toInt = 48 := by decide
  have ec : (nI c).toInt = c := nI_toInt (by omega)
  have es : (nI c - 48).toInt = (c : Int) - 48 := by
    rw [Int32.toInt_sub, ec, e48]
    exact Int.bmod_eq_of_le (by omega) (by omega)
  congr 1
  · apply decide_eq_decide.mpr
    rw [Int32.le_iff_toInt_le, es, nI_toInt (by omega)]
    omega
  · apply decide_eq_decide.mpr
    rw [Int32.le_iff_toInt_le, es, nI_toInt (by omega)]
    omega
theorem d1_iff2 {t : Nat → Int32} {len p lo hi : Nat} (hT : TxOK t len) (hp : p < len) (hlo : lo < 1000) (hhi : hi < 1000) : d1B t len lo hi p = inB (t p) (48 + nI lo) (48 + nI hi) := by
  obtain ⟨h1, h2⟩ := hT.at hp
  unfold d1B inB
  rw [h1, decide_eq_true hp, Bool.true_and]
  generalize ch t p = c at h2
  have e1 : (48 : Int32) + nI lo = nI (48 + lo) := nI_add 48 lo
  have e2 : (48 : Int32) + nI hi = nI (48 + hi) := nI_add 48 hi
  rw [e1, e2]
  congr 1
  · exact decide_eq_decide.mpr (nI_leI (by omega) (by omega)).symm
  · exact decide_eq_decide.mpr (nI_leI (by omega) (by omega)).symm
theorem dv_eq {t : Nat → Int32} {len p : Nat} (hT : TxOK t len) (hp : p < len) (h48 : 48 ≤ ch t p) : t p - 48 = dv t p := by
  obtain ⟨h1, h2⟩ := hT.at hp
  unfold dv
  generalize ch t p = c at h1 h2 h48 ⊢
  rw [h1]
  obtain ⟨z, rfl⟩ : ∃ z, c = z + 48 := ⟨c - 48, by omega⟩
  rw [Nat.add_sub_cancel, ← nI_add]
  show nI z + 48 - 48 = nI z
  grind
