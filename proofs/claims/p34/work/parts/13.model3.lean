theorem g_mem {X : Xs} {y : MI} {is : List (Instr × Nat)} {pc : Nat} {lo : Lo} {st : List Value} {nc ks : Nat} {κ : Kp} {M M' : Mem} {Q : Rs → Kp → Mem → Prop} (e : M = M') (h : G X y is pc lo st nc ks κ M' Q) : G X y is pc lo st nc ks κ M Q := by rw [e]; exact h
theorem anyB_true {P : Nat → Bool} {k : Nat} : ∀ {n : Nat}, k < n → P k = true → anyB n P = true
  | 0, h, _ => absurd h (Nat.not_lt_zero _)
  | n + 1, h, hp => by
    show (anyB n P || P n) = true
    rcases Nat.lt_succ_iff_lt_or_eq.mp h with q | q
    · rw [anyB_true q hp]; rfl
    · subst q; rw [hp]; simp
def danS (s : Nat → Int32) (k d : Nat) : Nat → Int32 :=
  let a := upd s (129 + 5 * d + 2) (s (129 + 5 * d + 2) - 1)
  let b := upd a (129 + 5 * d + 3) (a (129 + 5 * d + 3) + 1)
  let c := upd b (129 + 5 * d + 1) (b (129 + 5 * d + 1) + if s (39 + 9 * k + 1) < b (129 + 5 * d) then 1 else s (39 + 9 * k + 1))
  let e := upd c (39 + 9 * k + 7) (c (39 + 9 * k + 7) + 1)
  upd e 6 (e 6 + 1)
def holdS (s : Nat → Int32) (k : Nat) : Nat → Int32 :=
  let a := upd s 7 (s 7 + 1)
  upd a (39 + 9 * k + 6) (a (39 + 9 * k + 6) + 1)
def dnN (who : Int32) (k : Nat) : Nat → (Nat → Int32) → (Nat → Int32)
  | 0, s => s
  | d + 1, s => if bitS who (nI d) then danS (dnN who k d s) k d else dnN who k d s
def stepC (nd : Nat) (s : Nat → Int32) (k : Nat) : Nat → Int32 := if bitsI (comI s k nd) < s 11 then upd s 8 (s 8 + 1) else dnN (comI s k nd) k nd (holdS s k)
def clsN (nd : Nat) : Nat → (Nat → Int32) → (Nat → Int32)
  | 0, s => s
  | k + 1, s => stepC nd (clsN nd k s) k
def hldN (nd : Nat) : Nat → (Nat → Int32) → Int32
  | 0, _ => 0
  | k + 1, s => if bitsI (comI (clsN nd k s) k nd) < (clsN nd k s) 11 then hldN nd k s else hldN nd k s ||| (1 <<< (nI k &&& 31))
def riseS (s : Nat → Int32) (d : Nat) : Nat → Int32 := if s 12 ≤ s (129 + 5 * d + 1) ∧ s (129 + 5 * d) < 5 then upd (upd s (129 + 5 * d) (s (129 + 5 * d) + 1)) (129 + 5 * d + 1) 0 else s
def riseN : Nat → (Nat → Int32) → (Nat → Int32)
  | 0, s => s
  | d + 1, s => riseS (riseN d s) d
def weekS (nc nd : Nat) (s : Nat → Int32) : Nat → Int32 := riseN nd (clsN nd nc (upd s 4 (s 4 + 1)))
def weekH (nc nd : Nat) (s : Nat → Int32) : Int32 := hldN nd nc (upd s 4 (s 4 + 1))
def lowJ (j : Nat) : Prop := j < 4 ∨ j = 11 ∨ j = 12
theorem upd_ne {f : Nat → Int32} {k j : Nat} {x : Int32} (h : j ≠ k) : upd f k x j = f j := pk_un h
theorem danS_low {s : Nat → Int32} {k d j : Nat} (h : lowJ j) : danS s k d j = s j := by
  unfold lowJ at h
  simp only [danS]
  rw [upd_ne (by omega), upd_ne (by omega), upd_ne (by omega), upd_ne (by omega), upd_ne (by omega)]
theorem holdS_low {s : Nat → Int32} {k j : Nat} (h : lowJ j) : holdS s k j = s j := by
  unfold lowJ at h
  simp only [holdS]
  rw [upd_ne (by omega), upd_ne (by omega)]
theorem dnN_low {who : Int32} {k j : Nat} (h : lowJ j) : ∀ (d : Nat) (s : Nat → Int32), dnN who k d s j = s j
  | 0, s => rfl
  | d + 1, s => by
    show (if bitS who (nI d) then danS (dnN who k d s) k d else dnN who k d s) j = s j
    split
    · rw [danS_low h, dnN_low h d s]
    · exact dnN_low h d s
theorem stepC_low {nd k j : Nat} {s : Nat → Int32} (h : lowJ j) : stepC nd s k j = s j := by
  unfold stepC
  split
  · unfold lowJ at h
    rw [upd_ne (by omega)]
  · rw [dnN_low h, holdS_low h]
theorem clsN_low {nd j : Nat} (h : lowJ j) : ∀ (k : Nat) (s : Nat → Int32), clsN nd k s j = s j
  | 0, s => rfl
  | k + 1, s => by
    show stepC nd (clsN nd k s) k j = s j
    rw [stepC_low h, clsN_low h k s]
theorem riseS_low {d j : Nat} {s : Nat → Int32} (h : lowJ j) : riseS s d j = s j := by
  unfold riseS
  split
  · unfold lowJ at h
    rw [upd_ne (by omega), upd_ne (by omega)]
  · rfl
theorem riseN_low {j : Nat} (h : lowJ j) : ∀ (d : Nat) (s : Nat → Int32), riseN d s j = s j
  | 0, s => rfl
  | d + 1, s => by
    show riseS (riseN d s) d j = s j
    rw [riseS_low h, riseN_low h d s]
theorem weekS_low {nc nd j : Nat} {s : Nat → Int32} (h : lowJ j) : weekS nc nd s j = s j := by
  unfold weekS
  rw [riseN_low h, clsN_low h, upd_ne (by unfold lowJ at h; omega)]