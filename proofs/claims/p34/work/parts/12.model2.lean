def atC (s : Nat → Int32) (k : Nat) (day hour : Int32) : Bool := decide (s (39 + 9 * k + 4) = day) && decide (s (39 + 9 * k + 5) = hour)
def whyI (s : Nat → Int32) (nc : Nat) (style level : Int32) (f t : Nat) (day hour : Int32) : Int32 :=
  if anyB nc (fun k => atC s k day hour && decide (s (39 + 9 * k + 2) = nI f)) then 1
  else if anyB nc (fun k => atC s k day hour && decide (s (39 + 9 * k + 3) = nI t)) then 2
  else if (bitS (s (29 + 2 * t)) style && decide (level ≤ s (29 + 2 * t + 1))) = false then 3
  else if sprOK (s (13 + 4 * f)) style level = false then 4
  else if barOK (s (13 + 4 * f + 2)) style level = false then 5
  else if mirOK (s (13 + 4 * f + 1)) style level = false then 6 else 0
def whyS (s : Nat → Int32) (nc d k f : Nat) : Int32 :=
  if bitS (s (39 + 9 * k + 8)) (nI d) then 1
  else if s (129 + 5 * d + 0) + 1 < s (39 + 9 * k + 1) then 2
  else if anyB nc (fun e => bitS (s (39 + 9 * e + 8)) (nI d) && (decide (s (39 + 9 * e + 4) = s (39 + 9 * k + 4)) && decide (s (39 + 9 * e + 5) = s (39 + 9 * k + 5)))) then 3
  else if bitsI (s (39 + 9 * k + 8)) < tkI (s (13 + 4 * f + 3)) (s (13 + 4 * f + 2)) (s (39 + 9 * k + 0)) then 0 else 4
def comI (s : Nat → Int32) (k n : Nat) : Int32 := orI n (fun d => if bitS (s (39 + 9 * k + 8)) (nI d) && decide (0 < s (129 + 5 * d + 2)) then 1 <<< (nI d &&& 31) else 0)
theorem and01 (z : Int32) : (z &&& 1 = 0) = ¬ (z &&& 1 = 1) := by
  have h1 := pk_and z (m := 1) 1 (by decide)
  rw [h1]
  have h2 : z.toBitVec.toNat % 2 ^ 1 < 2 := Nat.mod_lt _ (by decide)
  have h3 : z.toBitVec.toNat % 2 ^ 1 = 0 ∨ z.toBitVec.toNat % 2 ^ 1 = 1 := by omega
  rcases h3 with e | e <;> rw [e] <;> decide