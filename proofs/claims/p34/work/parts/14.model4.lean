theorem upd_same {f : Nat → Int32} {k : Nat} {x : Int32} : upd f k x k = x := pk_us
theorem clsN_2 {nd k : Nat} {s : Nat → Int32} : clsN nd k s 2 = s 2 := clsN_low (Or.inl (by decide)) k s
theorem clsN_3 {nd k : Nat} {s : Nat → Int32} : clsN nd k s 3 = s 3 := clsN_low (Or.inl (by decide)) k s
theorem clsN_11 {nd k : Nat} {s : Nat → Int32} : clsN nd k s 11 = s 11 := clsN_low (Or.inr (Or.inl rfl)) k s
theorem clsN_12 {nd k : Nat} {s : Nat → Int32} : clsN nd k s 12 = s 12 := clsN_low (Or.inr (Or.inr rfl)) k s
theorem dnN_3 {w : Int32} {k d : Nat} {s : Nat → Int32} : dnN w k d s 3 = s 3 := dnN_low (Or.inl (by decide)) d s
theorem holdS_3 {k : Nat} {s : Nat → Int32} : holdS s k 3 = s 3 := holdS_low (Or.inl (by decide))
theorem riseN_3 {d : Nat} {s : Nat → Int32} : riseN d s 3 = s 3 := riseN_low (Or.inl (by decide)) d s
theorem riseN_12 {d : Nat} {s : Nat → Int32} : riseN d s 12 = s 12 := riseN_low (Or.inr (Or.inr rfl)) d s
theorem clsN_no {nd k : Nat} {s : Nat → Int32} (h : bitsI (comI (clsN nd k s) k nd) < (clsN nd k s) 11) : clsN nd (k + 1) s = upd (clsN nd k s) 8 (clsN nd k s 8 + 1) ∧ hldN nd (k + 1) s = hldN nd k s := ⟨if_pos h, if_pos h⟩
theorem clsN_ye {nd k : Nat} {s : Nat → Int32} (h : ¬ bitsI (comI (clsN nd k s) k nd) < (clsN nd k s) 11) : clsN nd (k + 1) s = dnN (comI (clsN nd k s) k nd) k nd (holdS (clsN nd k s) k) ∧ hldN nd (k + 1) s = (hldN nd k s ||| (1 <<< (nI k &&& 31))) := ⟨if_neg h, if_neg h⟩
def flS (s : Nat → Int32) (n : Nat) (a b c d : Int32) : Nat → Int32 := upd (upd (upd (upd (upd s (13 + 4 * n) a) (13 + 4 * n + 1) b) (13 + 4 * n + 2) c) (13 + 4 * n + 3) d) 0 (nI (n + 1))
def teS (s : Nat → Int32) (n : Nat) (a b : Int32) : Nat → Int32 := upd (upd (upd s (29 + 2 * n) a) (29 + 2 * n + 1) b) 1 (nI (n + 1))
def clS (s : Nat → Int32) (n : Nat) (a b c d e f : Int32) : Nat → Int32 := upd (upd (upd (upd (upd (upd (upd (upd (upd (upd s (39 + 9 * n) a) (39 + 9 * n + 1) b) (39 + 9 * n + 2) c) (39 + 9 * n + 3) d) (39 + 9 * n + 4) e) (39 + 9 * n + 5) f) (39 + 9 * n + 6) 0) (39 + 9 * n + 7) 0) (39 + 9 * n + 8) 0) 2 (nI (n + 1))
def daS (s : Nat → Int32) (n : Nat) : Nat → Int32 := upd (fun j => if j = 129 + 5 * n then 1 else if 129 + 5 * n < j ∧ j < 129 + 5 * n + 5 then 0 else s j) 3 (nI (n + 1))
def paS (s : Nat → Int32) (d : Nat) : Nat → Int32 :=
  let a := upd s (129 + 5 * d + 2) (s (129 + 5 * d + 2) + 10)
  let b := upd a (129 + 5 * d + 4) (a (129 + 5 * d + 4) + 1)
  upd b 5 (b 5 + 1)
def enS (s : Nat → Int32) (d : Int32) (k : Nat) : Nat → Int32 := upd s (39 + 9 * k + 8) (s (39 + 9 * k + 8) + 1 <<< (d &&& 31))
def leS (s : Nat → Int32) (d : Int32) (k : Nat) : Nat → Int32 := upd s (39 + 9 * k + 8) (s (39 + 9 * k + 8) + -(1 <<< (d &&& 31)))
def drS (s : Nat → Int32) (n k : Nat) : Nat → Int32 :=
  let a := upd s 10 (s 10 + s (39 + 9 * k + 7))
  let b := upd a 2 (nI (n - 1))
  fun j => if 39 + 9 * k ≤ j ∧ j < 39 + 9 * (n - 1) then b (j + 9) else b j
def neS (s : Nat → Int32) : Nat → Int32 := upd (upd (fun j => if j < 189 then 0 else s j) 11 2) 12 12
theorem dnN_ye {w : Int32} {k d : Nat} {s : Nat → Int32} (h : bitS w (nI d) = true) : dnN w k (d + 1) s = danS (dnN w k d s) k d := if_pos h
theorem dnN_no {w : Int32} {k d : Nat} {s : Nat → Int32} (h : bitS w (nI d) = false) : dnN w k (d + 1) s = dnN w k d s := if_neg (by rw [h]; decide)