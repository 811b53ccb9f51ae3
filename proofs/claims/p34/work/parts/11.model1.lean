theorem bI_1 {b : Bool} (h : b = true) : (1 : Int32) = bI b := by rw [h]; rfl
theorem bI_0 {b : Bool} (h : b = false) : (0 : Int32) = bI b := by rw [h]; rfl
def inB (v lo hi : Int32) : Bool := decide (lo ≤ v) && decide (v ≤ hi)
def bitsN : Nat → Int32 → Int32
  | 0, _ => 0
  | k + 1, s => bitsN k s + (s >>> (nI k &&& 31) &&& 1)
def bitsI (s : Int32) : Int32 := bitsN 12 s
def anyB : Nat → (Nat → Bool) → Bool
  | 0, _ => false
  | n + 1, P => anyB n P || P n
def sumI : Nat → (Nat → Int32) → Int32
  | 0, _ => 0
  | n + 1, f => sumI n f + f n
def orI : Nat → (Nat → Int32) → Int32
  | 0, _ => 0
  | n + 1, f => orI n f ||| f n
theorem nI3402 {j : Nat} (h : j < 3402) : j < 3402 := h
theorem kq_si {X : Xs} {y : MI} {is : List (Instr × Nat)} {pc : Nat} {lo : Lo} {st : List Value} {nc ks : Nat} {κ : Kp} {M : Mem} {Q : Rs → Kp → Mem → Prop} {v : Int32} (h : G X y is pc lo (.int v :: st) nc ks κ M Q) : Kq X y is pc lo st nc ks Q (.inl (some (.int v))) κ M := h
theorem g_join {X : Xs} {y : MI} {is : List (Instr × Nat)} {pc : Nat} {lo : Lo} {st : List Value} {nc ks : Nat} {κ : Kp} {M : Mem} {Q : Rs → Kp → Mem → Prop} {isJ : List (Instr × Nat)} {pcJ : Nat} (v : Int32) (hJ : G X y isJ pcJ lo (.int v :: st) nc ks κ M Q) (hR : (∀ v', v' = v → G X y isJ pcJ lo (.int v' :: st) nc ks κ M Q) → G X y is pc lo st nc ks κ M Q) : G X y is pc lo st nc ks κ M Q := hR (fun v' e => by rw [e]; exact hJ)