/-! ===== small things: booleans, loops, shapes ===== -/
def bI (b : Bool) : Int32 := bif b then 1 else 0
theorem nar_bI (b : Bool) : narrow .boolean (.int (bI b)) = .int (bI b) := by cases b <;> rfl
theorem nI_inc (k : Nat) : nI k + Int32.ofInt 1 = nI (k + 1) := nI_1 k
theorem qeq {Q : Rs → Kp → Mem → Prop} {κ : Kp} {M M' : Mem} {v v' : Int32} (h : Q (.inl (some (.int v'))) κ M') (e1 : v = v') (e2 : M = M') : Q (.inl (some (.int v))) κ M := by subst e1; subst e2; exact h
theorem qeqv {Q : Rs → Kp → Mem → Prop} {κ : Kp} {M M' : Mem} (h : Q (.inl none) κ M') (e2 : M = M') : Q (.inl none) κ M := by subst e2; exact h
section SMALL
variable {X : Xs} {y : MI} {is : List (Instr × Nat)} {pc : Nat} {lo : Lo} {st : List Value} {nc ks : Nat} {κ : Kp} {M : Mem} {Q : Rs → Kp → Mem → Prop}
theorem kq_s {v : Value} (h : G X y is pc lo (v :: st) nc ks κ M Q) : Kq X y is pc lo st nc ks Q (.inl (some v)) κ M := h
theorem kq_n (h : G X y is pc lo st nc ks κ M Q) : Kq X y is pc lo st nc ks Q (.inl none) κ M := h
theorem g_fall {is' : List (Instr × Nat)} {pc' : Nat} (hp : pc = pc') (hA' : CdAt y.2.1 pc' is') (kk : G X y is' pc' lo st nc ks κ M Q) : G X y is pc lo st nc ks κ M Q := by
  subst hp
  exact g_lab hA' kk
theorem g_if_eq_b {b : Bool} {off : Int} {tgt : Nat} {is' : List (Instr × Nat)} (ht : (pc : Int) + off = (tgt : Int)) (hA' : CdAt y.2.1 tgt is') (kt : b = false → G X y is' tgt lo st nc ks κ M Q) (kf : b = true → G X y is (pc + 3) lo st nc ks κ M Q) : G X y (((.ifCond .eq off), 3) :: is) pc lo (.int (bI b) :: st) nc ks κ M Q :=
  g_if_eq ht hA' (fun h => kt (by cases b with | false => rfl | true => exact absurd h (by decide))) (fun h => kf (by cases b with | true => rfl | false => exact absurd rfl h))
theorem g_if_ne_b {b : Bool} {off : Int} {tgt : Nat} {is' : List (Instr × Nat)} (ht : (pc : Int) + off = (tgt : Int)) (hA' : CdAt y.2.1 tgt is') (kt : b = true → G X y is' tgt lo st nc ks κ M Q) (kf : b = false → G X y is (pc + 3) lo st nc ks κ M Q) : G X y (((.ifCond .ne off), 3) :: is) pc lo (.int (bI b) :: st) nc ks κ M Q :=
  g_if_ne ht hA' (fun h => kt (by cases b with | true => rfl | false => exact absurd rfl h)) (fun h => kf (by cases b with | false => rfl | true => exact absurd h (by decide)))
end SMALL
def subLo2 (lo : Lo) : Lo → Prop
  | [] => True
  | q :: t => lg lo q.1 = q.2 ∧ subLo2 lo t
theorem subLo2_lg {lo : Lo} : ∀ {lo' : Lo}, subLo2 lo lo' → ∀ (i : Nat) (v : Value), lg lo' i = some v → lg lo i = some v
  | [], _, i, v, h => by cases h
  | q :: t, hs, i, v, h => by
    rw [lg_cons] at h
    by_cases hq : q.1 = i
    · rw [if_pos hq] at h
      rw [← hq, hs.1, h]
    · rw [if_neg hq] at h
      exact subLo2_lg hs.2 i v h
theorem g_lo2 {X : Xs} {y : MI} {is : List (Instr × Nat)} {pc : Nat} {lo : Lo} {st : List Value} {nc ks : Nat} {κ : Kp} {M : Mem} {Q : Rs → Kp → Mem → Prop} {lo' : Lo} (kk : G X y is pc lo' st nc ks κ M Q) (h : subLo2 lo lo') : G X y is pc lo st nc ks κ M Q :=
  fun hA l p e s m args below meth c b Z D H locs ls hC hR hS hL => kk hA l p e s m args below meth c b Z D H locs ls hC hR hS ⟨hL.1, hL.2.1, fun i v hv => hL.2.2 i v (subLo2_lg h i v hv)⟩
/-- a loop that counts up to c -/
theorem loop_up {P : Nat → Prop} (c : Nat) (body : ∀ k, k ≤ c → (k < c → P (k + 1)) → P k) : ∀ k, k ≤ c → P k := by
  have h : ∀ n k, k ≤ c → c - k = n → P k := by
    intro n
    induction n with
    | zero => exact fun k hk hn => body k hk (fun h => absurd hn (by omega))
    | succ n ih => exact fun k hk hn => body k hk (fun h => ih (k + 1) h (by omega))
  exact fun k hk => h _ k hk rfl
theorem cmp_ge {x : Int32} {c k : Nat} (hx : x = nI c) (hc : c < 100000) (hk : k ≤ c) : (x ≤ nI k → k = c) ∧ (¬ x ≤ nI k → k < c) := by
  subst hx
  have h := nI_leI (a := c) (b := k) (by omega) (by omega)
  exact ⟨fun g => by have := h.mp g; omega, fun g => by
    rcases Nat.lt_or_ge k c with q | q
    · exact q
    · exact absurd (h.mpr q) g⟩
theorem cmp_lt {x : Int32} {c k : Nat} (hx : x = nI c) (hc : c < 100000) (hk : k ≤ c) : (nI k < x → k < c) ∧ (¬ nI k < x → k = c) := by
  subst hx
  have h := nI_ltI (a := k) (b := c) (by omega) (by omega)
  exact ⟨fun g => h.mp g, fun g => by
    rcases Nat.lt_or_ge k c with q | q
    · exact absurd (h.mpr q) g
    · omega⟩
/-- shapes -/
def lesSh : Sh := (3, 9, [0, 0, 0, 0, 0, 0, 0, 0, 0])
def floSh : Sh := (1, 4, [0, 0, 0, 0])
def teaSh : Sh := (5, 2, [0, 0])
def danSh : Sh := (0, 4, [0, 0, 0, 0])
def rcs (a n : Nat) : List Nat := (List.range n).map fun i => a + i + 2
def rcs37 (a n : Nat) : List Nat := (List.range n).map fun i => a + 37 * i + 2
theorem rcs_get {a n k : Nat} (h : k < n) : (rcs a n).getD k 0 = a + k + 2 := by simp [rcs, h]
theorem rcs37_get {a n k : Nat} (h : k < n) : (rcs37 a n).getD k 0 = a + 37 * k + 2 := by simp [rcs37, h]
def stuSh (o : Nat) : Sh := (4, 14, [o + 1 + 2, o + 6 + 2, o + 12 + 2, o + 23 + 2, o + 36 + 2, 0, 0, 0, 0, 0, 0, 0, 0, 0])
def IsStu (S : Nat → Option Sh) (o : Nat) : Prop := S o = some (stuSh o) ∧ S (o + 1) = some (21, 4, rcs (o + 2) 4) ∧ (∀ i, i < 4 → S (o + 2 + i) = some floSh) ∧ S (o + 6) = some (25, 5, rcs (o + 7) 5) ∧ (∀ i, i < 5 → S (o + 7 + i) = some teaSh) ∧
  S (o + 12) = some (23, 10, rcs (o + 13) 10) ∧ (∀ i, i < 10 → S (o + 13 + i) = some lesSh) ∧ S (o + 23) = some (20, 12, rcs (o + 24) 12) ∧ (∀ i, i < 12 → S (o + 24 + i) = some danSh) ∧ S (o + 36) = some (16, 2, [])
section STU
variable {S : Nat → Option Sh} {o : Nat}
theorem IsStu.s0 (h : IsStu S o) : S o = some (stuSh o) := h.1
theorem IsStu.fa (h : IsStu S o) : S (o + 1) = some (21, 4, rcs (o + 2) 4) := h.2.1
theorem IsStu.fi (h : IsStu S o) {i : Nat} (hi : i < 4) : S (o + 2 + i) = some floSh := h.2.2.1 i hi
theorem IsStu.ta (h : IsStu S o) : S (o + 6) = some (25, 5, rcs (o + 7) 5) := h.2.2.2.1
theorem IsStu.ti (h : IsStu S o) {i : Nat} (hi : i < 5) : S (o + 7 + i) = some teaSh := h.2.2.2.2.1 i hi
theorem IsStu.la (h : IsStu S o) : S (o + 12) = some (23, 10, rcs (o + 13) 10) := h.2.2.2.2.2.1
theorem IsStu.li (h : IsStu S o) {i : Nat} (hi : i < 10) : S (o + 13 + i) = some lesSh := h.2.2.2.2.2.2.1 i hi
theorem IsStu.da (h : IsStu S o) : S (o + 23) = some (20, 12, rcs (o + 24) 12) := h.2.2.2.2.2.2.2.1
theorem IsStu.di (h : IsStu S o) {i : Nat} (hi : i < 12) : S (o + 24 + i) = some danSh := h.2.2.2.2.2.2.2.2.1 i hi
theorem IsStu.se (h : IsStu S o) : S (o + 36) = some (16, 2, []) := h.2.2.2.2.2.2.2.2.2
end STU
def IsTxt (S : Nat → Option Sh) (o : Nat) : Prop := S o = some (6, 6, [o + 1 + 2, o + 2 + 2, 0, 0, 0, 0]) ∧ S (o + 1) = some (17, 120, []) ∧ S (o + 2) = some (16, 6, [])
def IsHis (S : Nat → Option Sh) (o : Nat) : Prop := S o = some (2, 3, [o + 1 + 2, 0, 0]) ∧ S (o + 1) = some (24, 14, rcs37 (o + 2) 14) ∧ ∀ i, i < 14 → IsStu S (o + 2 + 37 * i)
def IsDF (S : Nat → Option Sh) (o : Nat) : Prop := S o = some (7, 6, [o + 1 + 2, o + 4 + 2, o + 41 + 2, o + 78 + 2, o + 598 + 2, o + 673 + 2]) ∧ IsTxt S (o + 1) ∧ IsStu S (o + 4) ∧ IsStu S (o + 41) ∧ IsHis S (o + 78) ∧ S (o + 598) = some (24, 2, rcs37 (o + 599) 2) ∧ (∀ i, i < 2 → IsStu S (o + 599 + 37 * i)) ∧ S (o + 673) = some (18, 2, [])
/-- rows of the memory -/
def sR (M : Mem) (r : Nat) (f : Nat → Int32) : Mem := fun r' j => if r' = r then f j else M r' j
theorem sR_s (M : Mem) (r : Nat) (f : Nat → Int32) : sR M r f r = f := by funext j; exact if_pos rfl
theorem sR_o (M : Mem) (r : Nat) (f : Nat → Int32) {r' : Nat} (h : r' ≠ r) : sR M r f r' = M r' := by funext j; exact if_neg h
theorem sR_sR (M : Mem) (r : Nat) (f g : Nat → Int32) : sR (sR M r f) r g = sR M r g := by
  funext r' j
  by_cases h : r' = r
  · simp [sR, h]
  · simp [sR, h]
theorem sR_self (M : Mem) (r : Nat) : sR M r (M r) = M := by
  funext r' j
  by_cases h : r' = r
  · simp [sR, h]
  · simp [sR, h]
theorem upM_sR (M : Mem) (r k : Nat) (x : Int32) : upM M r k x = sR M r (upd (M r) k x) := by
  funext r' j
  by_cases h : r' = r
  · subst h
    by_cases hj : j = k
    · simp [upM, sR, upd, hj]
    · simp [upM, sR, upd, hj]
  · simp [upM, sR, h]
