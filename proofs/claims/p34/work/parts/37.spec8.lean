/-! ===== commands of a text; the reference's actions over IR ===== -/
def cmdG (c : Nat) (s a : Nat → Int32) : Bool :=
  if c = 102 then gFl s else if c = 116 then gTe s else if c = 99 then (gCl s (a 2) (a 3) && decide (wCl s (a 0) (a 1) (a 2) (a 3) (a 4) (a 5) = 0)) else if c = 100 then gDa s
  else if c = 112 then cpass s (a 0) else if c = 101 then (gSe s (a 0) (a 1) && decide (wSe s (a 0) (a 1) = 0)) else if c = 108 then gLe s (a 0) (a 1) else if c = 120 then isC s (a 0) else true
def cmdT (c : Nat) (s a : Nat → Int32) : Nat → Int32 :=
  if c = 102 then flS s (cN s 0) (a 0) (a 1) (a 2) (a 3) else if c = 116 then teS s (cN s 1) (a 0) (a 1) else if c = 99 then clS s (cN s 2) (a 0) (a 1) (a 2) (a 3) (a 4) (a 5) else if c = 100 then daS s (cN s 3)
  else if c = 112 then paS s (tn (a 0)) else if c = 101 then enS s (a 0) (tn (a 1)) else if c = 108 then leS s (a 0) (tn (a 1)) else if c = 120 then drS s (cN s 2) (tn (a 0)) else wkC (tn (a 0)) s
def cmdA (t : Nat → Int32) (p : Nat) : Nat → Int32 := valL t ((flds (ch t p)).getD []) (p + 1)
def ldF (t : Nat → Int32) (len : Nat) : Nat → Nat → (Nat → Int32) → Int32 → (Nat → Int32) × Int32
  | 0, _, s, out => (s, out)
  | n + 1, p, s, out => if p < len then (if cmdG (ch t p) s (cmdA t p) = true then ldF t len n (rdC t len p).2 (cmdT (ch t p) s (cmdA t p)) out else ldF t len n (rdC t len p).2 s (out + 1)) else (s, out)
theorem ldF_end {t : Nat → Int32} {len p : Nat} {s : Nat → Int32} {out : Int32} (h : ¬ p < len) : ∀ n, ldF t len n p s out = (s, out)
  | 0 => rfl
  | n + 1 => if_neg h
theorem ldF_y {t : Nat → Int32} {len p n e : Nat} {s : Nat → Int32} {out : Int32} (h : p < len) (hr : rdC t len p = (true, e)) (hg : cmdG (ch t p) s (cmdA t p) = true) : ldF t len (n + 1) p s out = ldF t len n e (cmdT (ch t p) s (cmdA t p)) out := by
  show (if p < len then (if cmdG (ch t p) s (cmdA t p) = true then ldF t len n (rdC t len p).2 (cmdT (ch t p) s (cmdA t p)) out else ldF t len n (rdC t len p).2 s (out + 1)) else (s, out)) = _
  rw [if_pos h, if_pos hg, hr]
theorem ldF_n {t : Nat → Int32} {len p n e : Nat} {s : Nat → Int32} {out : Int32} (h : p < len) (hr : rdC t len p = (true, e)) (hg : cmdG (ch t p) s (cmdA t p) = false) : ldF t len (n + 1) p s out = ldF t len n e s (out + 1) := by
  show (if p < len then (if cmdG (ch t p) s (cmdA t p) = true then ldF t len n (rdC t len p).2 (cmdT (ch t p) s (cmdA t p)) out else ldF t len n (rdC t len p).2 s (out + 1)) else (s, out)) = _
  rw [if_pos h, if_neg (by rw [hg]; decide), hr]
theorem prs_step {t : Nat → Int32} {len p n z : Nat} (h : prs t len (n + 1) p = (true, z)) (hp : p < len) : ∃ e, rdC t len p = (true, e) ∧ prs t len n e = (true, z) := by
  cases hr : rdC t len p with
  | mk b e =>
    cases b with
    | true => rw [prs_y hp hr] at h; exact ⟨e, rfl, h⟩
    | false => rw [prs_n hp hr] at h; cases h
theorem cmdA_eq {t : Nat → Int32} {p : Nat} {qs : List (Bool × Nat × Nat)} (h : flds (ch t p) = some qs) : cmdA t p = valL t qs (p + 1) := by unfold cmdA; rw [h]; rfl
theorem cmdA_r {t : Nat → Int32} {len p e : Nat} {qs : List (Bool × Nat × Nat)} (h : flds (ch t p) = some qs) (hr : rdC t len p = (true, e)) : ∀ i lo hi b, qs[i]? = some (b, lo, hi) → ∃ v, lo ≤ v ∧ v ≤ hi ∧ cmdA t p i = nI v := by
  rw [rdC_yes h] at hr
  rw [cmdA_eq h]
  exact (rdL_val qs (p + 1) e (flds_ok h) hr).2
section MACT
variable {X : Xs} {κ : Kp} {M : Mem} {Q : Rs → Kp → Mem → Prop} {m : Nat} {B : Nat}
def tcT (s : Nat → Int32) (st lv f t dy hr_ : Int32) : Nat → Int32 := if wCl s st lv f t dy hr_ = 0 then clS s (cN s 2) st lv f t dy hr_ else upd s 9 (s 9 + 1)
def tsT (s : Nat → Int32) (d k : Int32) : Nat → Int32 := if wSe s d k = 0 then enS s d (tn k) else upd s 9 (s 9 + 1)
end MACT
