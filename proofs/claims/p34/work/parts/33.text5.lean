def FrT (M M' : Mem) (m : Nat) : Prop := (∀ r, r ≠ m → r ≠ m + 4 → M' r = M r) ∧ (∀ j, j ≠ 6 → M' m j = M m j)
theorem FrT.rf (M : Mem) (m : Nat) : FrT M M m := ⟨fun _ _ _ => rfl, fun _ _ => rfl⟩
theorem FrT.tr {M M' M'' : Mem} {m : Nat} (h : FrT M M' m) (h2 : FrT M' M'' m) : FrT M M'' m := ⟨fun r a b => (h2.1 r a b).trans (h.1 r a b), fun j a => (h2.2 j a).trans (h.2 j a)⟩
def FrU (M M' : Mem) (m : Nat) : Prop := (∀ r, r ≠ m → r ≠ m + 4 → M' r = M r) ∧ (∀ j, j ≠ 6 → j ≠ 7 → M' m j = M m j)
theorem FrU.rf (M : Mem) (m : Nat) : FrU M M m := ⟨fun _ _ _ => rfl, fun _ _ _ => rfl⟩
theorem FrU.tr {M M' M'' : Mem} {m : Nat} (h : FrU M M' m) (h2 : FrU M' M'' m) : FrU M M'' m := ⟨fun r a b => (h2.1 r a b).trans (h.1 r a b), fun j a b => (h2.2 j a b).trans (h.2 j a b)⟩
theorem FrT.u {M M' : Mem} {m : Nat} (h : FrT M M' m) : FrU M M' m := ⟨h.1, fun j a _ => h.2 j a⟩
def sgI (t : Nat → Int32) (len p : Nat) : Int32 := if p < len then t p else -1
theorem sg_in {t : Nat → Int32} {len p : Nat} (h : p < len) : sgI t len p = t p := if_pos h
theorem fig_iff {t : Nat → Int32} {len p lo hi : Nat} (hT : TxOK t len) (hlo : lo < 1000) (hhi : hi < 1000) : inB (sgI t len p) (48 + nI lo) (48 + nI hi) = d1B t len lo hi p := by
  unfold sgI
  by_cases h : p < len
  · rw [if_pos h, d1_iff2 hT h hlo hhi]
  · rw [if_neg h]
    unfold d1B inB
    rw [decide_eq_false h, Bool.false_and]
    have e1 : (48 : Int32) + nI lo = nI (48 + lo) := nI_add 48 lo
    rw [e1, decide_eq_false, Bool.false_and]
    intro q
    have q2 := Int32.le_iff_toInt_le.mp q
    rw [nI_toInt (by omega)] at q2
    have h3 : (-1 : Int32).toInt = -1 := by decide
    omega
theorem upM_self {M : Mem} {r k : Nat} : upM M r k (M r k) = M := by
  funext r' j
  unfold upM
  split
  · next h => rw [h.1, h.2]
  · rfl
theorem add_z (x : Int32) : x + 0 = x := by grind
theorem upd_upd {f : Nat → Int32} {k : Nat} {x y : Int32} : upd (upd f k x) k y = upd f k y := by
  funext j
  by_cases h : j = k
  · subst h; rw [upd_same, upd_same]
  · rw [upd_ne h, upd_ne h, upd_ne h]
theorem lo_e {t : Nat → Int32} {len p lo : Nat} (hl : lo < 100) (hb : ch t p < 256) (h : dv t p = nI lo / 10) : nI lo - nI lo / 10 * 10 = nI (lo2 t lo p) := by
  have e := pk_rem (a := lo) (d := 10) (by omega) (by omega) (by omega)
  refine (show nI lo - nI lo / 10 * 10 = nI (lo % 10) from e).trans ?_
  rw [div10 (by omega)] at h
  unfold dv at h
  have h2 := (nI_eq (a := ch t p - 48) (b := lo / 10) (by omega) (by omega)).mp h
  unfold lo2
  rw [if_pos h2]
theorem lo_n {t : Nat → Int32} {len p lo : Nat} (hl : lo < 100) (hb : ch t p < 256) (h : ¬ dv t p = nI lo / 10) : (0 : Int32) = nI (lo2 t lo p) := by
  rw [div10 (by omega)] at h
  unfold lo2
  rw [if_neg]
  · rfl
  · intro q
    exact h (by unfold dv; rw [q])
theorem hi_e {t : Nat → Int32} {len p hi : Nat} (hl : hi < 100) (hb : ch t p < 256) (h : dv t p = nI hi / 10) : nI hi - nI hi / 10 * 10 = nI (hi2 t hi p) := by
  have e := pk_rem (a := hi) (d := 10) (by omega) (by omega) (by omega)
  refine (show nI hi - nI hi / 10 * 10 = nI (hi % 10) from e).trans ?_
  rw [div10 (by omega)] at h
  unfold dv at h
  have h2 := (nI_eq (a := ch t p - 48) (b := hi / 10) (by omega) (by omega)).mp h
  unfold hi2
  rw [if_pos h2]
theorem hi_n {t : Nat → Int32} {len p hi : Nat} (hl : hi < 100) (hb : ch t p < 256) (h : ¬ dv t p = nI hi / 10) : (9 : Int32) = nI (hi2 t hi p) := by
  rw [div10 (by omega)] at h
  unfold hi2
  rw [if_neg]
  · rfl
  · intro q
    exact h (by unfold dv; rw [q])