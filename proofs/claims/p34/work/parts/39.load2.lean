theorem hi_fl {s : Nat → Int32} {n : Nat} (hn : n < 4) {a b c d : Int32} {j : Nat} (hj : 189 ≤ j) : flS s n a b c d j = s j := by unfold flS; simp (disch := omega) only [upd_ne]
theorem hi_te {s : Nat → Int32} {n : Nat} (hn : n < 5) {a b : Int32} {j : Nat} (hj : 189 ≤ j) : teS s n a b j = s j := by unfold teS; simp (disch := omega) only [upd_ne]
theorem hi_cl {s : Nat → Int32} {n : Nat} (hn : n < 10) {a b c d e f : Int32} {j : Nat} (hj : 189 ≤ j) : clS s n a b c d e f j = s j := by unfold clS; simp (disch := omega) only [upd_ne]
theorem hi_da {s : Nat → Int32} {n : Nat} (hn : n < 12) {j : Nat} (hj : 189 ≤ j) : daS s n j = s j := by
  unfold daS
  rw [upd_ne (by omega), if_neg (by omega), if_neg (by omega)]
theorem hi_pa {s : Nat → Int32} {n : Nat} (hn : n < 12) {j : Nat} (hj : 189 ≤ j) : paS s n j = s j := by unfold paS; simp (disch := omega) only [upd_ne]
theorem hi_en {s : Nat → Int32} {d : Int32} {k : Nat} (hk : k < 10) {j : Nat} (hj : 189 ≤ j) : enS s d k j = s j := by unfold enS; simp (disch := omega) only [upd_ne]
theorem hi_le {s : Nat → Int32} {d : Int32} {k : Nat} (hk : k < 10) {j : Nat} (hj : 189 ≤ j) : leS s d k j = s j := by unfold leS; simp (disch := omega) only [upd_ne]
theorem hi_dr {s : Nat → Int32} {n k : Nat} (hn : n ≤ 10) {j : Nat} (hj : 189 ≤ j) : drS s n k j = s j := drS_o (by omega) (by omega) (Or.inr (by omega))
theorem hi_dn {w : Int32} {k : Nat} (hk : k < 10) {s : Nat → Int32} {j : Nat} (hj : 189 ≤ j) : ∀ n, n ≤ 12 → dnN w k n s j = s j
  | 0, _ => rfl
  | n + 1, hn => by
    show (if bitS w (nI n) then danS (dnN w k n s) k n else dnN w k n s) j = s j
    split
    · unfold danS
      simp (disch := omega) only [upd_ne]
      exact hi_dn hk hj n (by omega)
    · exact hi_dn hk hj n (by omega)
theorem hi_cls {nd : Nat} (hnd : nd ≤ 12) {s : Nat → Int32} {j : Nat} (hj : 189 ≤ j) : ∀ k, k ≤ 10 → clsN nd k s j = s j
  | 0, _ => rfl
  | k + 1, hk => by
    show stepC nd (clsN nd k s) k j = s j
    unfold stepC
    split
    · rw [upd_ne (by omega)]; exact hi_cls hnd hj k (by omega)
    · rw [hi_dn (by omega) hj nd hnd, ho_o (by omega) (by omega)]
      exact hi_cls hnd hj k (by omega)
theorem hi_ri {s : Nat → Int32} {j : Nat} (hj : 189 ≤ j) : ∀ n, n ≤ 12 → riseN n s j = s j
  | 0, _ => rfl
  | n + 1, hn => by
    show riseS (riseN n s) n j = s j
    unfold riseS
    split
    · rw [upd_ne (by omega), upd_ne (by omega)]; exact hi_ri hj n (by omega)
    · exact hi_ri hj n (by omega)
theorem hi_week {nc nd : Nat} (hnc : nc ≤ 10) (hnd : nd ≤ 12) {s : Nat → Int32} {j : Nat} (hj : 189 ≤ j) : weekS nc nd s j = s j := by
  unfold weekS
  rw [hi_ri hj nd hnd, hi_cls hnd hj nc hnc, upd_ne (by omega)]
theorem hi_wk {nc nd : Nat} (hnc : nc ≤ 10) (hnd : nd ≤ 12) {s : Nat → Int32} {j : Nat} (hj : 189 ≤ j) : ∀ n, wkN nc nd n s j = s j
  | 0 => rfl
  | n + 1 => by
    show weekS nc nd (wkN nc nd n s) j = s j
    rw [hi_week hnc hnd hj]
    exact hi_wk hnc hnd hj n
theorem hi_wkC {B : Nat} {s : Nat → Int32} (hI : IR B s) {n j : Nat} (hj : 189 ≤ j) : wkC n s j = s j := by
  obtain ⟨nf, nt, nc, nd, hI⟩ := hI
  unfold wkC
  rw [hI.n2, hI.n3]
  exact hi_wk hI.lc hI.ld hj n
theorem cmd_keep {B c : Nat} {s a : Nat → Int32} {qs : List (Bool × Nat × Nat)} (hI : IR B s) (hc : c < 256) (hfl : flds c = some qs) (hr : ∀ i lo hi b, qs[i]? = some (b, lo, hi) → ∃ v, lo ≤ v ∧ v ≤ hi ∧ a i = nI v) (hg : cmdG c s a = true) : IR (B + 9) (cmdT c s a) ∧ ∀ j, 189 ≤ j → cmdT c s a j = s j := by
  obtain ⟨nf, nt, nc, nd, hI⟩ := hI
  have bf := hI.lf
  have bt := hI.lt
  have bc := hI.lc
  have bn := hI.ld
  have hw : ∀ n, n ≤ 9 → IR (B + 9) (wkC n s) ∧ ∀ j, 189 ≤ j → wkC n s j = s j := fun n hn => by
    refine ⟨?_, fun j hj => hi_wkC ⟨_, _, _, _, hI⟩ hj⟩
    unfold wkC
    rw [hI.n2, hI.n3]
    exact ⟨_, _, _, _, (inv_wk hI n).up (by omega)⟩
  unfold flds at hfl
  repeat' split at hfl
  · next e =>
    subst e
    cases hfl
    have hg2 : gFl s = true := hg
    rw [hI.qFl] at hg2
    show IR (B + 9) (flS s (cN s 0) _ _ _ _) ∧ ∀ j, 189 ≤ j → flS s (cN s 0) _ _ _ _ j = s j
    rw [hI.n0]
    exact ⟨⟨_, _, _, _, (inv_fl hI (of_decide_eq_true hg2) (hr 1 0 4 false rfl) (hr 2 0 60 true rfl) (hr 3 1 30 true rfl)).up (by omega)⟩, fun j hj => hi_fl (of_decide_eq_true hg2) hj⟩
  · next _ e =>
    subst e
    cases hfl
    have hg2 : gTe s = true := hg
    rw [hI.qTe] at hg2
    show IR (B + 9) (teS s (cN s 1) _ _) ∧ ∀ j, 189 ≤ j → teS s (cN s 1) _ _ j = s j
    rw [hI.n1]
    exact ⟨⟨_, _, _, _, (inv_te hI (of_decide_eq_true hg2)).up (by omega)⟩, fun j hj => hi_te (of_decide_eq_true hg2) hj⟩
  · next _ _ e =>
    subst e
    cases hfl
    have hg2 : (gCl s (a 2) (a 3) && _) = true := hg
    rw [Bool.and_eq_true] at hg2
    obtain ⟨h10, ⟨f, hf, ef⟩, -⟩ := hI.qCl.mp hg2.1
    show IR (B + 9) (clS s (cN s 2) (a 0) (a 1) (a 2) (a 3) (a 4) (a 5)) ∧ ∀ j, 189 ≤ j → clS s (cN s 2) (a 0) (a 1) (a 2) (a 3) (a 4) (a 5) j = s j
    rw [hI.n2, ef]
    exact ⟨⟨_, _, _, _, (inv_cl hI h10 hf (hr 4 0 5 false rfl)).up (by omega)⟩, fun j hj => hi_cl h10 hj⟩
  · next _ _ _ e =>
    subst e
    cases hfl
    have hg2 : cpass s (a 0) = true := hg
    obtain ⟨d, hd, ed, hl⟩ := hI.qPa.mp hg2
    show IR (B + 9) (paS s (tn (a 0))) ∧ ∀ j, 189 ≤ j → paS s (tn (a 0)) j = s j
    rw [ed, tn_nI (by omega)]
    exact ⟨⟨_, _, _, _, (inv_pa hI hd hl).up (by omega)⟩, fun j hj => hi_pa (by omega) hj⟩
  · next _ _ _ _ e =>
    cases hfl
    rcases e with e | e
    · subst e
      have hg2 : (gSe s (a 0) (a 1) && decide (wSe s (a 0) (a 1) = 0)) = true := hg
      rw [Bool.and_eq_true] at hg2
      obtain ⟨⟨d, hd, ed⟩, ⟨k, hk, ek⟩⟩ := hI.qSe.mp hg2.1
      obtain ⟨f, hf, ef⟩ := (hI.cl hk).1
      have hw0 := of_decide_eq_true hg2.2
      unfold wSe at hw0
      rw [hI.n2, ed, ek, tn_nI (by omega), tn_nI (by omega), ef, tn_nI (by omega)] at hw0
      show IR (B + 9) (enS s (a 0) (tn (a 1))) ∧ ∀ j, 189 ≤ j → enS s (a 0) (tn (a 1)) j = s j
      rw [ed, ek, tn_nI (by omega)]
      exact ⟨⟨_, _, _, _, (inv_en hI hd hk (whyS_bit hw0)).up (by omega)⟩, fun j hj => hi_en (by omega) hj⟩
    · subst e
      have hg2 : gLe s (a 0) (a 1) = true := hg
      obtain ⟨d, k, hd, hk, ed, ek, hb⟩ := hI.qLe.mp hg2
      show IR (B + 9) (leS s (a 0) (tn (a 1))) ∧ ∀ j, 189 ≤ j → leS s (a 0) (tn (a 1)) j = s j
      rw [ed, ek, tn_nI (by omega)]
      exact ⟨⟨_, _, _, _, (inv_le hI hd hk hb).up (by omega)⟩, fun j hj => hi_le (by omega) hj⟩
  · next _ _ _ _ _ e =>
    subst e
    cases hfl
    have hg2 : isC s (a 0) = true := hg
    obtain ⟨k, hk, ek⟩ := hI.xC.mp hg2
    show IR (B + 9) (drS s (cN s 2) (tn (a 0))) ∧ ∀ j, 189 ≤ j → drS s (cN s 2) (tn (a 0)) j = s j
    rw [hI.n2, ek, tn_nI (by omega)]
    exact ⟨⟨_, _, _, _, (inv_dr hI hk).up (by omega)⟩, fun j hj => hi_dr bc hj⟩
  · next _ _ _ _ _ _ e =>
    subst e
    cases hfl
    obtain ⟨v, v1, v2, v3⟩ := hr 0 1 9 false rfl
    show IR (B + 9) (wkC (tn (a 0)) s) ∧ ∀ j, 189 ≤ j → wkC (tn (a 0)) s j = s j
    rw [v3, tn_nI (by omega)]
    exact hw v v2
  · next _ _ _ _ _ _ _ e =>
    subst e
    cases hfl
    have hg2 : gDa s = true := hg
    rw [hI.qDa] at hg2
    show IR (B + 9) (daS s (cN s 3)) ∧ ∀ j, 189 ≤ j → daS s (cN s 3) j = s j
    rw [hI.n3]
    exact ⟨⟨_, _, _, _, (inv_da hI (of_decide_eq_true hg2)).up (by omega)⟩, fun j hj => hi_da (of_decide_eq_true hg2) hj⟩
  · cases hfl
