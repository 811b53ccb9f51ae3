/-! ===== a turn of a simulation ===== -/
def tu0 (q : Nat) (s : Nat → Int32) : Nat → Int32 := if gFl s = true then flS s (cN s 0) (nI (1 + q % 9)) (nI (q / 16 % 5)) (nI (q / 128 % 61)) (nI (1 + q / 8192 % 30)) else s
def tu1 (q : Nat) (s : Nat → Int32) : Nat → Int32 := if gTe s = true then teS s (cN s 1) (nI (q % 16)) (nI (1 + q / 16 % 5)) else s
def tu2 (q : Nat) (s : Nat → Int32) : Nat → Int32 := if gCl s (nI (q / 32 % 4)) (nI (q / 128 % 5)) = true then tcT s (nI (q % 4)) (nI (1 + q / 4 % 5)) (nI (q / 32 % 4)) (nI (q / 128 % 5)) (nI (q / 1024 % 6)) (nI (q / 8192 % 6)) else s
def tu6 (s : Nat → Int32) : Nat → Int32 := if gDa s = true then daS s (cN s 3) else s
def tu7 (q : Nat) (s : Nat → Int32) : Nat → Int32 := if cpass s (nI (q % 12)) = true then paS s (tn (nI (q % 12))) else s
def tu9 (q : Nat) (s : Nat → Int32) : Nat → Int32 := if gSe s (nI (q % 12)) (nI (q / 16 % 10)) = true then tsT s (nI (q % 12)) (nI (q / 16 % 10)) else s
def tu13a (q : Nat) (s : Nat → Int32) : Nat → Int32 := if gLe s (nI (q % 12)) (nI (q / 16 % 10)) = true then leS s (nI (q % 12)) (tn (nI (q / 16 % 10))) else s
def tu13b (q : Nat) (s : Nat → Int32) : Nat → Int32 := if isC s (nI (q % 10)) = true then drS s (cN s 2) (tn (nI (q % 10))) else s
def tu13 (q : Nat) (s : Nat → Int32) : Nat → Int32 := if q / 256 % 4 = 0 then tu13a q s else if q / 1024 % 4 = 0 then tu13b q s else s
def tuK (k q : Nat) (s : Nat → Int32) : Nat → Int32 :=
  if k = 0 then tu0 q s else if k = 1 then tu1 q s else if k < 6 then tu2 q s else if k = 6 then tu6 s else if k < 9 then tu7 q s else if k < 13 then tu9 q s else if k = 13 then tu13 q s else wkC (1 + q % 2) s
section TU
variable {B : Nat} {s : Nat → Int32}
theorem IR.r9 (h : IR B s) {x : Int32} : IR B (upd s 9 x) := by
  obtain ⟨nf, nt, nc, nd, h1⟩ := h
  exact ⟨nf, nt, nc, nd, h1.r9⟩
/-- what an action keeps: the invariant, the places behind 188, and place 6 -/
def Kp3 (B : Nat) (s s' : Nat → Int32) : Prop := IR B s' ∧ (∀ j, 189 ≤ j → s' j = s j)
theorem Kp3.rf (h : IR B s) : Kp3 B s s := ⟨h, fun _ _ => rfl⟩
theorem Kp3.up {B' : Nat} {s' : Nat → Int32} (h : Kp3 B s s') (hB : B ≤ B') : Kp3 B' s s' := ⟨h.1.up hB, h.2⟩
theorem Kp3.tr {B' : Nat} {s' s'' : Nat → Int32} (h : Kp3 B s s') (h2 : Kp3 B' s' s'') : Kp3 B' s s'' := ⟨h2.1, fun j hj => (h2.2 j hj).trans (h.2 j hj)⟩
theorem kp_fl (hI : IR B s) {a b c d : Int32} (hg : gFl s = true) (hb : bd 0 4 b) (hc : bd 0 60 c) (hd : bd 1 30 d) : Kp3 B s (flS s (cN s 0) a b c d) ∧ flS s (cN s 0) a b c d 6 = s 6 := by
  obtain ⟨nf, nt, nc, nd, hI⟩ := hI
  rw [hI.qFl] at hg
  rw [hI.n0]
  have h4 := of_decide_eq_true hg
  exact ⟨⟨⟨_, _, _, _, inv_fl hI h4 hb hc hd⟩, fun j hj => hi_fl h4 hj⟩, by unfold flS; simp (disch := omega) only [upd_ne]⟩
theorem kp_te (hI : IR B s) {a b : Int32} (hg : gTe s = true) : Kp3 B s (teS s (cN s 1) a b) ∧ teS s (cN s 1) a b 6 = s 6 := by
  obtain ⟨nf, nt, nc, nd, hI⟩ := hI
  rw [hI.qTe] at hg
  rw [hI.n1]
  have h4 := of_decide_eq_true hg
  exact ⟨⟨⟨_, _, _, _, inv_te hI h4⟩, fun j hj => hi_te h4 hj⟩, by unfold teS; simp (disch := omega) only [upd_ne]⟩
theorem kp_da (hI : IR B s) (hg : gDa s = true) : Kp3 B s (daS s (cN s 3)) ∧ daS s (cN s 3) 6 = s 6 := by
  obtain ⟨nf, nt, nc, nd, hI⟩ := hI
  rw [hI.qDa] at hg
  rw [hI.n3]
  have h4 := of_decide_eq_true hg
  exact ⟨⟨⟨_, _, _, _, inv_da hI h4⟩, fun j hj => hi_da h4 hj⟩, daS_o (by omega) (by omega)⟩
theorem kp_cl (hI : IR B s) {st lv f t dy hr_ : Int32} (hg : gCl s f t = true) (hdy : bd 0 5 dy) : Kp3 B s (clS s (cN s 2) st lv f t dy hr_) ∧ clS s (cN s 2) st lv f t dy hr_ 6 = s 6 := by
  obtain ⟨nf, nt, nc, nd, hI⟩ := hI
  obtain ⟨h10, ⟨f', hf, ef⟩, -⟩ := hI.qCl.mp hg
  rw [hI.n2, ef]
  exact ⟨⟨⟨_, _, _, _, inv_cl hI h10 hf hdy⟩, fun j hj => hi_cl h10 hj⟩, by unfold clS; simp (disch := omega) only [upd_ne]⟩
theorem kp_9 (hI : IR B s) {x : Int32} : Kp3 B s (upd s 9 x) ∧ upd s 9 x 6 = s 6 := ⟨⟨hI.r9, fun j hj => upd_ne (by omega)⟩, upd_ne (by omega)⟩
theorem kp_tc (hI : IR B s) {st lv f t dy hr_ : Int32} (hg : gCl s f t = true) (hdy : bd 0 5 dy) : Kp3 B s (tcT s st lv f t dy hr_) ∧ tcT s st lv f t dy hr_ 6 = s 6 := by
  unfold tcT
  split
  · exact kp_cl hI hg hdy
  · exact kp_9 hI
theorem kp_pa (hI : IR B s) {d : Int32} (hg : cpass s d = true) : Kp3 B s (paS s (tn d)) ∧ paS s (tn d) 6 = s 6 := by
  obtain ⟨nf, nt, nc, nd, hI⟩ := hI
  have bn := hI.ld
  obtain ⟨d', hd, ed, hl⟩ := hI.qPa.mp hg
  rw [ed, tn_nI (by omega)]
  exact ⟨⟨⟨_, _, _, _, inv_pa hI hd hl⟩, fun j hj => hi_pa (by omega) hj⟩, by unfold paS; simp (disch := omega) only [upd_ne]⟩
theorem kp_en (hI : IR B s) {d k : Int32} (hg : gSe s d k = true) (hw : wSe s d k = 0) : Kp3 B s (enS s d (tn k)) ∧ enS s d (tn k) 6 = s 6 := by
  obtain ⟨nf, nt, nc, nd, hI⟩ := hI
  have bn := hI.ld
  have bc := hI.lc
  have bf := hI.lf
  obtain ⟨⟨d', hd, ed⟩, ⟨k', hk, ek⟩⟩ := hI.qSe.mp hg
  obtain ⟨f, hf, ef⟩ := (hI.cl hk).1
  unfold wSe at hw
  rw [hI.n2, ed, ek, tn_nI (by omega), tn_nI (by omega), ef, tn_nI (by omega)] at hw
  rw [ed, ek, tn_nI (by omega)]
  exact ⟨⟨⟨_, _, _, _, inv_en hI hd hk (whyS_bit hw)⟩, fun j hj => hi_en (by omega) hj⟩, by unfold enS; simp (disch := omega) only [upd_ne]⟩
theorem kp_ts (hI : IR B s) {d k : Int32} (hg : gSe s d k = true) : Kp3 B s (tsT s d k) ∧ tsT s d k 6 = s 6 := by
  unfold tsT
  split
  · exact kp_en hI hg (by assumption)
  · exact kp_9 hI
theorem kp_le (hI : IR B s) {d k : Int32} (hg : gLe s d k = true) : Kp3 B s (leS s d (tn k)) ∧ leS s d (tn k) 6 = s 6 := by
  obtain ⟨nf, nt, nc, nd, hI⟩ := hI
  have bc := hI.lc
  obtain ⟨d', k', hd, hk, ed, ek, hb⟩ := hI.qLe.mp hg
  rw [ed, ek, tn_nI (by omega)]
  exact ⟨⟨⟨_, _, _, _, inv_le hI hd hk hb⟩, fun j hj => hi_le (by omega) hj⟩, by unfold leS; simp (disch := omega) only [upd_ne]⟩
theorem kp_dr (hI : IR B s) {k : Int32} (hg : isC s k = true) : Kp3 B s (drS s (cN s 2) (tn k)) ∧ drS s (cN s 2) (tn k) 6 = s 6 := by
  obtain ⟨nf, nt, nc, nd, hI⟩ := hI
  have bc := hI.lc
  obtain ⟨k', hk, ek⟩ := hI.xC.mp hg
  rw [hI.n2, ek, tn_nI (by omega)]
  exact ⟨⟨⟨_, _, _, _, inv_dr hI hk⟩, fun j hj => hi_dr bc hj⟩, drS_o (by omega) (by omega) (by omega)⟩
theorem kp_wk (hI : IR B s) (n : Nat) : Kp3 (B + n) s (wkC n s) ∧ ∃ u, u ≤ 120 * n ∧ wkC n s 6 = s 6 + nI u := by
  obtain ⟨nf, nt, nc, nd, hI⟩ := hI
  unfold wkC
  rw [hI.n2, hI.n3]
  exact ⟨⟨⟨_, _, _, _, inv_wk hI n⟩, fun j hj => hi_wk hI.lc hI.ld hj n⟩, wk_nn hI n⟩
theorem z6 {s' : Nat → Int32} (h : s' 6 = s 6) : ∃ u, u ≤ 240 ∧ s' 6 = s 6 + nI u := ⟨0, by omega, by rw [h]; exact (add_z _).symm⟩
theorem bdq {lo hi n : Nat} (h1 : lo ≤ n) (h2 : n ≤ hi) : bd lo hi (nI n) := ⟨n, h1, h2, rfl⟩
theorem tu_keep (hI : IR B s) (k q : Nat) : Kp3 (B + 2) s (tuK k q s) ∧ ∃ u, u ≤ 240 ∧ tuK k q s 6 = s 6 + nI u := by
  have hrf : Kp3 (B + 2) s s ∧ ∃ u, u ≤ 240 ∧ s 6 = s 6 + nI u := ⟨(Kp3.rf hI).up (by omega), z6 rfl⟩
  have hh : ∀ {s' : Nat → Int32}, (Kp3 B s s' ∧ s' 6 = s 6) → Kp3 (B + 2) s s' ∧ ∃ u, u ≤ 240 ∧ s' 6 = s 6 + nI u := fun h => ⟨h.1.up (by omega), z6 h.2⟩
  have h0 : Kp3 (B + 2) s (tu0 q s) ∧ ∃ u, u ≤ 240 ∧ tu0 q s 6 = s 6 + nI u := by
    unfold tu0
    split
    · next hg => exact hh (kp_fl hI hg (bdq (by omega) (by omega)) (bdq (by omega) (by omega)) (bdq (by omega) (by omega)))
    · exact hrf
  have h1 : Kp3 (B + 2) s (tu1 q s) ∧ ∃ u, u ≤ 240 ∧ tu1 q s 6 = s 6 + nI u := by
    unfold tu1
    split
    · next hg => exact hh (kp_te hI hg)
    · exact hrf
  have h2 : Kp3 (B + 2) s (tu2 q s) ∧ ∃ u, u ≤ 240 ∧ tu2 q s 6 = s 6 + nI u := by
    unfold tu2
    split
    · next hg => exact hh (kp_tc hI hg (bdq (by omega) (by omega)))
    · exact hrf
  have h6 : Kp3 (B + 2) s (tu6 s) ∧ ∃ u, u ≤ 240 ∧ tu6 s 6 = s 6 + nI u := by
    unfold tu6
    split
    · next hg => exact hh (kp_da hI hg)
    · exact hrf
  have h7 : Kp3 (B + 2) s (tu7 q s) ∧ ∃ u, u ≤ 240 ∧ tu7 q s 6 = s 6 + nI u := by
    unfold tu7
    split
    · next hg => exact hh (kp_pa hI hg)
    · exact hrf
  have h9 : Kp3 (B + 2) s (tu9 q s) ∧ ∃ u, u ≤ 240 ∧ tu9 q s 6 = s 6 + nI u := by
    unfold tu9
    split
    · next hg => exact hh (kp_ts hI hg)
    · exact hrf
  have h13a : Kp3 (B + 2) s (tu13a q s) ∧ ∃ u, u ≤ 240 ∧ tu13a q s 6 = s 6 + nI u := by
    unfold tu13a
    split
    · next hg => exact hh (kp_le hI hg)
    · exact hrf
  have h13b : Kp3 (B + 2) s (tu13b q s) ∧ ∃ u, u ≤ 240 ∧ tu13b q s 6 = s 6 + nI u := by
    unfold tu13b
    split
    · next hg => exact hh (kp_dr hI hg)
    · exact hrf
  have h13 : Kp3 (B + 2) s (tu13 q s) ∧ ∃ u, u ≤ 240 ∧ tu13 q s 6 = s 6 + nI u := by
    unfold tu13
    split
    · exact h13a
    · split
      · exact h13b
      · exact hrf
  have h14 : Kp3 (B + 2) s (wkC (1 + q % 2) s) ∧ ∃ u, u ≤ 240 ∧ wkC (1 + q % 2) s 6 = s 6 + nI u := by
    obtain ⟨h1, u, h2, h3⟩ := kp_wk hI (1 + q % 2)
    exact ⟨h1.up (by omega), u, by omega, h3⟩
  unfold tuK
  split
  · exact h0
  split
  · exact h1
  split
  · exact h2
  split
  · exact h6
  split
  · exact h7
  split
  · exact h9
  split
  · exact h13
  · exact h14
end TU
