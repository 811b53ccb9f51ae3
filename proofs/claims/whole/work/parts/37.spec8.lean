/-! ===== commands of a text; the reference's actions over IR ===== -/
def cmdG (c : Nat) (s a : Nat → Int32) : Bool :=
  if c = 102 then gFl s else if c = 116 then gTe s else if c = 99 then (gCl s (a 2) (a 3) && decide (wCl s (a 0) (a 1) (a 2) (a 3) (a 4) (a 5) = 0)) else if c = 100 then gDa s
  else if c = 112 then cpass s (a 0) else if c = 101 then (gSe s (a 0) (a 1) && decide (wSe s (a 0) (a 1) = 0)) else if c = 108 then gLe s (a 0) (a 1) else if c = 120 then isC s (a 0) else true
def cmdT (c : Nat) (s a : Nat → Int32) : Nat → Int32 :=
  if c = 102 then flS s (cN s 0) (a 0) (a 1) (a 2) (a 3) else if c = 116 then teS s (cN s 1) (a 0) (a 1) else if c = 99 then clS s (cN s 2) (a 0) (a 1) (a 2) (a 3) (a 4) (a 5) else if c = 100 then daS s (cN s 3)
  else if c = 112 then paS s (tn (a 0)) else if c = 101 then enS s (a 0) (tn (a 1)) else if c = 108 then leS s (a 0) (tn (a 1)) else if c = 120 then drS s (cN s 2) (tn (a 0)) else wkC (tn (a 0)) s
def cmdA (t : Nat → Int32) (p : Nat) : Nat → Int32 := valL t ((flds (ch t p)).getD []) (p + 1)
def ldF (t : Nat → Int32) (len : Nat) : Nat → Nat → (Nat → Int32) → Int32 → (Nat → Int32) × Int32
  | 0, _, s, out => (s, out)
  | n + 1, p, s, out => if p < len then (if cmdG (ch t p) s (cmdA t p) = true then ldF t len n (rdC t len p).2 (cmdT (ch t p) s (cmdA t p)) out else ldF t len n (rdC t len p).2 s (out + 1)) else (s, out)
theorem ldF_end {t : Nat → Int32} {len p : Nat} {s : Nat → Int32} {out : Int32} (h : ¬ p < len) : ∀ n, ldF t len n p s out = (s, out)
  | 0 => rfl
  | n + 1 => if_neg h
theorem ldF_y {t : Nat → Int32} {len p n e : Nat} {s : Nat → Int32} {out : Int32} (h : p < len) (hr : rdC t len p = (true, e)) (hg : cmdG (ch t p) s (cmdA t p) = true) : ldF t len (n + 1) p s out = ldF t len n e (cmdT (ch t p) s (cmdA t p)) out := by
  show (if p < len then (if cmdG (ch t p) s (cmdA t p) = true then ldF t len n (rdC t len p).2 (cmdT (ch t p) s (cmdA t p)) out else ldF t len n (rdC t len p).2 s (out + 1)) else (s, out)) = _
  rw [if_pos h, if_pos hg, hr]
theorem ldF_n {t : Nat → Int32} {len p n e : Nat} {s : Nat → Int32} {out : Int32} (h : p < len) (hr : rdC t len p = (true, e)) (hg : cmdG (ch t p) s (cmdA t p) = false) : ldF t len (n + 1) p s out = ldF t len n e s (out + 1) := by
  show (if p < len then (if cmdG (ch t p) s (cmdA t p) = true then ldF t len n (rdC t len p).2 (cmdT (ch t p) s (cmdA t p)) out else ldF t len n (rdC t len p).2 s (out + 1)) else (s, out)) = _
  rw [if_pos h, if_neg (by rw [hg]; decide), hr]
theorem prs_step {t : Nat → Int32} {len p n z : Nat} (h : prs t len (n + 1) p = (true, z)) (hp : p < len) : ∃ e, rdC t len p = (true, e) ∧ prs t len n e = (true, z) := by
  cases hr : rdC t len p with
  | mk b e =>
    cases b with
    | true => rw [prs_y hp hr] at h; exact ⟨e, rfl, h⟩
    | false => rw [prs_n hp hr] at h; cases h
theorem cmdA_eq {t : Nat → Int32} {p : Nat} {qs : List (Bool × Nat × Nat)} (h : flds (ch t p) = some qs) : cmdA t p = valL t qs (p + 1) := by unfold cmdA; rw [h]; rfl
theorem cmdA_r {t : Nat → Int32} {len p e : Nat} {qs : List (Bool × Nat × Nat)} (h : flds (ch t p) = some qs) (hr : rdC t len p = (true, e)) : ∀ i lo hi b, qs[i]? = some (b, lo, hi) → ∃ v, lo ≤ v ∧ v ≤ hi ∧ cmdA t p i = nI v := by
  rw [rdC_yes h] at hr
  rw [cmdA_eq h]
  exact (rdL_val qs (p + 1) e (flds_ok h) hr).2
section MACT
variable {X : Xs} {κ : Kp} {M : Mem} {Q : Rs → Kp → Mem → Prop} {m : Nat} {B : Nat}
theorem m_floors (hm : IsMod κ.2.1 m) (hI : IR B (M (m + 1))) {a b c d : Int32} (hg : gFl (M (m + 1)) = true) (hQ : Q (.inl (some (.int (nI (cN (M (m + 1)) 0))))) κ (sR M (m + 1) (flS (M (m + 1)) (cN (M (m + 1)) 0) a b c d))) : Ct X m_X8_floors [.ref m, .int a, .int b, .int c, .int d] κ M Q := by
  obtain ⟨nf, nt, nc, nd, hI⟩ := hI
  rw [hI.n0] at hQ
  rw [hI.qFl] at hg
  exact ct_X8_floors hm hI.f hI.lf (of_decide_eq_true hg) hQ
theorem m_teachers (hm : IsMod κ.2.1 m) (hI : IR B (M (m + 1))) {a b : Int32} (hg : gTe (M (m + 1)) = true) (hQ : Q (.inl (some (.int (nI (cN (M (m + 1)) 1))))) κ (sR M (m + 1) (teS (M (m + 1)) (cN (M (m + 1)) 1) a b))) : Ct X m_X8_teachers [.ref m, .int a, .int b] κ M Q := by
  obtain ⟨nf, nt, nc, nd, hI⟩ := hI
  rw [hI.n1] at hQ
  rw [hI.qTe] at hg
  exact ct_X8_teachers hm hI.t hI.lt (of_decide_eq_true hg) hQ
theorem m_dancers (hm : IsMod κ.2.1 m) (hI : IR B (M (m + 1))) (hg : gDa (M (m + 1)) = true) (hQ : Q (.inl (some (.int (nI (cN (M (m + 1)) 3))))) κ (sR M (m + 1) (daS (M (m + 1)) (cN (M (m + 1)) 3)))) : Ct X m_X8_dancers [.ref m] κ M Q := by
  obtain ⟨nf, nt, nc, nd, hI⟩ := hI
  rw [hI.n3] at hQ
  rw [hI.qDa] at hg
  exact ct_X8_dancers hm hI.d hI.ld (of_decide_eq_true hg) hQ
theorem m_whyNo (hm : IsMod κ.2.1 m) (hI : IR B (M (m + 1))) {st lv f t dy hr_ : Int32} (hf : isF (M (m + 1)) f = true) (ht : isT (M (m + 1)) t = true) (hQ : Q (.inl (some (.int (wCl (M (m + 1)) st lv f t dy hr_)))) κ M) : Ct X m_X8_whyNo [.ref m, .int st, .int lv, .int f, .int t, .int dy, .int hr_] κ M Q := by
  obtain ⟨nf, nt, nc, nd, hI⟩ := hI
  have bf := hI.lf
  have bt := hI.lt
  obtain ⟨f', hf', rfl⟩ := hI.xF.mp hf
  obtain ⟨t', ht', rfl⟩ := hI.xT.mp ht
  unfold wCl at hQ
  rw [hI.n2, tn_nI (by omega), tn_nI (by omega)] at hQ
  refine ct_X8_whyNo hm hI.c hI.lc f' t' rfl rfl (by omega) (by omega) ?_ hQ
  obtain ⟨n, -, n2, n3⟩ := (hI.fl hf').1
  rw [n3]
  exact (nI_leI (a := 0) (b := n) (by omega) (by omega)).mpr (Nat.zero_le _)
theorem m_sets (hm : IsMod κ.2.1 m) (hI : IR B (M (m + 1))) {st lv f t dy hr_ : Int32} (hg : decide (M (m + 1) 2 < 10) = true) (hQ : Q (.inl none) κ (sR M (m + 1) (clS (M (m + 1)) (cN (M (m + 1)) 2) st lv f t dy hr_))) : Ct X m_X8_sets [.ref m, .int st, .int lv, .int f, .int t, .int dy, .int hr_] κ M Q := by
  obtain ⟨nf, nt, nc, nd, hI⟩ := hI
  rw [hI.n2] at hQ
  have e : decide (M (m + 1) 2 < 10) = decide (nc < 10) := lt_iff (b := 10) hI.c (by have := hI.lc; omega) (by omega)
  rw [e] at hg
  exact ct_X8_sets hm hI.c hI.lc (of_decide_eq_true hg) hQ
theorem m_whyNoSeat (hm : IsMod κ.2.1 m) (hI : IR B (M (m + 1))) {d k : Int32} (hg : gSe (M (m + 1)) d k = true) (hQ : Q (.inl (some (.int (wSe (M (m + 1)) d k)))) κ M) : Ct X m_X8_whyNoSeat [.ref m, .int d, .int k] κ M Q := by
  obtain ⟨nf, nt, nc, nd, hI⟩ := hI
  have bn := hI.ld
  have bc := hI.lc
  have bf := hI.lf
  obtain ⟨⟨d', hd, rfl⟩, ⟨k', hk, rfl⟩⟩ := hI.qSe.mp hg
  obtain ⟨f, hf, ef⟩ := (hI.cl hk).1
  unfold wSe at hQ
  rw [hI.n2, tn_nI (by omega), tn_nI (by omega), ef, tn_nI (by omega)] at hQ
  exact ct_X8_whyNoSeat hm hI.c hI.lc d' k' f rfl rfl (by omega) (by omega) ef (by omega) hQ
theorem m_enters (hm : IsMod κ.2.1 m) (hI : IR B (M (m + 1))) {d k : Int32} (hk : isC (M (m + 1)) k = true) (hQ : Q (.inl none) κ (sR M (m + 1) (enS (M (m + 1)) d (tn k)))) : Ct X m_X8_enters [.ref m, .int d, .int k] κ M Q := by
  obtain ⟨nf, nt, nc, nd, hI⟩ := hI
  have bc := hI.lc
  obtain ⟨k', hk', rfl⟩ := hI.xC.mp hk
  rw [tn_nI (by omega)] at hQ
  exact ct_X8_enters hm k' rfl (by omega) hQ
theorem m_leaves (hm : IsMod κ.2.1 m) (hI : IR B (M (m + 1))) {d k : Int32} (hk : isC (M (m + 1)) k = true) (hQ : Q (.inl (some (.int (bitsI (leS (M (m + 1)) d (tn k) (39 + 9 * tn k + 8)))))) κ (sR M (m + 1) (leS (M (m + 1)) d (tn k)))) : Ct X m_X8_leaves [.ref m, .int d, .int k] κ M Q := by
  obtain ⟨nf, nt, nc, nd, hI⟩ := hI
  have bc := hI.lc
  obtain ⟨k', hk', rfl⟩ := hI.xC.mp hk
  rw [tn_nI (by omega)] at hQ
  exact ct_X8_leaves hm k' rfl (by omega) hQ
theorem m_drops (hm : IsMod κ.2.1 m) (hI : IR B (M (m + 1))) {k : Int32} (hk : isC (M (m + 1)) k = true) (hQ : Q (.inl (some (.int (bitsI (M (m + 1) (39 + 9 * tn k + 8)))))) κ (sR M (m + 1) (drS (M (m + 1)) (cN (M (m + 1)) 2) (tn k)))) : Ct X m_X8_drops [.ref m, .int k] κ M Q := by
  obtain ⟨nf, nt, nc, nd, hI⟩ := hI
  have bc := hI.lc
  obtain ⟨k', hk', rfl⟩ := hI.xC.mp hk
  rw [hI.n2, tn_nI (by omega)] at hQ
  exact ct_X8_drops hm hI.c hI.lc k' rfl hk' hQ
theorem m_passes (hm : IsMod κ.2.1 m) (hI : IR B (M (m + 1))) {d : Int32} (hd : isD (M (m + 1)) d = true) (hQ : Q (.inl (some (.int (M (m + 1) (129 + 5 * tn d + 2) + 10)))) κ (sR M (m + 1) (paS (M (m + 1)) (tn d)))) : Ct X m_X8_passes [.ref m, .int d] κ M Q := by
  obtain ⟨nf, nt, nc, nd, hI⟩ := hI
  have bn := hI.ld
  obtain ⟨d', hd', rfl⟩ := hI.xD.mp hd
  rw [tn_nI (by omega)] at hQ
  refine ct_X8_passes hm d' rfl (by omega) (qeq hQ ?_ rfl)
  unfold paS
  simp (disch := omega) only [upd_ne, upd_same]
theorem m_weeksGo (hm : IsMod κ.2.1 m) (hI : IR B (M (m + 1))) {v : Int32} (n : Nat) (hv : v = nI n) (hn : n < 10000) (hQ : ∀ u, u ≤ 120 * n → wkC n (M (m + 1)) 6 = M (m + 1) 6 + nI u → Q (.inl (some (.int (nI u)))) κ (sR M (m + 1) (wkC n (M (m + 1))))) : Ct X m_X8_weeksGo [.ref m, .int v] κ M Q := by
  obtain ⟨nf, nt, nc, nd, hI⟩ := hI
  obtain ⟨u, h1, h2⟩ := wk_nn hI n
  unfold wkC at hQ
  rw [hI.n2, hI.n3] at hQ
  refine ct_X8_weeksGo hm hI.c hI.lc hI.d hI.ld n hv (by omega) (qeq (hQ u h1 h2) ?_ rfl)
  rw [h2]
  grind
theorem m_canPass (hm : IsMod κ.2.1 m) (hI : IR B (M (m + 1))) {d : Int32} (hQ : Q (.inl (some (.int (bI (cpass (M (m + 1)) d))))) κ M) : Ct X m_X8_canPass [.ref m, .int d] κ M Q := by
  obtain ⟨nf, nt, nc, nd, hI⟩ := hI
  exact ct_X8_canPass hm hI.d hI.ld hQ
theorem m_hasSeat (hm : IsMod κ.2.1 m) (hI : IR B (M (m + 1))) {d k : Int32} (hk : isC (M (m + 1)) k = true) (hQ : Q (.inl (some (.int (bI (bitS (M (m + 1) (39 + 9 * tn k + 8)) d))))) κ M) : Ct X m_X8_hasSeat [.ref m, .int d, .int k] κ M Q := by
  obtain ⟨nf, nt, nc, nd, hI⟩ := hI
  have bc := hI.lc
  obtain ⟨k', hk', rfl⟩ := hI.xC.mp hk
  rw [tn_nI (by omega)] at hQ
  exact ct_X8_hasSeat hm k' rfl (by omega) hQ
def tcT (s : Nat → Int32) (st lv f t dy hr_ : Int32) : Nat → Int32 := if wCl s st lv f t dy hr_ = 0 then clS s (cN s 2) st lv f t dy hr_ else upd s 9 (s 9 + 1)
def tsT (s : Nat → Int32) (d k : Int32) : Nat → Int32 := if wSe s d k = 0 then enS s d (tn k) else upd s 9 (s 9 + 1)
theorem m_triesClass (hm : IsMod κ.2.1 m) (hI : IR B (M (m + 1))) {st lv f t dy hr_ : Int32} (hg : gCl (M (m + 1)) f t = true) (hQ : Q (.inl (some (.int (wCl (M (m + 1)) st lv f t dy hr_)))) κ (sR M (m + 1) (tcT (M (m + 1)) st lv f t dy hr_))) : Ct X m_X8_triesClass [.ref m, .int st, .int lv, .int f, .int t, .int dy, .int hr_] κ M Q := by
  obtain ⟨nf, nt, nc, nd, hI⟩ := hI
  have bf := hI.lf
  have bt := hI.lt
  obtain ⟨h10, ⟨f', hf', rfl⟩, ⟨t', ht', rfl⟩⟩ := hI.qCl.mp hg
  unfold tcT wCl at hQ
  rw [hI.n2, tn_nI (by omega), tn_nI (by omega)] at hQ
  refine ct_X8_triesClass hm hI.c hI.lc f' t' rfl rfl (by omega) (by omega) ?_ h10 hQ
  obtain ⟨n, -, n2, n3⟩ := (hI.fl hf').1
  rw [n3]
  exact (nI_leI (a := 0) (b := n) (by omega) (by omega)).mpr (Nat.zero_le _)
theorem m_triesSeat (hm : IsMod κ.2.1 m) (hI : IR B (M (m + 1))) {d k : Int32} (hg : gSe (M (m + 1)) d k = true) (hQ : Q (.inl (some (.int (wSe (M (m + 1)) d k)))) κ (sR M (m + 1) (tsT (M (m + 1)) d k))) : Ct X m_X8_triesSeat [.ref m, .int d, .int k] κ M Q := by
  obtain ⟨nf, nt, nc, nd, hI⟩ := hI
  have bn := hI.ld
  have bc := hI.lc
  have bf := hI.lf
  obtain ⟨⟨d', hd, rfl⟩, ⟨k', hk, rfl⟩⟩ := hI.qSe.mp hg
  obtain ⟨f, hf, ef⟩ := (hI.cl hk).1
  unfold tsT wSe at hQ
  rw [hI.n2, tn_nI (by omega), tn_nI (by omega), ef, tn_nI (by omega)] at hQ
  exact ct_X8_triesSeat hm hI.c hI.lc d' k' f rfl rfl (by omega) (by omega) ef (by omega) hQ
end MACT
