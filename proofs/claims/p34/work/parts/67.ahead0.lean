/-! ===== p34: what is told ahead ===== -/
theorem cmp_self (v : Int64) : lg_cmp v v = 0 := by simp [lg_cmp]
section AH0
variable {B nf nt nc nd : Nat} {s : Nat → Int32}
theorem bf_no {t : Nat} {st lv dy hr : Int32} : ∀ n, n < 1000 → (bfC s nc st lv t dy hr n).1 = -1 → (bfC s nc st lv t dy hr n).2 = 0 ∧ ∀ g, g < n → ¬ (0 < rmI s st g ∧ whyI s nc st lv g t dy hr = 0)
  | 0, _, _ => ⟨rfl, fun g hg => absurd hg (by omega)⟩
  | n + 1, hn, h => by
    by_cases q : (bfC s nc st lv t dy hr n).2 < rmI s st n ∧ whyI s nc st lv n t dy hr = 0
    · rw [bfC_y q] at h
      have h' : nI n = -1 := h
      have := nn (n := n) (by omega)
      rw [h'] at this
      exact absurd this (by decide)
    · rw [bfC_n q] at h ⊢
      obtain ⟨h1, h2⟩ := bf_no n (by omega) h
      refine ⟨h1, fun g hg => ?_⟩
      by_cases e : g = n
      · subst e; rw [h1] at q; exact q
      · exact h2 g (by omega)
theorem bf_yes (hI : Inv B nf nt nc nd s) {f t : Nat} {st lv dy hr : Int32} (hf : f < nf) (hlv : bd 1 5 lv) (hw : whyI s nc st lv f t dy hr = 0) : 0 ≤ (bfC s nc st lv t dy hr nf).1 := by
  have bf := hI.lf
  rcases bf_cases (s := s) (nc := nc) (st := st) (lv := lv) (t := t) (dy := dy) (hr := hr) nf (by omega) with h | ⟨g, h1, h2, h3⟩
  · exfalso
    obtain ⟨n, n1, n2, n3⟩ := tk_nn (hI.fl hf) st
    have hb := (why0 hw).2.2.2.2.1
    refine (bf_no nf (by omega) h).2 f hf ⟨?_, hw⟩
    unfold rmI
    rw [n2]
    exact (nI_ltI (a := 0) (b := n) (by omega) (by omega)).mpr (n3 lv hlv hb)
  · rw [h2]; exact nn (by omega)
theorem wSe_en (hI : Inv B nf nt nc nd s) {d k : Nat} (hd : d < nd) (hk : k < nc) (hw : wSe s (nI d) (nI k) = 0) : wSe (enS s (nI d) k) (nI d) (nI k) = 1 := by
  have bn := hI.ld
  have bc := hI.lc
  unfold wSe at hw ⊢
  rw [tn_nI (by omega), tn_nI (by omega)] at hw ⊢
  have hb := whyS_bit hw
  unfold whyS
  have e : bitS (enS s (nI d) k (39 + 9 * k + 8)) (nI d) = true := by
    unfold enS
    rw [upd_same, ← seat_on (by omega) hb, bitS_bt (by omega), b_or, bt1 (by omega) (by omega)]
    simp
  rw [if_pos e]
theorem wSe_9 {d k : Nat} {x : Int32} : wSe (upd s 9 x) (nI d) (nI k) = wSe s (nI d) (nI k) := by
  have e : ∀ j, j ≠ 9 → upd s 9 x j = s j := fun j h => upd_ne h
  unfold wSe cN whyS
  simp (disch := omega) only [e]
theorem en_7 (hI : Inv B nf nt nc nd s) {d k : Nat} (hd : d < nd) (hk : k < nc) (hw : wSe s (nI d) (nI k) = 0) : clV (enS s (nI d) k) k 7 = bitsI (s (39 + 9 * k + 8)) + 1 := by
  have bn := hI.ld
  have bc := hI.lc
  unfold wSe at hw
  rw [tn_nI (by omega), tn_nI (by omega)] at hw
  show bitsI (enS s (nI d) k (39 + 9 * k + 8)) = _
  unfold enS
  rw [upd_same]
  exact bits_on (by omega) (whyS_bit hw)
theorem cl_4 {st lv dy hr : Int32} {f t : Nat} : clV (clS s nc st lv (nI f) (nI t) dy hr) nc 4 = dy := by
  show clS s nc st lv (nI f) (nI t) dy hr (39 + 9 * nc + 4) = dy
  unfold clS
  simp (disch := omega) only [upd_ne, upd_same]
theorem cl_7 {st lv dy hr : Int32} {f t : Nat} : clV (clS s nc st lv (nI f) (nI t) dy hr) nc 7 = 0 := by
  show bitsI (clS s nc st lv (nI f) (nI t) dy hr (39 + 9 * nc + 8)) = 0
  unfold clS
  simp (disch := omega) only [upd_ne, upd_same]
  decide
theorem cl_9 {st lv dy hr : Int32} {f t : Nat} : abV (clS s nc st lv (nI f) (nI t) dy hr) 11 = s 9 := by
  show clS s nc st lv (nI f) (nI t) dy hr 9 = s 9
  unfold clS
  simp (disch := omega) only [upd_ne]
end AH0
section AHC
variable {X : Xs} {κ : Kp} {M : Mem} {Q : Rs → Kp → Mem → Prop} {o B nf nt nc nd cnt : Nat} {s : Nat → Int32} {blk : Nat → Nat → Int32}
theorem l_runScript (hx : IsDF κ.2.1 o) (hO : OB B M o s cnt blk) (hQ : ∀ M', OB B M' o s cnt blk → Q (.inl (some (.int (-1)))) κ M') : Ct X m_X7_runScript [.ref o, .int 1, .long 30009] κ M Q := by
  refine ct_X7_runScript hx hO.1 (no_in (show scV (nI 1) (lN 30009) = true by rw [scV_nat (by omega) (by omega) (by omega)]; decide)) (fun _ k k1 k2 e σ hσ es M' hF => ?_)
  obtain rfl : 1 = k := (nI_eq (a := 1) (by omega) (by omega)).mp e
  obtain rfl : 30009 = σ := (lN_eq63 (a := 30009) (by omega) hσ).mp es
  have h1 : gcB (grN 30009 1 0) s = true := by
    rw [show grN 30009 1 0 = 30009 by decide, gcB_3 (by omega)]
    decide
  have h2 : rsF 30009 1 1 0 s = -1 := rs_y h1
  rw [h2]
  exact hQ M' (hO.scr hF)
theorem l_set2 (hx : IsDF κ.2.1 o) (hI : Inv B nf nt nc nd s) (hO : OB B M o s cnt blk) {st lv dy hr : Int32} {f t : Nat} (hf : f < nf) (ht : t < nt) (h1 : bd 0 3 st) (h2 : bd 1 5 lv) (h3 : bd 0 5 dy) (h4 : bd 0 5 hr) (hn : nc < 10)
    (hY : whyI s nc st lv f t dy hr = 0 → ∀ M', OB B M' o (clS s nc st lv (nI f) (nI t) dy hr) (remC cnt) (remB cnt s blk) → Q (.inl (some (.int (whyI s nc st lv f t dy hr)))) κ M')
    (hN : ¬ whyI s nc st lv f t dy hr = 0 → ∀ M', OB B M' o (upd s 9 (s 9 + 1)) (remC cnt) (remB cnt s blk) → Q (.inl (some (.int (whyI s nc st lv f t dy hr)))) κ M') : Ct X m_X7_set [.ref o, .int st, .int lv, .int (nI f), .int (nI t), .int dy, .int hr] κ M Q := by
  have bf := hI.lf
  have bt := hI.lt
  refine l_set hx hI hO hf ht h1 h2 h3 h4 hn (fun M' hO' => ?_)
  unfold tcT wCl at hO'
  rw [hI.n2, tn_nI (by omega), tn_nI (by omega)] at hO'
  by_cases hw : whyI s nc st lv f t dy hr = 0
  · rw [if_pos hw] at hO'; exact hY hw M' hO'
  · rw [if_neg hw] at hO'; exact hN hw M' hO'
theorem l_enter2 (hx : IsDF κ.2.1 o) (hI : Inv B nf nt nc nd s) (hO : OB B M o s cnt blk) {d k : Nat} (hd : d < nd) (hk : k < nc)
    (hY : wSe s (nI d) (nI k) = 0 → ∀ M', OB B M' o (enS s (nI d) k) (remC cnt) (remB cnt s blk) → Q (.inl (some (.int (wSe s (nI d) (nI k))))) κ M')
    (hN : ¬ wSe s (nI d) (nI k) = 0 → ∀ M', OB B M' o (upd s 9 (s 9 + 1)) (remC cnt) (remB cnt s blk) → Q (.inl (some (.int (wSe s (nI d) (nI k))))) κ M') : Ct X m_X7_enter [.ref o, .int (nI d), .int (nI k)] κ M Q := by
  have bc := hI.lc
  refine l_enter hx hI hO hd hk (fun M' hO' => ?_)
  unfold tsT at hO'
  rw [tn_nI (by omega)] at hO'
  by_cases hw : wSe s (nI d) (nI k) = 0
  · rw [if_pos hw] at hO'; exact hY hw M' hO'
  · rw [if_neg hw] at hO'; exact hN hw M' hO'
theorem inv_en2 (hI : Inv B nf nt nc nd s) {d k : Nat} (hd : d < nd) (hk : k < nc) (hw : wSe s (nI d) (nI k) = 0) : Inv B nf nt nc nd (enS s (nI d) k) := by
  have bn := hI.ld
  have bc := hI.lc
  unfold wSe at hw
  rw [tn_nI (by omega), tn_nI (by omega)] at hw
  exact inv_en hI hd hk (whyS_bit hw)
end AHC
