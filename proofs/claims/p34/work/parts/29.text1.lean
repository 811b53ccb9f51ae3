set_option maxRecDepth 100000 in
set_option maxHeartbeats 4000000 in
theorem ct_X7_isWithin {X : Xs} {κ : Kp} {M : Mem} {Q : Rs → Kp → Mem → Prop} {v lo hi : Int32} (hQ : Q (.inl (some (.int (bI (inB v lo hi))))) κ M) : Ct X m_X7_isWithin [.int v, .int lo, .int hi] κ M Q := by
  refine ct_of B_X7_isWithin_0 pn_X7 rfl (nle rfl) L_X7_isWithin_0 ?_
  refine g_iload_n rfl ?_
  refine g_iload_n rfl ?_
  refine g_icmp_lt rfl L_X7_isWithin_14 (fun h_1 => ?_) (fun h_1 => ?_)
  · refine g_iconst (v := 0) ik_0 ?_
    refine g_fall rfl L_X7_isWithin_15 ?_
    refine g_zret rfl rfl (nle rfl) (nle rfl) ?_
    exact qeq hQ (by clear hQ; simp_all [bI, inB, i32le, -Int32.not_lt]) rfl
  · refine g_iload_n rfl ?_
    refine g_iload_n rfl ?_
    refine g_icmp_gt rfl L_X7_isWithin_14 (fun h_2 => ?_) (fun h_2 => ?_)
    · refine g_iconst (v := 0) ik_0 ?_
      refine g_fall rfl L_X7_isWithin_15 ?_
      refine g_zret rfl rfl (nle rfl) (nle rfl) ?_
      exact qeq hQ (by clear hQ; simp_all [bI, inB, i32le, -Int32.not_lt]) rfl
    · refine g_iconst (v := 1) ik_1 ?_
      refine g_goto rfl L_X7_isWithin_15 ?_
      refine g_zret rfl rfl (nle rfl) (nle rfl) ?_
      exact qeq hQ (by clear hQ; simp_all [bI, inB, i32le, -Int32.not_lt]) rfl
set_option maxRecDepth 100000 in
set_option maxHeartbeats 4000000 in
theorem ct_X6_hasMore {X : Xs} {κ : Kp} {M : Mem} {Q : Rs → Kp → Mem → Prop} {x : Nat} (hx : IsTxt κ.2.1 x) {len p : Nat} {t : Nat → Int32} (h2 : M x 2 = nI len) (h3 : M x 3 = nI p) (ht : M (x + 1) = t) (hT : TxOK t len) (hp : p < 1000) (hQ : Q (.inl (some (.int (bI (decide (p < len)))))) κ M) : Ct X m_X6_hasMore [.ref x] κ M Q := by
  refine ct_of B_X6_hasMore_0 pn_X6 rfl (nle rfl) L_X6_hasMore_0 ?_
  have hl := hT.1
  refine g_aload_n rfl ?_
  refine g_getI fl_X6_27 rfl hx.1 rfl ?_
  simp (disch := omega) only [upM_s, upM_o, upM_j, nI_1, h3]
  refine g_aload_n rfl ?_
  refine g_getI fl_X6_19 rfl hx.1 rfl ?_
  simp (disch := omega) only [upM_s, upM_o, upM_j, nI_1, h2]
  refine g_icmp_ge rfl L_X6_hasMore_24 (fun h_1 => ?_) (fun h_1 => ?_)
  · have hge : ¬ p < len := fun q => absurd ((nI_ltI (a := p) (b := len) (by omega) (by omega)).mpr q) (Int32.not_lt.mpr h_1)
    refine g_iconst (v := 0) ik_0 ?_
    refine g_fall rfl L_X6_hasMore_25 ?_
    refine g_zret rfl rfl (nle rfl) (nle rfl) ?_
    first | exact qeq hQ (by rw [decide_eq_true hlt]; rfl) rfl | exact qeq hQ (by rw [decide_eq_false hge]; rfl) rfl
  · have hlt : p < len := (nI_ltI (a := p) (b := len) (by omega) (by omega)).mp (Int32.not_le.mp h_1)
    refine g_aload_n rfl ?_
    refine g_getI fl_X6_27 rfl hx.1 rfl ?_
    simp (disch := omega) only [upM_s, upM_o, upM_j, nI_1, h3]
    refine g_bipush (v := 120) bk_120 ?_
    refine g_icmp_ge rfl L_X6_hasMore_24 (fun h_2 => absurd ((nI_leI (a := 120) (b := p) (by omega) (by omega)).mp h_2) (by omega)) (fun h_2 => ?_)
    refine g_iconst (v := 1) ik_1 ?_
    refine g_goto rfl L_X6_hasMore_25 ?_
    refine g_zret rfl rfl (nle rfl) (nle rfl) ?_
    first | exact qeq hQ (by rw [decide_eq_true hlt]; rfl) rfl | exact qeq hQ (by rw [decide_eq_false hge]; rfl) rfl
def FrX (M M' : Mem) (x : Nat) : Prop := (∀ r, r ≠ x → r ≠ x + 2 → M' r = M r) ∧ (∀ j, j ≠ 3 → j ≠ 4 → M' x j = M x j)
theorem FrX.rf (M : Mem) (x : Nat) : FrX M M x := ⟨fun _ _ _ => rfl, fun _ _ _ => rfl⟩
theorem FrX.tr {M M' M'' : Mem} {x : Nat} (h : FrX M M' x) (h2 : FrX M' M'' x) : FrX M M'' x := ⟨fun r a b => (h2.1 r a b).trans (h.1 r a b), fun j a b => (h2.2 j a b).trans (h.2 j a b)⟩
theorem dv_ne {t : Nat → Int32} {len p : Nat} (hT : TxOK t len) (hp : p < len) : ¬ dv t p = -1 := by
  intro h
  have h1 : (dv t p).toInt = (-1 : Int32).toInt := by rw [h]
  unfold dv at h1
  rw [nI_toInt (by have := (hT.at hp).2; omega)] at h1
  have h2 : (-1 : Int32).toInt = -1 := by decide
  omega
theorem c48 {n : Nat} (h : n < 2 ^ 31) (h2 : nI n = -1) : False := by
  have h1 : (nI n).toInt = (-1 : Int32).toInt := by rw [h2]
  rw [nI_toInt h] at h1
  have h3 : (-1 : Int32).toInt = -1 := by decide
  omega
set_option maxRecDepth 100000 in
set_option maxHeartbeats 4000000 in
theorem ct_X6_digitWithin {X : Xs} {κ : Kp} {M : Mem} {Q : Rs → Kp → Mem → Prop} {x : Nat} (hx : IsTxt κ.2.1 x) {len p : Nat} {t : Nat → Int32} (h2 : M x 2 = nI len) (h3 : M x 3 = nI p) (ht : M (x + 1) = t) (hT : TxOK t len) (hp : p < 1000) {loI hiI : Int32} (lo hi : Nat) (eLo : loI = nI lo) (eHi : hiI = nI hi) (hlo : lo < 1000) (hhi : hi < 1000) (hY : d1B t len lo hi p = true → Q (.inl (some (.int (dv t p)))) κ (upM M x 3 (nI (p + 1)))) (hN : d1B t len lo hi p = false → Q (.inl (some (.int (-1)))) κ M) : Ct X m_X6_digitWithin [.ref x, .int loI, .int hiI] κ M Q := by
  refine ct_of B_X6_digitWithin_0 pn_X6 rfl (nle rfl) L_X6_digitWithin_0 ?_
  subst eLo
  subst eHi
  refine g_aload_n rfl ?_
  refine g_callV (as := []) mk_X6_hasMore ml_X6_30 im_X6_hasMore se_X6_hasMore rfl rfl ⟨⟨nle rfl, nle rfl⟩, nle rfl, nle rfl⟩ hx.1 rfl rfl rfl (nle rfl) ?_
  refine ct_X6_hasMore hx h2 h3 ht hT hp ?_
  refine kq_s ?_
  refine g_if_eq_b rfl L_X6_digitWithin_27 (fun h_1 => ?_) (fun h_1 => ?_)
  · have hge : ¬ p < len := of_decide_eq_false h_1
    refine g_iconst (v := -1) ik_m1 ?_
    refine g_iret rfl (nle rfl) (nle rfl) ?_
    exact hN (by unfold d1B; rw [decide_eq_false hge]; rfl)
  · have hlt : p < len := of_decide_eq_true h_1
    have hl := hT.1
    refine g_aload_n rfl ?_
    refine g_getR (w := (x + 1)) fl_X6_9 rfl hx.1 rfl ?_
    refine g_aload_n rfl ?_
    refine g_getI fl_X6_27 rfl hx.1 rfl ?_
    simp (disch := omega) only [upM_s, upM_o, upM_j, nI_1, h3]
    refine g_caload (j := p) hx.2.1 rfl (by omega) (nle rfl) ?_
    rw [ht]
    refine g_bipush (v := 48) bk_48 ?_
    refine g_isub ?_
    refine g_iload_n rfl ?_
    refine g_iload_n rfl ?_
    refine g_callSN (as := [_, _, _]) (host := RX7) mk_X7_isWithin (by decide +kernel) sm_X7_isWithin rfl rfl ⟨⟨nle rfl, nle rfl⟩, nle rfl, nle rfl⟩ rfl rfl (nle rfl) ?_
    refine ct_X7_isWithin ?_
    refine kq_s ?_
    refine g_if_ne_b rfl L_X6_digitWithin_29 (fun h_2 => ?_) (fun h_2 => ?_)
    · have hd := (d1_iff hT hlt hlo hhi).trans h_2
      refine g_aload_n rfl ?_
      refine g_dup rfl ?_
      refine g_getI fl_X6_27 rfl hx.1 rfl ?_
      simp (disch := omega) only [upM_s, upM_o, upM_j, nI_1, h3]
      refine g_iconst (v := 1) ik_1 ?_
      refine g_iadd ?_
      refine g_putI pl_X6_27 rfl hx.1 rfl rfl rfl ?_
      refine g_aload_n rfl ?_
      refine g_getR (w := (x + 1)) fl_X6_9 rfl hx.1 rfl ?_
      refine g_aload_n rfl ?_
      refine g_getI fl_X6_27 rfl hx.1 rfl ?_
      simp (disch := omega) only [upM_s, upM_o, upM_j, nI_1, h3]
      refine g_iconst (v := 1) ik_1 ?_
      refine g_isub ?_
      rw [nI_pred]
      refine g_caload (j := p) hx.2.1 rfl (by omega) (nle rfl) ?_
      simp (disch := omega) only [upM_o]
      rw [ht]
      refine g_bipush (v := 48) bk_48 ?_
      refine g_isub ?_
      refine g_iret rfl (nle rfl) (nle rfl) ?_
      obtain ⟨-, h48, -⟩ := d1_lt hd
      exact qeq (hY hd) (dv_eq hT hlt (by omega)) rfl
    · have hd := (d1_iff hT hlt hlo hhi).trans h_2
      refine g_fall rfl L_X6_digitWithin_27 ?_
      refine g_iconst (v := -1) ik_m1 ?_
      refine g_iret rfl (nle rfl) (nle rfl) ?_
      exact hN hd
set_option maxRecDepth 100000 in
set_option maxHeartbeats 4000000 in
theorem ct_X6_keepNumber {X : Xs} {κ : Kp} {M : Mem} {Q : Rs → Kp → Mem → Prop} {x : Nat} (hx : IsTxt κ.2.1 x) {v : Int32} {n : Nat} (h4 : M x 4 = nI n) (hn : n < 6) (hQ : Q (.inl (some (.int (1)))) κ (upM (upM M (x + 2) n v) x 4 (nI (n + 1)))) : Ct X m_X6_keepNumber [.ref x, .int v] κ M Q := by
  refine ct_of B_X6_keepNumber_0 pn_X6 rfl (nle rfl) L_X6_keepNumber_0 ?_
  refine g_aload_n rfl ?_
  refine g_getI fl_X6_40 rfl hx.1 rfl ?_
  simp (disch := omega) only [upM_s, upM_o, upM_j, nI_1, h4]
  refine g_bipush (v := 6) bk_6 ?_
  refine g_icmp_lt rfl L_X6_keepNumber_11 (fun h_1 => ?_) (fun h_1 => absurd ((nI_ltI (a := n) (b := 6) (by omega) (by omega)).mpr hn) h_1)
  refine g_aload_n rfl ?_
  refine g_getR (w := (x + 2)) fl_X6_15 rfl hx.1 rfl ?_
  refine g_aload_n rfl ?_
  refine g_getI fl_X6_40 rfl hx.1 rfl ?_
  simp (disch := omega) only [upM_s, upM_o, upM_j, nI_1, h4]
  refine g_iload_n rfl ?_
  refine g_iastore (j := n) hx.2.2 rfl (by omega) (nle rfl) ?_
  refine g_aload_n rfl ?_
  refine g_dup rfl ?_
  refine g_getI fl_X6_40 rfl hx.1 rfl ?_
  simp (disch := omega) only [upM_s, upM_o, upM_j, nI_1, h4]
  refine g_iconst (v := 1) ik_1 ?_
  refine g_iadd ?_
  refine g_putI pl_X6_40 rfl hx.1 rfl rfl rfl ?_
  refine g_iconst (v := 1) ik_1 ?_
  refine g_zret rfl rfl (nle rfl) (nle rfl) ?_
  exact qeq hQ rfl (by rw [nI_1])
set_option maxRecDepth 100000 in
set_option maxHeartbeats 4000000 in
theorem ct_X6_readDigit {X : Xs} {κ : Kp} {M : Mem} {Q : Rs → Kp → Mem → Prop} {x : Nat} (hx : IsTxt κ.2.1 x) {len p : Nat} {t : Nat → Int32} (h2 : M x 2 = nI len) (h3 : M x 3 = nI p) (ht : M (x + 1) = t) (hT : TxOK t len) (hp : p < 1000) {n : Nat} (h4 : M x 4 = nI n) {loI hiI : Int32} (lo hi : Nat) (eLo : loI = nI lo) (eHi : hiI = nI hi) (hlo : lo < 100) (hhi : hi < 100) (hn : n < 6) (hY : ∀ M', (∀ qs r, rdL t len qs (p + 1) = r → rdL t len ((false, lo, hi) :: qs) p = r) → M' x 3 = nI (p + 1) → M' x 4 = nI (n + 1) → (∀ i, i < 1 → M' (x + 2) (n + i) = valL t [(false, lo, hi)] p i) → (∀ i, i < n → M' (x + 2) i = M (x + 2) i) → FrX M M' x → Q (.inl (some (.int 1))) κ M') (hN : ∀ M' e, (∀ qs, rdL t len ((false, lo, hi) :: qs) p = (false, e)) → e < p + 1 → M' x 3 = nI e → FrX M M' x → Q (.inl (some (.int 0))) κ M') : Ct X m_X6_readDigit [.ref x, .int loI, .int hiI] κ M Q := by
  refine ct_of B_X6_readDigit_0 pn_X6 rfl (nle rfl) L_X6_readDigit_0 ?_
  subst eLo
  subst eHi
  refine g_aload_n rfl ?_
  refine g_iload_n rfl ?_
  refine g_iload_n rfl ?_
  refine g_callV (as := [_, _]) mk_X6_digitWithin ml_X6_62 im_X6_digitWithin se_X6_digitWithin rfl rfl ⟨⟨nle rfl, nle rfl⟩, nle rfl, nle rfl⟩ hx.1 rfl rfl rfl (nle rfl) ?_
  refine ct_X6_digitWithin hx h2 h3 ht hT hp lo hi rfl rfl (by omega) (by omega) (fun hd => ?_) (fun hd => ?_)
  · obtain ⟨hlt, hc1, hc2⟩ := d1_lt hd
    refine kq_s ?_
    refine g_istore_n (nle rfl) ?_
    refine g_iload_n rfl ?_
    refine g_iconst (v := -1) ik_m1 ?_
    refine g_icmp_eq rfl L_X6_readDigit_24 (fun h_1 => absurd h_1 (dv_ne hT hlt)) (fun h_1 => ?_)
    refine g_aload_n rfl ?_
    refine g_iload_n rfl ?_
    refine g_callV (as := [_]) mk_X6_keepNumber ml_X6_66 im_X6_keepNumber se_X6_keepNumber rfl rfl ⟨⟨nle rfl, nle rfl⟩, nle rfl, nle rfl⟩ hx.1 rfl rfl rfl (nle rfl) ?_
    refine ct_X6_keepNumber hx (n := n) (by simp (disch := omega) only [upM_j]; exact h4) (by omega) ?_
    refine kq_s ?_
    refine g_if_eq rfl L_X6_readDigit_24 (fun h_2 => absurd h_2 (by decide)) (fun h_2 => ?_)
    refine g_iconst (v := 1) ik_1 ?_
    refine g_goto rfl L_X6_readDigit_25 ?_
    refine g_zret rfl rfl (nle rfl) (nle rfl) ?_
    refine hY _ (fun qs r h => rd1y hd h) ?_ ?_ ?_ ?_ ?_
    · simp (disch := omega) only [upM_s, upM_o, upM_j]
    · simp (disch := omega) only [upM_s, upM_o, upM_j]
    · intro i hi
      have hi0 : i = 0 := by omega
      subst hi0
      simp (disch := omega) only [upM_s, upM_o, upM_j, Nat.add_zero]
      rfl
    · intro i hi
      simp (disch := omega) only [upM_s, upM_o, upM_j]
    · exact ⟨fun r a b => by funext j; simp (disch := omega) only [upM_o], fun j a b => by simp (disch := omega) only [upM_o, upM_j]⟩
  · refine kq_s ?_
    refine g_istore_n (nle rfl) ?_
    refine g_iload_n rfl ?_
    refine g_iconst (v := -1) ik_m1 ?_
    refine g_icmp_eq rfl L_X6_readDigit_24 (fun h_3 => ?_) (fun h_3 => absurd h_3 (by decide))
    refine g_iconst (v := 0) ik_0 ?_
    refine g_fall rfl L_X6_readDigit_25 ?_
    refine g_zret rfl rfl (nle rfl) (nle rfl) ?_
    exact hN M p (fun qs => rd1n hd) (by omega) h3 (FrX.rf M x)
theorem nI_sub {a b : Nat} (h : b ≤ a) : nI a - nI b = nI (a - b) := by
  obtain ⟨z, rfl⟩ : ∃ z, a = z + b := ⟨a - b, by omega⟩
  rw [Nat.add_sub_cancel, ← nI_add]
  grind
theorem max_lo {t : Nat → Int32} {len p lo hi : Nat} (hT : TxOK t len) (hlh : lo ≤ hi) (hh : hi < 100) (hd : d1B t len (lo / 10) (hi / 10) p = true) : (if nI lo - 10 * dv t p < 0 then 0 else nI lo - 10 * dv t p) = nI (lo2 t lo p) := by
  obtain ⟨h1, h2, h3⟩ := d1_lt hd
  have h4 := (hT.at h1).2
  unfold lo2 dv
  generalize hz : ch t p - 48 = z
  have hz2 : lo / 10 ≤ z ∧ z ≤ hi / 10 := by omega
  have e10 : (10 : Int32) * nI z = nI (10 * z) := nI_mul 10 z
  rw [e10]
  by_cases e : z = lo / 10
  · rw [if_pos e, nI_sub (by omega), if_neg]
    · congr 1; omega
    · exact Int32.not_lt.mpr ((nI_leI (a := 0) (b := lo - 10 * z) (by omega) (by omega)).mpr (Nat.zero_le _))
  · rw [if_neg e]
    have hlt : nI lo - nI (10 * z) < 0 := by
      rw [Int32.lt_iff_toInt_lt, Int32.toInt_sub, nI_toInt (by omega), nI_toInt (by omega), Int.bmod_eq_of_le (by omega) (by omega)]
      have : (0 : Int32).toInt = 0 := by decide
      omega
    rw [if_pos hlt]; rfl
theorem min_hi {t : Nat → Int32} {len p lo hi : Nat} (hT : TxOK t len) (hh : hi < 100) (hd : d1B t len (lo / 10) (hi / 10) p = true) : (if 9 < nI hi - 10 * dv t p then 9 else nI hi - 10 * dv t p) = nI (hi2 t hi p) := by
  obtain ⟨h1, h2, h3⟩ := d1_lt hd
  have h4 := (hT.at h1).2
  unfold hi2 dv
  generalize hz : ch t p - 48 = z
  have hz2 : z ≤ hi / 10 := by omega
  have e10 : (10 : Int32) * nI z = nI (10 * z) := nI_mul 10 z
  rw [e10, nI_sub (by omega)]
  by_cases e : z = hi / 10
  · rw [if_pos e, if_neg]
    · congr 1; omega
    · intro q
      have := (nI_ltI (a := 9) (b := hi - 10 * z) (by omega) (by omega)).mp q
      omega
  · rw [if_neg e, if_pos]
    · rfl
    · exact (nI_ltI (a := 9) (b := hi - 10 * z) (by omega) (by omega)).mpr (by omega)
theorem lo2_lt {t : Nat → Int32} {lo p : Nat} : lo2 t lo p < 10 := by unfold lo2; split <;> omega
theorem hi2_lt {t : Nat → Int32} {hi p : Nat} : hi2 t hi p < 10 := by unfold hi2; split <;> omega
theorem dw_eq {t : Nat → Int32} {p : Nat} : 10 * dv t p + dv t (p + 1) = dw t p := by
  unfold dv dw
  have e10 : (10 : Int32) * nI (ch t p - 48) = nI (10 * (ch t p - 48)) := nI_mul 10 _
  rw [e10, nI_add]
theorem div10 {a : Nat} (h : a < 1000) : nI a / 10 = nI (a / 10) := pk_div (d := 10) (by omega) (by omega) (by omega)
set_option maxRecDepth 100000 in
set_option maxHeartbeats 4000000 in
theorem ct_X6_readTwoDigits {X : Xs} {κ : Kp} {M : Mem} {Q : Rs → Kp → Mem → Prop} {x : Nat} (hx : IsTxt κ.2.1 x) {len p : Nat} {t : Nat → Int32} (h2 : M x 2 = nI len) (h3 : M x 3 = nI p) (ht : M (x + 1) = t) (hT : TxOK t len) (hp : p < 1000) {n : Nat} (h4 : M x 4 = nI n) {loI hiI : Int32} (lo hi : Nat) (eLo : loI = nI lo) (eHi : hiI = nI hi) (hlh : lo ≤ hi) (hhi : hi < 100) (hn : n < 6) (hY : ∀ M', (∀ qs r, rdL t len qs (p + 2) = r → rdL t len ((true, lo, hi) :: qs) p = r) → M' x 3 = nI (p + 2) → M' x 4 = nI (n + 1) → (∀ i, i < 1 → M' (x + 2) (n + i) = valL t [(true, lo, hi)] p i) → (∀ i, i < n → M' (x + 2) i = M (x + 2) i) → FrX M M' x → Q (.inl (some (.int 1))) κ M') (hN : ∀ M' e, (∀ qs, rdL t len ((true, lo, hi) :: qs) p = (false, e)) → e < p + 2 → M' x 3 = nI e → FrX M M' x → Q (.inl (some (.int 0))) κ M') : Ct X m_X6_readTwoDigits [.ref x, .int loI, .int hiI] κ M Q := by
  refine ct_of B_X6_readTwoDigits_0 pn_X6 rfl (nle rfl) L_X6_readTwoDigits_0 ?_
  subst eLo
  subst eHi
  refine g_aload_n rfl ?_
  refine g_iload_n rfl ?_
  refine g_bipush (v := 10) bk_10 ?_
  refine g_idiv (by decide) ?_
  refine g_iload_n rfl ?_
  refine g_bipush (v := 10) bk_10 ?_
  refine g_idiv (by decide) ?_
  refine g_callV (as := [_, _]) mk_X6_digitWithin ml_X6_62 im_X6_digitWithin se_X6_digitWithin rfl rfl ⟨⟨nle rfl, nle rfl⟩, nle rfl, nle rfl⟩ hx.1 rfl rfl rfl (nle rfl) ?_
  rw [div10 (by omega), div10 (by omega)]
  refine ct_X6_digitWithin hx h2 h3 ht hT hp (lo / 10) (hi / 10) rfl rfl (by omega) (by omega) (fun hd => ?_) (fun hd => ?_)
  · obtain ⟨hlt, hc1, hc2⟩ := d1_lt hd
    refine kq_s ?_
    refine g_istore_n (nle rfl) ?_
    refine g_iload_n rfl ?_
    refine g_iconst (v := -1) ik_m1 ?_
    refine g_icmp_ne rfl L_X6_readTwoDigits_20 (fun h_1 => ?_) (fun h_1 => absurd h_1 (fun q => (dv_ne hT hlt) q))
    refine g_aload_n rfl ?_
    refine g_iload_n rfl ?_
    refine g_bipush (v := 10) bk_10 ?_
    refine g_iload_n rfl ?_
    refine g_imul ?_
    refine g_isub ?_
    refine g_iconst (v := 0) ik_0 ?_
    refine g_mmax ml_X6_70 rfl (nle rfl) (nle rfl) (nle rfl) (nle rfl) ?_
    refine g_iload_n rfl ?_
    refine g_bipush (v := 10) bk_10 ?_
    refine g_iload_n rfl ?_
    refine g_imul ?_
    refine g_isub ?_
    refine g_bipush (v := 9) bk_9 ?_
    refine g_mmin ml_X6_75 rfl (nle rfl) (nle rfl) (nle rfl) (nle rfl) ?_
    refine g_callV (as := [_, _]) mk_X6_digitWithin ml_X6_62 im_X6_digitWithin se_X6_digitWithin rfl rfl ⟨⟨nle rfl, nle rfl⟩, nle rfl, nle rfl⟩ hx.1 rfl rfl rfl (nle rfl) ?_
    have hF1 : FrX M (upM M x 3 (nI (p + 1))) x := ⟨fun r a b => by funext j; simp (disch := omega) only [upM_o], fun j a b => by simp (disch := omega) only [upM_o, upM_j]⟩
    rw [max_lo hT hlh hhi hd, min_hi hT hhi hd]
    have q1 := lo2_lt (t := t) (lo := lo) (p := p)
    have q2 := hi2_lt (t := t) (hi := hi) (p := p)
    have h3b : upM M x 3 (nI (p + 1)) x 3 = nI (p + 1) := upM_s _ _ _ _
    refine ct_X6_digitWithin hx ((hF1.2 2 (by omega) (by omega)).trans h2) h3b ((hF1.1 (x + 1) (by omega) (by omega)).trans ht) hT (by have := hT.1; omega) (lo2 t lo p) (hi2 t hi p) rfl rfl (by omega) (by omega) (fun hd2 => ?_) (fun hd2 => ?_)
    · obtain ⟨hlt2, hc3, hc4⟩ := d1_lt hd2
      refine kq_s ?_
      refine g_istore (nle rfl) ?_
      refine g_iload rfl ?_
      refine g_iconst (v := -1) ik_m1 ?_
      refine g_icmp_eq rfl L_X6_readTwoDigits_71 (fun h_2 => absurd h_2 (dv_ne hT hlt2)) (fun h_2 => ?_)
      refine g_aload_n rfl ?_
      refine g_bipush (v := 10) bk_10 ?_
      refine g_iload_n rfl ?_
      refine g_imul ?_
      refine g_iload rfl ?_
      refine g_iadd ?_
      refine g_callV (as := [_]) mk_X6_keepNumber ml_X6_66 im_X6_keepNumber se_X6_keepNumber rfl rfl ⟨⟨nle rfl, nle rfl⟩, nle rfl, nle rfl⟩ hx.1 rfl rfl rfl (nle rfl) ?_
      refine ct_X6_keepNumber hx (n := n) (by simp (disch := omega) only [upM_j]; exact h4) (by omega) ?_
      refine kq_s ?_
      refine g_if_eq rfl L_X6_readTwoDigits_71 (fun h_3 => absurd h_3 (by decide)) (fun h_3 => ?_)
      refine g_iconst (v := 1) ik_1 ?_
      refine g_goto rfl L_X6_readTwoDigits_72 ?_
      refine g_zret rfl rfl (nle rfl) (nle rfl) ?_
      refine hY _ (fun qs r h => rd2y hd hd2 h) ?_ ?_ ?_ ?_ ?_
      · simp (disch := omega) only [upM_s, upM_o, upM_j]
      · simp (disch := omega) only [upM_s, upM_o, upM_j]
      · intro i hi
        have hi0 : i = 0 := by omega
        subst hi0
        simp (disch := omega) only [upM_s, upM_o, upM_j, Nat.add_zero]
        exact dw_eq
      · intro i hi
        simp (disch := omega) only [upM_s, upM_o, upM_j]
      · exact ⟨fun r a b => by funext j; simp (disch := omega) only [upM_o], fun j a b => by simp (disch := omega) only [upM_o, upM_j]⟩
    · refine kq_s ?_
      refine g_istore (nle rfl) ?_
      refine g_iload rfl ?_
      refine g_iconst (v := -1) ik_m1 ?_
      refine g_icmp_eq rfl L_X6_readTwoDigits_71 (fun h_4 => ?_) (fun h_4 => absurd h_4 (by decide))
      refine g_iconst (v := 0) ik_0 ?_
      refine g_fall rfl L_X6_readTwoDigits_72 ?_
      refine g_zret rfl rfl (nle rfl) (nle rfl) ?_
      exact hN _ (p + 1) (fun qs => rd2m hd hd2) (by omega) h3b hF1
  · refine kq_s ?_
    refine g_istore_n (nle rfl) ?_
    refine g_iload_n rfl ?_
    refine g_iconst (v := -1) ik_m1 ?_
    refine g_icmp_ne rfl L_X6_readTwoDigits_20 (fun h_5 => absurd h_5 (by decide)) (fun h_5 => ?_)
    refine g_iconst (v := 0) ik_0 ?_
    refine g_zret rfl rfl (nle rfl) (nle rfl) ?_
    exact hN M p (fun qs => rd2n hd) (by omega) h3 (FrX.rf M x)
