def FrT (M M' : Mem) (m : Nat) : Prop := (∀ r, r ≠ m → r ≠ m + 4 → M' r = M r) ∧ (∀ j, j ≠ 6 → M' m j = M m j)
theorem FrT.rf (M : Mem) (m : Nat) : FrT M M m := ⟨fun _ _ _ => rfl, fun _ _ => rfl⟩
theorem FrT.tr {M M' M'' : Mem} {m : Nat} (h : FrT M M' m) (h2 : FrT M' M'' m) : FrT M M'' m := ⟨fun r a b => (h2.1 r a b).trans (h.1 r a b), fun j a => (h2.2 j a).trans (h.2 j a)⟩
def FrU (M M' : Mem) (m : Nat) : Prop := (∀ r, r ≠ m → r ≠ m + 4 → M' r = M r) ∧ (∀ j, j ≠ 6 → j ≠ 7 → M' m j = M m j)
theorem FrU.rf (M : Mem) (m : Nat) : FrU M M m := ⟨fun _ _ _ => rfl, fun _ _ _ => rfl⟩
theorem FrU.tr {M M' M'' : Mem} {m : Nat} (h : FrU M M' m) (h2 : FrU M' M'' m) : FrU M M'' m := ⟨fun r a b => (h2.1 r a b).trans (h.1 r a b), fun j a b => (h2.2 j a b).trans (h.2 j a b)⟩
theorem FrT.u {M M' : Mem} {m : Nat} (h : FrT M M' m) : FrU M M' m := ⟨h.1, fun j a _ => h.2 j a⟩
def sgI (t : Nat → Int32) (len p : Nat) : Int32 := if p < len then t p else -1
theorem sg_in {t : Nat → Int32} {len p : Nat} (h : p < len) : sgI t len p = t p := if_pos h
theorem fig_iff {t : Nat → Int32} {len p lo hi : Nat} (hT : TxOK t len) (hlo : lo < 1000) (hhi : hi < 1000) : inB (sgI t len p) (48 + nI lo) (48 + nI hi) = d1B t len lo hi p := by
  unfold sgI
  by_cases h : p < len
  · rw [if_pos h, d1_iff2 hT h hlo hhi]
  · rw [if_neg h]
    unfold d1B inB
    rw [decide_eq_false h, Bool.false_and]
    have e1 : (48 : Int32) + nI lo = nI (48 + lo) := nI_add 48 lo
    rw [e1, decide_eq_false, Bool.false_and]
    intro q
    have q2 := Int32.le_iff_toInt_le.mp q
    rw [nI_toInt (by omega)] at q2
    have h3 : (-1 : Int32).toInt = -1 := by decide
    omega
theorem upM_self {M : Mem} {r k : Nat} : upM M r k (M r k) = M := by
  funext r' j
  unfold upM
  split
  · next h => rw [h.1, h.2]
  · rfl
theorem add_z (x : Int32) : x + 0 = x := by grind
theorem upd_upd {f : Nat → Int32} {k : Nat} {x y : Int32} : upd (upd f k x) k y = upd f k y := by
  funext j
  by_cases h : j = k
  · subst h; rw [upd_same, upd_same]
  · rw [upd_ne h, upd_ne h, upd_ne h]
theorem lo_e {t : Nat → Int32} {len p lo : Nat} (hl : lo < 100) (hb : ch t p < 256) (h : dv t p = nI lo / 10) : nI lo - nI lo / 10 * 10 = nI (lo2 t lo p) := by
  have e := pk_rem (a := lo) (d := 10) (by omega) (by omega) (by omega)
  refine (show nI lo - nI lo / 10 * 10 = nI (lo % 10) from e).trans ?_
  rw [div10 (by omega)] at h
  unfold dv at h
  have h2 := (nI_eq (a := ch t p - 48) (b := lo / 10) (by omega) (by omega)).mp h
  unfold lo2
  rw [if_pos h2]
theorem lo_n {t : Nat → Int32} {len p lo : Nat} (hl : lo < 100) (hb : ch t p < 256) (h : ¬ dv t p = nI lo / 10) : (0 : Int32) = nI (lo2 t lo p) := by
  rw [div10 (by omega)] at h
  unfold lo2
  rw [if_neg]
  · rfl
  · intro q
    exact h (by unfold dv; rw [q])
theorem hi_e {t : Nat → Int32} {len p hi : Nat} (hl : hi < 100) (hb : ch t p < 256) (h : dv t p = nI hi / 10) : nI hi - nI hi / 10 * 10 = nI (hi2 t hi p) := by
  have e := pk_rem (a := hi) (d := 10) (by omega) (by omega) (by omega)
  refine (show nI hi - nI hi / 10 * 10 = nI (hi % 10) from e).trans ?_
  rw [div10 (by omega)] at h
  unfold dv at h
  have h2 := (nI_eq (a := ch t p - 48) (b := hi / 10) (by omega) (by omega)).mp h
  unfold hi2
  rw [if_pos h2]
theorem hi_n {t : Nat → Int32} {len p hi : Nat} (hl : hi < 100) (hb : ch t p < 256) (h : ¬ dv t p = nI hi / 10) : (9 : Int32) = nI (hi2 t hi p) := by
  rw [div10 (by omega)] at h
  unfold hi2
  rw [if_neg]
  · rfl
  · intro q
    exact h (by unfold dv; rw [q])
set_option maxRecDepth 100000 in
set_option maxHeartbeats 4000000 in
theorem ct_X8_sign {X : Xs} {κ : Kp} {M : Mem} {Q : Rs → Kp → Mem → Prop} {m : Nat} (hm : IsMod κ.2.1 m) {len p : Nat} {t : Nat → Int32} (h5 : M m 5 = nI len) (h6 : M m 6 = nI p) (ht : M (m + 3) = t) (hT : TxOK t len) (hp : p < 900) (hQ : Q (.inl (some (.int (sgI t len p)))) κ M) : Ct X m_X8_sign [.ref m] κ M Q := by
  refine ct_of B_X8_sign_0 pn_X8 rfl (nle rfl) L_X8_sign_0 ?_
  have hl := hT.1
  refine g_aload_n rfl ?_
  refine g_getI fl_X8_93 rfl hm.1 rfl ?_
  simp (disch := omega) only [upM_s, upM_o, upM_j, h6]
  refine g_aload_n rfl ?_
  refine g_getI fl_X8_86 rfl hm.1 rfl ?_
  simp (disch := omega) only [upM_s, upM_o, upM_j, h5]
  refine g_icmp_ge rfl L_X8_sign_23 (fun h_1 => ?_) (fun h_1 => ?_)
  · have hge : ¬ p < len := fun q => absurd ((nI_ltI (a := p) (b := len) (by omega) (by omega)).mpr q) (Int32.not_lt.mpr h_1)
    refine g_iconst (v := -1) ik_m1 ?_
    refine g_fall rfl L_X8_sign_24 ?_
    refine g_iret rfl (nle rfl) (nle rfl) ?_
    first | exact qeq hQ (by unfold sgI; rw [if_pos hlt]) rfl | exact qeq hQ (by unfold sgI; rw [if_neg hge]) rfl
  · have hlt : p < len := (nI_ltI (a := p) (b := len) (by omega) (by omega)).mp (Int32.not_le.mp h_1)
    refine g_aload_n rfl ?_
    refine g_getR (w := (m + 3)) fl_X8_16 rfl hm.1 rfl ?_
    refine g_aload_n rfl ?_
    refine g_getI fl_X8_93 rfl hm.1 rfl ?_
    simp (disch := omega) only [upM_s, upM_o, upM_j, h6]
    refine g_iaload (j := p) hm.2.2.2.1 rfl (by omega) (nle rfl) ?_
    rw [ht]
    refine g_goto rfl L_X8_sign_24 ?_
    refine g_iret rfl (nle rfl) (nle rfl) ?_
    first | exact qeq hQ (by unfold sgI; rw [if_pos hlt]) rfl | exact qeq hQ (by unfold sgI; rw [if_neg hge]) rfl
set_option maxRecDepth 100000 in
set_option maxHeartbeats 4000000 in
theorem ct_X8_takesSign {X : Xs} {κ : Kp} {M : Mem} {Q : Rs → Kp → Mem → Prop} {m : Nat} (hm : IsMod κ.2.1 m) {len p : Nat} {t : Nat → Int32} (h5 : M m 5 = nI len) (h6 : M m 6 = nI p) (ht : M (m + 3) = t) (hT : TxOK t len) (hp : p < 900) {c : Int32} (hY : sgI t len p = c → ∀ M', M' m 6 = nI (p + 1) → (∀ r, r ≠ m → M' r = M r) → (∀ j, j ≠ 6 → M' m j = M m j) → Q (.inl (some (.int 1))) κ M') (hN : ¬ sgI t len p = c → Q (.inl (some (.int 0))) κ M) : Ct X m_X8_takesSign [.ref m, .int c] κ M Q := by
  refine ct_of B_X8_takesSign_0 pn_X8 rfl (nle rfl) L_X8_takesSign_0 ?_
  refine g_aload_n rfl ?_
  refine g_callV (as := []) mk_X8_sign ml_X8_96 im_X8_sign se_X8_sign rfl rfl ⟨⟨nle rfl, nle rfl⟩, nle rfl, nle rfl⟩ hm.1 rfl rfl rfl (nle rfl) ?_
  refine ct_X8_sign hm h5 h6 ht hT hp ?_
  refine kq_s ?_
  refine g_iload_n rfl ?_
  refine g_icmp_ne rfl L_X8_takesSign_12 (fun h_1 => ?_) (fun h_1 => ?_)
  · refine g_iconst (v := 0) ik_0 ?_
    refine g_fall rfl L_X8_takesSign_13 ?_
    refine g_istore_n (nle rfl) ?_
    refine g_aload_n rfl ?_
    refine g_dup rfl ?_
    refine g_getI fl_X8_93 rfl hm.1 rfl ?_
    rw [h6]
    refine g_iload_n rfl ?_
    refine g_if_eq rfl L_X8_takesSign_27 (fun h_2 => ?_) (fun h_2 => absurd h_2 (by decide))
    refine g_iconst (v := 0) ik_0 ?_
    refine g_fall rfl L_X8_takesSign_28 ?_
    refine g_iadd ?_
    refine g_putI pl_X8_93 rfl hm.1 rfl rfl rfl ?_
    refine g_iload_n rfl ?_
    refine g_zret rfl rfl (nle rfl) (nle rfl) ?_
    exact qeq (hN h_1) rfl (by rw [add_z, ← h6, upM_self])
  · refine g_iconst (v := 1) ik_1 ?_
    refine g_goto rfl L_X8_takesSign_13 ?_
    refine g_istore_n (nle rfl) ?_
    refine g_aload_n rfl ?_
    refine g_dup rfl ?_
    refine g_getI fl_X8_93 rfl hm.1 rfl ?_
    rw [h6]
    refine g_iload_n rfl ?_
    refine g_if_eq rfl L_X8_takesSign_27 (fun h_3 => absurd h_3 (by decide)) (fun h_3 => ?_)
    refine g_iconst (v := 1) ik_1 ?_
    refine g_goto rfl L_X8_takesSign_28 ?_
    refine g_iadd ?_
    refine g_putI pl_X8_93 rfl hm.1 rfl rfl rfl ?_
    refine g_iload_n rfl ?_
    refine g_zret rfl rfl (nle rfl) (nle rfl) ?_
    refine hY h_1 _ ?_ ?_ ?_
    · rw [upM_s, show (1 : Int32) = nI 1 from rfl, nI_add]
    · exact fun r a => by funext j; simp (disch := omega) only [upM_o]
    · exact fun j a => by simp (disch := omega) only [upM_j]
set_option maxRecDepth 100000 in
set_option maxHeartbeats 4000000 in
theorem ct_X8_figure {X : Xs} {κ : Kp} {M : Mem} {Q : Rs → Kp → Mem → Prop} {m : Nat} (hm : IsMod κ.2.1 m) {len p : Nat} {t : Nat → Int32} (h5 : M m 5 = nI len) (h6 : M m 6 = nI p) (ht : M (m + 3) = t) (hT : TxOK t len) (hp : p < 900) {pI loI hiI : Int32} (n lo hi : Nat) (eP : pI = nI n) (eLo : loI = nI lo) (eHi : hiI = nI hi) (hn : n < 6) (hlo : lo < 1000) (hhi : hi < 1000) (hY : d1B t len lo hi p = true → ∀ M', M' (m + 4) = upd (M (m + 4)) n (dv t p) → M' m 6 = nI (p + 1) → FrT M M' m → Q (.inl (some (.int 1))) κ M') (hN : d1B t len lo hi p = false → Q (.inl (some (.int 0))) κ M) : Ct X m_X8_figure [.ref m, .int pI, .int loI, .int hiI] κ M Q := by
  refine ct_of B_X8_figure_0 pn_X8 rfl (nle rfl) L_X8_figure_0 ?_
  subst eP
  subst eLo
  subst eHi
  refine g_aload_n rfl ?_
  refine g_callV (as := []) mk_X8_sign ml_X8_96 im_X8_sign se_X8_sign rfl rfl ⟨⟨nle rfl, nle rfl⟩, nle rfl, nle rfl⟩ hm.1 rfl rfl rfl (nle rfl) ?_
  refine ct_X8_sign hm h5 h6 ht hT hp ?_
  refine kq_s ?_
  refine g_bipush (v := 48) bk_48 ?_
  refine g_iload_n rfl ?_
  refine g_iadd ?_
  refine g_bipush (v := 48) bk_48 ?_
  refine g_iload_n rfl ?_
  refine g_iadd ?_
  refine g_callS (as := [_, _, _]) mk_X8_in ml_X8_29 sm_X8_in rfl rfl ⟨⟨nle rfl, nle rfl⟩, nle rfl, nle rfl⟩ rfl rfl (nle rfl) ?_
  refine ct_X8_in ?_
  refine kq_s ?_
  refine g_istore (nle rfl) ?_
  refine g_iload rfl ?_
  refine g_if_eq_b rfl L_X8_figure_45 (fun h_1 => ?_) (fun h_1 => ?_)
  · have hd := (fig_iff hT hlo hhi).symm.trans h_1
    refine g_iload rfl ?_
    refine g_zret rfl (nar_bI _) (nle rfl) (nle rfl) ?_
    exact qeq (hN hd) (by rw [(fig_iff hT hlo hhi).trans hd]; rfl) rfl
  · have hd := (fig_iff hT hlo hhi).symm.trans h_1
    obtain ⟨hlt, hc1, hc2⟩ := d1_lt hd
    refine g_aload_n rfl ?_
    refine g_getR (w := (m + 4)) fl_X8_19 rfl hm.1 rfl ?_
    refine g_iload_n rfl ?_
    refine g_aload_n rfl ?_
    refine g_callV (as := []) mk_X8_sign ml_X8_96 im_X8_sign se_X8_sign rfl rfl ⟨⟨nle rfl, nle rfl⟩, nle rfl, nle rfl⟩ hm.1 rfl rfl rfl (nle rfl) ?_
    refine ct_X8_sign hm h5 h6 ht hT hp ?_
    refine kq_s ?_
    refine g_bipush (v := 48) bk_48 ?_
    refine g_isub ?_
    refine g_iastore (j := n) hm.2.2.2.2 rfl (by omega) (nle rfl) ?_
    refine g_aload_n rfl ?_
    refine g_dup rfl ?_
    refine g_getI fl_X8_93 rfl hm.1 rfl ?_
    simp (disch := omega) only [upM_s, upM_o, upM_j, h6]
    refine g_iconst (v := 1) ik_1 ?_
    refine g_iadd ?_
    refine g_putI pl_X8_93 rfl hm.1 rfl rfl rfl ?_
    refine g_fall rfl L_X8_figure_45 ?_
    refine g_iload rfl ?_
    refine g_zret rfl (nar_bI _) (nle rfl) (nle rfl) ?_
    refine qeq (hY hd _ ?_ ?_ ?_) (by rw [(fig_iff hT hlo hhi).trans hd]; rfl) rfl
    · rw [sg_in hlt, dv_eq hT hlt (by omega)]
      funext j
      by_cases e : j = n
      · subst e; simp (disch := omega) only [upM_o, upM_s, upd_same]
      · simp (disch := omega) only [upM_o, upM_j, upd_ne]
    · simp (disch := omega) only [upM_s, nI_1]
    · exact ⟨fun r a b => by funext j; simp (disch := omega) only [upM_o], fun j a => by simp (disch := omega) only [upM_o, upM_j]⟩
set_option maxRecDepth 100000 in
set_option maxHeartbeats 4000000 in
theorem ct_X8_figures {X : Xs} {κ : Kp} {M : Mem} {Q : Rs → Kp → Mem → Prop} {m : Nat} (hm : IsMod κ.2.1 m) {len p : Nat} {t : Nat → Int32} (h5 : M m 5 = nI len) (h6 : M m 6 = nI p) (ht : M (m + 3) = t) (hT : TxOK t len) (hp : p < 899) {pI loI hiI : Int32} (n lo hi : Nat) (eP : pI = nI n) (eLo : loI = nI lo) (eHi : hiI = nI hi) (hn : n < 6) (hlh : lo ≤ hi) (hhi : hi < 100) (hY : ∀ M', (∀ qs r, rdL t len qs (p + 2) = r → rdL t len ((true, lo, hi) :: qs) p = r) → M' m 6 = nI (p + 2) → (∀ i, i < 1 → M' (m + 4) (n + i) = valL t [(true, lo, hi)] p i) → (∀ i, i < n → M' (m + 4) i = M (m + 4) i) → FrT M M' m → Q (.inl (some (.int 1))) κ M') (hN : ∀ M' e, (∀ qs, rdL t len ((true, lo, hi) :: qs) p = (false, e)) → e < p + 2 → M' m 6 = nI e → FrT M M' m → Q (.inl (some (.int 0))) κ M') : Ct X m_X8_figures [.ref m, .int pI, .int loI, .int hiI] κ M Q := by
  refine ct_of B_X8_figures_0 pn_X8 rfl (nle rfl) L_X8_figures_0 ?_
  subst eP
  subst eLo
  subst eHi
  refine g_aload_n rfl ?_
  refine g_iload_n rfl ?_
  refine g_iload_n rfl ?_
  refine g_bipush (v := 10) bk_10 ?_
  refine g_idiv (by decide) ?_
  refine g_iload_n rfl ?_
  refine g_bipush (v := 10) bk_10 ?_
  refine g_idiv (by decide) ?_
  refine g_callV (as := [_, _, _]) mk_X8_figure ml_X8_99 im_X8_figure se_X8_figure rfl rfl ⟨⟨nle rfl, nle rfl⟩, nle rfl, nle rfl⟩ hm.1 rfl rfl rfl (nle rfl) ?_
  rw [div10 (by omega), div10 (by omega)]
  refine ct_X8_figure hm h5 h6 ht hT (by omega) n (lo / 10) (hi / 10) rfl rfl rfl hn (by omega) (by omega) (fun hd M1 b4 b6 bF => ?_) (fun hd => ?_)
  · obtain ⟨hlt, hc1, hc2⟩ := d1_lt hd
    have hcb := (hT.at hlt).2
    have g5 := (bF.2 5 (by omega)).trans h5
    have gt := (bF.1 (m + 3) (by omega) (by omega)).trans ht
    refine kq_s ?_
    refine g_if_ne rfl L_X8_figures_18 (fun h_1 => ?_) (fun h_1 => absurd h_1 (by decide))
    refine g_aload_n rfl ?_
    refine g_getR (w := (m + 4)) fl_X8_19 rfl hm.1 rfl ?_
    refine g_iload_n rfl ?_
    refine g_iaload (j := n) hm.2.2.2.2 rfl (by omega) (nle rfl) ?_
    rw [b4, upd_same]
    refine g_istore (nle rfl) ?_
    refine g_aload_n rfl ?_
    refine g_iload_n rfl ?_
    refine g_join (isJ := B_X8_figures_45) (pcJ := 45) (nI (lo2 t lo p)) ?_ (fun hj_28 => ?_)
    · refine g_join (isJ := B_X8_figures_63) (pcJ := 63) (nI (hi2 t hi p)) ?_ (fun hj_45 => ?_)
      · refine g_callV (as := [_, _, _]) mk_X8_figure ml_X8_99 im_X8_figure se_X8_figure rfl rfl ⟨⟨nle rfl, nle rfl⟩, nle rfl, nle rfl⟩ hm.1 rfl rfl rfl (nle rfl) ?_
        have q1 := lo2_lt (t := t) (lo := lo) (p := p)
        have q2 := hi2_lt (t := t) (hi := hi) (p := p)
        refine ct_X8_figure hm g5 b6 gt hT (by omega) n (lo2 t lo p) (hi2 t hi p) rfl rfl rfl hn (by omega) (by omega) (fun hd2 M2 c4 c6 cF => ?_) (fun hd2 => ?_)
        · refine kq_s ?_
          refine g_istore (nle rfl) ?_
          refine g_aload_n rfl ?_
          refine g_getR (w := (m + 4)) fl_X8_19 rfl hm.1 rfl ?_
          refine g_iload_n rfl ?_
          refine g_dup2 rfl rfl ?_
          refine g_iaload (j := n) hm.2.2.2.2 rfl (by omega) (nle rfl) ?_
          refine g_bipush (v := 10) bk_10 ?_
          refine g_iload rfl ?_
          refine g_imul ?_
          refine g_iadd ?_
          refine g_iastore (j := n) hm.2.2.2.2 rfl (by omega) (nle rfl) ?_
          refine g_iload rfl ?_
          refine g_zret rfl rfl (nle rfl) (nle rfl) ?_
          refine hY _ (fun qs r h => rd2y hd hd2 h) ?_ ?_ ?_ ((bF.tr cF).tr ⟨fun r a b => by funext j; simp (disch := omega) only [upM_o], fun j a => by simp (disch := omega) only [upM_o]⟩)
          · simp (disch := omega) only [upM_o]
            exact c6
          · intro i hi'
            have hi0 : i = 0 := by omega
            subst hi0
            show upM M2 (m + 4) n (M2 (m + 4) n + 10 * dv t p) (m + 4) n = dw t p
            rw [upM_s, c4, upd_same, ← dw_eq, Int32.add_comm]
          · intro i hi'
            rw [upM_j _ _ _ _ (by omega), c4, upd_ne (by omega), b4, upd_ne (by omega)]
        · refine kq_s ?_
          refine g_istore (nle rfl) ?_
          refine g_aload_n rfl ?_
          refine g_getR (w := (m + 4)) fl_X8_19 rfl hm.1 rfl ?_
          refine g_iload_n rfl ?_
          refine g_dup2 rfl rfl ?_
          refine g_iaload (j := n) hm.2.2.2.2 rfl (by omega) (nle rfl) ?_
          refine g_bipush (v := 10) bk_10 ?_
          refine g_iload rfl ?_
          refine g_imul ?_
          refine g_iadd ?_
          refine g_iastore (j := n) hm.2.2.2.2 rfl (by omega) (nle rfl) ?_
          refine g_iload rfl ?_
          refine g_zret rfl rfl (nle rfl) (nle rfl) ?_
          refine hN _ (p + 1) (fun qs => rd2m hd hd2) (by omega) ?_ (bF.tr ⟨fun r a b => by funext j; simp (disch := omega) only [upM_o], fun j a => by simp (disch := omega) only [upM_o]⟩)
          simp (disch := omega) only [upM_o]
          exact b6
      · refine g_iload rfl ?_
        refine g_iload_n rfl ?_
        refine g_bipush (v := 10) bk_10 ?_
        refine g_idiv (by decide) ?_
        refine g_icmp_ne rfl L_X8_figures_61 (fun h_2 => ?_) (fun h_2 => ?_)
        · refine g_bipush (v := 9) bk_9 ?_
          refine g_fall rfl L_X8_figures_63 ?_
          exact hj_45 _ (by first | exact hi_e (len := len) (by omega) hcb (by assumption) | exact hi_n (len := len) (by omega) hcb (by assumption))
        · refine g_iload_n rfl ?_
          refine g_bipush (v := 10) bk_10 ?_
          refine g_irem (by decide) ?_
          refine g_goto rfl L_X8_figures_63 ?_
          exact hj_45 _ (by first | exact hi_e (len := len) (by omega) hcb (by assumption) | exact hi_n (len := len) (by omega) hcb (by assumption))
    · refine g_iload rfl ?_
      refine g_iload_n rfl ?_
      refine g_bipush (v := 10) bk_10 ?_
      refine g_idiv (by decide) ?_
      refine g_icmp_ne rfl L_X8_figures_44 (fun h_3 => ?_) (fun h_3 => ?_)
      · refine g_iconst (v := 0) ik_0 ?_
        refine g_fall rfl L_X8_figures_45 ?_
        exact hj_28 _ (by first | exact lo_e (len := len) (by omega) hcb (by assumption) | exact lo_n (len := len) (by omega) hcb (by assumption))
      · refine g_iload_n rfl ?_
        refine g_bipush (v := 10) bk_10 ?_
        refine g_irem (by decide) ?_
        refine g_goto rfl L_X8_figures_45 ?_
        exact hj_28 _ (by first | exact lo_e (len := len) (by omega) hcb (by assumption) | exact lo_n (len := len) (by omega) hcb (by assumption))
  · refine kq_s ?_
    refine g_if_ne rfl L_X8_figures_18 (fun h_4 => absurd h_4 (by decide)) (fun h_4 => ?_)
    refine g_iconst (v := 0) ik_0 ?_
    refine g_zret rfl rfl (nle rfl) (nle rfl) ?_
    exact hN M p (fun qs => rd2n hd) (by omega) h6 (FrT.rf M m)
