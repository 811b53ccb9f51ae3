set_option maxRecDepth 100000 in
set_option maxHeartbeats 4000000 in
theorem ct_X8_isStudio {X : Xs} {κ : Kp} {M : Mem} {Q : Rs → Kp → Mem → Prop} {m : Nat} (hm : IsMod κ.2.1 m) {len : Nat} {t : Nat → Int32} (h5 : M m 5 = nI len) (ht : M (m + 3) = t) (hT : TxOK t len) (hY : ∀ e, isSt t len = (true, e) → ∀ M', FrU M M' m → Q (.inl (some (.int 1))) κ M') (hN : ∀ e, isSt t len = (false, e) → ∀ M', M' m 6 = nI e → FrU M M' m → Q (.inl (some (.int 0))) κ M') : Ct X m_X8_isStudio [.ref m] κ M Q := by
  refine ct_of B_X8_isStudio_0 pn_X8 rfl (nle rfl) L_X8_isStudio_0 ?_
  refine g_aload_n rfl ?_
  refine g_iconst (v := 0) ik_0 ?_
  refine g_putI pl_X8_93 rfl hm.1 rfl rfl rfl ?_
  have f5 : (upM M m 6 0) m 5 = nI len := by simp (disch := omega) only [upM_j]; exact h5
  have f6 : (upM M m 6 0) m 6 = nI 0 := by simp (disch := omega) only [upM_s]; rfl
  have fC : FrU M (upM M m 6 0) m := ⟨fun r a b => by funext j; simp (disch := omega) only [upM_o], fun j a b => by simp (disch := omega) only [upM_j]⟩
  generalize (upM M m 6 0) = M1 at f5 f6 fC ⊢
  have ft : M1 (m + 3) = t := (fC.1 _ (by omega) (by omega)).trans ht
  have hl := hT.1
  refine g_aload_n rfl ?_
  refine g_bipush (v := 83) bk_83 ?_
  refine g_callV (as := [_]) mk_X8_takesSign ml_X8_105 im_X8_takesSign se_X8_takesSign rfl rfl ⟨⟨nle rfl, nle rfl⟩, nle rfl, nle rfl⟩ hm.1 rfl rfl rfl (nle rfl) ?_
  refine ct_X8_takesSign hm f5 f6 ft hT (by omega) (fun hs M2 b6 bf bj => ?_) (fun hs => ?_)
  · have hy : 0 < len ∧ ch t 0 = 83 := by
      have hlt : 0 < len := by
        rcases Nat.eq_zero_or_pos len with q | q
        · exfalso
          unfold sgI at hs
          rw [if_neg (by omega)] at hs
          exact absurd hs (by decide)
        · exact q
      rw [sg_in hlt, (hT.at hlt).1] at hs
      exact ⟨hlt, (nI_eq (a := ch t 0) (b := 83) (by have := (hT.at hlt).2; omega) (by omega)).mp hs⟩
    have gC : FrU M M2 m := fC.tr ⟨fun r a b => bf r a, fun j a b => bj j a⟩
    refine kq_s ?_
    refine g_if_ne rfl L_X8_isStudio_16 (fun h_1 => ?_) (fun h_1 => absurd h_1 (by decide))
    refine g_lo2 (lo' := [(0, some (.ref m))]) ?_ ⟨rfl, trivial⟩
    refine loop_up (P := fun i => ∀ (M3 : Mem) (q : Nat), i + 1 ≤ q → q ≤ len → M3 m 6 = nI q → FrU M M3 m → isSt t len = prs t len (120 - i) q → G X m_X8_isStudio B_X8_isStudio_16 16 [(0, some (.ref m))] [] 0 0 κ M3 Q) 120 (fun i hle_i ih_i M3 q hq1 hq2 g6 FC hP => ?_) 0 (Nat.zero_le _) M2 1 (by omega) (by omega) b6 gC (isSt_y hy)
    refine g_aload_n rfl ?_
    refine g_getI fl_X8_93 rfl hm.1 rfl ?_
    rw [g6]
    refine g_aload_n rfl ?_
    refine g_getI fl_X8_86 rfl hm.1 rfl ?_
    rw [(FC.2 5 (by omega) (by omega)).trans h5]
    refine g_icmp_ge rfl L_X8_isStudio_36 (fun h_2 => ?_) (fun h_2 => ?_)
    · have hge : ¬ q < len := fun z => absurd ((nI_ltI (a := q) (b := len) (by omega) (by omega)).mpr z) (Int32.not_lt.mpr h_2)
      refine g_iconst (v := 1) ik_1 ?_
      refine g_zret rfl rfl (nle rfl) (nle rfl) ?_
      exact hY q (hP.trans (prs_end hge _)) M3 FC
    · have hlt : q < len := (nI_ltI (a := q) (b := len) (by omega) (by omega)).mp (Int32.not_le.mp h_2)
      refine g_aload_n rfl ?_
      refine g_callV (as := []) mk_X8_readsCommand ml_X8_115 im_X8_readsCommand se_X8_readsCommand rfl rfl ⟨⟨nle rfl, nle rfl⟩, nle rfl, nle rfl⟩ hm.1 rfl rfl rfl (nle rfl) ?_
      refine ct_X8_readsCommand hm ((FC.2 5 (by omega) (by omega)).trans h5) g6 ((FC.1 _ (by omega) (by omega)).trans ht) hT hlt (fun M4 e qs hrd hfl k6 k7 kv kC => ?_) (fun M4 e hrd k6 kC => ?_)
      · refine kq_s ?_
        refine g_if_ne rfl L_X8_isStudio_16 (fun h_3 => ?_) (fun h_3 => absurd h_3 (by decide))
        obtain ⟨r1, r2⟩ := rdC_pos hlt hrd
        exact g_lo2 (ih_i (by omega) M4 e (by omega) r2 k6 (FC.tr kC) (hP.trans (by rw [show 120 - i = (120 - (i + 1)) + 1 by omega]; exact prs_y hlt hrd))) ⟨rfl, trivial⟩
      · refine kq_s ?_
        refine g_if_ne rfl L_X8_isStudio_16 (fun h_4 => absurd h_4 (by decide)) (fun h_4 => ?_)
        refine g_iconst (v := 0) ik_0 ?_
        refine g_zret rfl rfl (nle rfl) (nle rfl) ?_
        exact hN e (hP.trans (by rw [show 120 - i = (120 - (i + 1)) + 1 by omega]; exact prs_n hlt hrd)) M4 k6 (FC.tr kC)
  · have hno : ¬ (0 < len ∧ ch t 0 = 83) := fun q => hs (by rw [sg_in q.1, (hT.at q.1).1, q.2]; rfl)
    refine kq_s ?_
    refine g_if_ne rfl L_X8_isStudio_16 (fun h_5 => absurd h_5 (by decide)) (fun h_5 => ?_)
    refine g_iconst (v := 0) ik_0 ?_
    refine g_zret rfl rfl (nle rfl) (nle rfl) ?_
    exact hN 0 (isSt_n hno) M1 f6 fC
set_option maxRecDepth 100000 in
set_option maxHeartbeats 4000000 in
theorem ct_X8_errorPosition {X : Xs} {κ : Kp} {M : Mem} {Q : Rs → Kp → Mem → Prop} {m : Nat} (hm : IsMod κ.2.1 m) {len : Nat} {t : Nat → Int32} (h5 : M m 5 = nI len) (ht : M (m + 3) = t) (hT : TxOK t len) (hY : ∀ e, isSt t len = (true, e) → ∀ M', FrU (upM M m 0 0) M' m → Q (.inl (some (.int (-1)))) κ M') (hN : ∀ e, isSt t len = (false, e) → ∀ M', FrU (upM M m 0 0) M' m → Q (.inl (some (.int (nI e)))) κ M') : Ct X m_X8_errorPosition [.ref m] κ M Q := by
  refine ct_of B_X8_errorPosition_0 pn_X8 rfl (nle rfl) L_X8_errorPosition_0 ?_
  refine g_aload_n rfl ?_
  refine g_iconst (v := 0) ik_0 ?_
  refine g_putI pl_X8_25 rfl hm.1 rfl rfl rfl ?_
  refine g_aload_n rfl ?_
  refine g_callV (as := []) mk_X8_isStudio ml_X8_118 im_X8_isStudio se_X8_isStudio rfl rfl ⟨⟨nle rfl, nle rfl⟩, nle rfl, nle rfl⟩ hm.1 rfl rfl rfl (nle rfl) ?_
  refine ct_X8_isStudio (M := upM M m 0 0) (t := t) hm ((upM_j _ _ _ _ (by omega) _).trans h5) (by rw [← ht]; funext j; exact upM_o _ _ _ _ (by omega) j) hT (fun e he M1 mF => ?_) (fun e he M1 m6 mF => ?_)
  · refine kq_s ?_
    refine g_if_eq rfl L_X8_errorPosition_16 (fun h_1 => absurd h_1 (by decide)) (fun h_1 => ?_)
    refine g_iconst (v := -1) ik_m1 ?_
    refine g_goto rfl L_X8_errorPosition_20 ?_
    refine g_iret rfl (nle rfl) (nle rfl) ?_
    exact hY e he M1 mF
  · refine kq_s ?_
    refine g_if_eq rfl L_X8_errorPosition_16 (fun h_2 => ?_) (fun h_2 => absurd h_2 (by decide))
    refine g_aload_n rfl ?_
    refine g_getI fl_X8_93 rfl hm.1 rfl ?_
    rw [m6]
    refine g_fall rfl L_X8_errorPosition_20 ?_
    refine g_iret rfl (nle rfl) (nle rfl) ?_
    exact hN e he M1 mF
theorem in255 {c : Int32} (h : inB c 0 255 = true) : ∃ n, n < 256 ∧ c = nI n := by
  unfold inB at h
  rw [Bool.and_eq_true] at h
  obtain ⟨n, hn, rfl⟩ := nI_of (x := c) (Int32.not_lt.mpr (of_decide_eq_true h.1))
  exact ⟨n, by have := (nI_leI (a := n) (b := 255) (by omega) (by omega)).mp (of_decide_eq_true h.2); omega, rfl⟩
set_option maxRecDepth 100000 in
set_option maxHeartbeats 4000000 in
theorem ct_X8_append {X : Xs} {κ : Kp} {M : Mem} {Q : Rs → Kp → Mem → Prop} {m : Nat} (hm : IsMod κ.2.1 m) {len : Nat} (h5 : M m 5 = nI len) (hl : len ≤ 120) {c : Int32} (h1 : inB c 0 255 = false → Q (.inl (some (.int 0))) κ (upM M m 0 1)) (h2 : inB c 0 255 = true → len = 120 → Q (.inl (some (.int 0))) κ (upM M m 0 2)) (h0 : inB c 0 255 = true → len < 120 → ∀ M', M' m 5 = nI (len + 1) → M' (m + 3) = upd (M (m + 3)) len c → ((∀ r, r ≠ m → r ≠ m + 3 → M' r = M r) ∧ (∀ j, j ≠ 0 → j ≠ 5 → M' m j = M m j)) → M' m 0 = 0 → Q (.inl (some (.int (nI (len + 1))))) κ M') : Ct X m_X8_append [.ref m, .int c] κ M Q := by
  refine ct_of B_X8_append_0 pn_X8 rfl (nle rfl) L_X8_append_0 ?_
  refine g_aload_n rfl ?_
  refine g_iload_n rfl ?_
  refine g_iconst (v := 0) ik_0 ?_
  refine g_sipush (v := 255) sk_255 ?_
  refine g_callS (as := [_, _, _]) mk_X8_in ml_X8_29 sm_X8_in rfl rfl ⟨⟨nle rfl, nle rfl⟩, nle rfl, nle rfl⟩ rfl rfl (nle rfl) ?_
  refine ct_X8_in ?_
  refine kq_s ?_
  refine g_if_ne_b rfl L_X8_append_16 (fun h_1 => ?_) (fun h_1 => ?_)
  · have hin := h_1
    refine g_aload_n rfl ?_
    refine g_getI fl_X8_86 rfl hm.1 rfl ?_
    simp (disch := omega) only [upM_s, upM_o, upM_j, h5]
    refine g_bipush (v := 120) bk_120 ?_
    refine g_icmp_ne rfl L_X8_append_29 (fun h_2 => ?_) (fun h_2 => ?_)
    · have hne : ¬ len = 120 := fun q => h_2 (by rw [q]; rfl)
      refine g_iconst (v := 0) ik_0 ?_
      refine g_fall rfl L_X8_append_30 ?_
      refine g_callV (as := [_]) mk_X8_holds ml_X8_89 im_X8_holds se_X8_holds rfl rfl ⟨⟨nle rfl, nle rfl⟩, nle rfl, nle rfl⟩ hm.1 rfl rfl rfl (nle rfl) ?_
      refine ct_X8_holds hm ?_
      refine kq_s ?_
      refine g_if_ne rfl L_X8_append_38 (fun h_3 => ?_) (fun h_3 => absurd h_3 (by decide))
      refine g_aload_n rfl ?_
      refine g_getR (w := (m + 3)) fl_X8_16 rfl hm.1 rfl ?_
      refine g_aload_n rfl ?_
      refine g_getI fl_X8_86 rfl hm.1 rfl ?_
      simp (disch := omega) only [upM_s, upM_o, upM_j, h5]
      refine g_iload_n rfl ?_
      refine g_iastore (j := len) hm.2.2.2.1 rfl (by omega) (nle rfl) ?_
      refine g_aload_n rfl ?_
      refine g_dup rfl ?_
      refine g_getI fl_X8_86 rfl hm.1 rfl ?_
      simp (disch := omega) only [upM_s, upM_o, upM_j, h5]
      refine g_iconst (v := 1) ik_1 ?_
      refine g_iadd ?_
      refine g_putI pl_X8_86 rfl hm.1 rfl rfl rfl ?_
      refine g_aload_n rfl ?_
      refine g_getI fl_X8_86 rfl hm.1 rfl ?_
      simp (disch := omega) only [upM_s, upM_o, upM_j, h5]
      refine g_iret rfl (nle rfl) (nle rfl) ?_
      refine qeq (h0 hin (by omega) _ ?_ ?_ ?_ ?_) (nI_1 len) rfl
      · simp (disch := omega) only [upM_s, nI_1]
      · funext j; simp (disch := omega) only [upM_o]
        by_cases e : j = len
        · subst e; simp (disch := omega) only [upM_s, upd_same]
        · simp (disch := omega) only [upM_j, upM_o, upd_ne]
      · exact ⟨fun r a b => by funext j; simp (disch := omega) only [upM_o], fun j a b => by simp (disch := omega) only [upM_o, upM_j]⟩
      · simp (disch := omega) only [upM_s, upM_o, upM_j]
    · have heq : len = 120 := (nI_eq (a := len) (b := 120) (by omega) (by omega)).mp h_2
      refine g_iconst (v := 2) ik_2 ?_
      refine g_goto rfl L_X8_append_30 ?_
      refine g_callV (as := [_]) mk_X8_holds ml_X8_89 im_X8_holds se_X8_holds rfl rfl ⟨⟨nle rfl, nle rfl⟩, nle rfl, nle rfl⟩ hm.1 rfl rfl rfl (nle rfl) ?_
      refine ct_X8_holds hm ?_
      refine kq_s ?_
      refine g_if_ne rfl L_X8_append_38 (fun h_4 => absurd h_4 (by decide)) (fun h_4 => ?_)
      refine g_iconst (v := 0) ik_0 ?_
      refine g_iret rfl (nle rfl) (nle rfl) ?_
      exact h2 hin heq
  · have hin := h_1
    refine g_iconst (v := 1) ik_1 ?_
    refine g_goto rfl L_X8_append_30 ?_
    refine g_callV (as := [_]) mk_X8_holds ml_X8_89 im_X8_holds se_X8_holds rfl rfl ⟨⟨nle rfl, nle rfl⟩, nle rfl, nle rfl⟩ hm.1 rfl rfl rfl (nle rfl) ?_
    refine ct_X8_holds hm ?_
    refine kq_s ?_
    refine g_if_ne rfl L_X8_append_38 (fun h_5 => absurd h_5 (by decide)) (fun h_5 => ?_)
    refine g_iconst (v := 0) ik_0 ?_
    refine g_iret rfl (nle rfl) (nle rfl) ?_
    exact h1 hin
set_option maxRecDepth 100000 in
set_option maxHeartbeats 4000000 in
theorem ct_X8_clearText {X : Xs} {κ : Kp} {M : Mem} {Q : Rs → Kp → Mem → Prop} {m : Nat} (hm : IsMod κ.2.1 m) {len : Nat} (h5 : M m 5 = nI len) (hQ : Q (.inl (some (.int (nI len)))) κ (upM (upM M m 0 0) m 5 0)) : Ct X m_X8_clearText [.ref m] κ M Q := by
  refine ct_of B_X8_clearText_0 pn_X8 rfl (nle rfl) L_X8_clearText_0 ?_
  refine g_aload_n rfl ?_
  refine g_iconst (v := 0) ik_0 ?_
  refine g_putI pl_X8_25 rfl hm.1 rfl rfl rfl ?_
  refine g_aload_n rfl ?_
  refine g_getI fl_X8_86 rfl hm.1 rfl ?_
  simp (disch := omega) only [upM_s, upM_o, upM_j, h5]
  refine g_istore_n (nle rfl) ?_
  refine g_aload_n rfl ?_
  refine g_iconst (v := 0) ik_0 ?_
  refine g_putI pl_X8_86 rfl hm.1 rfl rfl rfl ?_
  refine g_iload_n rfl ?_
  refine g_iret rfl (nle rfl) (nle rfl) ?_
  exact hQ
