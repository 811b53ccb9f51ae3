def FrV (M M' : Mem) (m : Nat) : Prop := (∀ r, r ≠ m → r ≠ m + 1 → r ≠ m + 2 → r ≠ m + 4 → M' r = M r) ∧ M' m 5 = M m 5 ∧ M' m 2 = 0 ∧ M' m 0 = 0 ∧ M' (m + 2) 0 = 0 ∧ M' (m + 2) 1 = 0
theorem FrV.u {M M' M'' : Mem} {m : Nat} (h : FrV M M' m) (h2 : FrU M' M'' m) : FrV M M'' m := by
  obtain ⟨a1, a2, a3, a4, a5, a6⟩ := h
  refine ⟨fun r b1 b2 b3 b4 => (h2.1 r b1 b4).trans (a1 r b1 b2 b3 b4), (h2.2 5 (by omega) (by omega)).trans a2, (h2.2 2 (by omega) (by omega)).trans a3, (h2.2 0 (by omega) (by omega)).trans a4, ?_, ?_⟩
  · rw [h2.1 (m + 2) (by omega) (by omega)]; exact a5
  · rw [h2.1 (m + 2) (by omega) (by omega)]; exact a6
theorem FrV.s {M M' : Mem} {m : Nat} {f : Nat → Int32} (h : FrV M M' m) : FrV M (sR M' (m + 1) f) m := by
  obtain ⟨a1, a2, a3, a4, a5, a6⟩ := h
  have e : ∀ r, r ≠ m + 1 → sR M' (m + 1) f r = M' r := fun r hr => sR_o _ _ _ hr
  refine ⟨fun r b1 b2 b3 b4 => (e r b2).trans (a1 r b1 b2 b3 b4), ?_, ?_, ?_, ?_, ?_⟩
  · rw [e m (by omega)]; exact a2
  · rw [e m (by omega)]; exact a3
  · rw [e m (by omega)]; exact a4
  · rw [e (m + 2) (by omega)]; exact a5
  · rw [e (m + 2) (by omega)]; exact a6
set_option maxRecDepth 100000 in
set_option maxHeartbeats 4000000 in
theorem ct_X8_load {X : Xs} {κ : Kp} {M : Mem} {Q : Rs → Kp → Mem → Prop} {m : Nat} (hm : IsMod κ.2.1 m) {len : Nat} {t : Nat → Int32} (h5 : M m 5 = nI len) (ht : M (m + 3) = t) (hT : TxOK t len) (hN : ∀ e, isSt t len = (false, e) → ∀ M', FrU M M' m → Q (.inl (some (.int 0))) κ (upM M' m 0 1)) (hY : (∃ e, isSt t len = (true, e)) → ∀ M', M' (m + 1) = (ldF t len 120 1 (neS (M (m + 1))) 0).1 → IR 1080 (ldF t len 120 1 (neS (M (m + 1))) 0).1 → (∀ j, 189 ≤ j → (ldF t len 120 1 (neS (M (m + 1))) 0).1 j = M (m + 1) j) → FrV M M' m → Q (.inl (some (.int (ldF t len 120 1 (neS (M (m + 1))) 0).2))) κ M') : Ct X m_X8_load [.ref m] κ M Q := by
  refine ct_of B_X8_load_0 pn_X8 rfl (nle rfl) L_X8_load_0 ?_
  refine g_aload_n rfl ?_
  refine g_aload_n rfl ?_
  refine g_callV (as := []) mk_X8_isStudio ml_X8_118 im_X8_isStudio se_X8_isStudio rfl rfl ⟨⟨nle rfl, nle rfl⟩, nle rfl, nle rfl⟩ hm.1 rfl rfl rfl (nle rfl) ?_
  refine ct_X8_isStudio hm h5 ht hT (fun e he M1 mF => ?_) (fun e he M1 m6 mF => ?_)
  · refine kq_s ?_
    refine g_if_eq rfl L_X8_load_12 (fun h_1 => absurd h_1 (by decide)) (fun h_1 => ?_)
    refine g_iconst (v := 0) ik_0 ?_
    refine g_goto rfl L_X8_load_13 ?_
    refine g_callV (as := [_]) mk_X8_holds ml_X8_89 im_X8_holds se_X8_holds rfl rfl ⟨⟨nle rfl, nle rfl⟩, nle rfl, nle rfl⟩ hm.1 rfl rfl rfl (nle rfl) ?_
    refine ct_X8_holds hm ?_
    refine kq_s ?_
    refine g_if_ne rfl L_X8_load_21 (fun h_2 => ?_) (fun h_2 => absurd h_2 (by decide))
    refine g_aload_n rfl ?_
    refine g_callV (as := []) mk_X8_anew ml_X8_22 im_X8_anew se_X8_anew rfl rfl ⟨⟨nle rfl, nle rfl⟩, nle rfl, nle rfl⟩ hm.1 rfl rfl rfl (nle rfl) ?_
    refine ct_X8_anew hm ?_
    refine kq_n ?_
    refine g_aload_n rfl ?_
    refine g_iconst (v := 0) ik_0 ?_
    refine g_putI pl_X8_80 rfl hm.1 rfl rfl rfl ?_
    refine g_aload_n rfl ?_
    refine g_getR (w := (m + 2)) fl_X8_13 rfl hm.1 rfl ?_
    refine g_iconst (v := 0) ik_0 ?_
    refine g_iconst (v := 0) ik_0 ?_
    refine g_iastore (j := 0) hm.2.2.1 rfl (nle rfl) (nle rfl) ?_
    refine g_aload_n rfl ?_
    refine g_getR (w := (m + 2)) fl_X8_13 rfl hm.1 rfl ?_
    refine g_iconst (v := 1) ik_1 ?_
    refine g_iconst (v := 0) ik_0 ?_
    refine g_iastore (j := 1) hm.2.2.1 rfl (nle rfl) (nle rfl) ?_
    refine g_iconst (v := 0) ik_0 ?_
    refine g_istore_n (nle rfl) ?_
    refine g_aload_n rfl ?_
    refine g_iconst (v := 1) ik_1 ?_
    refine g_putI pl_X8_93 rfl hm.1 rfl rfl rfl ?_
    refine g_fall rfl L_X8_load_51 ?_
    have f6 : (upM (upM (upM (upM (sR (upM M1 m 0 0) (m + 1) (neS (upM M1 m 0 0 (m + 1)))) m 2 0) (m + 2) 0 0) (m + 2) 1 0) m 6 1) m 6 = nI 1 := by rw [upM_s]; rfl
    have fs : (upM (upM (upM (upM (sR (upM M1 m 0 0) (m + 1) (neS (upM M1 m 0 0 (m + 1)))) m 2 0) (m + 2) 0 0) (m + 2) 1 0) m 6 1) (m + 1) = neS (M (m + 1)) := by
      funext j
      simp (disch := omega) only [upM_o, sR_s]
      rw [show upM M1 m 0 0 (m + 1) = M (m + 1) by rw [← mF.1 (m + 1) (by omega) (by omega)]; funext j; exact upM_o _ _ _ _ (by omega) j]
    have fV : FrV M (upM (upM (upM (upM (sR (upM M1 m 0 0) (m + 1) (neS (upM M1 m 0 0 (m + 1)))) m 2 0) (m + 2) 0 0) (m + 2) 1 0) m 6 1) m := by
      refine ⟨fun r b1 b2 b3 b4 => ?_, ?_, ?_, ?_, ?_, ?_⟩
      · rw [← mF.1 r b1 b4]; funext j; simp (disch := omega) only [upM_o]; rw [sR_o _ _ _ b2]; exact upM_o _ _ _ _ b1 j
      · simp (disch := omega) only [upM_o, upM_j]; rw [sR_o _ _ _ (by omega), upM_j _ _ _ _ (by omega)]; exact mF.2 5 (by omega) (by omega)
      · simp (disch := omega) only [upM_s, upM_o, upM_j]
      · simp (disch := omega) only [upM_o, upM_j]; rw [sR_o _ _ _ (by omega), upM_s]
      · simp (disch := omega) only [upM_s, upM_o, upM_j]
      · simp (disch := omega) only [upM_s, upM_o, upM_j]
    generalize (upM (upM (upM (upM (sR (upM M1 m 0 0) (m + 1) (neS (upM M1 m 0 0 (m + 1)))) m 2 0) (m + 2) 0 0) (m + 2) 1 0) m 6 1) = M2 at f6 fs fV ⊢
    have hy : 0 < len ∧ ch t 0 = 83 := by
      by_cases q : 0 < len ∧ ch t 0 = 83
      · exact q
      · rw [isSt_n q] at he; cases he
    have he0 := he
    rw [isSt_y hy] at he
    refine g_lo2 (lo' := [(0, some (.ref m)), (1, some (.int 0))]) ?_ ⟨rfl, rfl, trivial⟩
    refine loop_up (P := fun i => ∀ (M3 : Mem) (q : Nat) (out : Int32), i + 1 ≤ q → q ≤ len → M3 m 6 = nI q → FrV M M3 m → IR (9 * i) (M3 (m + 1)) → (∀ j, 189 ≤ j → M3 (m + 1) j = M (m + 1) j) → prs t len (120 - i) q = (true, e) → ldF t len 120 1 (neS (M (m + 1))) 0 = ldF t len (120 - i) q (M3 (m + 1)) out → G X m_X8_load B_X8_load_51 51 [(0, some (.ref m)), (1, some (.int out))] [] 0 0 κ M3 Q) 120 (fun i hle_i ih_i M3 q out hq1 hq2 g6 FV hI hhi hpr hLd => ?_) 0 (Nat.zero_le _) M2 1 0 (by omega) (by have := hy.1; omega) f6 fV (by rw [fs]; exact ⟨_, _, _, _, inv_ne 0 _⟩) (fun j hj => by rw [fs]; unfold neS; rw [upd_ne (by omega), upd_ne (by omega), if_neg (by omega)]) he (by rw [fs])
    have hl := hT.1
    have g5 : M3 m 5 = nI len := FV.2.1.trans h5
    have gt : M3 (m + 3) = t := (FV.1 _ (by omega) (by omega) (by omega) (by omega)).trans ht
    refine g_aload_n rfl ?_
    refine g_getI fl_X8_93 rfl hm.1 rfl ?_
    rw [g6]
    refine g_aload_n rfl ?_
    refine g_getI fl_X8_86 rfl hm.1 rfl ?_
    rw [g5]
    refine g_icmp_ge rfl L_X8_load_87 (fun h_3 => ?_) (fun h_3 => ?_)
    · have hge : ¬ q < len := fun z => absurd ((nI_ltI (a := q) (b := len) (by omega) (by omega)).mpr z) (Int32.not_lt.mpr h_3)
      refine g_iload_n rfl ?_
      refine g_iret rfl (nle rfl) (nle rfl) ?_
      have e1 := hLd.trans (ldF_end hge _)
      exact qeq (hY ⟨_, he0⟩ M3 (by rw [e1]) (by rw [e1]; exact hI.up (by omega)) (fun j hj => by rw [e1]; exact hhi j hj) FV) (by rw [e1]) rfl
    · have hlt : q < len := (nI_ltI (a := q) (b := len) (by omega) (by omega)).mp (Int32.not_le.mp h_3)
      have hi120 : i < 120 := by omega
      refine g_aload_n rfl ?_
      refine g_callV (as := []) mk_X8_readsCommand ml_X8_115 im_X8_readsCommand se_X8_readsCommand rfl rfl ⟨⟨nle rfl, nle rfl⟩, nle rfl, nle rfl⟩ hm.1 rfl rfl rfl (nle rfl) ?_
      obtain ⟨e2, hrd, hpn⟩ := prs_step (n := 120 - (i + 1)) (by rw [show 120 - (i + 1) + 1 = 120 - i by omega]; exact hpr) hlt
      obtain ⟨r1, r2⟩ := rdC_pos hlt hrd
      refine ct_X8_readsCommand hm g5 g6 gt hT hlt (fun M4 e3 qs hrd2 hfl k6 k7 kv kC => ?_) (fun M4 e3 hrd2 k6 kC => ?_)
      · have ee : e2 = e3 := by rw [hrd] at hrd2; cases hrd2; rfl
        subst ee
        have hca := hT.at hlt
        have ea := cmdA_eq hfl
        have hrg := cmdA_r hfl hrd
        have m1 : M4 (m + 1) = M3 (m + 1) := kC.1 _ (by omega) (by omega)
        rw [hca.1] at k7
        rw [← ea] at kv
        refine kq_s ?_
        refine g_pop rfl ?_
        refine g_aload_n rfl ?_
        refine g_callV (as := []) mk_X8_can ml_X8_178 im_X8_can se_X8_can rfl rfl ⟨⟨nle rfl, nle rfl⟩, nle rfl, nle rfl⟩ hm.1 rfl rfl rfl (nle rfl) ?_
        refine ct_X8_can hm (by rw [m1]; exact hI) hca.2 k7 hfl kv ?_
        rw [m1]
        refine kq_s ?_
        refine g_if_eq_b rfl L_X8_load_81 (fun h_4 => ?_) (fun h_4 => ?_)
        · have hgc := h_4
          refine g_iinc rfl rfl (nle rfl) ?_
          refine g_goto rfl L_X8_load_51 ?_
          refine g_lo2 (ih_i (by omega) M4 e2 (out + 1) (by omega) r2 k6 (FV.u kC) (by rw [m1]; exact hI.up (by omega)) (fun j hj => by rw [m1]; exact hhi j hj) hpn ?_) ⟨rfl, rfl, trivial⟩
          rw [hLd, show 120 - i = (120 - (i + 1)) + 1 by omega, m1]
          exact ldF_n hlt hrd hgc
        · have hgc := h_4
          have ck := cmd_keep hI hca.2 hfl hrg hgc
          refine g_aload_n rfl ?_
          refine g_callV (as := []) mk_X8_does ml_X8_181 im_X8_does se_X8_does rfl rfl ⟨⟨nle rfl, nle rfl⟩, nle rfl, nle rfl⟩ hm.1 rfl rfl rfl (nle rfl) ?_
          refine ct_X8_does hm (by rw [m1]; exact hI) hca.2 k7 hfl kv hrg (by rw [m1]; exact hgc) ?_
          refine kq_n ?_
          refine g_goto rfl L_X8_load_51 ?_
          refine g_lo2 (ih_i (by omega) (sR M4 (m + 1) (cmdT (ch t q) (M4 (m + 1)) (cmdA t q))) e2 out (by omega) r2 (by rw [sR_o _ _ _ (by omega)]; exact k6) (FV.u kC).s (by rw [sR_s, m1]; exact ck.1.up (by omega)) (fun j hj => by rw [sR_s, m1, ck.2 j hj]; exact hhi j hj) hpn ?_) ⟨rfl, rfl, trivial⟩
          rw [hLd, show 120 - i = (120 - (i + 1)) + 1 by omega, sR_s, m1]
          exact ldF_y hlt hrd hgc
      · rw [hrd] at hrd2
        cases hrd2
  · refine kq_s ?_
    refine g_if_eq rfl L_X8_load_12 (fun h_5 => ?_) (fun h_5 => absurd h_5 (by decide))
    refine g_iconst (v := 1) ik_1 ?_
    refine g_fall rfl L_X8_load_13 ?_
    refine g_callV (as := [_]) mk_X8_holds ml_X8_89 im_X8_holds se_X8_holds rfl rfl ⟨⟨nle rfl, nle rfl⟩, nle rfl, nle rfl⟩ hm.1 rfl rfl rfl (nle rfl) ?_
    refine ct_X8_holds hm ?_
    refine kq_s ?_
    refine g_if_ne rfl L_X8_load_21 (fun h_6 => absurd h_6 (by decide)) (fun h_6 => ?_)
    refine g_iconst (v := 0) ik_0 ?_
    refine g_iret rfl (nle rfl) (nle rfl) ?_
    exact hN e he M1 mF
