set_option maxRecDepth 100000 in
set_option maxHeartbeats 4000000 in
theorem ct_X6_readStart {X : Xs} {κ : Kp} {M : Mem} {Q : Rs → Kp → Mem → Prop} {x : Nat} (hx : IsTxt κ.2.1 x) {len : Nat} {t : Nat → Int32} (h2 : M x 2 = nI len) (ht : M (x + 1) = t) (hT : TxOK t len) (hY : 0 < len ∧ ch t 0 = 83 → ∀ M', M' x 3 = nI 1 → FrC M M' x → Q (.inl (some (.int 1))) κ M') (hN : ¬ (0 < len ∧ ch t 0 = 83) → ∀ M', M' x 3 = nI 0 → FrC M M' x → Q (.inl (some (.int 0))) κ M') : Ct X m_X6_readStart [.ref x] κ M Q := by
  refine ct_of B_X6_readStart_0 pn_X6 rfl (nle rfl) L_X6_readStart_0 ?_
  refine g_aload_n rfl ?_
  refine g_iconst (v := 0) ik_0 ?_
  refine g_putI pl_X6_27 rfl hx.1 rfl rfl rfl ?_
  have f2 : (upM M x 3 0) x 2 = nI len := by simp (disch := omega) only [upM_j]; exact h2
  have f3 : (upM M x 3 0) x 3 = nI 0 := by simp (disch := omega) only [upM_s]; rfl
  have fF : ∀ r, r ≠ x → (upM M x 3 0) r = M r := fun r hr' => by funext j; simp (disch := omega) only [upM_o]
  generalize (upM M x 3 0) = M1 at f2 f3 fF ⊢
  have ft : M1 (x + 1) = t := (fF _ (by omega)).trans ht
  have fC : FrC M M1 x := ⟨fun r a b => fF r a, f2.trans h2.symm⟩
  refine g_aload_n rfl ?_
  refine g_callV (as := []) mk_X6_hasMore ml_X6_30 im_X6_hasMore se_X6_hasMore rfl rfl ⟨⟨nle rfl, nle rfl⟩, nle rfl, nle rfl⟩ hx.1 rfl rfl rfl (nle rfl) ?_
  refine ct_X6_hasMore hx f2 f3 ft hT (by omega) ?_
  refine kq_s ?_
  refine g_if_eq_b rfl L_X6_readStart_26 (fun h_1 => ?_) (fun h_1 => ?_)
  · have hge := of_decide_eq_false h_1
    have hno : ¬ (0 < len ∧ ch t 0 = 83) := fun q => hge q.1
    refine g_iconst (v := 0) ik_0 ?_
    refine g_zret rfl rfl (nle rfl) (nle rfl) ?_
    exact hN hno M1 f3 fC
  · have hlt := of_decide_eq_true h_1
    have hl := hT.1
    have hca := (hT.at hlt).1
    have hcb := (hT.at hlt).2
    refine g_aload_n rfl ?_
    refine g_getR (w := (x + 1)) fl_X6_9 rfl hx.1 rfl ?_
    refine g_aload_n rfl ?_
    refine g_getI fl_X6_27 rfl hx.1 rfl ?_
    simp (disch := omega) only [f3]
    refine g_caload (j := 0) hx.2.1 rfl (nle rfl) (nle rfl) ?_
    rw [ft]
    refine g_bipush (v := 83) bk_83 ?_
    refine g_icmp_eq rfl L_X6_readStart_28 (fun h_2 => ?_) (fun h_2 => ?_)
    · have hy : 0 < len ∧ ch t 0 = 83 := ⟨hlt, (nI_eq (a := ch t 0) (b := 83) (by omega) (by omega)).mp (hca.symm.trans h_2)⟩
      refine g_aload_n rfl ?_
      refine g_dup rfl ?_
      refine g_getI fl_X6_27 rfl hx.1 rfl ?_
      simp (disch := omega) only [f3]
      refine g_iconst (v := 1) ik_1 ?_
      refine g_iadd ?_
      refine g_putI pl_X6_27 rfl hx.1 rfl rfl rfl ?_
      refine g_iconst (v := 1) ik_1 ?_
      refine g_zret rfl rfl (nle rfl) (nle rfl) ?_
      refine hY hy _ ?_ ⟨fun r a b => by rw [← fC.1 r a b]; funext j; simp (disch := omega) only [upM_o], by rw [← fC.2]; simp (disch := omega) only [upM_j]⟩
      simp (disch := omega) only [upM_s, f3]
      rfl
    · have hno : ¬ (0 < len ∧ ch t 0 = 83) := fun q => h_2 (hca.trans (by rw [q.2]; rfl))
      refine g_fall rfl L_X6_readStart_26 ?_
      refine g_iconst (v := 0) ik_0 ?_
      refine g_zret rfl rfl (nle rfl) (nle rfl) ?_
      exact hN hno M1 f3 fC
theorem isSt_y {t : Nat → Int32} {len : Nat} (h : 0 < len ∧ ch t 0 = 83) : isSt t len = prs t len 120 1 := if_pos h
theorem isSt_n {t : Nat → Int32} {len : Nat} (h : ¬ (0 < len ∧ ch t 0 = 83)) : isSt t len = (false, 0) := if_neg h
set_option maxRecDepth 100000 in
set_option maxHeartbeats 4000000 in
theorem ct_X6_findError {X : Xs} {κ : Kp} {M : Mem} {Q : Rs → Kp → Mem → Prop} {x : Nat} (hx : IsTxt κ.2.1 x) {len : Nat} {t : Nat → Int32} (h2 : M x 2 = nI len) (ht : M (x + 1) = t) (hT : TxOK t len) (hE : ∀ e, isSt t len = (false, e) → ∀ M', FrC M M' x → Q (.inl (some (.int (nI e)))) κ M') (hO : ∀ e, isSt t len = (true, e) → ∀ M', FrC M M' x → Q (.inl (some (.int (-1)))) κ M') : Ct X m_X6_findError [.ref x] κ M Q := by
  refine ct_of B_X6_findError_0 pn_X6 rfl (nle rfl) L_X6_findError_0 ?_
  refine g_aload_n rfl ?_
  refine g_callV (as := []) mk_X6_readStart ml_X6_23 im_X6_readStart se_X6_readStart rfl rfl ⟨⟨nle rfl, nle rfl⟩, nle rfl, nle rfl⟩ hx.1 rfl rfl rfl (nle rfl) ?_
  refine ct_X6_readStart hx h2 ht hT (fun hy M1 f3 fC => ?_) (fun hno M1 f3 fC => ?_)
  · refine kq_s ?_
    refine g_if_ne rfl L_X6_findError_12 (fun h_1 => ?_) (fun h_1 => absurd h_1 (by decide))
    refine g_iconst (v := 0) ik_0 ?_
    refine g_istore_n (nle rfl) ?_
    refine g_fall rfl L_X6_findError_14 ?_
    have hl := hT.1
    refine g_lo2 (lo' := [(0, some (.ref x)), (1, some (.int (nI 0)))]) ?_ ⟨rfl, rfl, trivial⟩
    refine loop_up (P := fun i => ∀ (M2 : Mem) (q : Nat), i + 1 ≤ q → q ≤ len → M2 x 3 = nI q → FrC M M2 x → isSt t len = prs t len (120 - i) q → G X m_X6_findError B_X6_findError_14 14 [(0, some (.ref x)), (1, some (.int (nI i)))] [] 0 0 κ M2 Q) 120 (fun i hle_i ih_i M2 q hq1 hq2 g3 FC hP => ?_) 0 (Nat.zero_le _) M1 1 (by omega) (by omega) f3 fC (isSt_y hy)
    refine g_iload_n rfl ?_
    refine g_bipush (v := 120) bk_120 ?_
    refine g_icmp_ge rfl L_X6_findError_45 (fun h_2 => absurd ((nI_leI (a := 120) (b := i) (by omega) (by omega)).mp h_2) (by omega)) (fun h_2 => ?_)
    refine g_aload_n rfl ?_
    refine g_callV (as := []) mk_X6_hasMore ml_X6_30 im_X6_hasMore se_X6_hasMore rfl rfl ⟨⟨nle rfl, nle rfl⟩, nle rfl, nle rfl⟩ hx.1 rfl rfl rfl (nle rfl) ?_
    have g2 : M2 x 2 = nI len := FC.2.trans h2
    have gt : M2 (x + 1) = t := (FC.1 _ (by omega) (by omega)).trans ht
    refine ct_X6_hasMore hx g2 g3 gt hT (by omega) ?_
    refine kq_s ?_
    refine g_if_eq_b rfl L_X6_findError_45 (fun h_3 => ?_) (fun h_3 => ?_)
    · have hge := of_decide_eq_false h_3
      refine g_iconst (v := -1) ik_m1 ?_
      refine g_iret rfl (nle rfl) (nle rfl) ?_
      exact hO q (hP.trans (prs_end hge _)) M2 FC
    · have hlt := of_decide_eq_true h_3
      refine g_aload_n rfl ?_
      refine g_callV (as := []) mk_X6_readCommand ml_X6_33 im_X6_readCommand se_X6_readCommand rfl rfl ⟨⟨nle rfl, nle rfl⟩, nle rfl, nle rfl⟩ hx.1 rfl rfl rfl (nle rfl) ?_
      refine ct_X6_readCommand hx g2 g3 gt hT hlt (fun M3 e qs hrd hfl k3 k5 kv kC => ?_) (fun M3 e hrd k3 kC => ?_)
      · refine kq_s ?_
        refine g_if_ne rfl L_X6_findError_39 (fun h_4 => ?_) (fun h_4 => absurd h_4 (by decide))
        refine g_iinc (v := nI (i + 1)) rfl (nI_inc _) (nle rfl) ?_
        refine g_goto rfl L_X6_findError_14 ?_
        obtain ⟨r1, r2⟩ := rdC_pos hlt hrd
        exact g_lo2 (ih_i (by omega) M3 e (by omega) r2 k3 (FC.tr kC) (hP.trans (by rw [show 120 - i = (120 - (i + 1)) + 1 by omega]; exact prs_y hlt hrd))) ⟨rfl, rfl, trivial⟩
      · refine kq_s ?_
        refine g_if_ne rfl L_X6_findError_39 (fun h_5 => absurd h_5 (by decide)) (fun h_5 => ?_)
        refine g_aload_n rfl ?_
        refine g_getI fl_X6_27 rfl hx.1 rfl ?_
        first | simp (disch := omega) only [f3] | simp (disch := omega) only [k3]
        refine g_iret rfl (nle rfl) (nle rfl) ?_
        exact hE e (hP.trans (by rw [show 120 - i = (120 - (i + 1)) + 1 by omega]; exact prs_n hlt hrd)) M3 (FC.tr kC)
  · refine kq_s ?_
    refine g_if_ne rfl L_X6_findError_12 (fun h_6 => absurd h_6 (by decide)) (fun h_6 => ?_)
    refine g_aload_n rfl ?_
    refine g_getI fl_X6_27 rfl hx.1 rfl ?_
    first | simp (disch := omega) only [f3] | simp (disch := omega) only [k3]
    refine g_iret rfl (nle rfl) (nle rfl) ?_
    exact hE 0 (isSt_n hno) M1 fC