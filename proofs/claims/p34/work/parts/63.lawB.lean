/-! ===== p34: the sums ===== -/
theorem sf_upM {B o r j : Nat} {M : Mem} {x : Int32} {s : Nat → Int32} (h : SF B M (o + 4) s) (hr : o + 41 ≤ r) : SF B (upM M r j x) (o + 4) s := h.fr fun r' a b => by
  funext i
  exact upM_o _ _ _ _ (by omega) i
theorem g_Mj {X : Xs} {y : MI} {is : List (Instr × Nat)} {pc : Nat} {lo : Lo} {st : List Value} {nc ks : Nat} {κ : Kp} {M M' : Mem} {Q : Rs → Kp → Mem → Prop} (e : M = M') (kk : G X y is pc lo st nc ks κ M' Q) : G X y is pc lo st nc ks κ M Q := by subst e; exact kk
def SuM (M M' : Mem) (r : Nat) (s : Nat → Int32) (a b : Nat) : Prop := (∀ r', r' ≠ r → M' r' = M r') ∧ M' r 0 = sumI a (fun d => s (129 + 5 * d + 2)) ∧ M' r 1 = sumI a (fun d => s (129 + 5 * d + 3)) ∧ M' r 2 = sumI a (fun d => s (129 + 5 * d + 4)) ∧ M' r 3 = sumI a (fun d => daV s d 5) ∧ M' r 4 = sumI b (fun k => bitsI (s (39 + 9 * k + 8))) ∧ M' r 5 = sumI b (fun k => s (39 + 9 * k + 7))
theorem SuM.sf {B o r a b : Nat} {M M' : Mem} {s : Nat → Int32} (h : SuM M M' r s a b) (hS : SF B M (o + 4) s) (hr : o + 41 ≤ r) : SF B M' (o + 4) s := hS.fr fun r' c d => h.1 r' (by omega)
theorem SuM.s1 {r a : Nat} {M M' : Mem} {s : Nat → Int32} (h : SuM M M' r s a 0) : SuM M (upM (upM (upM (upM M' r 0 (M' r 0 + s (129 + 5 * a + 2))) r 1 (upM M' r 0 (M' r 0 + s (129 + 5 * a + 2)) r 1 + s (129 + 5 * a + 3))) r 2 (upM (upM M' r 0 (M' r 0 + s (129 + 5 * a + 2))) r 1 (upM M' r 0 (M' r 0 + s (129 + 5 * a + 2)) r 1 + s (129 + 5 * a + 3)) r 2 + s (129 + 5 * a + 4))) r 3 (upM (upM (upM M' r 0 (M' r 0 + s (129 + 5 * a + 2))) r 1 (upM M' r 0 (M' r 0 + s (129 + 5 * a + 2)) r 1 + s (129 + 5 * a + 3))) r 2 (upM (upM M' r 0 (M' r 0 + s (129 + 5 * a + 2))) r 1 (upM M' r 0 (M' r 0 + s (129 + 5 * a + 2)) r 1 + s (129 + 5 * a + 3)) r 2 + s (129 + 5 * a + 4)) r 3 + daV s a 5)) r s (a + 1) 0 := by
  obtain ⟨h0, h1, h2, h3, h4, h5, h6⟩ := h
  refine ⟨fun r' hr' => ?_, ?_, ?_, ?_, ?_, ?_, ?_⟩
  · funext j
    simp [upM, hr', h0 r' hr']
  all_goals simp [upM, sumI, h1, h2, h3, h4, h5, h6]
theorem SuM.s2 {r a b : Nat} {M M' : Mem} {s : Nat → Int32} (h : SuM M M' r s a b) : SuM M (upM (upM M' r 4 (M' r 4 + bitsI (s (39 + 9 * b + 8)))) r 5 (upM M' r 4 (M' r 4 + bitsI (s (39 + 9 * b + 8))) r 5 + s (39 + 9 * b + 7))) r s a (b + 1) := by
  obtain ⟨h0, h1, h2, h3, h4, h5, h6⟩ := h
  refine ⟨fun r' hr' => ?_, ?_, ?_, ?_, ?_, ?_, ?_⟩
  · funext j
    simp [upM, hr', h0 r' hr']
  all_goals simp [upM, sumI, h1, h2, h3, h4, h5, h6]
set_option maxRecDepth 100000 in
set_option maxHeartbeats 4000000 in
theorem ct_L_sums {X : Xs} {n : Nat} {S : Nat → Option Sh} {M : Mem} {Q : Rs → Kp → Mem → Prop} {o B nf nt nc nd : Nat} {s : Nat → Int32} (hn : o + 673 ≤ n) (hx0 : IsDF S o) (hS0 : SF B M (o + 4) s) (hI : Inv B nf nt nc nd s) (hQ : ∀ M1 M2, SuM M1 M2 (n + 1) s nd nc → zM M (n + 1) = M1 → Q (.inl (some (.ref (n + 1)))) (n + 1, upS S (n + 1) (16, 6, []), true) M2) : Ct X m_L_sums [.ref o] (n, S, true) M Q := by
  refine ct_of B_L_sums_0 pn_L rfl (nle rfl) L_L_sums_0 ?_
  have bc := hI.lc
  have bn := hI.ld
  refine g_bipush (v := 6) bk_6 ?_
  refine g_newarray (tag := 16) (N := 6) ac_int ⟨by decide, by decide⟩ rfl rfl (by decide) rfl (nle rfl) (nle rfl) ?_
  show G X m_L_sums _ 4 _ _ 1 6 (n + 1, upS S (n + 1) (16, 6, []), true) (zM M (n + 1)) Q
  have hr := upS_s S (n + 1) (16, 6, [])
  have hx : IsDF (upS S (n + 1) (16, 6, [])) o := IsDF.st S _ o (fun r h1 h2 => upS_o _ _ _ (by omega)) hx0
  have hM : SuM (zM M (n + 1)) (zM M (n + 1)) (n + 1) s 0 0 := ⟨fun _ _ => rfl, zM_s _ _ _, zM_s _ _ _, zM_s _ _ _, zM_s _ _ _, zM_s _ _ _, zM_s _ _ _⟩
  have hSz : SF B (zM M (n + 1)) (o + 4) s := hS0.fr fun r a b => by funext j; exact zM_o _ _ (by omega) j
  revert hM
  generalize hMM : zM M (n + 1) = M1 at hSz ⊢
  intro hM
  refine g_astore_n (nle rfl) ?_
  refine g_iconst (v := 0) ik_0 ?_
  refine g_istore_n (nle rfl) ?_
  refine g_fall rfl L_L_sums_7 ?_
  refine g_lo2 (lo' := [(0, some (.ref o)), (1, some (.ref (n + 1))), (2, some (.int (nI 0)))]) ?_ ⟨rfl, rfl, rfl, trivial⟩
  refine loop_up (P := fun k => ∀ M2, SuM M1 M2 (n + 1) s k 0 → G X m_L_sums B_L_sums_7 7 [(0, some (.ref o)), (1, some (.ref (n + 1))), (2, some (.int (nI k)))] [] 1 6 (n + 1, upS S (n + 1) (16, 6, []), true) M2 Q) nd (fun k hle_k ih_k M2 hM2 => ?_) 0 (Nat.zero_le _) _ hM
  have hS := hM2.sf hSz (by omega)
  refine g_iload_n rfl ?_
  refine g_aload_n rfl ?_
  refine g_iconst (v := 3) ik_3 ?_
  refine g_callV (as := [_]) mk_X7_about ml_L_13 im_X7_about se_X7_about rfl rfl ⟨⟨nle rfl, nle rfl⟩, nle rfl, nle rfl⟩ hx.1 rfl rfl rfl (nle rfl) ?_
  refine l_about hx hS (w := 3) (v := nI nd) (by decide) hI.d ?_
  refine kq_s ?_
  refine g_icmp_ge rfl L_L_sums_70 (fun h_1 => ?_) (fun h_1 => ?_)
  · have hx_k := ((cmp_ge (c := nd) rfl (by omega) hle_k).1 h_1).symm
    subst hx_k
    have hM := hM2
    refine g_iconst (v := 0) ik_0 ?_
    refine g_istore_n (nle rfl) ?_
    refine g_fall rfl L_L_sums_72 ?_
    refine g_lo2 (lo' := [(0, some (.ref o)), (1, some (.ref (n + 1))), (2, some (.int (nI 0)))]) ?_ ⟨rfl, rfl, rfl, trivial⟩
    refine loop_up (P := fun k => ∀ M2, SuM M1 M2 (n + 1) s nd k → G X m_L_sums B_L_sums_72 72 [(0, some (.ref o)), (1, some (.ref (n + 1))), (2, some (.int (nI k)))] [] 1 6 (n + 1, upS S (n + 1) (16, 6, []), true) M2 Q) nc (fun k hle_k ih_k M2 hM2 => ?_) 0 (Nat.zero_le _) _ hM
    have hS := hM2.sf hSz (by omega)
    refine g_iload_n rfl ?_
    refine g_aload_n rfl ?_
    refine g_iconst (v := 2) ik_2 ?_
    refine g_callV (as := [_]) mk_X7_about ml_L_13 im_X7_about se_X7_about rfl rfl ⟨⟨nle rfl, nle rfl⟩, nle rfl, nle rfl⟩ hx.1 rfl rfl rfl (nle rfl) ?_
    refine l_about hx hS (w := 2) (v := nI nc) (by decide) hI.c ?_
    refine kq_s ?_
    refine g_icmp_ge rfl L_L_sums_113 (fun h_2 => ?_) (fun h_2 => ?_)
    · have hx_k := ((cmp_ge (c := nc) rfl (by omega) hle_k).1 h_2).symm
      subst hx_k
      have hM := hM2
      refine g_aload_n rfl ?_
      refine g_aret rfl (Or.inr ⟨_, rfl⟩) (nle rfl) (nle rfl) ?_
      exact hQ _ _ hM2 hMM
    · have hlt_k : k < nc := (cmp_ge (c := nc) rfl (by omega) hle_k).2 h_2
      refine g_aload_n rfl ?_
      refine g_iconst (v := 4) ik_4 ?_
      refine g_dup2 rfl rfl ?_
      refine g_iaload (j := 4) hr rfl (nle rfl) (nle rfl) ?_
      refine g_aload_n rfl ?_
      refine g_iload_n rfl ?_
      refine g_bipush (v := 7) bk_7 ?_
      refine g_callV (as := [_, _]) mk_X7_classOf ml_L_19 im_X7_classOf se_X7_classOf rfl rfl ⟨⟨nle rfl, nle rfl⟩, nle rfl, nle rfl⟩ hx.1 rfl rfl rfl (nle rfl) ?_
      refine l_classOf hx hS hI (k := k) (w := 7) (v := bitsI (s (39 + 9 * k + 8))) (by omega) (by decide) rfl ?_
      refine kq_s ?_
      refine g_iadd ?_
      refine g_iastore (j := 4) hr rfl (nle rfl) (nle rfl) ?_
      refine g_aload_n rfl ?_
      refine g_iconst (v := 5) ik_5 ?_
      refine g_dup2 rfl rfl ?_
      refine g_iaload (j := 5) hr rfl (nle rfl) (nle rfl) ?_
      refine g_aload_n rfl ?_
      refine g_iload_n rfl ?_
      refine g_bipush (v := 9) bk_9 ?_
      refine g_callV (as := [_, _]) mk_X7_classOf ml_L_19 im_X7_classOf se_X7_classOf rfl rfl ⟨⟨nle rfl, nle rfl⟩, nle rfl, nle rfl⟩ hx.1 rfl rfl rfl (nle rfl) ?_
      refine l_classOf hx (sf_upM hS (by omega)) hI (k := k) (w := 9) (v := s (39 + 9 * k + 7)) (by omega) (by decide) rfl ?_
      refine kq_s ?_
      refine g_iadd ?_
      refine g_iastore (j := 5) hr rfl (nle rfl) (nle rfl) ?_
      refine g_iinc (v := nI (k + 1)) rfl (nI_inc _) (nle rfl) ?_
      refine g_goto rfl L_L_sums_72 ?_
      exact g_lo2 (ih_k hlt_k _ hM2.s2) ⟨rfl, rfl, rfl, trivial⟩
  · have hlt_k : k < nd := (cmp_ge (c := nd) rfl (by omega) hle_k).2 h_1
    refine g_aload_n rfl ?_
    refine g_iconst (v := 0) ik_0 ?_
    refine g_dup2 rfl rfl ?_
    refine g_iaload (j := 0) hr rfl (nle rfl) (nle rfl) ?_
    refine g_aload_n rfl ?_
    refine g_iload_n rfl ?_
    refine g_iconst (v := 2) ik_2 ?_
    refine g_callV (as := [_, _]) mk_X7_dancerOf ml_L_23 im_X7_dancerOf se_X7_dancerOf rfl rfl ⟨⟨nle rfl, nle rfl⟩, nle rfl, nle rfl⟩ hx.1 rfl rfl rfl (nle rfl) ?_
    refine l_dancerOf hx hS hI (k := k) (w := 2) (v := s (129 + 5 * k + 2)) (by omega) (by decide) rfl ?_
    refine kq_s ?_
    refine g_iadd ?_
    refine g_iastore (j := 0) hr rfl (nle rfl) (nle rfl) ?_
    refine g_aload_n rfl ?_
    refine g_iconst (v := 1) ik_1 ?_
    refine g_dup2 rfl rfl ?_
    refine g_iaload (j := 1) hr rfl (nle rfl) (nle rfl) ?_
    refine g_aload_n rfl ?_
    refine g_iload_n rfl ?_
    refine g_iconst (v := 3) ik_3 ?_
    refine g_callV (as := [_, _]) mk_X7_dancerOf ml_L_23 im_X7_dancerOf se_X7_dancerOf rfl rfl ⟨⟨nle rfl, nle rfl⟩, nle rfl, nle rfl⟩ hx.1 rfl rfl rfl (nle rfl) ?_
    refine l_dancerOf hx (sf_upM hS (by omega)) hI (k := k) (w := 3) (v := s (129 + 5 * k + 3)) (by omega) (by decide) rfl ?_
    refine kq_s ?_
    refine g_iadd ?_
    refine g_iastore (j := 1) hr rfl (nle rfl) (nle rfl) ?_
    refine g_aload_n rfl ?_
    refine g_iconst (v := 2) ik_2 ?_
    refine g_dup2 rfl rfl ?_
    refine g_iaload (j := 2) hr rfl (nle rfl) (nle rfl) ?_
    refine g_aload_n rfl ?_
    refine g_iload_n rfl ?_
    refine g_iconst (v := 4) ik_4 ?_
    refine g_callV (as := [_, _]) mk_X7_dancerOf ml_L_23 im_X7_dancerOf se_X7_dancerOf rfl rfl ⟨⟨nle rfl, nle rfl⟩, nle rfl, nle rfl⟩ hx.1 rfl rfl rfl (nle rfl) ?_
    refine l_dancerOf hx (sf_upM (sf_upM hS (by omega)) (by omega)) hI (k := k) (w := 4) (v := s (129 + 5 * k + 4)) (by omega) (by decide) rfl ?_
    refine kq_s ?_
    refine g_iadd ?_
    refine g_iastore (j := 2) hr rfl (nle rfl) (nle rfl) ?_
    refine g_aload_n rfl ?_
    refine g_iconst (v := 3) ik_3 ?_
    refine g_dup2 rfl rfl ?_
    refine g_iaload (j := 3) hr rfl (nle rfl) (nle rfl) ?_
    refine g_aload_n rfl ?_
    refine g_iload_n rfl ?_
    refine g_iconst (v := 5) ik_5 ?_
    refine g_callV (as := [_, _]) mk_X7_dancerOf ml_L_23 im_X7_dancerOf se_X7_dancerOf rfl rfl ⟨⟨nle rfl, nle rfl⟩, nle rfl, nle rfl⟩ hx.1 rfl rfl rfl (nle rfl) ?_
    refine l_dancerOf hx (sf_upM (sf_upM (sf_upM hS (by omega)) (by omega)) (by omega)) hI (k := k) (w := 5) (v := daV s k 5) (by omega) (by decide) rfl ?_
    refine kq_s ?_
    refine g_iadd ?_
    refine g_iastore (j := 3) hr rfl (nle rfl) (nle rfl) ?_
    refine g_iinc (v := nI (k + 1)) rfl (nI_inc _) (nle rfl) ?_
    refine g_goto rfl L_L_sums_7 ?_
    exact g_lo2 (ih_k hlt_k _ hM2.s1) ⟨rfl, rfl, rfl, trivial⟩
