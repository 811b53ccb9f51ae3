set_option maxRecDepth 100000 in
theorem lw_c0 {X : Xs} {x m out i B nc ks : Nat} {κ : Kp} {M : Mem} {Q : Rs → Kp → Mem → Prop} (hW : LwH x m out B κ M) (hi : i + 7 ≤ X.1) (hX : X.1 ≤ 3584) (h3 : nc + 7 ≤ 601024) (h4 : ks + 42 ≤ 7293034) (hB : B < 1000000) (hN : Nxt X x m out i B nc ks κ.2.1 Q) : G X m_L_law B_L_law_180 180 (LoL x m out i) [] nc ks κ M Q := by
  obtain ⟨hx, hm, ho, hd, hd2, hJ⟩ := hW
  refine g_aload_n rfl ?_
  refine g_aload_n rfl ?_
  refine g_iload rfl ?_
  refine g_iconst (v := 1) ik_1 ?_
  refine g_iadd ?_
  refine g_sload (j := i + 1) (nI_add i 1) (by omega) (by omega) ?_
  refine g_aload_n rfl ?_
  refine g_callSH (as := [_, _, _]) mkh_L_append ml_L_111 sm_L_append rfl rfl (Lrm.rb ⟨⟨nle rfl, nle rfl⟩, nle rfl, nle rfl⟩ h3 h4) rfl rfl (nle rfl) ?_
  refine ct_L_append hx ho (pr_append hx hm hd hd2 hJ) (fun p v κ' M1 hp e1 e2 hv hc => ?_)
  refine kq_s ?_
  refine g_istore (nle rfl) ?_
  refine g_lo2 (lo' := LoK x m out i (nI p)) ?_ ⟨rfl, rfl, rfl, rfl, rfl, rfl, trivial⟩
  refine g_aload_n rfl ?_
  refine g_aload_n rfl ?_
  refine g_iload rfl ?_
  refine g_iconst (v := 1) ik_1 ?_
  refine g_iadd ?_
  refine g_sload (j := i + 1) (nI_add i 1) (by omega) (by omega) ?_
  show G X m_L_law (T1 116) 200 _ _ _ _ _ _ _
  exact lw_tail hN e1 hm ho hp hv hc mk_X8_append ml_L_116 im_X8_append se_X8_append ⟨⟨nle rfl, nle rfl⟩, rfl, rfl⟩ rfl rfl rfl (Nat.add_le_add_left (nle rfl) nc) (Nat.add_le_add_left (nle rfl) ks) h3 h4 L_L_law_216 L_L_law_233 (by decide)
set_option maxRecDepth 100000 in
theorem lw_c1 {X : Xs} {x m out i B nc ks : Nat} {κ : Kp} {M : Mem} {Q : Rs → Kp → Mem → Prop} (hW : LwH x m out B κ M) (hi : i + 7 ≤ X.1) (hX : X.1 ≤ 3584) (h3 : nc + 7 ≤ 601024) (h4 : ks + 42 ≤ 7293034) (hB : B < 1000000) (hN : Nxt X x m out i B nc ks κ.2.1 Q) : G X m_L_law B_L_law_236 236 (LoL x m out i) [] nc ks κ M Q := by
  obtain ⟨hx, hm, ho, hd, hd2, hJ⟩ := hW
  refine g_aload_n rfl ?_
  refine g_callV (as := []) mk_X7_clearText ml_L_120 im_X7_clearText se_X7_clearText rfl rfl (Lrm.rb ⟨⟨nle rfl, nle rfl⟩, nle rfl, nle rfl⟩ h3 h4) hx.1 rfl rfl rfl (nle rfl) ?_
  refine (pr_clearText hx hm hd hd2 hJ).mono fun r κ' M1 hP => ?_
  obtain ⟨p, v, hr, hc⟩ := hP
  rcases hr with ⟨rfl, rfl, rfl⟩ | ⟨e, _, hin, _⟩
  · refine kq_s ?_
    refine g_aload_n rfl ?_
    refine g_callV (as := []) mk_X8_clearText ml_L_123 im_X8_clearText se_X8_clearText rfl rfl (Lr0.rb ⟨⟨nle rfl, nle rfl⟩, rfl, rfl⟩ (Nat.le_trans (Nat.add_le_add_left (nle rfl) nc) h3) (Nat.le_trans (Nat.add_le_add_left (nle rfl) ks) h4)) hm.1 rfl rfl rfl (nle rfl) ?_
    refine hc M1 (fun _ _ => rfl) _ (fun M2 w hJ2 ht ho2 hw => ?_)
    rw [hw rfl]
    refine kq_s ?_
    refine g_icmp_eq (tgt := 2155) (is' := B_L_law_2155) rfl L_L_law_2155 (fun _ => ?_) (fun h => absurd rfl h)
    exact g_widen (Nat.add_le_add_left (nle rfl) nc) (Nat.add_le_add_left (nle rfl) ks) (g_lo2 (lo' := LoL x m out i) (hN κ' M2 rfl hJ2) ⟨rfl, rfl, rfl, rfl, rfl, trivial⟩)
  · exact absurd hin List.not_mem_nil
set_option maxRecDepth 100000 in
theorem lw_c2 {X : Xs} {x m out i B nc ks : Nat} {κ : Kp} {M : Mem} {Q : Rs → Kp → Mem → Prop} (hW : LwH x m out B κ M) (hi : i + 7 ≤ X.1) (hX : X.1 ≤ 3584) (h3 : nc + 7 ≤ 601024) (h4 : ks + 42 ≤ 7293034) (hB : B < 1000000) (hN : Nxt X x m out i B nc ks κ.2.1 Q) : G X m_L_law B_L_law_249 249 (LoL x m out i) [] nc ks κ M Q := by
  obtain ⟨hx, hm, ho, hd, hd2, hJ⟩ := hW
  refine g_aload_n rfl ?_
  refine g_callV (as := []) mk_X7_errorPosition ml_L_124 im_X7_errorPosition se_X7_errorPosition rfl rfl (Lrm.rb ⟨⟨nle rfl, nle rfl⟩, nle rfl, nle rfl⟩ h3 h4) hx.1 rfl rfl rfl (nle rfl) ?_
  refine (pr_errorPosition hx hm hd hd2 hJ).mono fun r κ' M1 hP => ?_
  obtain ⟨p, v, hr, hc⟩ := hP
  rcases hr with ⟨rfl, rfl, rfl⟩ | ⟨e, _, hin, _⟩
  · refine kq_s ?_
    refine g_aload_n rfl ?_
    refine g_callV (as := []) mk_X8_errorPosition ml_L_127 im_X8_errorPosition se_X8_errorPosition rfl rfl (Lr0.rb ⟨⟨nle rfl, nle rfl⟩, rfl, rfl⟩ (Nat.le_trans (Nat.add_le_add_left (nle rfl) nc) h3) (Nat.le_trans (Nat.add_le_add_left (nle rfl) ks) h4)) hm.1 rfl rfl rfl (nle rfl) ?_
    refine hc M1 (fun _ _ => rfl) _ (fun M2 w hJ2 ht ho2 hw => ?_)
    rw [hw rfl]
    refine kq_s ?_
    refine g_icmp_eq (tgt := 2155) (is' := B_L_law_2155) rfl L_L_law_2155 (fun _ => ?_) (fun h => absurd rfl h)
    exact g_widen (Nat.add_le_add_left (nle rfl) nc) (Nat.add_le_add_left (nle rfl) ks) (g_lo2 (lo' := LoL x m out i) (hN κ' M2 rfl hJ2) ⟨rfl, rfl, rfl, rfl, rfl, trivial⟩)
  · exact absurd hin List.not_mem_nil
set_option maxRecDepth 100000 in
theorem lw_c3 {X : Xs} {x m out i B nc ks : Nat} {κ : Kp} {M : Mem} {Q : Rs → Kp → Mem → Prop} (hW : LwH x m out B κ M) (hi : i + 7 ≤ X.1) (hX : X.1 ≤ 3584) (h3 : nc + 7 ≤ 601024) (h4 : ks + 42 ≤ 7293034) (hB : B < 1000000) (hN : Nxt X x m out i B nc ks κ.2.1 Q) : G X m_L_law B_L_law_262 262 (LoL x m out i) [] nc ks κ M Q := by
  obtain ⟨hx, hm, ho, hd, hd2, hJ⟩ := hW
  refine g_aload_n rfl ?_
  refine g_aload_n rfl ?_
  refine g_callSH (as := [_, _]) mkh_L_load ml_L_128 sm_L_load rfl rfl (Lrm.rb ⟨⟨nle rfl, nle rfl⟩, nle rfl, nle rfl⟩ h3 h4) rfl rfl (nle rfl) ?_
  refine ct_L_load hx ho (pr_load hx hm hd hd2 hJ) (fun p v κ' M1 hp e1 e2 hv hc => ?_)
  refine kq_s ?_
  refine g_istore (nle rfl) ?_
  refine g_lo2 (lo' := LoK x m out i (nI p)) ?_ ⟨rfl, rfl, rfl, rfl, rfl, rfl, trivial⟩
  refine g_aload_n rfl ?_
  show G X m_L_law (T1 131) 270 _ _ _ _ _ _ _
  exact lw_tail hN e1 hm ho hp hv hc mk_X8_load ml_L_131 im_X8_load se_X8_load ⟨⟨nle rfl, nle rfl⟩, rfl, rfl⟩ rfl rfl rfl (Nat.add_le_add_left (nle rfl) nc) (Nat.add_le_add_left (nle rfl) ks) h3 h4 L_L_law_286 L_L_law_303 (by decide)
set_option maxRecDepth 100000 in
theorem lw_c4 {X : Xs} {x m out i B nc ks : Nat} {κ : Kp} {M : Mem} {Q : Rs → Kp → Mem → Prop} (hW : LwH x m out B κ M) (hi : i + 7 ≤ X.1) (hX : X.1 ≤ 3584) (h3 : nc + 7 ≤ 601024) (h4 : ks + 42 ≤ 7293034) (hB : B < 1000000) (hN : Nxt X x m out i B nc ks κ.2.1 Q) : G X m_L_law B_L_law_306 306 (LoL x m out i) [] nc ks κ M Q := by
  obtain ⟨hx, hm, ho, hd, hd2, hJ⟩ := hW
  refine g_aload_n rfl ?_
  refine g_aload_n rfl ?_
  refine g_iload rfl ?_
  refine g_iconst (v := 1) ik_1 ?_
  refine g_iadd ?_
  refine g_sload (j := i + 1) (nI_add i 1) (by omega) (by omega) ?_
  refine g_aload_n rfl ?_
  refine g_callSH (as := [_, _, _]) mkh_L_about ml_L_132 sm_L_about rfl rfl (Lrm.rb ⟨⟨nle rfl, nle rfl⟩, nle rfl, nle rfl⟩ h3 h4) rfl rfl (nle rfl) ?_
  refine ct_L_about hx ho (pr_about hx hm hd hd2 hJ) (fun p v κ' M1 hp e1 e2 hv hc => ?_)
  refine kq_s ?_
  refine g_istore (nle rfl) ?_
  refine g_lo2 (lo' := LoK x m out i (nI p)) ?_ ⟨rfl, rfl, rfl, rfl, rfl, rfl, trivial⟩
  refine g_aload_n rfl ?_
  refine g_aload_n rfl ?_
  refine g_iload rfl ?_
  refine g_iconst (v := 1) ik_1 ?_
  refine g_iadd ?_
  refine g_sload (j := i + 1) (nI_add i 1) (by omega) (by omega) ?_
  show G X m_L_law (T1 134) 326 _ _ _ _ _ _ _
  exact lw_tail hN e1 hm ho hp hv hc mk_X8_about ml_L_134 im_X8_about se_X8_about ⟨⟨nle rfl, nle rfl⟩, rfl, rfl⟩ rfl rfl rfl (Nat.add_le_add_left (nle rfl) nc) (Nat.add_le_add_left (nle rfl) ks) h3 h4 L_L_law_342 L_L_law_359 (by decide)
set_option maxRecDepth 100000 in
theorem lw_c5 {X : Xs} {x m out i B nc ks : Nat} {κ : Kp} {M : Mem} {Q : Rs → Kp → Mem → Prop} (hW : LwH x m out B κ M) (hi : i + 7 ≤ X.1) (hX : X.1 ≤ 3584) (h3 : nc + 7 ≤ 601024) (h4 : ks + 42 ≤ 7293034) (hB : B < 1000000) (hN : Nxt X x m out i B nc ks κ.2.1 Q) : G X m_L_law B_L_law_362 362 (LoL x m out i) [] nc ks κ M Q := by
  obtain ⟨hx, hm, ho, hd, hd2, hJ⟩ := hW
  refine g_aload_n rfl ?_
  refine g_aload_n rfl ?_
  refine g_iload rfl ?_
  refine g_iconst (v := 1) ik_1 ?_
  refine g_iadd ?_
  refine g_sload (j := i + 1) (nI_add i 1) (by omega) (by omega) ?_
  refine g_aload_n rfl ?_
  refine g_iload rfl ?_
  refine g_iconst (v := 2) ik_2 ?_
  refine g_iadd ?_
  refine g_sload (j := i + 2) (nI_add i 2) (by omega) (by omega) ?_
  refine g_aload_n rfl ?_
  refine g_callSH (as := [_, _, _, _]) mkh_L_floorOf ml_L_135 sm_L_floorOf rfl rfl (Lrm.rb ⟨⟨nle rfl, nle rfl⟩, nle rfl, nle rfl⟩ h3 h4) rfl rfl (nle rfl) ?_
  refine ct_L_floorOf hx ho (pr_floorOf hx hm hd hd2 hJ) (fun p v κ' M1 hp e1 e2 hv hc => ?_)
  refine kq_s ?_
  refine g_istore (nle rfl) ?_
  refine g_lo2 (lo' := LoK x m out i (nI p)) ?_ ⟨rfl, rfl, rfl, rfl, rfl, rfl, trivial⟩
  refine g_aload_n rfl ?_
  refine g_aload_n rfl ?_
  refine g_iload rfl ?_
  refine g_iconst (v := 1) ik_1 ?_
  refine g_iadd ?_
  refine g_sload (j := i + 1) (nI_add i 1) (by omega) (by omega) ?_
  refine g_aload_n rfl ?_
  refine g_iload rfl ?_
  refine g_iconst (v := 2) ik_2 ?_
  refine g_iadd ?_
  refine g_sload (j := i + 2) (nI_add i 2) (by omega) (by omega) ?_
  show G X m_L_law (T1 138) 394 _ _ _ _ _ _ _
  exact lw_tail hN e1 hm ho hp hv hc mk_X8_floorOf ml_L_138 im_X8_floorOf se_X8_floorOf ⟨⟨nle rfl, nle rfl⟩, rfl, rfl⟩ rfl rfl rfl (Nat.add_le_add_left (nle rfl) nc) (Nat.add_le_add_left (nle rfl) ks) h3 h4 L_L_law_410 L_L_law_427 (by decide)
set_option maxRecDepth 100000 in
theorem lw_c6 {X : Xs} {x m out i B nc ks : Nat} {κ : Kp} {M : Mem} {Q : Rs → Kp → Mem → Prop} (hW : LwH x m out B κ M) (hi : i + 7 ≤ X.1) (hX : X.1 ≤ 3584) (h3 : nc + 7 ≤ 601024) (h4 : ks + 42 ≤ 7293034) (hB : B < 1000000) (hN : Nxt X x m out i B nc ks κ.2.1 Q) : G X m_L_law B_L_law_430 430 (LoL x m out i) [] nc ks κ M Q := by
  obtain ⟨hx, hm, ho, hd, hd2, hJ⟩ := hW
  refine g_aload_n rfl ?_
  refine g_aload_n rfl ?_
  refine g_iload rfl ?_
  refine g_iconst (v := 1) ik_1 ?_
  refine g_iadd ?_
  refine g_sload (j := i + 1) (nI_add i 1) (by omega) (by omega) ?_
  refine g_aload_n rfl ?_
  refine g_iload rfl ?_
  refine g_iconst (v := 2) ik_2 ?_
  refine g_iadd ?_
  refine g_sload (j := i + 2) (nI_add i 2) (by omega) (by omega) ?_
  refine g_aload_n rfl ?_
  refine g_callSH (as := [_, _, _, _]) mkh_L_teacherOf ml_L_139 sm_L_teacherOf rfl rfl (Lrm.rb ⟨⟨nle rfl, nle rfl⟩, nle rfl, nle rfl⟩ h3 h4) rfl rfl (nle rfl) ?_
  refine ct_L_teacherOf hx ho (pr_teacherOf hx hm hd hd2 hJ) (fun p v κ' M1 hp e1 e2 hv hc => ?_)
  refine kq_s ?_
  refine g_istore (nle rfl) ?_
  refine g_lo2 (lo' := LoK x m out i (nI p)) ?_ ⟨rfl, rfl, rfl, rfl, rfl, rfl, trivial⟩
  refine g_aload_n rfl ?_
  refine g_aload_n rfl ?_
  refine g_iload rfl ?_
  refine g_iconst (v := 1) ik_1 ?_
  refine g_iadd ?_
  refine g_sload (j := i + 1) (nI_add i 1) (by omega) (by omega) ?_
  refine g_aload_n rfl ?_
  refine g_iload rfl ?_
  refine g_iconst (v := 2) ik_2 ?_
  refine g_iadd ?_
  refine g_sload (j := i + 2) (nI_add i 2) (by omega) (by omega) ?_
  show G X m_L_law (T1 141) 462 _ _ _ _ _ _ _
  exact lw_tail hN e1 hm ho hp hv hc mk_X8_teacherOf ml_L_141 im_X8_teacherOf se_X8_teacherOf ⟨⟨nle rfl, nle rfl⟩, rfl, rfl⟩ rfl rfl rfl (Nat.add_le_add_left (nle rfl) nc) (Nat.add_le_add_left (nle rfl) ks) h3 h4 L_L_law_478 L_L_law_495 (by decide)
set_option maxRecDepth 100000 in
theorem lw_c7 {X : Xs} {x m out i B nc ks : Nat} {κ : Kp} {M : Mem} {Q : Rs → Kp → Mem → Prop} (hW : LwH x m out B κ M) (hi : i + 7 ≤ X.1) (hX : X.1 ≤ 3584) (h3 : nc + 7 ≤ 601024) (h4 : ks + 42 ≤ 7293034) (hB : B < 1000000) (hN : Nxt X x m out i B nc ks κ.2.1 Q) : G X m_L_law B_L_law_498 498 (LoL x m out i) [] nc ks κ M Q := by
  obtain ⟨hx, hm, ho, hd, hd2, hJ⟩ := hW
  refine g_aload_n rfl ?_
  refine g_aload_n rfl ?_
  refine g_iload rfl ?_
  refine g_iconst (v := 1) ik_1 ?_
  refine g_iadd ?_
  refine g_sload (j := i + 1) (nI_add i 1) (by omega) (by omega) ?_
  refine g_aload_n rfl ?_
  refine g_iload rfl ?_
  refine g_iconst (v := 2) ik_2 ?_
  refine g_iadd ?_
  refine g_sload (j := i + 2) (nI_add i 2) (by omega) (by omega) ?_
  refine g_aload_n rfl ?_
  refine g_callSH (as := [_, _, _, _]) mkh_L_classOf ml_L_142 sm_L_classOf rfl rfl (Lrm.rb ⟨⟨nle rfl, nle rfl⟩, nle rfl, nle rfl⟩ h3 h4) rfl rfl (nle rfl) ?_
  refine ct_L_classOf hx ho (pr_classOf hx hm hd hd2 hJ) (fun p v κ' M1 hp e1 e2 hv hc => ?_)
  refine kq_s ?_
  refine g_istore (nle rfl) ?_
  refine g_lo2 (lo' := LoK x m out i (nI p)) ?_ ⟨rfl, rfl, rfl, rfl, rfl, rfl, trivial⟩
  refine g_aload_n rfl ?_
  refine g_aload_n rfl ?_
  refine g_iload rfl ?_
  refine g_iconst (v := 1) ik_1 ?_
  refine g_iadd ?_
  refine g_sload (j := i + 1) (nI_add i 1) (by omega) (by omega) ?_
  refine g_aload_n rfl ?_
  refine g_iload rfl ?_
  refine g_iconst (v := 2) ik_2 ?_
  refine g_iadd ?_
  refine g_sload (j := i + 2) (nI_add i 2) (by omega) (by omega) ?_
  show G X m_L_law (T1 144) 530 _ _ _ _ _ _ _
  exact lw_tail hN e1 hm ho hp hv hc mk_X8_classOf ml_L_144 im_X8_classOf se_X8_classOf ⟨⟨nle rfl, nle rfl⟩, rfl, rfl⟩ rfl rfl rfl (Nat.add_le_add_left (nle rfl) nc) (Nat.add_le_add_left (nle rfl) ks) h3 h4 L_L_law_546 L_L_law_563 (by decide)
set_option maxRecDepth 100000 in
theorem lw_c8 {X : Xs} {x m out i B nc ks : Nat} {κ : Kp} {M : Mem} {Q : Rs → Kp → Mem → Prop} (hW : LwH x m out B κ M) (hi : i + 7 ≤ X.1) (hX : X.1 ≤ 3584) (h3 : nc + 7 ≤ 601024) (h4 : ks + 42 ≤ 7293034) (hB : B < 1000000) (hN : Nxt X x m out i B nc ks κ.2.1 Q) : G X m_L_law B_L_law_566 566 (LoL x m out i) [] nc ks κ M Q := by
  obtain ⟨hx, hm, ho, hd, hd2, hJ⟩ := hW
  refine g_aload_n rfl ?_
  refine g_aload_n rfl ?_
  refine g_iload rfl ?_
  refine g_iconst (v := 1) ik_1 ?_
  refine g_iadd ?_
  refine g_sload (j := i + 1) (nI_add i 1) (by omega) (by omega) ?_
  refine g_aload_n rfl ?_
  refine g_iload rfl ?_
  refine g_iconst (v := 2) ik_2 ?_
  refine g_iadd ?_
  refine g_sload (j := i + 2) (nI_add i 2) (by omega) (by omega) ?_
  refine g_aload_n rfl ?_
  refine g_callSH (as := [_, _, _, _]) mkh_L_dancerOf ml_L_145 sm_L_dancerOf rfl rfl (Lrm.rb ⟨⟨nle rfl, nle rfl⟩, nle rfl, nle rfl⟩ h3 h4) rfl rfl (nle rfl) ?_
  refine ct_L_dancerOf hx ho (pr_dancerOf hx hm hd hd2 hJ) (fun p v κ' M1 hp e1 e2 hv hc => ?_)
  refine kq_s ?_
  refine g_istore (nle rfl) ?_
  refine g_lo2 (lo' := LoK x m out i (nI p)) ?_ ⟨rfl, rfl, rfl, rfl, rfl, rfl, trivial⟩
  refine g_aload_n rfl ?_
  refine g_aload_n rfl ?_
  refine g_iload rfl ?_
  refine g_iconst (v := 1) ik_1 ?_
  refine g_iadd ?_
  refine g_sload (j := i + 1) (nI_add i 1) (by omega) (by omega) ?_
  refine g_aload_n rfl ?_
  refine g_iload rfl ?_
  refine g_iconst (v := 2) ik_2 ?_
  refine g_iadd ?_
  refine g_sload (j := i + 2) (nI_add i 2) (by omega) (by omega) ?_
  show G X m_L_law (T1 147) 598 _ _ _ _ _ _ _
  exact lw_tail hN e1 hm ho hp hv hc mk_X8_dancerOf ml_L_147 im_X8_dancerOf se_X8_dancerOf ⟨⟨nle rfl, nle rfl⟩, rfl, rfl⟩ rfl rfl rfl (Nat.add_le_add_left (nle rfl) nc) (Nat.add_le_add_left (nle rfl) ks) h3 h4 L_L_law_614 L_L_law_631 (by decide)
set_option maxRecDepth 100000 in
theorem lw_c9 {X : Xs} {x m out i B nc ks : Nat} {κ : Kp} {M : Mem} {Q : Rs → Kp → Mem → Prop} (hW : LwH x m out B κ M) (hi : i + 7 ≤ X.1) (hX : X.1 ≤ 3584) (h3 : nc + 7 ≤ 601024) (h4 : ks + 42 ≤ 7293034) (hB : B < 1000000) (hN : Nxt X x m out i B nc ks κ.2.1 Q) : G X m_L_law B_L_law_634 634 (LoL x m out i) [] nc ks κ M Q := by
  obtain ⟨hx, hm, ho, hd, hd2, hJ⟩ := hW
  refine g_aload_n rfl ?_
  refine g_aload_n rfl ?_
  refine g_iload rfl ?_
  refine g_iconst (v := 1) ik_1 ?_
  refine g_iadd ?_
  refine g_sload (j := i + 1) (nI_add i 1) (by omega) (by omega) ?_
  refine g_aload_n rfl ?_
  refine g_callSH (as := [_, _, _]) mkh_L_uses ml_L_148 sm_L_uses rfl rfl (Lrm.rb ⟨⟨nle rfl, nle rfl⟩, nle rfl, nle rfl⟩ h3 h4) rfl rfl (nle rfl) ?_
  refine ct_L_uses hx ho (pr_uses hx hm hd hd2 hJ) (fun p v κ' M1 hp e1 e2 hv hc => ?_)
  refine kq_s ?_
  refine g_istore (nle rfl) ?_
  refine g_lo2 (lo' := LoK x m out i (nI p)) ?_ ⟨rfl, rfl, rfl, rfl, rfl, rfl, trivial⟩
  refine g_aload_n rfl ?_
  refine g_aload_n rfl ?_
  refine g_iload rfl ?_
  refine g_iconst (v := 1) ik_1 ?_
  refine g_iadd ?_
  refine g_sload (j := i + 1) (nI_add i 1) (by omega) (by omega) ?_
  show G X m_L_law (T1 150) 654 _ _ _ _ _ _ _
  exact lw_tail hN e1 hm ho hp hv hc mk_X8_uses ml_L_150 im_X8_uses se_X8_uses ⟨⟨nle rfl, nle rfl⟩, rfl, rfl⟩ rfl rfl rfl (Nat.add_le_add_left (nle rfl) nc) (Nat.add_le_add_left (nle rfl) ks) h3 h4 L_L_law_670 L_L_law_687 (by decide)
set_option maxRecDepth 100000 in
theorem lw_c10 {X : Xs} {x m out i B nc ks : Nat} {κ : Kp} {M : Mem} {Q : Rs → Kp → Mem → Prop} (hW : LwH x m out B κ M) (hi : i + 7 ≤ X.1) (hX : X.1 ≤ 3584) (h3 : nc + 7 ≤ 601024) (h4 : ks + 42 ≤ 7293034) (hB : B < 1000000) (hN : Nxt X x m out i B nc ks κ.2.1 Q) : G X m_L_law B_L_law_690 690 (LoL x m out i) [] nc ks κ M Q := by
  obtain ⟨hx, hm, ho, hd, hd2, hJ⟩ := hW
  refine g_aload_n rfl ?_
  refine g_aload_n rfl ?_
  refine g_iload rfl ?_
  refine g_iconst (v := 1) ik_1 ?_
  refine g_iadd ?_
  refine g_sload (j := i + 1) (nI_add i 1) (by omega) (by omega) ?_
  refine g_aload_n rfl ?_
  refine g_callSH (as := [_, _, _]) mkh_L_setting ml_L_151 sm_L_setting rfl rfl (Lrm.rb ⟨⟨nle rfl, nle rfl⟩, nle rfl, nle rfl⟩ h3 h4) rfl rfl (nle rfl) ?_
  refine ct_L_setting hx ho (pr_setting hx hm hd hd2 hJ) (fun p v κ' M1 hp e1 e2 hv hc => ?_)
  refine kq_s ?_
  refine g_istore (nle rfl) ?_
  refine g_lo2 (lo' := LoK x m out i (nI p)) ?_ ⟨rfl, rfl, rfl, rfl, rfl, rfl, trivial⟩
  refine g_aload_n rfl ?_
  refine g_aload_n rfl ?_
  refine g_iload rfl ?_
  refine g_iconst (v := 1) ik_1 ?_
  refine g_iadd ?_
  refine g_sload (j := i + 1) (nI_add i 1) (by omega) (by omega) ?_
  show G X m_L_law (T1 153) 710 _ _ _ _ _ _ _
  exact lw_tail hN e1 hm ho hp hv hc mk_X8_setting ml_L_153 im_X8_setting se_X8_setting ⟨⟨nle rfl, nle rfl⟩, rfl, rfl⟩ rfl rfl rfl (Nat.add_le_add_left (nle rfl) nc) (Nat.add_le_add_left (nle rfl) ks) h3 h4 L_L_law_726 L_L_law_743 (by decide)
set_option maxRecDepth 100000 in
theorem lw_c11 {X : Xs} {x m out i B nc ks : Nat} {κ : Kp} {M : Mem} {Q : Rs → Kp → Mem → Prop} (hW : LwH x m out B κ M) (hi : i + 7 ≤ X.1) (hX : X.1 ≤ 3584) (h3 : nc + 7 ≤ 601024) (h4 : ks + 42 ≤ 7293034) (hB : B < 1000000) (hN : Nxt X x m out i B nc ks κ.2.1 Q) : G X m_L_law B_L_law_746 746 (LoL x m out i) [] nc ks κ M Q := by
  obtain ⟨hx, hm, ho, hd, hd2, hJ⟩ := hW
  refine g_aload_n rfl ?_
  refine g_aload_n rfl ?_
  refine g_iload rfl ?_
  refine g_iconst (v := 1) ik_1 ?_
  refine g_iadd ?_
  refine g_sload (j := i + 1) (nI_add i 1) (by omega) (by omega) ?_
  refine g_aload_n rfl ?_
  refine g_iload rfl ?_
  refine g_iconst (v := 2) ik_2 ?_
  refine g_iadd ?_
  refine g_sload (j := i + 2) (nI_add i 2) (by omega) (by omega) ?_
  refine g_aload_n rfl ?_
  refine g_iload rfl ?_
  refine g_iconst (v := 3) ik_3 ?_
  refine g_iadd ?_
  refine g_sload (j := i + 3) (nI_add i 3) (by omega) (by omega) ?_
  refine g_aload_n rfl ?_
  refine g_iload rfl ?_
  refine g_iconst (v := 4) ik_4 ?_
  refine g_iadd ?_
  refine g_sload (j := i + 4) (nI_add i 4) (by omega) (by omega) ?_
  refine g_aload_n rfl ?_
  refine g_callSH (as := [_, _, _, _, _, _]) mkh_L_floor ml_L_154 sm_L_floor rfl rfl (Lrm.rb ⟨⟨nle rfl, nle rfl⟩, nle rfl, nle rfl⟩ h3 h4) rfl rfl (nle rfl) ?_
  refine ct_L_floor hx ho (pr_floor hx hm hd hd2 hJ) (fun p v κ' M1 hp e1 e2 hv hc => ?_)
  refine kq_s ?_
  refine g_istore (nle rfl) ?_
  refine g_lo2 (lo' := LoK x m out i (nI p)) ?_ ⟨rfl, rfl, rfl, rfl, rfl, rfl, trivial⟩
  refine g_aload_n rfl ?_
  refine g_aload_n rfl ?_
  refine g_iload rfl ?_
  refine g_iconst (v := 1) ik_1 ?_
  refine g_iadd ?_
  refine g_sload (j := i + 1) (nI_add i 1) (by omega) (by omega) ?_
  refine g_aload_n rfl ?_
  refine g_iload rfl ?_
  refine g_iconst (v := 2) ik_2 ?_
  refine g_iadd ?_
  refine g_sload (j := i + 2) (nI_add i 2) (by omega) (by omega) ?_
  refine g_aload_n rfl ?_
  refine g_iload rfl ?_
  refine g_iconst (v := 3) ik_3 ?_
  refine g_iadd ?_
  refine g_sload (j := i + 3) (nI_add i 3) (by omega) (by omega) ?_
  refine g_aload_n rfl ?_
  refine g_iload rfl ?_
  refine g_iconst (v := 4) ik_4 ?_
  refine g_iadd ?_
  refine g_sload (j := i + 4) (nI_add i 4) (by omega) (by omega) ?_
  show G X m_L_law (T1 157) 802 _ _ _ _ _ _ _
  exact lw_tail hN e1 hm ho hp hv hc mk_X8_floor ml_L_157 im_X8_floor se_X8_floor ⟨⟨nle rfl, nle rfl⟩, rfl, rfl⟩ rfl rfl rfl (Nat.add_le_add_left (nle rfl) nc) (Nat.add_le_add_left (nle rfl) ks) h3 h4 L_L_law_818 L_L_law_835 (by decide)
set_option maxRecDepth 100000 in
theorem lw_c12 {X : Xs} {x m out i B nc ks : Nat} {κ : Kp} {M : Mem} {Q : Rs → Kp → Mem → Prop} (hW : LwH x m out B κ M) (hi : i + 7 ≤ X.1) (hX : X.1 ≤ 3584) (h3 : nc + 7 ≤ 601024) (h4 : ks + 42 ≤ 7293034) (hB : B < 1000000) (hN : Nxt X x m out i B nc ks κ.2.1 Q) : G X m_L_law B_L_law_838 838 (LoL x m out i) [] nc ks κ M Q := by
  obtain ⟨hx, hm, ho, hd, hd2, hJ⟩ := hW
  refine g_aload_n rfl ?_
  refine g_aload_n rfl ?_
  refine g_iload rfl ?_
  refine g_iconst (v := 1) ik_1 ?_
  refine g_iadd ?_
  refine g_sload (j := i + 1) (nI_add i 1) (by omega) (by omega) ?_
  refine g_aload_n rfl ?_
  refine g_iload rfl ?_
  refine g_iconst (v := 2) ik_2 ?_
  refine g_iadd ?_
  refine g_sload (j := i + 2) (nI_add i 2) (by omega) (by omega) ?_
  refine g_aload_n rfl ?_
  refine g_callSH (as := [_, _, _, _]) mkh_L_teacher ml_L_158 sm_L_teacher rfl rfl (Lrm.rb ⟨⟨nle rfl, nle rfl⟩, nle rfl, nle rfl⟩ h3 h4) rfl rfl (nle rfl) ?_
  refine ct_L_teacher hx ho (pr_teacher hx hm hd hd2 hJ) (fun p v κ' M1 hp e1 e2 hv hc => ?_)
  refine kq_s ?_
  refine g_istore (nle rfl) ?_
  refine g_lo2 (lo' := LoK x m out i (nI p)) ?_ ⟨rfl, rfl, rfl, rfl, rfl, rfl, trivial⟩
  refine g_aload_n rfl ?_
  refine g_aload_n rfl ?_
  refine g_iload rfl ?_
  refine g_iconst (v := 1) ik_1 ?_
  refine g_iadd ?_
  refine g_sload (j := i + 1) (nI_add i 1) (by omega) (by omega) ?_
  refine g_aload_n rfl ?_
  refine g_iload rfl ?_
  refine g_iconst (v := 2) ik_2 ?_
  refine g_iadd ?_
  refine g_sload (j := i + 2) (nI_add i 2) (by omega) (by omega) ?_
  show G X m_L_law (T1 160) 870 _ _ _ _ _ _ _
  exact lw_tail hN e1 hm ho hp hv hc mk_X8_teacher ml_L_160 im_X8_teacher se_X8_teacher ⟨⟨nle rfl, nle rfl⟩, rfl, rfl⟩ rfl rfl rfl (Nat.add_le_add_left (nle rfl) nc) (Nat.add_le_add_left (nle rfl) ks) h3 h4 L_L_law_886 L_L_law_903 (by decide)
set_option maxRecDepth 100000 in
theorem lw_c13 {X : Xs} {x m out i B nc ks : Nat} {κ : Kp} {M : Mem} {Q : Rs → Kp → Mem → Prop} (hW : LwH x m out B κ M) (hi : i + 7 ≤ X.1) (hX : X.1 ≤ 3584) (h3 : nc + 7 ≤ 601024) (h4 : ks + 42 ≤ 7293034) (hB : B < 1000000) (hN : Nxt X x m out i B nc ks κ.2.1 Q) : G X m_L_law B_L_law_906 906 (LoL x m out i) [] nc ks κ M Q := by
  obtain ⟨hx, hm, ho, hd, hd2, hJ⟩ := hW
  refine g_aload_n rfl ?_
  refine g_aload_n rfl ?_
  refine g_iload rfl ?_
  refine g_iconst (v := 1) ik_1 ?_
  refine g_iadd ?_
  refine g_sload (j := i + 1) (nI_add i 1) (by omega) (by omega) ?_
  refine g_aload_n rfl ?_
  refine g_iload rfl ?_
  refine g_iconst (v := 2) ik_2 ?_
  refine g_iadd ?_
  refine g_sload (j := i + 2) (nI_add i 2) (by omega) (by omega) ?_
  refine g_aload_n rfl ?_
  refine g_iload rfl ?_
  refine g_iconst (v := 3) ik_3 ?_
  refine g_iadd ?_
  refine g_sload (j := i + 3) (nI_add i 3) (by omega) (by omega) ?_
  refine g_aload_n rfl ?_
  refine g_iload rfl ?_
  refine g_iconst (v := 4) ik_4 ?_
  refine g_iadd ?_
  refine g_sload (j := i + 4) (nI_add i 4) (by omega) (by omega) ?_
  refine g_aload_n rfl ?_
  refine g_iload rfl ?_
  refine g_iconst (v := 5) ik_5 ?_
  refine g_iadd ?_
  refine g_sload (j := i + 5) (nI_add i 5) (by omega) (by omega) ?_
  refine g_aload_n rfl ?_
  refine g_iload rfl ?_
  refine g_bipush (v := 6) bk_6 ?_
  refine g_iadd ?_
  refine g_sload (j := i + 6) (nI_add i 6) (by omega) (by omega) ?_
  refine g_aload_n rfl ?_
  refine g_callSH (as := [_, _, _, _, _, _, _, _]) mkh_L_set ml_L_161 sm_L_set rfl rfl (Lrm.rb ⟨⟨nle rfl, nle rfl⟩, nle rfl, nle rfl⟩ h3 h4) rfl rfl (nle rfl) ?_
  refine ct_L_set hx ho (pr_set hx hm hd hd2 hJ) (fun p v κ' M1 hp e1 e2 hv hc => ?_)
  refine kq_s ?_
  refine g_istore (nle rfl) ?_
  refine g_lo2 (lo' := LoK x m out i (nI p)) ?_ ⟨rfl, rfl, rfl, rfl, rfl, rfl, trivial⟩
  refine g_aload_n rfl ?_
  refine g_aload_n rfl ?_
  refine g_iload rfl ?_
  refine g_iconst (v := 1) ik_1 ?_
  refine g_iadd ?_
  refine g_sload (j := i + 1) (nI_add i 1) (by omega) (by omega) ?_
  refine g_aload_n rfl ?_
  refine g_iload rfl ?_
  refine g_iconst (v := 2) ik_2 ?_
  refine g_iadd ?_
  refine g_sload (j := i + 2) (nI_add i 2) (by omega) (by omega) ?_
  refine g_aload_n rfl ?_
  refine g_iload rfl ?_
  refine g_iconst (v := 3) ik_3 ?_
  refine g_iadd ?_
  refine g_sload (j := i + 3) (nI_add i 3) (by omega) (by omega) ?_
  refine g_aload_n rfl ?_
  refine g_iload rfl ?_
  refine g_iconst (v := 4) ik_4 ?_
  refine g_iadd ?_
  refine g_sload (j := i + 4) (nI_add i 4) (by omega) (by omega) ?_
  refine g_aload_n rfl ?_
  refine g_iload rfl ?_
  refine g_iconst (v := 5) ik_5 ?_
  refine g_iadd ?_
  refine g_sload (j := i + 5) (nI_add i 5) (by omega) (by omega) ?_
  refine g_aload_n rfl ?_
  refine g_iload rfl ?_
  refine g_bipush (v := 6) bk_6 ?_
  refine g_iadd ?_
  refine g_sload (j := i + 6) (nI_add i 6) (by omega) (by omega) ?_
  show G X m_L_law (T1 164) 988 _ _ _ _ _ _ _
  exact lw_tail hN e1 hm ho hp hv hc mk_X8_set ml_L_164 im_X8_set se_X8_set ⟨⟨nle rfl, nle rfl⟩, rfl, rfl⟩ rfl rfl rfl (Nat.add_le_add_left (nle rfl) nc) (Nat.add_le_add_left (nle rfl) ks) h3 h4 L_L_law_1004 L_L_law_1021 (by decide)
set_option maxRecDepth 100000 in
theorem lw_c14 {X : Xs} {x m out i B nc ks : Nat} {κ : Kp} {M : Mem} {Q : Rs → Kp → Mem → Prop} (hW : LwH x m out B κ M) (hi : i + 7 ≤ X.1) (hX : X.1 ≤ 3584) (h3 : nc + 7 ≤ 601024) (h4 : ks + 42 ≤ 7293034) (hB : B < 1000000) (hN : Nxt X x m out i B nc ks κ.2.1 Q) : G X m_L_law B_L_law_1024 1024 (LoL x m out i) [] nc ks κ M Q := by
  obtain ⟨hx, hm, ho, hd, hd2, hJ⟩ := hW
  refine g_aload_n rfl ?_
  refine g_aload_n rfl ?_
  refine g_iload rfl ?_
  refine g_iconst (v := 1) ik_1 ?_
  refine g_iadd ?_
  refine g_sload (j := i + 1) (nI_add i 1) (by omega) (by omega) ?_
  refine g_aload_n rfl ?_
  refine g_callSH (as := [_, _, _]) mkh_L_drop ml_L_165 sm_L_drop rfl rfl (Lrm.rb ⟨⟨nle rfl, nle rfl⟩, nle rfl, nle rfl⟩ h3 h4) rfl rfl (nle rfl) ?_
  refine ct_L_drop hx ho (pr_drop hx hm hd hd2 hJ) (fun p v κ' M1 hp e1 e2 hv hc => ?_)
  refine kq_s ?_
  refine g_istore (nle rfl) ?_
  refine g_lo2 (lo' := LoK x m out i (nI p)) ?_ ⟨rfl, rfl, rfl, rfl, rfl, rfl, trivial⟩
  refine g_aload_n rfl ?_
  refine g_aload_n rfl ?_
  refine g_iload rfl ?_
  refine g_iconst (v := 1) ik_1 ?_
  refine g_iadd ?_
  refine g_sload (j := i + 1) (nI_add i 1) (by omega) (by omega) ?_
  show G X m_L_law (T1 167) 1044 _ _ _ _ _ _ _
  exact lw_tail hN e1 hm ho hp hv hc mk_X8_drop ml_L_167 im_X8_drop se_X8_drop ⟨⟨nle rfl, nle rfl⟩, rfl, rfl⟩ rfl rfl rfl (Nat.add_le_add_left (nle rfl) nc) (Nat.add_le_add_left (nle rfl) ks) h3 h4 L_L_law_1060 L_L_law_1077 (by decide)
set_option maxRecDepth 100000 in
theorem lw_c15 {X : Xs} {x m out i B nc ks : Nat} {κ : Kp} {M : Mem} {Q : Rs → Kp → Mem → Prop} (hW : LwH x m out B κ M) (hi : i + 7 ≤ X.1) (hX : X.1 ≤ 3584) (h3 : nc + 7 ≤ 601024) (h4 : ks + 42 ≤ 7293034) (hB : B < 1000000) (hN : Nxt X x m out i B nc ks κ.2.1 Q) : G X m_L_law B_L_law_1080 1080 (LoL x m out i) [] nc ks κ M Q := by
  obtain ⟨hx, hm, ho, hd, hd2, hJ⟩ := hW
  refine g_aload_n rfl ?_
  refine g_aload_n rfl ?_
  refine g_callSH (as := [_, _]) mkh_L_dancer ml_L_168 sm_L_dancer rfl rfl (Lrm.rb ⟨⟨nle rfl, nle rfl⟩, nle rfl, nle rfl⟩ h3 h4) rfl rfl (nle rfl) ?_
  refine ct_L_dancer hx ho (pr_dancer hx hm hd hd2 hJ) (fun p v κ' M1 hp e1 e2 hv hc => ?_)
  refine kq_s ?_
  refine g_istore (nle rfl) ?_
  refine g_lo2 (lo' := LoK x m out i (nI p)) ?_ ⟨rfl, rfl, rfl, rfl, rfl, rfl, trivial⟩
  refine g_aload_n rfl ?_
  show G X m_L_law (T1 170) 1088 _ _ _ _ _ _ _
  exact lw_tail hN e1 hm ho hp hv hc mk_X8_dancer ml_L_170 im_X8_dancer se_X8_dancer ⟨⟨nle rfl, nle rfl⟩, rfl, rfl⟩ rfl rfl rfl (Nat.add_le_add_left (nle rfl) nc) (Nat.add_le_add_left (nle rfl) ks) h3 h4 L_L_law_1104 L_L_law_1121 (by decide)
set_option maxRecDepth 100000 in
theorem lw_c16 {X : Xs} {x m out i B nc ks : Nat} {κ : Kp} {M : Mem} {Q : Rs → Kp → Mem → Prop} (hW : LwH x m out B κ M) (hi : i + 7 ≤ X.1) (hX : X.1 ≤ 3584) (h3 : nc + 7 ≤ 601024) (h4 : ks + 42 ≤ 7293034) (hB : B < 1000000) (hN : Nxt X x m out i B nc ks κ.2.1 Q) : G X m_L_law B_L_law_1124 1124 (LoL x m out i) [] nc ks κ M Q := by
  obtain ⟨hx, hm, ho, hd, hd2, hJ⟩ := hW
  refine g_aload_n rfl ?_
  refine g_aload_n rfl ?_
  refine g_iload rfl ?_
  refine g_iconst (v := 1) ik_1 ?_
  refine g_iadd ?_
  refine g_sload (j := i + 1) (nI_add i 1) (by omega) (by omega) ?_
  refine g_aload_n rfl ?_
  refine g_callSH (as := [_, _, _]) mkh_L_pass ml_L_171 sm_L_pass rfl rfl (Lrm.rb ⟨⟨nle rfl, nle rfl⟩, nle rfl, nle rfl⟩ h3 h4) rfl rfl (nle rfl) ?_
  refine ct_L_pass hx ho (pr_pass hx hm hd hd2 hJ) (fun p v κ' M1 hp e1 e2 hv hc => ?_)
  refine kq_s ?_
  refine g_istore (nle rfl) ?_
  refine g_lo2 (lo' := LoK x m out i (nI p)) ?_ ⟨rfl, rfl, rfl, rfl, rfl, rfl, trivial⟩
  refine g_aload_n rfl ?_
  refine g_aload_n rfl ?_
  refine g_iload rfl ?_
  refine g_iconst (v := 1) ik_1 ?_
  refine g_iadd ?_
  refine g_sload (j := i + 1) (nI_add i 1) (by omega) (by omega) ?_
  show G X m_L_law (T1 173) 1144 _ _ _ _ _ _ _
  exact lw_tail hN e1 hm ho hp hv hc mk_X8_pass ml_L_173 im_X8_pass se_X8_pass ⟨⟨nle rfl, nle rfl⟩, rfl, rfl⟩ rfl rfl rfl (Nat.add_le_add_left (nle rfl) nc) (Nat.add_le_add_left (nle rfl) ks) h3 h4 L_L_law_1160 L_L_law_1177 (by decide)
set_option maxRecDepth 100000 in
theorem lw_c17 {X : Xs} {x m out i B nc ks : Nat} {κ : Kp} {M : Mem} {Q : Rs → Kp → Mem → Prop} (hW : LwH x m out B κ M) (hi : i + 7 ≤ X.1) (hX : X.1 ≤ 3584) (h3 : nc + 7 ≤ 601024) (h4 : ks + 42 ≤ 7293034) (hB : B < 1000000) (hN : Nxt X x m out i B nc ks κ.2.1 Q) : G X m_L_law B_L_law_1180 1180 (LoL x m out i) [] nc ks κ M Q := by
  obtain ⟨hx, hm, ho, hd, hd2, hJ⟩ := hW
  refine g_aload_n rfl ?_
  refine g_aload_n rfl ?_
  refine g_iload rfl ?_
  refine g_iconst (v := 1) ik_1 ?_
  refine g_iadd ?_
  refine g_sload (j := i + 1) (nI_add i 1) (by omega) (by omega) ?_
  refine g_aload_n rfl ?_
  refine g_iload rfl ?_
  refine g_iconst (v := 2) ik_2 ?_
  refine g_iadd ?_
  refine g_sload (j := i + 2) (nI_add i 2) (by omega) (by omega) ?_
  refine g_aload_n rfl ?_
  refine g_callSH (as := [_, _, _, _]) mkh_L_enter ml_L_174 sm_L_enter rfl rfl (Lrm.rb ⟨⟨nle rfl, nle rfl⟩, nle rfl, nle rfl⟩ h3 h4) rfl rfl (nle rfl) ?_
  refine ct_L_enter hx ho (pr_enter hx hm hd hd2 hJ) (fun p v κ' M1 hp e1 e2 hv hc => ?_)
  refine kq_s ?_
  refine g_istore (nle rfl) ?_
  refine g_lo2 (lo' := LoK x m out i (nI p)) ?_ ⟨rfl, rfl, rfl, rfl, rfl, rfl, trivial⟩
  refine g_aload_n rfl ?_
  refine g_aload_n rfl ?_
  refine g_iload rfl ?_
  refine g_iconst (v := 1) ik_1 ?_
  refine g_iadd ?_
  refine g_sload (j := i + 1) (nI_add i 1) (by omega) (by omega) ?_
  refine g_aload_n rfl ?_
  refine g_iload rfl ?_
  refine g_iconst (v := 2) ik_2 ?_
  refine g_iadd ?_
  refine g_sload (j := i + 2) (nI_add i 2) (by omega) (by omega) ?_
  show G X m_L_law (T1 176) 1212 _ _ _ _ _ _ _
  exact lw_tail hN e1 hm ho hp hv hc mk_X8_enter ml_L_176 im_X8_enter se_X8_enter ⟨⟨nle rfl, nle rfl⟩, rfl, rfl⟩ rfl rfl rfl (Nat.add_le_add_left (nle rfl) nc) (Nat.add_le_add_left (nle rfl) ks) h3 h4 L_L_law_1228 L_L_law_1245 (by decide)
set_option maxRecDepth 100000 in
theorem lw_c18 {X : Xs} {x m out i B nc ks : Nat} {κ : Kp} {M : Mem} {Q : Rs → Kp → Mem → Prop} (hW : LwH x m out B κ M) (hi : i + 7 ≤ X.1) (hX : X.1 ≤ 3584) (h3 : nc + 7 ≤ 601024) (h4 : ks + 42 ≤ 7293034) (hB : B < 1000000) (hN : Nxt X x m out i B nc ks κ.2.1 Q) : G X m_L_law B_L_law_1248 1248 (LoL x m out i) [] nc ks κ M Q := by
  obtain ⟨hx, hm, ho, hd, hd2, hJ⟩ := hW
  refine g_aload_n rfl ?_
  refine g_aload_n rfl ?_
  refine g_iload rfl ?_
  refine g_iconst (v := 1) ik_1 ?_
  refine g_iadd ?_
  refine g_sload (j := i + 1) (nI_add i 1) (by omega) (by omega) ?_
  refine g_aload_n rfl ?_
  refine g_iload rfl ?_
  refine g_iconst (v := 2) ik_2 ?_
  refine g_iadd ?_
  refine g_sload (j := i + 2) (nI_add i 2) (by omega) (by omega) ?_
  refine g_aload_n rfl ?_
  refine g_callSH (as := [_, _, _, _]) mkh_L_leave ml_L_177 sm_L_leave rfl rfl (Lrm.rb ⟨⟨nle rfl, nle rfl⟩, nle rfl, nle rfl⟩ h3 h4) rfl rfl (nle rfl) ?_
  refine ct_L_leave hx ho (pr_leave hx hm hd hd2 hJ) (fun p v κ' M1 hp e1 e2 hv hc => ?_)
  refine kq_s ?_
  refine g_istore (nle rfl) ?_
  refine g_lo2 (lo' := LoK x m out i (nI p)) ?_ ⟨rfl, rfl, rfl, rfl, rfl, rfl, trivial⟩
  refine g_aload_n rfl ?_
  refine g_aload_n rfl ?_
  refine g_iload rfl ?_
  refine g_iconst (v := 1) ik_1 ?_
  refine g_iadd ?_
  refine g_sload (j := i + 1) (nI_add i 1) (by omega) (by omega) ?_
  refine g_aload_n rfl ?_
  refine g_iload rfl ?_
  refine g_iconst (v := 2) ik_2 ?_
  refine g_iadd ?_
  refine g_sload (j := i + 2) (nI_add i 2) (by omega) (by omega) ?_
  show G X m_L_law (T1 179) 1280 _ _ _ _ _ _ _
  exact lw_tail hN e1 hm ho hp hv hc mk_X8_leave ml_L_179 im_X8_leave se_X8_leave ⟨⟨nle rfl, nle rfl⟩, rfl, rfl⟩ rfl rfl rfl (Nat.add_le_add_left (nle rfl) nc) (Nat.add_le_add_left (nle rfl) ks) h3 h4 L_L_law_1296 L_L_law_1313 (by decide)
set_option maxRecDepth 100000 in
theorem lw_c19 {X : Xs} {x m out i B nc ks : Nat} {κ : Kp} {M : Mem} {Q : Rs → Kp → Mem → Prop} (hW : LwH x m out B κ M) (hi : i + 7 ≤ X.1) (hX : X.1 ≤ 3584) (h3 : nc + 7 ≤ 601024) (h4 : ks + 42 ≤ 7293034) (hB : B < 1000000) (hN : Nxt X x m out i B nc ks κ.2.1 Q) : G X m_L_law B_L_law_1316 1316 (LoL x m out i) [] nc ks κ M Q := by
  obtain ⟨hx, hm, ho, hd, hd2, hJ⟩ := hW
  refine g_aload_n rfl ?_
  refine g_aload_n rfl ?_
  refine g_iload rfl ?_
  refine g_iconst (v := 1) ik_1 ?_
  refine g_iadd ?_
  refine g_sload (j := i + 1) (nI_add i 1) (by omega) (by omega) ?_
  refine g_aload_n rfl ?_
  refine g_callSH (as := [_, _, _]) mkh_L_weeks ml_L_180 sm_L_weeks rfl rfl (Lrm.rb ⟨⟨nle rfl, nle rfl⟩, nle rfl, nle rfl⟩ h3 h4) rfl rfl (nle rfl) ?_
  refine ct_L_weeks hx ho (pr_weeks hx hm hd hd2 hJ) (fun p v κ' M1 hp e1 e2 hv hc => ?_)
  refine kq_s ?_
  refine g_istore (nle rfl) ?_
  refine g_lo2 (lo' := LoK x m out i (nI p)) ?_ ⟨rfl, rfl, rfl, rfl, rfl, rfl, trivial⟩
  refine g_aload_n rfl ?_
  refine g_aload_n rfl ?_
  refine g_iload rfl ?_
  refine g_iconst (v := 1) ik_1 ?_
  refine g_iadd ?_
  refine g_sload (j := i + 1) (nI_add i 1) (by omega) (by omega) ?_
  show G X m_L_law (T1 182) 1336 _ _ _ _ _ _ _
  exact lw_tail hN e1 hm ho hp hv hc mk_X8_weeks ml_L_182 im_X8_weeks se_X8_weeks ⟨⟨nle rfl, nle rfl⟩, rfl, rfl⟩ rfl rfl rfl (Nat.add_le_add_left (nle rfl) nc) (Nat.add_le_add_left (nle rfl) ks) h3 h4 L_L_law_1352 L_L_law_1369 (by decide)
set_option maxRecDepth 100000 in
theorem lw_c20 {X : Xs} {x m out i B nc ks : Nat} {κ : Kp} {M : Mem} {Q : Rs → Kp → Mem → Prop} (hW : LwH x m out B κ M) (hi : i + 7 ≤ X.1) (hX : X.1 ≤ 3584) (h3 : nc + 7 ≤ 601024) (h4 : ks + 42 ≤ 7293034) (hB : B < 1000000) (hN : Nxt X x m out i B nc ks κ.2.1 Q) : G X m_L_law B_L_law_1372 1372 (LoL x m out i) [] nc ks κ M Q := by
  obtain ⟨hx, hm, ho, hd, hd2, hJ⟩ := hW
  refine g_aload_n rfl ?_
  refine g_aload_n rfl ?_
  refine g_iload rfl ?_
  refine g_iconst (v := 1) ik_1 ?_
  refine g_iadd ?_
  refine g_sload (j := i + 1) (nI_add i 1) (by omega) (by omega) ?_
  refine g_aload_n rfl ?_
  refine g_iload rfl ?_
  refine g_iconst (v := 2) ik_2 ?_
  refine g_iadd ?_
  refine g_sload (j := i + 2) (nI_add i 2) (by omega) (by omega) ?_
  refine g_aload_n rfl ?_
  refine g_callSH (as := [_, _, _, _]) mkh_L_tune ml_L_183 sm_L_tune rfl rfl (Lrm.rb ⟨⟨nle rfl, nle rfl⟩, nle rfl, nle rfl⟩ h3 h4) rfl rfl (nle rfl) ?_
  refine ct_L_tune hx ho (pr_tune hx hm hd hd2 hJ) (fun p v κ' M1 hp e1 e2 hv hc => ?_)
  refine kq_s ?_
  refine g_istore (nle rfl) ?_
  refine g_lo2 (lo' := LoK x m out i (nI p)) ?_ ⟨rfl, rfl, rfl, rfl, rfl, rfl, trivial⟩
  refine g_aload_n rfl ?_
  refine g_aload_n rfl ?_
  refine g_iload rfl ?_
  refine g_iconst (v := 1) ik_1 ?_
  refine g_iadd ?_
  refine g_sload (j := i + 1) (nI_add i 1) (by omega) (by omega) ?_
  refine g_aload_n rfl ?_
  refine g_iload rfl ?_
  refine g_iconst (v := 2) ik_2 ?_
  refine g_iadd ?_
  refine g_sload (j := i + 2) (nI_add i 2) (by omega) (by omega) ?_
  show G X m_L_law (T1 185) 1404 _ _ _ _ _ _ _
  exact lw_tail hN e1 hm ho hp hv hc mk_X8_tune ml_L_185 im_X8_tune se_X8_tune ⟨⟨nle rfl, nle rfl⟩, rfl, rfl⟩ rfl rfl rfl (Nat.add_le_add_left (nle rfl) nc) (Nat.add_le_add_left (nle rfl) ks) h3 h4 L_L_law_1420 L_L_law_1437 (by decide)
set_option maxRecDepth 100000 in
theorem lw_c21 {X : Xs} {x m out i B nc ks : Nat} {κ : Kp} {M : Mem} {Q : Rs → Kp → Mem → Prop} (hW : LwH x m out B κ M) (hi : i + 7 ≤ X.1) (hX : X.1 ≤ 3584) (h3 : nc + 7 ≤ 601024) (h4 : ks + 42 ≤ 7293034) (hB : B < 1000000) (hN : Nxt X x m out i B nc ks κ.2.1 Q) : G X m_L_law B_L_law_1440 1440 (LoL x m out i) [] nc ks κ M Q := by
  obtain ⟨hx, hm, ho, hd, hd2, hJ⟩ := hW
  refine g_aload_n rfl ?_
  refine g_aload_n rfl ?_
  refine g_callSH (as := [_, _]) mkh_L_undo ml_L_186 sm_L_undo rfl rfl (Lrm.rb ⟨⟨nle rfl, nle rfl⟩, nle rfl, nle rfl⟩ h3 h4) rfl rfl (nle rfl) ?_
  refine ct_L_undo hx ho (pr_undo hx hm hd hd2 hJ) (fun p v κ' M1 hp e1 e2 hv hc => ?_)
  refine kq_s ?_
  refine g_istore (nle rfl) ?_
  refine g_lo2 (lo' := LoK x m out i (nI p)) ?_ ⟨rfl, rfl, rfl, rfl, rfl, rfl, trivial⟩
  refine g_aload_n rfl ?_
  show G X m_L_law (T1 188) 1448 _ _ _ _ _ _ _
  exact lw_tail hN e1 hm ho hp hv hc mk_X8_undo ml_L_188 im_X8_undo se_X8_undo ⟨⟨nle rfl, nle rfl⟩, rfl, rfl⟩ rfl rfl rfl (Nat.add_le_add_left (nle rfl) nc) (Nat.add_le_add_left (nle rfl) ks) h3 h4 L_L_law_1464 L_L_law_1481 (by decide)
set_option maxRecDepth 100000 in
theorem lw_c22 {X : Xs} {x m out i B nc ks : Nat} {κ : Kp} {M : Mem} {Q : Rs → Kp → Mem → Prop} (hW : LwH x m out B κ M) (hi : i + 7 ≤ X.1) (hX : X.1 ≤ 3584) (h3 : nc + 7 ≤ 601024) (h4 : ks + 42 ≤ 7293034) (hB : B < 1000000) (hN : Nxt X x m out i B nc ks κ.2.1 Q) : G X m_L_law B_L_law_1484 1484 (LoL x m out i) [] nc ks κ M Q := by
  obtain ⟨hx, hm, ho, hd, hd2, hJ⟩ := hW
  refine g_aload_n rfl ?_
  refine g_aload_n rfl ?_
  refine g_iload rfl ?_
  refine g_iconst (v := 1) ik_1 ?_
  refine g_iadd ?_
  refine g_sload (j := i + 1) (nI_add i 1) (by omega) (by omega) ?_
  refine g_aload_n rfl ?_
  refine g_iload rfl ?_
  refine g_iconst (v := 2) ik_2 ?_
  refine g_iadd ?_
  refine g_sload (j := i + 2) (nI_add i 2) (by omega) (by omega) ?_
  refine g_aload_n rfl ?_
  refine g_iload rfl ?_
  refine g_iconst (v := 3) ik_3 ?_
  refine g_iadd ?_
  refine g_sload (j := i + 3) (nI_add i 3) (by omega) (by omega) ?_
  refine g_aload_n rfl ?_
  refine g_iload rfl ?_
  refine g_iconst (v := 4) ik_4 ?_
  refine g_iadd ?_
  refine g_sload (j := i + 4) (nI_add i 4) (by omega) (by omega) ?_
  refine g_aload_n rfl ?_
  refine g_iload rfl ?_
  refine g_iconst (v := 5) ik_5 ?_
  refine g_iadd ?_
  refine g_sload (j := i + 5) (nI_add i 5) (by omega) (by omega) ?_
  refine g_aload_n rfl ?_
  refine g_iload rfl ?_
  refine g_bipush (v := 6) bk_6 ?_
  refine g_iadd ?_
  refine g_sload (j := i + 6) (nI_add i 6) (by omega) (by omega) ?_
  refine g_aload_n rfl ?_
  refine g_callSH (as := [_, _, _, _, _, _, _, _]) mkh_L_why ml_L_189 sm_L_why rfl rfl (Lrm.rb ⟨⟨nle rfl, nle rfl⟩, nle rfl, nle rfl⟩ h3 h4) rfl rfl (nle rfl) ?_
  refine ct_L_why hx ho (pr_why hx hm hd hd2 hJ) (fun p v κ' M1 hp e1 e2 hv hc => ?_)
  refine kq_s ?_
  refine g_istore (nle rfl) ?_
  refine g_lo2 (lo' := LoK x m out i (nI p)) ?_ ⟨rfl, rfl, rfl, rfl, rfl, rfl, trivial⟩
  refine g_aload_n rfl ?_
  refine g_aload_n rfl ?_
  refine g_iload rfl ?_
  refine g_iconst (v := 1) ik_1 ?_
  refine g_iadd ?_
  refine g_sload (j := i + 1) (nI_add i 1) (by omega) (by omega) ?_
  refine g_aload_n rfl ?_
  refine g_iload rfl ?_
  refine g_iconst (v := 2) ik_2 ?_
  refine g_iadd ?_
  refine g_sload (j := i + 2) (nI_add i 2) (by omega) (by omega) ?_
  refine g_aload_n rfl ?_
  refine g_iload rfl ?_
  refine g_iconst (v := 3) ik_3 ?_
  refine g_iadd ?_
  refine g_sload (j := i + 3) (nI_add i 3) (by omega) (by omega) ?_
  refine g_aload_n rfl ?_
  refine g_iload rfl ?_
  refine g_iconst (v := 4) ik_4 ?_
  refine g_iadd ?_
  refine g_sload (j := i + 4) (nI_add i 4) (by omega) (by omega) ?_
  refine g_aload_n rfl ?_
  refine g_iload rfl ?_
  refine g_iconst (v := 5) ik_5 ?_
  refine g_iadd ?_
  refine g_sload (j := i + 5) (nI_add i 5) (by omega) (by omega) ?_
  refine g_aload_n rfl ?_
  refine g_iload rfl ?_
  refine g_bipush (v := 6) bk_6 ?_
  refine g_iadd ?_
  refine g_sload (j := i + 6) (nI_add i 6) (by omega) (by omega) ?_
  show G X m_L_law (T1 191) 1566 _ _ _ _ _ _ _
  exact lw_tail hN e1 hm ho hp hv hc mk_X8_why ml_L_191 im_X8_why se_X8_why ⟨⟨nle rfl, nle rfl⟩, rfl, rfl⟩ rfl rfl rfl (Nat.add_le_add_left (nle rfl) nc) (Nat.add_le_add_left (nle rfl) ks) h3 h4 L_L_law_1582 L_L_law_1599 (by decide)
set_option maxRecDepth 100000 in
theorem lw_c23 {X : Xs} {x m out i B nc ks : Nat} {κ : Kp} {M : Mem} {Q : Rs → Kp → Mem → Prop} (hW : LwH x m out B κ M) (hi : i + 7 ≤ X.1) (hX : X.1 ≤ 3584) (h3 : nc + 7 ≤ 601024) (h4 : ks + 42 ≤ 7293034) (hB : B < 1000000) (hN : Nxt X x m out i B nc ks κ.2.1 Q) : G X m_L_law B_L_law_1602 1602 (LoL x m out i) [] nc ks κ M Q := by
  obtain ⟨hx, hm, ho, hd, hd2, hJ⟩ := hW
  refine g_aload_n rfl ?_
  refine g_aload_n rfl ?_
  refine g_iload rfl ?_
  refine g_iconst (v := 1) ik_1 ?_
  refine g_iadd ?_
  refine g_sload (j := i + 1) (nI_add i 1) (by omega) (by omega) ?_
  refine g_aload_n rfl ?_
  refine g_iload rfl ?_
  refine g_iconst (v := 2) ik_2 ?_
  refine g_iadd ?_
  refine g_sload (j := i + 2) (nI_add i 2) (by omega) (by omega) ?_
  refine g_aload_n rfl ?_
  refine g_callSH (as := [_, _, _, _]) mkh_L_whySeat ml_L_192 sm_L_whySeat rfl rfl (Lrm.rb ⟨⟨nle rfl, nle rfl⟩, nle rfl, nle rfl⟩ h3 h4) rfl rfl (nle rfl) ?_
  refine ct_L_whySeat hx ho (pr_whySeat hx hm hd hd2 hJ) (fun p v κ' M1 hp e1 e2 hv hc => ?_)
  refine kq_s ?_
  refine g_istore (nle rfl) ?_
  refine g_lo2 (lo' := LoK x m out i (nI p)) ?_ ⟨rfl, rfl, rfl, rfl, rfl, rfl, trivial⟩
  refine g_aload_n rfl ?_
  refine g_aload_n rfl ?_
  refine g_iload rfl ?_
  refine g_iconst (v := 1) ik_1 ?_
  refine g_iadd ?_
  refine g_sload (j := i + 1) (nI_add i 1) (by omega) (by omega) ?_
  refine g_aload_n rfl ?_
  refine g_iload rfl ?_
  refine g_iconst (v := 2) ik_2 ?_
  refine g_iadd ?_
  refine g_sload (j := i + 2) (nI_add i 2) (by omega) (by omega) ?_
  show G X m_L_law (T1 194) 1634 _ _ _ _ _ _ _
  exact lw_tail hN e1 hm ho hp hv hc mk_X8_whySeat ml_L_194 im_X8_whySeat se_X8_whySeat ⟨⟨nle rfl, nle rfl⟩, rfl, rfl⟩ rfl rfl rfl (Nat.add_le_add_left (nle rfl) nc) (Nat.add_le_add_left (nle rfl) ks) h3 h4 L_L_law_1650 L_L_law_1667 (by decide)
set_option maxRecDepth 100000 in
theorem lw_c24 {X : Xs} {x m out i B nc ks : Nat} {κ : Kp} {M : Mem} {Q : Rs → Kp → Mem → Prop} (hW : LwH x m out B κ M) (hi : i + 7 ≤ X.1) (hX : X.1 ≤ 3584) (h3 : nc + 7 ≤ 601024) (h4 : ks + 42 ≤ 7293034) (hB : B < 1000000) (hN : Nxt X x m out i B nc ks κ.2.1 Q) : G X m_L_law B_L_law_1670 1670 (LoL x m out i) [] nc ks κ M Q := by
  obtain ⟨hx, hm, ho, hd, hd2, hJ⟩ := hW
  refine g_aload_n rfl ?_
  refine g_aload_n rfl ?_
  refine g_iload rfl ?_
  refine g_iconst (v := 1) ik_1 ?_
  refine g_iadd ?_
  refine g_sload (j := i + 1) (nI_add i 1) (by omega) (by omega) ?_
  refine g_aload_n rfl ?_
  refine g_iload rfl ?_
  refine g_iconst (v := 2) ik_2 ?_
  refine g_iadd ?_
  refine g_sload (j := i + 2) (nI_add i 2) (by omega) (by omega) ?_
  refine g_aload_n rfl ?_
  refine g_iload rfl ?_
  refine g_iconst (v := 3) ik_3 ?_
  refine g_iadd ?_
  refine g_sload (j := i + 3) (nI_add i 3) (by omega) (by omega) ?_
  refine g_aload_n rfl ?_
  refine g_iload rfl ?_
  refine g_iconst (v := 4) ik_4 ?_
  refine g_iadd ?_
  refine g_sload (j := i + 4) (nI_add i 4) (by omega) (by omega) ?_
  refine g_aload_n rfl ?_
  refine g_iload rfl ?_
  refine g_iconst (v := 5) ik_5 ?_
  refine g_iadd ?_
  refine g_sload (j := i + 5) (nI_add i 5) (by omega) (by omega) ?_
  refine g_aload_n rfl ?_
  refine g_callSH (as := [_, _, _, _, _, _, _]) mkh_L_bestFloor ml_L_195 sm_L_bestFloor rfl rfl (Lrm.rb ⟨⟨nle rfl, nle rfl⟩, nle rfl, nle rfl⟩ h3 h4) rfl rfl (nle rfl) ?_
  refine ct_L_bestFloor hx ho (pr_bestFloor hx hm hd hd2 hJ) (fun p v κ' M1 hp e1 e2 hv hc => ?_)
  refine kq_s ?_
  refine g_istore (nle rfl) ?_
  refine g_lo2 (lo' := LoK x m out i (nI p)) ?_ ⟨rfl, rfl, rfl, rfl, rfl, rfl, trivial⟩
  refine g_aload_n rfl ?_
  refine g_aload_n rfl ?_
  refine g_iload rfl ?_
  refine g_iconst (v := 1) ik_1 ?_
  refine g_iadd ?_
  refine g_sload (j := i + 1) (nI_add i 1) (by omega) (by omega) ?_
  refine g_aload_n rfl ?_
  refine g_iload rfl ?_
  refine g_iconst (v := 2) ik_2 ?_
  refine g_iadd ?_
  refine g_sload (j := i + 2) (nI_add i 2) (by omega) (by omega) ?_
  refine g_aload_n rfl ?_
  refine g_iload rfl ?_
  refine g_iconst (v := 3) ik_3 ?_
  refine g_iadd ?_
  refine g_sload (j := i + 3) (nI_add i 3) (by omega) (by omega) ?_
  refine g_aload_n rfl ?_
  refine g_iload rfl ?_
  refine g_iconst (v := 4) ik_4 ?_
  refine g_iadd ?_
  refine g_sload (j := i + 4) (nI_add i 4) (by omega) (by omega) ?_
  refine g_aload_n rfl ?_
  refine g_iload rfl ?_
  refine g_iconst (v := 5) ik_5 ?_
  refine g_iadd ?_
  refine g_sload (j := i + 5) (nI_add i 5) (by omega) (by omega) ?_
  show G X m_L_law (T1 198) 1738 _ _ _ _ _ _ _
  exact lw_tail hN e1 hm ho hp hv hc mk_X8_bestFloor ml_L_198 im_X8_bestFloor se_X8_bestFloor ⟨⟨nle rfl, nle rfl⟩, rfl, rfl⟩ rfl rfl rfl (Nat.add_le_add_left (nle rfl) nc) (Nat.add_le_add_left (nle rfl) ks) h3 h4 L_L_law_1754 L_L_law_1771 (by decide)
set_option maxRecDepth 100000 in
theorem lw_c25 {X : Xs} {x m out i B nc ks : Nat} {κ : Kp} {M : Mem} {Q : Rs → Kp → Mem → Prop} (hW : LwH x m out B κ M) (hi : i + 7 ≤ X.1) (hX : X.1 ≤ 3584) (h3 : nc + 7 ≤ 601024) (h4 : ks + 42 ≤ 7293034) (hB : B < 1000000) (hN : Nxt X x m out i B nc ks κ.2.1 Q) : G X m_L_law B_L_law_1774 1774 (LoL x m out i) [] nc ks κ M Q := by
  obtain ⟨hx, hm, ho, hd, hd2, hJ⟩ := hW
  refine g_aload_n rfl ?_
  refine g_aload_n rfl ?_
  refine g_iload rfl ?_
  refine g_iconst (v := 1) ik_1 ?_
  refine g_iadd ?_
  refine g_sload (j := i + 1) (nI_add i 1) (by omega) (by omega) ?_
  refine g_aload_n rfl ?_
  refine g_callSH (as := [_, _, _]) mkh_L_emptyIn ml_L_199 sm_L_emptyIn rfl rfl (Lrm.rb ⟨⟨nle rfl, nle rfl⟩, nle rfl, nle rfl⟩ h3 h4) rfl rfl (nle rfl) ?_
  refine ct_L_emptyIn hx ho (pr_emptyIn hx hm hd hd2 hJ) (fun p v κ' M1 hp e1 e2 hv hc => ?_)
  refine kq_s ?_
  refine g_istore (nle rfl) ?_
  refine g_lo2 (lo' := LoK x m out i (nI p)) ?_ ⟨rfl, rfl, rfl, rfl, rfl, rfl, trivial⟩
  refine g_aload_n rfl ?_
  refine g_aload_n rfl ?_
  refine g_iload rfl ?_
  refine g_iconst (v := 1) ik_1 ?_
  refine g_iadd ?_
  refine g_sload (j := i + 1) (nI_add i 1) (by omega) (by omega) ?_
  show G X m_L_law (T1 201) 1794 _ _ _ _ _ _ _
  exact lw_tail hN e1 hm ho hp hv hc mk_X8_emptyIn ml_L_201 im_X8_emptyIn se_X8_emptyIn ⟨⟨nle rfl, nle rfl⟩, rfl, rfl⟩ rfl rfl rfl (Nat.add_le_add_left (nle rfl) nc) (Nat.add_le_add_left (nle rfl) ks) h3 h4 L_L_law_1810 L_L_law_1827 (by decide)
set_option maxRecDepth 100000 in
theorem lw_c26 {X : Xs} {x m out i B nc ks : Nat} {κ : Kp} {M : Mem} {Q : Rs → Kp → Mem → Prop} (hW : LwH x m out B κ M) (hi : i + 7 ≤ X.1) (hX : X.1 ≤ 3584) (h3 : nc + 7 ≤ 601024) (h4 : ks + 42 ≤ 7293034) (hB : B < 1000000) (hN : Nxt X x m out i B nc ks κ.2.1 Q) : G X m_L_law B_L_law_1830 1830 (LoL x m out i) [] nc ks κ M Q := by
  obtain ⟨hx, hm, ho, hd, hd2, hJ⟩ := hW
  refine g_aload_n rfl ?_
  refine g_callV (as := []) mk_X7_held ml_L_202 im_X7_held se_X7_held rfl rfl (Lrm.rb ⟨⟨nle rfl, nle rfl⟩, nle rfl, nle rfl⟩ h3 h4) hx.1 rfl rfl rfl (nle rfl) ?_
  refine (pr_held hx hm hd hd2 hJ hB).mono fun r κ' M1 hP => ?_
  obtain ⟨p, v, hr, hc⟩ := hP
  rcases hr with ⟨rfl, rfl, rfl⟩ | ⟨e, _, hin, _⟩
  · refine kq_s ?_
    refine g_aload_n rfl ?_
    refine g_callV (as := []) mk_X8_held ml_L_205 im_X8_held se_X8_held rfl rfl (Lr0.rb ⟨⟨nle rfl, nle rfl⟩, rfl, rfl⟩ (Nat.le_trans (Nat.add_le_add_left (nle rfl) nc) h3) (Nat.le_trans (Nat.add_le_add_left (nle rfl) ks) h4)) hm.1 rfl rfl rfl (nle rfl) ?_
    refine hc M1 (fun _ _ => rfl) _ (fun M2 w hJ2 ht ho2 hw => ?_)
    rw [hw rfl]
    refine kq_s ?_
    refine g_icmp_eq (tgt := 2155) (is' := B_L_law_2155) rfl L_L_law_2155 (fun _ => ?_) (fun h => absurd rfl h)
    exact g_widen (Nat.add_le_add_left (nle rfl) nc) (Nat.add_le_add_left (nle rfl) ks) (g_lo2 (lo' := LoL x m out i) (hN κ' M2 rfl hJ2) ⟨rfl, rfl, rfl, rfl, rfl, trivial⟩)
  · exact absurd hin List.not_mem_nil
set_option maxRecDepth 100000 in
theorem lw_c27 {X : Xs} {x m out i B nc ks : Nat} {κ : Kp} {M : Mem} {Q : Rs → Kp → Mem → Prop} (hW : LwH x m out B κ M) (hi : i + 7 ≤ X.1) (hX : X.1 ≤ 3584) (h3 : nc + 7 ≤ 601024) (h4 : ks + 42 ≤ 7293034) (hB : B < 1000000) (hN : Nxt X x m out i B nc ks κ.2.1 Q) : G X m_L_law B_L_law_1843 1843 (LoL x m out i) [] nc ks κ M Q := by
  obtain ⟨hx, hm, ho, hd, hd2, hJ⟩ := hW
  refine g_aload_n rfl ?_
  refine g_aload_n rfl ?_
  refine g_iload rfl ?_
  refine g_iconst (v := 1) ik_1 ?_
  refine g_iadd ?_
  refine g_sload (j := i + 1) (nI_add i 1) (by omega) (by omega) ?_
  refine g_aload_n rfl ?_
  refine g_iload rfl ?_
  refine g_iconst (v := 2) ik_2 ?_
  refine g_iadd ?_
  refine g_sload (j := i + 2) (nI_add i 2) (by omega) (by omega) ?_
  refine g_i2l ?_
  refine g_bipush (v := 32) bk_32 ?_
  refine g_lshl ?_
  refine g_aload_n rfl ?_
  refine g_iload rfl ?_
  refine g_iconst (v := 3) ik_3 ?_
  refine g_iadd ?_
  refine g_sload (j := i + 3) (nI_add i 3) (by omega) (by omega) ?_
  refine g_i2l ?_
  refine g_ldc2 rfl kc_L_206 ?_
  refine g_land ?_
  refine g_lor ?_
  refine g_aload_n rfl ?_
  refine g_callSH (as := [_, _, _, _]) mkh_L_runScript ml_L_208 sm_L_runScript rfl rfl (Lrm.rb ⟨⟨nle rfl, nle rfl⟩, nle rfl, nle rfl⟩ h3 h4) rfl rfl (nle rfl) ?_
  refine ct_L_runScript hx ho (pr_runScript hx hm hd hd2 hJ) (fun p v κ' M1 hp e1 e2 hv hc => ?_)
  refine kq_s ?_
  refine g_istore (nle rfl) ?_
  refine g_lo2 (lo' := LoK x m out i (nI p)) ?_ ⟨rfl, rfl, rfl, rfl, rfl, rfl, trivial⟩
  refine g_aload_n rfl ?_
  refine g_aload_n rfl ?_
  refine g_iload rfl ?_
  refine g_iconst (v := 1) ik_1 ?_
  refine g_iadd ?_
  refine g_sload (j := i + 1) (nI_add i 1) (by omega) (by omega) ?_
  refine g_aload_n rfl ?_
  refine g_iload rfl ?_
  refine g_iconst (v := 2) ik_2 ?_
  refine g_iadd ?_
  refine g_sload (j := i + 2) (nI_add i 2) (by omega) (by omega) ?_
  refine g_i2l ?_
  refine g_bipush (v := 32) bk_32 ?_
  refine g_lshl ?_
  refine g_aload_n rfl ?_
  refine g_iload rfl ?_
  refine g_iconst (v := 3) ik_3 ?_
  refine g_iadd ?_
  refine g_sload (j := i + 3) (nI_add i 3) (by omega) (by omega) ?_
  refine g_i2l ?_
  refine g_ldc2 rfl kc_L_206 ?_
  refine g_land ?_
  refine g_lor ?_
  show G X m_L_law (T1 211) 1907 _ _ _ _ _ _ _
  exact lw_tail hN e1 hm ho hp hv hc mk_X8_runScript ml_L_211 im_X8_runScript se_X8_runScript ⟨⟨nle rfl, nle rfl⟩, rfl, rfl⟩ rfl rfl rfl (Nat.add_le_add_left (nle rfl) nc) (Nat.add_le_add_left (nle rfl) ks) h3 h4 L_L_law_1923 L_L_law_1940 (by decide)
set_option maxRecDepth 100000 in
theorem lw_c28 {X : Xs} {x m out i B nc ks : Nat} {κ : Kp} {M : Mem} {Q : Rs → Kp → Mem → Prop} (hW : LwH x m out B κ M) (hi : i + 7 ≤ X.1) (hX : X.1 ≤ 3584) (h3 : nc + 7 ≤ 601024) (h4 : ks + 42 ≤ 7293034) (hB : B < 1000000) (hN : Nxt X x m out i B nc ks κ.2.1 Q) : G X m_L_law B_L_law_1943 1943 (LoL x m out i) [] nc ks κ M Q := by
  obtain ⟨hx, hm, ho, hd, hd2, hJ⟩ := hW
  refine g_aload_n rfl ?_
  refine g_aload_n rfl ?_
  refine g_iload rfl ?_
  refine g_iconst (v := 1) ik_1 ?_
  refine g_iadd ?_
  refine g_sload (j := i + 1) (nI_add i 1) (by omega) (by omega) ?_
  refine g_i2l ?_
  refine g_bipush (v := 32) bk_32 ?_
  refine g_lshl ?_
  refine g_aload_n rfl ?_
  refine g_iload rfl ?_
  refine g_iconst (v := 2) ik_2 ?_
  refine g_iadd ?_
  refine g_sload (j := i + 2) (nI_add i 2) (by omega) (by omega) ?_
  refine g_i2l ?_
  refine g_ldc2 rfl kc_L_206 ?_
  refine g_land ?_
  refine g_lor ?_
  refine g_aload_n rfl ?_
  refine g_iload rfl ?_
  refine g_iconst (v := 3) ik_3 ?_
  refine g_iadd ?_
  refine g_sload (j := i + 3) (nI_add i 3) (by omega) (by omega) ?_
  refine g_aload_n rfl ?_
  refine g_callSH (as := [_, _, _, _]) mkh_L_simulate ml_L_212 sm_L_simulate rfl rfl (Lrm.rb ⟨⟨nle rfl, nle rfl⟩, nle rfl, nle rfl⟩ h3 h4) rfl rfl (nle rfl) ?_
  refine ct_L_simulate hx ho (pr_simulate hx hm hd hd2 hJ) (fun p v κ' M1 hp e1 e2 hv hc => ?_)
  refine kq_s ?_
  refine g_istore (nle rfl) ?_
  refine g_lo2 (lo' := LoK x m out i (nI p)) ?_ ⟨rfl, rfl, rfl, rfl, rfl, rfl, trivial⟩
  refine g_aload_n rfl ?_
  refine g_aload_n rfl ?_
  refine g_iload rfl ?_
  refine g_iconst (v := 1) ik_1 ?_
  refine g_iadd ?_
  refine g_sload (j := i + 1) (nI_add i 1) (by omega) (by omega) ?_
  refine g_i2l ?_
  refine g_bipush (v := 32) bk_32 ?_
  refine g_lshl ?_
  refine g_aload_n rfl ?_
  refine g_iload rfl ?_
  refine g_iconst (v := 2) ik_2 ?_
  refine g_iadd ?_
  refine g_sload (j := i + 2) (nI_add i 2) (by omega) (by omega) ?_
  refine g_i2l ?_
  refine g_ldc2 rfl kc_L_206 ?_
  refine g_land ?_
  refine g_lor ?_
  refine g_aload_n rfl ?_
  refine g_iload rfl ?_
  refine g_iconst (v := 3) ik_3 ?_
  refine g_iadd ?_
  refine g_sload (j := i + 3) (nI_add i 3) (by omega) (by omega) ?_
  show G X m_L_law (T1 215) 2007 _ _ _ _ _ _ _
  exact lw_tail hN e1 hm ho hp hv hc mk_X8_simulate ml_L_215 im_X8_simulate se_X8_simulate ⟨⟨nle rfl, nle rfl⟩, rfl, rfl⟩ rfl rfl rfl (Nat.add_le_add_left (nle rfl) nc) (Nat.add_le_add_left (nle rfl) ks) h3 h4 L_L_law_2023 L_L_law_2040 (by decide)
set_option maxRecDepth 100000 in
theorem lw_c29 {X : Xs} {x m out i B nc ks : Nat} {κ : Kp} {M : Mem} {Q : Rs → Kp → Mem → Prop} (hW : LwH x m out B κ M) (hi : i + 7 ≤ X.1) (hX : X.1 ≤ 3584) (h3 : nc + 7 ≤ 601024) (h4 : ks + 42 ≤ 7293034) (hB : B < 1000000) (hN : Nxt X x m out i B nc ks κ.2.1 Q) : G X m_L_law B_L_law_2043 2043 (LoL x m out i) [] nc ks κ M Q := by
  obtain ⟨hx, hm, ho, hd, hd2, hJ⟩ := hW
  refine g_aload_n rfl ?_
  refine g_aload_n rfl ?_
  refine g_iload rfl ?_
  refine g_iconst (v := 1) ik_1 ?_
  refine g_iadd ?_
  refine g_sload (j := i + 1) (nI_add i 1) (by omega) (by omega) ?_
  refine g_aload_n rfl ?_
  refine g_callSH (as := [_, _, _]) mkh_L_save ml_L_216 sm_L_save rfl rfl (Lrm.rb ⟨⟨nle rfl, nle rfl⟩, nle rfl, nle rfl⟩ h3 h4) rfl rfl (nle rfl) ?_
  refine ct_L_save hx ho (pr_save hx hm hd hd2 hJ) (fun p v κ' M1 hp e1 e2 hv hc => ?_)
  refine kq_s ?_
  refine g_istore (nle rfl) ?_
  refine g_lo2 (lo' := LoK x m out i (nI p)) ?_ ⟨rfl, rfl, rfl, rfl, rfl, rfl, trivial⟩
  refine g_aload_n rfl ?_
  refine g_aload_n rfl ?_
  refine g_iload rfl ?_
  refine g_iconst (v := 1) ik_1 ?_
  refine g_iadd ?_
  refine g_sload (j := i + 1) (nI_add i 1) (by omega) (by omega) ?_
  show G X m_L_law (T1 218) 2063 _ _ _ _ _ _ _
  exact lw_tail hN e1 hm ho hp hv hc mk_X8_save ml_L_218 im_X8_save se_X8_save ⟨⟨nle rfl, nle rfl⟩, rfl, rfl⟩ rfl rfl rfl (Nat.add_le_add_left (nle rfl) nc) (Nat.add_le_add_left (nle rfl) ks) h3 h4 L_L_law_2079 L_L_law_2096 (by decide)
set_option maxRecDepth 100000 in
theorem lw_c30 {X : Xs} {x m out i B nc ks : Nat} {κ : Kp} {M : Mem} {Q : Rs → Kp → Mem → Prop} (hW : LwH x m out B κ M) (hi : i + 7 ≤ X.1) (hX : X.1 ≤ 3584) (h3 : nc + 7 ≤ 601024) (h4 : ks + 42 ≤ 7293034) (hB : B < 1000000) (hN : Nxt X x m out i B nc ks κ.2.1 Q) : G X m_L_law B_L_law_2099 2099 (LoL x m out i) [] nc ks κ M Q := by
  obtain ⟨hx, hm, ho, hd, hd2, hJ⟩ := hW
  refine g_aload_n rfl ?_
  refine g_aload_n rfl ?_
  refine g_iload rfl ?_
  refine g_iconst (v := 1) ik_1 ?_
  refine g_iadd ?_
  refine g_sload (j := i + 1) (nI_add i 1) (by omega) (by omega) ?_
  refine g_aload_n rfl ?_
  refine g_callSH (as := [_, _, _]) mkh_L_restore ml_L_219 sm_L_restore rfl rfl (Lrm.rb ⟨⟨nle rfl, nle rfl⟩, nle rfl, nle rfl⟩ h3 h4) rfl rfl (nle rfl) ?_
  refine ct_L_restore hx ho (pr_restore hx hm hd hd2 hJ) (fun p v κ' M1 hp e1 e2 hv hc => ?_)
  refine kq_s ?_
  refine g_istore (nle rfl) ?_
  refine g_lo2 (lo' := LoK x m out i (nI p)) ?_ ⟨rfl, rfl, rfl, rfl, rfl, rfl, trivial⟩
  refine g_aload_n rfl ?_
  refine g_aload_n rfl ?_
  refine g_iload rfl ?_
  refine g_iconst (v := 1) ik_1 ?_
  refine g_iadd ?_
  refine g_sload (j := i + 1) (nI_add i 1) (by omega) (by omega) ?_
  show G X m_L_law (T1 221) 2119 _ _ _ _ _ _ _
  exact lw_tail hN e1 hm ho hp hv hc mk_X8_restore ml_L_221 im_X8_restore se_X8_restore ⟨⟨nle rfl, nle rfl⟩, rfl, rfl⟩ rfl rfl rfl (Nat.add_le_add_left (nle rfl) nc) (Nat.add_le_add_left (nle rfl) ks) h3 h4 L_L_law_2135 L_L_law_2152 (by decide)
