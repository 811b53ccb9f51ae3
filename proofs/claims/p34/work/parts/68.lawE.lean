/-! ===== p34: why and set, whySeat and enter, held and weeks: as they are told ===== -/
set_option maxRecDepth 100000 in
set_option maxHeartbeats 4000000 in
theorem ahd_418 {X : Xs} {κ : Kp} {M : Mem} {Q : Rs → Kp → Mem → Prop} {o B nf nt nc nd cnt : Nat} {s : Nat → Int32} {blk : Nat → Nat → Int32} {x y : Int32} (hx : IsDF κ.2.1 o) (hI : Inv B nf nt nc nd s) (hB : B < 1000000) (hO : OB B M o s cnt blk) (hQ : ∀ cnt' blk' M', OB (B + 1) M' o s cnt' blk' → Q (.inl (some (.int 1))) κ M') : G X m_L_isAhead B_L_isAhead_418 418 [(0, some (.ref o)), (1, some (.int x)), (2, some (.int y)), (3, some (.long (lkF s))), (5, some (.int (nI nc))), (7, some (.int 1))] [] 0 0 κ M Q := by
  have bf := hI.lf
  have bt' := hI.lt
  have bc := hI.lc
  have bn := hI.ld
  have hS := hO.1
  have hcn := hO.cn
  refine g_aload_n rfl ?_
  refine g_callV (as := []) mk_X7_held ml_L_103 im_X7_held se_X7_held rfl rfl ⟨⟨nle rfl, nle rfl⟩, nle rfl, nle rfl⟩ hx.1 rfl rfl rfl (nle rfl) ?_
  refine l_held hx hI hB hO (fun M' hO => ?_)
  have hS := hO.1
  refine kq_s ?_
  refine g_istore (nle rfl) ?_
  refine g_aload_n rfl ?_
  refine g_bipush (v := 9) bk_9 ?_
  refine g_callV (as := [_]) mk_X7_about ml_L_13 im_X7_about se_X7_about rfl rfl ⟨⟨nle rfl, nle rfl⟩, nle rfl, nle rfl⟩ hx.1 rfl rfl rfl (nle rfl) ?_
  refine l_about hx hS (w := 9) (v := s 7) (by decide) rfl ?_
  refine kq_s ?_
  refine g_istore (nle rfl) ?_
  refine g_aload_n rfl ?_
  refine g_bipush (v := 10) bk_10 ?_
  refine g_callV (as := [_]) mk_X7_about ml_L_13 im_X7_about se_X7_about rfl rfl ⟨⟨nle rfl, nle rfl⟩, nle rfl, nle rfl⟩ hx.1 rfl rfl rfl (nle rfl) ?_
  refine l_about hx hS (w := 10) (v := s 8) (by decide) rfl ?_
  refine kq_s ?_
  refine g_istore (nle rfl) ?_
  refine g_aload_n rfl ?_
  refine g_bipush (v := 7) bk_7 ?_
  refine g_callV (as := [_]) mk_X7_about ml_L_13 im_X7_about se_X7_about rfl rfl ⟨⟨nle rfl, nle rfl⟩, nle rfl, nle rfl⟩ hx.1 rfl rfl rfl (nle rfl) ?_
  refine l_about hx hS (w := 7) (v := s 6) (by decide) rfl ?_
  refine kq_s ?_
  refine g_istore (nle rfl) ?_
  refine g_iconst (v := 0) ik_0 ?_
  refine g_istore (nle rfl) ?_
  refine g_iconst (v := 0) ik_0 ?_
  refine g_istore (nle rfl) ?_
  refine g_fall rfl L_L_isAhead_454 ?_
  have hS := hO.1
  refine g_lo2 (lo' := [(0, some (.ref o)), (1, some (.int x)), (2, some (.int y)), (3, some (.long (lkF s))), (5, some (.int (nI nc))), (7, some (.int 1)), (8, some (.int (weekH nc nd s))), (9, some (.int (s 7))), (10, some (.int (s 8))), (11, some (.int (s 6))), (12, some (.int (sumI 0 (fun k => weekH nc nd s >>> (nI k &&& 31) &&& 1)))), (13, some (.int (nI 0)))]) ?_ ⟨rfl, rfl, rfl, rfl, rfl, rfl, rfl, rfl, rfl, rfl, rfl, rfl, trivial⟩
  refine loop_up (P := fun k => G X m_L_isAhead B_L_isAhead_454 454 [(0, some (.ref o)), (1, some (.int x)), (2, some (.int y)), (3, some (.long (lkF s))), (5, some (.int (nI nc))), (7, some (.int 1)), (8, some (.int (weekH nc nd s))), (9, some (.int (s 7))), (10, some (.int (s 8))), (11, some (.int (s 6))), (12, some (.int (sumI k (fun k => weekH nc nd s >>> (nI k &&& 31) &&& 1)))), (13, some (.int (nI k)))] [] 0 0 κ _ Q) nc (fun k hle_k ih_k => ?_) 0 (Nat.zero_le _)
  refine g_iload rfl ?_
  refine g_iload rfl ?_
  refine g_icmp_ge rfl L_L_isAhead_479 (fun h_1 => ?_) (fun h_1 => ?_)
  · have hx_k := ((cmp_ge (c := nc) rfl (by omega) hle_k).1 h_1).symm
    subst hx_k
    rw [held_sum bc]
    refine g_iload rfl ?_
    refine g_if_eq rfl L_L_isAhead_492 (fun h_2 => absurd h_2 (by decide)) (fun h_2 => ?_)
    refine g_aload_n rfl ?_
    refine g_iconst (v := 1) ik_1 ?_
    refine g_callV (as := [_]) mk_X7_weeks ml_L_65 im_X7_weeks se_X7_weeks rfl rfl ⟨⟨nle rfl, nle rfl⟩, nle rfl, nle rfl⟩ hx.1 rfl rfl rfl (nle rfl) ?_
    refine l_weeks hx hI hO (v := 1) ⟨1, by omega, by omega, rfl⟩ (fun n M' hn1 hn2 en hO' => ?_)
    obtain rfl : 1 = n := (nI_eq (a := 1) (by omega) (by omega)).mp en
    have hS := hO'.1
    have hOx := hO
    refine kq_s ?_
    refine g_goto rfl L_L_isAhead_493 ?_
    refine g_istore (nle rfl) ?_
    refine g_iload rfl ?_
    refine g_if_eq rfl L_L_isAhead_564 (fun h_3 => absurd h_3 (by decide)) (fun h_3 => ?_)
    refine g_aload_n rfl ?_
    refine g_bipush (v := 7) bk_7 ?_
    refine g_callV (as := [_]) mk_X7_about ml_L_13 im_X7_about se_X7_about rfl rfl ⟨⟨nle rfl, nle rfl⟩, nle rfl, nle rfl⟩ hx.1 rfl rfl rfl (nle rfl) ?_
    refine l_about hx hS (w := 7) (v := wkN nc nd 1 s 6) (by decide) rfl ?_
    refine kq_s ?_
    refine g_iload rfl ?_
    refine g_iload rfl ?_
    refine g_iadd ?_
    refine g_icmp_ne rfl L_L_isAhead_564 (fun h_4 => (h_4 (by grind)).elim) (fun h_4 => ?_)
    refine g_aload_n rfl ?_
    refine g_bipush (v := 9) bk_9 ?_
    refine g_callV (as := [_]) mk_X7_about ml_L_13 im_X7_about se_X7_about rfl rfl ⟨⟨nle rfl, nle rfl⟩, nle rfl, nle rfl⟩ hx.1 rfl rfl rfl (nle rfl) ?_
    refine l_about hx hS (w := 9) (v := wkN nc nd 1 s 7) (by decide) rfl ?_
    refine kq_s ?_
    refine g_iload rfl ?_
    refine g_iload rfl ?_
    refine g_iadd ?_
    refine g_icmp_ne rfl L_L_isAhead_564 (fun h_5 => (h_5 (wk_7 bc)).elim) (fun h_5 => ?_)
    refine g_aload_n rfl ?_
    refine g_bipush (v := 10) bk_10 ?_
    refine g_callV (as := [_]) mk_X7_about ml_L_13 im_X7_about se_X7_about rfl rfl ⟨⟨nle rfl, nle rfl⟩, nle rfl, nle rfl⟩ hx.1 rfl rfl rfl (nle rfl) ?_
    refine l_about hx hS (w := 10) (v := wkN nc nd 1 s 8) (by decide) rfl ?_
    refine kq_s ?_
    refine g_iload rfl ?_
    refine g_iload rfl ?_
    refine g_iadd ?_
    refine g_iload rfl ?_
    refine g_isub ?_
    refine g_icmp_ne rfl L_L_isAhead_564 (fun h_6 => (h_6 (wk_8 bc)).elim) (fun h_6 => ?_)
    refine g_iload rfl ?_
    refine g_iload rfl ?_
    refine g_ishr ?_
    refine g_if_ne rfl L_L_isAhead_564 (fun h_7 => (h_7 (held_hi bc)).elim) (fun h_7 => ?_)
    refine g_aload_n rfl ?_
    refine g_callV (as := []) mk_X7_undo ml_L_100 im_X7_undo se_X7_undo rfl rfl ⟨⟨nle rfl, nle rfl⟩, nle rfl, nle rfl⟩ hx.1 rfl rfl rfl (nle rfl) ?_
    refine l_undo1 hx hcn hO' (fun M' hO => ?_)
    have hS := hO.1
    refine kq_s ?_
    refine g_if_lt rfl L_L_isAhead_564 (fun h_8 => absurd h_8 (Int32.not_lt.mpr (nn (by have := (rem_top cnt hcn s blk).1; unfold remC at this ⊢; split <;> omega)))) (fun h_8 => ?_)
    refine g_iconst (v := 1) ik_1 ?_
    refine g_goto rfl L_L_isAhead_565 ?_
    refine g_istore (nle rfl) ?_
    refine g_aload_n rfl ?_
    refine g_iconst (v := 1) ik_1 ?_
    refine g_ldc2 rfl kc_L_106 ?_
    refine g_callV (as := [_, _]) mk_X7_runScript ml_L_108 im_X7_runScript se_X7_runScript rfl rfl ⟨⟨nle rfl, nle rfl⟩, nle rfl, nle rfl⟩ hx.1 rfl rfl rfl (nle rfl) ?_
    refine l_runScript hx hO (fun M' hO => ?_)
    have hS := hO.1
    refine kq_s ?_
    refine g_istore (nle rfl) ?_
    refine g_aload_n rfl ?_
    refine g_iload_n rfl ?_
    refine g_i2l ?_
    refine g_iload_n rfl ?_
    refine g_i2l ?_
    refine g_lmul ?_
    refine g_iconst (v := 1) ik_1 ?_
    refine g_iload_n rfl ?_
    refine g_bipush (v := 60) bk_60 ?_
    refine g_callS (as := [_, _]) mk_L_up ml_L_35 sm_L_up rfl rfl ⟨⟨nle rfl, nle rfl⟩, nle rfl, nle rfl⟩ rfl rfl (nle rfl) ?_
    refine ct_L_up (m := 60) (by omega) (by omega) ?_
    refine kq_s ?_
    refine g_iadd ?_
    refine g_callV (as := [_, _]) mk_X7_simulate ml_L_112 im_X7_simulate se_X7_simulate rfl rfl ⟨⟨nle rfl, nle rfl⟩, nle rfl, nle rfl⟩ hx.1 rfl rfl rfl (nle rfl) ?_
    refine l_simulate hx hO (bd_w (bd_1up (m := 60) (by omega)) (by omega)) (fun M' hO => ?_)
    have hS := hO.1
    refine kq_s ?_
    refine g_istore (nle rfl) ?_
    refine g_iload rfl ?_
    refine g_if_eq rfl L_L_isAhead_642 (fun h_9 => absurd h_9 (by decide)) (fun h_9 => ?_)
    refine g_iload rfl ?_
    refine g_iconst (v := -1) ik_m1 ?_
    refine g_icmp_ne rfl L_L_isAhead_642 (fun h_10 => absurd h_10 (by decide)) (fun h_10 => ?_)
    refine g_iload rfl ?_
    refine g_aload_n rfl ?_
    refine g_iload_n rfl ?_
    refine g_i2l ?_
    refine g_iload_n rfl ?_
    refine g_i2l ?_
    refine g_lmul ?_
    refine g_iconst (v := 1) ik_1 ?_
    refine g_iload_n rfl ?_
    refine g_bipush (v := 60) bk_60 ?_
    refine g_callS (as := [_, _]) mk_L_up ml_L_35 sm_L_up rfl rfl ⟨⟨nle rfl, nle rfl⟩, nle rfl, nle rfl⟩ rfl rfl (nle rfl) ?_
    refine ct_L_up (m := 60) (by omega) (by omega) ?_
    refine kq_s ?_
    refine g_iadd ?_
    refine g_callV (as := [_, _]) mk_X7_simulate ml_L_112 im_X7_simulate se_X7_simulate rfl rfl ⟨⟨nle rfl, nle rfl⟩, nle rfl, nle rfl⟩ hx.1 rfl rfl rfl (nle rfl) ?_
    refine l_simulate hx hO (bd_w (bd_1up (m := 60) (by omega)) (by omega)) (fun M' hO => ?_)
    have hS := hO.1
    refine kq_s ?_
    refine g_icmp_ne rfl L_L_isAhead_642 (fun h_11 => (h_11 rfl).elim) (fun h_11 => ?_)
    refine g_aload_n rfl ?_
    refine g_callS (as := [_]) mk_L_looks ml_L_93 sm_L_looks rfl rfl ⟨⟨nle rfl, nle rfl⟩, nle rfl, nle rfl⟩ rfl rfl (nle rfl) ?_
    refine ct_L_looks hx hS (hI.up (Nat.le_succ B)) ?_
    refine kq_s ?_
    refine g_lload_n rfl ?_
    refine g_lcmp ?_
    refine g_if_ne rfl L_L_isAhead_642 (fun h_12 => (h_12 (cmp_self _)).elim) (fun h_12 => ?_)
    refine g_iconst (v := 1) ik_1 ?_
    refine g_goto rfl L_L_isAhead_643 ?_
    refine g_zret rfl rfl (nle rfl) (nle rfl) ?_
    exact hQ _ _ _ hO
  · have hlt_k : k < nc := (cmp_ge (c := nc) rfl (by omega) hle_k).2 h_1
    refine g_iload rfl ?_
    refine g_iload rfl ?_
    refine g_iload rfl ?_
    refine g_ishr ?_
    refine g_iconst (v := 1) ik_1 ?_
    refine g_iand ?_
    refine g_iadd ?_
    refine g_istore (nle rfl) ?_
    refine g_iinc (v := nI (k + 1)) rfl (nI_inc _) (nle rfl) ?_
    refine g_goto rfl L_L_isAhead_454 ?_
    exact g_lo2 (ih_k hlt_k) ⟨rfl, rfl, rfl, rfl, rfl, rfl, rfl, rfl, rfl, rfl, rfl, rfl, trivial⟩
set_option maxRecDepth 100000 in
set_option maxHeartbeats 4000000 in
theorem ahd_284 {X : Xs} {κ : Kp} {M : Mem} {Q : Rs → Kp → Mem → Prop} {o B nf nt nc nd cnt : Nat} {s : Nat → Int32} {blk : Nat → Nat → Int32} {x y : Int32} (hx : IsDF κ.2.1 o) (hI : Inv B nf nt nc nd s) (hB : B < 1000000) (hO : OB B M o s cnt blk) (hQ : ∀ cnt' blk' M', OB (B + 1) M' o s cnt' blk' → Q (.inl (some (.int 1))) κ M') : G X m_L_isAhead B_L_isAhead_284 284 [(0, some (.ref o)), (1, some (.int x)), (2, some (.int y)), (3, some (.long (lkF s))), (5, some (.int (nI nc))), (7, some (.int 1))] [] 0 0 κ M Q := by
  have bf := hI.lf
  have bt' := hI.lt
  have bc := hI.lc
  have bn := hI.ld
  have hS := hO.1
  have hcn := hO.cn
  refine g_iload rfl ?_
  refine g_if_eq rfl L_L_isAhead_418 (fun h_1 => absurd h_1 (by decide)) (fun h_1 => ?_)
  refine g_iload rfl ?_
  refine g_if_le rfl L_L_isAhead_418 (fun h_2 => ?_) (fun h_2 => ?_)
  · have q_2 : nc ≤ 0 := (nI_leI (a := nc) (b := 0) (by omega) (by omega)).mp h_2
    exact g_lo2 (ahd_418 hx hI hB hO hQ) ⟨rfl, rfl, rfl, rfl, rfl, rfl, trivial⟩
  · have q_2 : 0 < nc := Nat.not_le.mp (fun e => h_2 ((nI_leI (a := nc) (b := 0) (by omega) (by omega)).mpr e))
    refine g_aload_n rfl ?_
    refine g_iconst (v := 3) ik_3 ?_
    refine g_callV (as := [_]) mk_X7_about ml_L_13 im_X7_about se_X7_about rfl rfl ⟨⟨nle rfl, nle rfl⟩, nle rfl, nle rfl⟩ hx.1 rfl rfl rfl (nle rfl) ?_
    refine l_about hx hS (w := 3) (v := nI nd) (by decide) hI.d ?_
    refine kq_s ?_
    refine g_if_le rfl L_L_isAhead_418 (fun h_3 => ?_) (fun h_3 => ?_)
    · have q_3 : nd ≤ 0 := (nI_leI (a := nd) (b := 0) (by omega) (by omega)).mp h_3
      exact g_lo2 (ahd_418 hx hI hB hO hQ) ⟨rfl, rfl, rfl, rfl, rfl, rfl, trivial⟩
    · have q_3 : 0 < nd := Nat.not_le.mp (fun e => h_3 ((nI_leI (a := nd) (b := 0) (by omega) (by omega)).mpr e))
      have hd : (upN (x >>> (5 &&& 31)) nd) < nd := upN_lt _ (by omega)
      have hk : (upN (y >>> (5 &&& 31)) nc) < nc := upN_lt _ (by omega)
      refine g_iload_n rfl ?_
      refine g_iconst (v := 5) ik_5 ?_
      refine g_ishr ?_
      refine g_aload_n rfl ?_
      refine g_iconst (v := 3) ik_3 ?_
      refine g_callV (as := [_]) mk_X7_about ml_L_13 im_X7_about se_X7_about rfl rfl ⟨⟨nle rfl, nle rfl⟩, nle rfl, nle rfl⟩ hx.1 rfl rfl rfl (nle rfl) ?_
      refine l_about hx hS (w := 3) (v := nI nd) (by decide) hI.d ?_
      refine kq_s ?_
      refine g_callS (as := [_, _]) mk_L_up ml_L_35 sm_L_up rfl rfl ⟨⟨nle rfl, nle rfl⟩, nle rfl, nle rfl⟩ rfl rfl (nle rfl) ?_
      refine ct_L_up (m := nd) (by omega) (by omega) ?_
      refine kq_s ?_
      refine g_istore (nle rfl) ?_
      refine g_iload_n rfl ?_
      refine g_iconst (v := 5) ik_5 ?_
      refine g_ishr ?_
      refine g_iload rfl ?_
      refine g_callS (as := [_, _]) mk_L_up ml_L_35 sm_L_up rfl rfl ⟨⟨nle rfl, nle rfl⟩, nle rfl, nle rfl⟩ rfl rfl (nle rfl) ?_
      refine ct_L_up (m := nc) (by omega) (by omega) ?_
      refine kq_s ?_
      refine g_istore (nle rfl) ?_
      refine g_aload_n rfl ?_
      refine g_iload rfl ?_
      refine g_iload rfl ?_
      refine g_callV (as := [_, _]) mk_X7_whySeat ml_L_68 im_X7_whySeat se_X7_whySeat rfl rfl ⟨⟨nle rfl, nle rfl⟩, nle rfl, nle rfl⟩ hx.1 rfl rfl rfl (nle rfl) ?_
      refine l_whySeat hx hS hI hd hk ?_
      refine kq_s ?_
      refine g_istore (nle rfl) ?_
      refine g_aload_n rfl ?_
      refine g_iload rfl ?_
      refine g_bipush (v := 7) bk_7 ?_
      refine g_callV (as := [_, _]) mk_X7_classOf ml_L_19 im_X7_classOf se_X7_classOf rfl rfl ⟨⟨nle rfl, nle rfl⟩, nle rfl, nle rfl⟩ hx.1 rfl rfl rfl (nle rfl) ?_
      refine l_classOf hx hS hI (k := (upN (y >>> (5 &&& 31)) nc)) (w := 7) (v := bitsI (s (39 + 9 * (upN (y >>> (5 &&& 31)) nc) + 8))) (by omega) (by decide) rfl ?_
      refine kq_s ?_
      refine g_istore (nle rfl) ?_
      refine g_aload_n rfl ?_
      refine g_iload rfl ?_
      refine g_iload rfl ?_
      refine g_callV (as := [_, _]) mk_X7_enter ml_L_74 im_X7_enter se_X7_enter rfl rfl ⟨⟨nle rfl, nle rfl⟩, nle rfl, nle rfl⟩ hx.1 rfl rfl rfl (nle rfl) ?_
      refine l_enter2 hx hI hO hd hk (fun hw M' hO' => ?_) (fun hw M' hO' => ?_)
      · have hS1 := hO'.1
        have hI1 := inv_en2 hI hd hk hw
        refine kq_s ?_
        refine g_iload rfl ?_
        refine g_icmp_ne rfl L_L_isAhead_415 (fun h_4 => (h_4 rfl).elim) (fun h_4 => ?_)
        refine g_aload_n rfl ?_
        refine g_iload rfl ?_
        refine g_bipush (v := 7) bk_7 ?_
        refine g_callV (as := [_, _]) mk_X7_classOf ml_L_19 im_X7_classOf se_X7_classOf rfl rfl ⟨⟨nle rfl, nle rfl⟩, nle rfl, nle rfl⟩ hx.1 rfl rfl rfl (nle rfl) ?_
        refine l_classOf hx hS1 hI1 (k := (upN (y >>> (5 &&& 31)) nc)) (w := 7) (v := bitsI (s (39 + 9 * (upN (y >>> (5 &&& 31)) nc) + 8)) + 1) hk (by decide) (en_7 hI hd hk hw) ?_
        refine kq_s ?_
        refine g_iload rfl ?_
        refine g_iload rfl ?_
        refine g_if_ne rfl L_L_isAhead_377 (fun h_5 => (h_5 hw).elim) (fun h_5 => ?_)
        refine g_iconst (v := 1) ik_1 ?_
        refine g_goto rfl L_L_isAhead_378 ?_
        refine g_iadd ?_
        refine g_icmp_ne rfl L_L_isAhead_415 (fun h_6 => (h_6 rfl).elim) (fun h_6 => ?_)
        refine g_aload_n rfl ?_
        refine g_iload rfl ?_
        refine g_iload rfl ?_
        refine g_callV (as := [_, _]) mk_X7_whySeat ml_L_68 im_X7_whySeat se_X7_whySeat rfl rfl ⟨⟨nle rfl, nle rfl⟩, nle rfl, nle rfl⟩ hx.1 rfl rfl rfl (nle rfl) ?_
        refine l_whySeat hx hS1 hI1 hd hk ?_
        rw [wSe_en hI hd hk hw]
        refine kq_s ?_
        refine g_iload rfl ?_
        refine g_if_ne rfl L_L_isAhead_399 (fun h_7 => (h_7 hw).elim) (fun h_7 => ?_)
        refine g_iconst (v := 1) ik_1 ?_
        refine g_goto rfl L_L_isAhead_401 ?_
        refine g_icmp_ne rfl L_L_isAhead_415 (fun h_8 => (h_8 rfl).elim) (fun h_8 => ?_)
        refine g_aload_n rfl ?_
        refine g_callV (as := []) mk_X7_undo ml_L_100 im_X7_undo se_X7_undo rfl rfl ⟨⟨nle rfl, nle rfl⟩, nle rfl, nle rfl⟩ hx.1 rfl rfl rfl (nle rfl) ?_
        refine l_undo1 hx hcn hO' (fun M' hO => ?_)
        refine kq_s ?_
        refine g_if_lt rfl L_L_isAhead_415 (fun h_9 => absurd h_9 (Int32.not_lt.mpr (nn (by have := (rem_top cnt hcn s blk).1; unfold remC at this ⊢; split <;> omega)))) (fun h_9 => ?_)
        refine g_iconst (v := 1) ik_1 ?_
        refine g_goto rfl L_L_isAhead_416 ?_
        refine g_istore (nle rfl) ?_
        refine g_fall rfl L_L_isAhead_418 ?_
        exact g_lo2 (ahd_418 hx hI hB hO hQ) ⟨rfl, rfl, rfl, rfl, rfl, rfl, trivial⟩
      · have hS1 := hO'.1
        have hI1 : Inv B nf nt nc nd (upd s 9 (s 9 + 1)) := hI.r9
        refine kq_s ?_
        refine g_iload rfl ?_
        refine g_icmp_ne rfl L_L_isAhead_415 (fun h_10 => (h_10 rfl).elim) (fun h_10 => ?_)
        refine g_aload_n rfl ?_
        refine g_iload rfl ?_
        refine g_bipush (v := 7) bk_7 ?_
        refine g_callV (as := [_, _]) mk_X7_classOf ml_L_19 im_X7_classOf se_X7_classOf rfl rfl ⟨⟨nle rfl, nle rfl⟩, nle rfl, nle rfl⟩ hx.1 rfl rfl rfl (nle rfl) ?_
        refine l_classOf hx hS1 hI1 (k := (upN (y >>> (5 &&& 31)) nc)) (w := 7) (v := bitsI (s (39 + 9 * (upN (y >>> (5 &&& 31)) nc) + 8))) hk (by decide) (show bitsI (upd s 9 (s 9 + 1) (39 + 9 * (upN (y >>> (5 &&& 31)) nc) + 8)) = _ by rw [upd_ne (by omega)]) ?_
        refine kq_s ?_
        refine g_iload rfl ?_
        refine g_iload rfl ?_
        refine g_if_ne rfl L_L_isAhead_377 (fun h_11 => ?_) (fun h_11 => (hw h_11).elim)
        refine g_iconst (v := 0) ik_0 ?_
        refine g_fall rfl L_L_isAhead_378 ?_
        refine g_iadd ?_
        refine g_icmp_ne rfl L_L_isAhead_415 (fun h_12 => (h_12 (add_z _).symm).elim) (fun h_12 => ?_)
        refine g_aload_n rfl ?_
        refine g_iload rfl ?_
        refine g_iload rfl ?_
        refine g_callV (as := [_, _]) mk_X7_whySeat ml_L_68 im_X7_whySeat se_X7_whySeat rfl rfl ⟨⟨nle rfl, nle rfl⟩, nle rfl, nle rfl⟩ hx.1 rfl rfl rfl (nle rfl) ?_
        refine l_whySeat hx hS1 hI1 hd hk ?_
        rw [wSe_9]
        refine kq_s ?_
        refine g_iload rfl ?_
        refine g_if_ne rfl L_L_isAhead_399 (fun h_13 => ?_) (fun h_13 => (hw h_13).elim)
        refine g_iload rfl ?_
        refine g_fall rfl L_L_isAhead_401 ?_
        refine g_icmp_ne rfl L_L_isAhead_415 (fun h_14 => (h_14 rfl).elim) (fun h_14 => ?_)
        refine g_aload_n rfl ?_
        refine g_callV (as := []) mk_X7_undo ml_L_100 im_X7_undo se_X7_undo rfl rfl ⟨⟨nle rfl, nle rfl⟩, nle rfl, nle rfl⟩ hx.1 rfl rfl rfl (nle rfl) ?_
        refine l_undo1 hx hcn hO' (fun M' hO => ?_)
        refine kq_s ?_
        refine g_if_lt rfl L_L_isAhead_415 (fun h_15 => absurd h_15 (Int32.not_lt.mpr (nn (by have := (rem_top cnt hcn s blk).1; unfold remC at this ⊢; split <;> omega)))) (fun h_15 => ?_)
        refine g_iconst (v := 1) ik_1 ?_
        refine g_goto rfl L_L_isAhead_416 ?_
        refine g_istore (nle rfl) ?_
        refine g_fall rfl L_L_isAhead_418 ?_
        exact g_lo2 (ahd_418 hx hI hB hO hQ) ⟨rfl, rfl, rfl, rfl, rfl, rfl, trivial⟩
set_option maxRecDepth 100000 in
set_option maxHeartbeats 4000000 in
theorem ahd_178 {X : Xs} {κ : Kp} {M : Mem} {Q : Rs → Kp → Mem → Prop} {o B nf nt nc nd cnt : Nat} {s : Nat → Int32} {blk : Nat → Nat → Int32} {x y : Int32} (hx : IsDF κ.2.1 o) (hI : Inv B nf nt nc nd s) (hB : B < 1000000) (hO : OB B M o s cnt blk) (hQ : ∀ cnt' blk' M', OB (B + 1) M' o s cnt' blk' → Q (.inl (some (.int 1))) κ M') {f t : Nat} {st lv dy hr : Int32} (hf : f < nf) (ht : t < nt) (hn : nc < 10) (h1 : bd 0 3 st) (h2 : bd 1 5 lv) (h3 : bd 0 5 dy) (h4 : bd 0 5 hr) : G X m_L_isAhead B_L_isAhead_178 178 [(0, some (.ref o)), (1, some (.int x)), (2, some (.int y)), (3, some (.long (lkF s))), (5, some (.int (nI nc))), (6, some (.int (s 9))), (8, some (.int (nI f))), (9, some (.int (nI t))), (10, some (.int st)), (11, some (.int lv)), (12, some (.int dy)), (13, some (.int hr)), (14, some (.int (whyI s nc st lv f t dy hr)))] [] 0 0 κ M Q := by
  have bf := hI.lf
  have bt' := hI.lt
  have bc := hI.lc
  have bn := hI.ld
  have hS := hO.1
  have hcn := hO.cn
  refine g_aload_n rfl ?_
  refine g_iload rfl ?_
  refine g_iload rfl ?_
  refine g_iload rfl ?_
  refine g_iload rfl ?_
  refine g_iload rfl ?_
  refine g_iload rfl ?_
  refine g_callV (as := [_, _, _, _, _, _]) mk_X7_set ml_L_55 im_X7_set se_X7_set rfl rfl ⟨⟨nle rfl, nle rfl⟩, nle rfl, nle rfl⟩ hx.1 rfl rfl rfl (nle rfl) ?_
  refine l_set2 hx hI hO hf ht h1 h2 h3 h4 hn (fun hw M' hO' => ?_) (fun hw M' hO' => ?_)
  · have hS1 := hO'.1
    have hI1 : Inv B nf nt (nc + 1) nd (clS s nc st lv (nI f) (nI t) dy hr) := inv_cl hI hn hf h3
    refine kq_s ?_
    refine g_iload rfl ?_
    refine g_icmp_ne rfl L_L_isAhead_281 (fun h_1 => (h_1 rfl).elim) (fun h_1 => ?_)
    refine g_aload_n rfl ?_
    refine g_iconst (v := 2) ik_2 ?_
    refine g_callV (as := [_]) mk_X7_about ml_L_13 im_X7_about se_X7_about rfl rfl ⟨⟨nle rfl, nle rfl⟩, nle rfl, nle rfl⟩ hx.1 rfl rfl rfl (nle rfl) ?_
    refine l_about hx hS1 (w := 2) (v := nI (nc + 1)) (by decide) (show clS s nc st lv (nI f) (nI t) dy hr 2 = nI (nc + 1) from upd_same) ?_
    refine kq_s ?_
    refine g_iload rfl ?_
    refine g_iload rfl ?_
    refine g_if_ne rfl L_L_isAhead_215 (fun h_2 => (h_2 hw).elim) (fun h_2 => ?_)
    refine g_iconst (v := 1) ik_1 ?_
    refine g_goto rfl L_L_isAhead_216 ?_
    refine g_iadd ?_
    refine g_icmp_ne rfl L_L_isAhead_281 (fun h_3 => (h_3 (nI_1 nc).symm).elim) (fun h_3 => ?_)
    refine g_aload_n rfl ?_
    refine g_bipush (v := 11) bk_11 ?_
    refine g_callV (as := [_]) mk_X7_about ml_L_13 im_X7_about se_X7_about rfl rfl ⟨⟨nle rfl, nle rfl⟩, nle rfl, nle rfl⟩ hx.1 rfl rfl rfl (nle rfl) ?_
    refine l_about hx hS1 (w := 11) (v := s 9) (by decide) cl_9 ?_
    refine kq_s ?_
    refine g_iload rfl ?_
    refine g_iload rfl ?_
    refine g_if_ne rfl L_L_isAhead_237 (fun h_4 => (h_4 hw).elim) (fun h_4 => ?_)
    refine g_iconst (v := 0) ik_0 ?_
    refine g_goto rfl L_L_isAhead_238 ?_
    refine g_iadd ?_
    refine g_icmp_ne rfl L_L_isAhead_281 (fun h_5 => (h_5 (add_z _).symm).elim) (fun h_5 => ?_)
    refine g_iload rfl ?_
    refine g_if_gt rfl L_L_isAhead_270 (fun h_6 => absurd h_6 (by rw [hw]; decide)) (fun h_6 => ?_)
    refine g_aload_n rfl ?_
    refine g_iload rfl ?_
    refine g_iconst (v := 4) ik_4 ?_
    refine g_callV (as := [_, _]) mk_X7_classOf ml_L_19 im_X7_classOf se_X7_classOf rfl rfl ⟨⟨nle rfl, nle rfl⟩, nle rfl, nle rfl⟩ hx.1 rfl rfl rfl (nle rfl) ?_
    refine l_classOf hx hS1 hI1 (k := nc) (w := 4) (v := dy) (by omega) (by decide) cl_4 ?_
    refine kq_s ?_
    refine g_iload rfl ?_
    refine g_icmp_ne rfl L_L_isAhead_281 (fun h_7 => (h_7 rfl).elim) (fun h_7 => ?_)
    refine g_aload_n rfl ?_
    refine g_iload rfl ?_
    refine g_bipush (v := 7) bk_7 ?_
    refine g_callV (as := [_, _]) mk_X7_classOf ml_L_19 im_X7_classOf se_X7_classOf rfl rfl ⟨⟨nle rfl, nle rfl⟩, nle rfl, nle rfl⟩ hx.1 rfl rfl rfl (nle rfl) ?_
    refine l_classOf hx hS1 hI1 (k := nc) (w := 7) (v := 0) (by omega) (by decide) cl_7 ?_
    refine kq_s ?_
    refine g_if_ne rfl L_L_isAhead_281 (fun h_8 => (h_8 rfl).elim) (fun h_8 => ?_)
    refine g_fall rfl L_L_isAhead_270 ?_
    refine g_aload_n rfl ?_
    refine g_callV (as := []) mk_X7_undo ml_L_100 im_X7_undo se_X7_undo rfl rfl ⟨⟨nle rfl, nle rfl⟩, nle rfl, nle rfl⟩ hx.1 rfl rfl rfl (nle rfl) ?_
    refine l_undo1 hx hcn hO' (fun M' hO => ?_)
    refine kq_s ?_
    refine g_if_lt rfl L_L_isAhead_281 (fun h_9 => absurd h_9 (Int32.not_lt.mpr (nn (by have := (rem_top cnt hcn s blk).1; unfold remC at this ⊢; split <;> omega)))) (fun h_9 => ?_)
    refine g_iconst (v := 1) ik_1 ?_
    refine g_goto rfl L_L_isAhead_282 ?_
    refine g_istore (nle rfl) ?_
    refine g_fall rfl L_L_isAhead_284 ?_
    exact g_lo2 (ahd_284 hx hI hB hO hQ) ⟨rfl, rfl, rfl, rfl, rfl, rfl, trivial⟩
  · have hS1 := hO'.1
    refine kq_s ?_
    refine g_iload rfl ?_
    refine g_icmp_ne rfl L_L_isAhead_281 (fun h_10 => (h_10 rfl).elim) (fun h_10 => ?_)
    refine g_aload_n rfl ?_
    refine g_iconst (v := 2) ik_2 ?_
    refine g_callV (as := [_]) mk_X7_about ml_L_13 im_X7_about se_X7_about rfl rfl ⟨⟨nle rfl, nle rfl⟩, nle rfl, nle rfl⟩ hx.1 rfl rfl rfl (nle rfl) ?_
    refine l_about hx hS1 (w := 2) (v := nI nc) (by decide) ((upd_ne (by omega)).trans hI.c) ?_
    refine kq_s ?_
    refine g_iload rfl ?_
    refine g_iload rfl ?_
    refine g_if_ne rfl L_L_isAhead_215 (fun h_11 => ?_) (fun h_11 => (hw h_11).elim)
    refine g_iconst (v := 0) ik_0 ?_
    refine g_fall rfl L_L_isAhead_216 ?_
    refine g_iadd ?_
    refine g_icmp_ne rfl L_L_isAhead_281 (fun h_12 => (h_12 (add_z _).symm).elim) (fun h_12 => ?_)
    refine g_aload_n rfl ?_
    refine g_bipush (v := 11) bk_11 ?_
    refine g_callV (as := [_]) mk_X7_about ml_L_13 im_X7_about se_X7_about rfl rfl ⟨⟨nle rfl, nle rfl⟩, nle rfl, nle rfl⟩ hx.1 rfl rfl rfl (nle rfl) ?_
    refine l_about hx hS1 (w := 11) (v := s 9 + 1) (by decide) (show upd s 9 (s 9 + 1) 9 = _ from upd_same) ?_
    refine kq_s ?_
    refine g_iload rfl ?_
    refine g_iload rfl ?_
    refine g_if_ne rfl L_L_isAhead_237 (fun h_13 => ?_) (fun h_13 => (hw h_13).elim)
    refine g_iconst (v := 1) ik_1 ?_
    refine g_fall rfl L_L_isAhead_238 ?_
    refine g_iadd ?_
    refine g_icmp_ne rfl L_L_isAhead_281 (fun h_14 => (h_14 rfl).elim) (fun h_14 => ?_)
    refine g_iload rfl ?_
    refine g_if_gt rfl L_L_isAhead_270 (fun h_15 => ?_) (fun h_15 => (h_15 ((whyI_pos _ _ _ _ _ _ _ _).mpr hw)).elim)
    refine g_aload_n rfl ?_
    refine g_callV (as := []) mk_X7_undo ml_L_100 im_X7_undo se_X7_undo rfl rfl ⟨⟨nle rfl, nle rfl⟩, nle rfl, nle rfl⟩ hx.1 rfl rfl rfl (nle rfl) ?_
    refine l_undo1 hx hcn hO' (fun M' hO => ?_)
    refine kq_s ?_
    refine g_if_lt rfl L_L_isAhead_281 (fun h_16 => absurd h_16 (Int32.not_lt.mpr (nn (by have := (rem_top cnt hcn s blk).1; unfold remC at this ⊢; split <;> omega)))) (fun h_16 => ?_)
    refine g_iconst (v := 1) ik_1 ?_
    refine g_goto rfl L_L_isAhead_282 ?_
    refine g_istore (nle rfl) ?_
    refine g_fall rfl L_L_isAhead_284 ?_
    exact g_lo2 (ahd_284 hx hI hB hO hQ) ⟨rfl, rfl, rfl, rfl, rfl, rfl, trivial⟩
set_option maxRecDepth 100000 in
set_option maxHeartbeats 4000000 in
theorem ahd_168 {X : Xs} {κ : Kp} {M : Mem} {Q : Rs → Kp → Mem → Prop} {o B nf nt nc nd cnt : Nat} {s : Nat → Int32} {blk : Nat → Nat → Int32} {x y : Int32} (hx : IsDF κ.2.1 o) (hI : Inv B nf nt nc nd s) (hB : B < 1000000) (hO : OB B M o s cnt blk) (hQ : ∀ cnt' blk' M', OB (B + 1) M' o s cnt' blk' → Q (.inl (some (.int 1))) κ M') {f t : Nat} {st lv dy hr : Int32} (hf : f < nf) (ht : t < nt) (hn : nc < 10) (h1 : bd 0 3 st) (h2 : bd 1 5 lv) (h3 : bd 0 5 dy) (h4 : bd 0 5 hr) {b : Int32} (hb : whyI s nc st lv f t dy hr = 0 → 0 ≤ b) : G X m_L_isAhead B_L_isAhead_168 168 [(0, some (.ref o)), (1, some (.int x)), (2, some (.int y)), (3, some (.long (lkF s))), (5, some (.int (nI nc))), (6, some (.int (s 9))), (8, some (.int (nI f))), (9, some (.int (nI t))), (10, some (.int st)), (11, some (.int lv)), (12, some (.int dy)), (13, some (.int hr)), (14, some (.int (whyI s nc st lv f t dy hr))), (15, some (.int b))] [] 0 0 κ M Q := by
  have bf := hI.lf
  have bt' := hI.lt
  have bc := hI.lc
  have bn := hI.ld
  have hS := hO.1
  have hcn := hO.cn
  refine g_iload rfl ?_
  refine g_if_gt rfl L_L_isAhead_178 (fun h_1 => ?_) (fun h_1 => ?_)
  · exact g_lo2 (ahd_178 hx hI hB hO hQ hf ht hn h1 h2 h3 h4) ⟨rfl, rfl, rfl, rfl, rfl, rfl, rfl, rfl, rfl, rfl, rfl, rfl, rfl, trivial⟩
  · have hz : whyI s nc st lv f t dy hr = 0 := by
      rcases Int32.lt_or_le 0 (whyI s nc st lv f t dy hr) with q | q
      · exact absurd q h_1
      · exact Int32.le_antisymm q (whyI_nn _ _ _ _ _ _ _ _)
    refine g_iload rfl ?_
    refine g_if_lt rfl L_L_isAhead_281 (fun h_2 => absurd (hb hz) (Int32.not_le.mpr h_2)) (fun h_2 => ?_)
    refine g_fall rfl L_L_isAhead_178 ?_
    exact g_lo2 (ahd_178 hx hI hB hO hQ hf ht hn h1 h2 h3 h4) ⟨rfl, rfl, rfl, rfl, rfl, rfl, rfl, rfl, rfl, rfl, rfl, rfl, rfl, trivial⟩
set_option maxRecDepth 100000 in
set_option maxHeartbeats 4000000 in
theorem ct_L_isAhead {X : Xs} {κ : Kp} {M : Mem} {Q : Rs → Kp → Mem → Prop} {o B nf nt nc nd cnt : Nat} {s : Nat → Int32} {blk : Nat → Nat → Int32} {x y : Int32} (hx : IsDF κ.2.1 o) (hI : Inv B nf nt nc nd s) (hB : B < 1000000) (hO : OB B M o s cnt blk) (hQ : ∀ cnt' blk' M', OB (B + 1) M' o s cnt' blk' → Q (.inl (some (.int 1))) κ M') : Ct X m_L_isAhead [.ref o, .int x, .int y] κ M Q := by
  refine ct_of B_L_isAhead_0 pn_L rfl (nle rfl) L_L_isAhead_0 ?_
  have bf := hI.lf
  have bt' := hI.lt
  have bc := hI.lc
  have bn := hI.ld
  have hS := hO.1
  have hcn := hO.cn
  refine g_aload_n rfl ?_
  refine g_callS (as := [_]) mk_L_looks ml_L_93 sm_L_looks rfl rfl ⟨⟨nle rfl, nle rfl⟩, nle rfl, nle rfl⟩ rfl rfl (nle rfl) ?_
  refine ct_L_looks hx hS hI ?_
  refine kq_s ?_
  refine g_lstore_n (nle rfl) ?_
  refine g_aload_n rfl ?_
  refine g_iconst (v := 2) ik_2 ?_
  refine g_callV (as := [_]) mk_X7_about ml_L_13 im_X7_about se_X7_about rfl rfl ⟨⟨nle rfl, nle rfl⟩, nle rfl, nle rfl⟩ hx.1 rfl rfl rfl (nle rfl) ?_
  refine l_about hx hS (w := 2) (v := nI nc) (by decide) hI.c ?_
  refine kq_s ?_
  refine g_istore (nle rfl) ?_
  refine g_aload_n rfl ?_
  refine g_bipush (v := 11) bk_11 ?_
  refine g_callV (as := [_]) mk_X7_about ml_L_13 im_X7_about se_X7_about rfl rfl ⟨⟨nle rfl, nle rfl⟩, nle rfl, nle rfl⟩ hx.1 rfl rfl rfl (nle rfl) ?_
  refine l_about hx hS (w := 11) (v := s 9) (by decide) rfl ?_
  refine kq_s ?_
  refine g_istore (nle rfl) ?_
  refine g_iconst (v := 1) ik_1 ?_
  refine g_istore (nle rfl) ?_
  refine g_aload_n rfl ?_
  refine g_iconst (v := 0) ik_0 ?_
  refine g_callV (as := [_]) mk_X7_about ml_L_13 im_X7_about se_X7_about rfl rfl ⟨⟨nle rfl, nle rfl⟩, nle rfl, nle rfl⟩ hx.1 rfl rfl rfl (nle rfl) ?_
  refine l_about hx hS (w := 0) (v := nI nf) (by decide) hI.f ?_
  refine kq_s ?_
  refine g_if_le rfl L_L_isAhead_284 (fun h_1 => ?_) (fun h_1 => ?_)
  · have q_1 : nf ≤ 0 := (nI_leI (a := nf) (b := 0) (by omega) (by omega)).mp h_1
    exact g_lo2 (ahd_284 hx hI hB hO hQ) ⟨rfl, rfl, rfl, rfl, rfl, rfl, trivial⟩
  · have q_1 : 0 < nf := Nat.not_le.mp (fun e => h_1 ((nI_leI (a := nf) (b := 0) (by omega) (by omega)).mpr e))
    refine g_aload_n rfl ?_
    refine g_iconst (v := 1) ik_1 ?_
    refine g_callV (as := [_]) mk_X7_about ml_L_13 im_X7_about se_X7_about rfl rfl ⟨⟨nle rfl, nle rfl⟩, nle rfl, nle rfl⟩ hx.1 rfl rfl rfl (nle rfl) ?_
    refine l_about hx hS (w := 1) (v := nI nt) (by decide) hI.t ?_
    refine kq_s ?_
    refine g_if_le rfl L_L_isAhead_284 (fun h_2 => ?_) (fun h_2 => ?_)
    · have q_2 : nt ≤ 0 := (nI_leI (a := nt) (b := 0) (by omega) (by omega)).mp h_2
      exact g_lo2 (ahd_284 hx hI hB hO hQ) ⟨rfl, rfl, rfl, rfl, rfl, rfl, trivial⟩
    · have q_2 : 0 < nt := Nat.not_le.mp (fun e => h_2 ((nI_leI (a := nt) (b := 0) (by omega) (by omega)).mpr e))
      refine g_iload rfl ?_
      refine g_bipush (v := 10) bk_10 ?_
      refine g_icmp_ge rfl L_L_isAhead_284 (fun h_3 => ?_) (fun h_3 => ?_)
      · have hn : 10 ≤ nc := (nI_leI (a := 10) (b := nc) (by omega) (by omega)).mp h_3
        exact g_lo2 (ahd_284 hx hI hB hO hQ) ⟨rfl, rfl, rfl, rfl, rfl, rfl, trivial⟩
      · have hn : nc < 10 := Nat.not_le.mp (fun e => h_3 ((nI_leI (a := 10) (b := nc) (by omega) (by omega)).mpr e))
        have hf : (upN x nf) < nf := upN_lt _ (by omega)
        have ht : (upN y nt) < nt := upN_lt _ (by omega)
        refine g_iload_n rfl ?_
        refine g_aload_n rfl ?_
        refine g_iconst (v := 0) ik_0 ?_
        refine g_callV (as := [_]) mk_X7_about ml_L_13 im_X7_about se_X7_about rfl rfl ⟨⟨nle rfl, nle rfl⟩, nle rfl, nle rfl⟩ hx.1 rfl rfl rfl (nle rfl) ?_
        refine l_about hx hS (w := 0) (v := nI nf) (by decide) hI.f ?_
        refine kq_s ?_
        refine g_callS (as := [_, _]) mk_L_up ml_L_35 sm_L_up rfl rfl ⟨⟨nle rfl, nle rfl⟩, nle rfl, nle rfl⟩ rfl rfl (nle rfl) ?_
        refine ct_L_up (m := nf) (by omega) (by omega) ?_
        refine kq_s ?_
        refine g_istore (nle rfl) ?_
        refine g_iload_n rfl ?_
        refine g_aload_n rfl ?_
        refine g_iconst (v := 1) ik_1 ?_
        refine g_callV (as := [_]) mk_X7_about ml_L_13 im_X7_about se_X7_about rfl rfl ⟨⟨nle rfl, nle rfl⟩, nle rfl, nle rfl⟩ hx.1 rfl rfl rfl (nle rfl) ?_
        refine l_about hx hS (w := 1) (v := nI nt) (by decide) hI.t ?_
        refine kq_s ?_
        refine g_callS (as := [_, _]) mk_L_up ml_L_35 sm_L_up rfl rfl ⟨⟨nle rfl, nle rfl⟩, nle rfl, nle rfl⟩ rfl rfl (nle rfl) ?_
        refine ct_L_up (m := nt) (by omega) (by omega) ?_
        refine kq_s ?_
        refine g_istore (nle rfl) ?_
        refine g_iload_n rfl ?_
        refine g_iconst (v := 3) ik_3 ?_
        refine g_ishr ?_
        refine g_iconst (v := 4) ik_4 ?_
        refine g_callS (as := [_, _]) mk_L_up ml_L_35 sm_L_up rfl rfl ⟨⟨nle rfl, nle rfl⟩, nle rfl, nle rfl⟩ rfl rfl (nle rfl) ?_
        refine ct_L_up (m := 4) (by omega) (by omega) ?_
        refine kq_s ?_
        refine g_istore (nle rfl) ?_
        refine g_iconst (v := 1) ik_1 ?_
        refine g_iload_n rfl ?_
        refine g_iconst (v := 3) ik_3 ?_
        refine g_ishr ?_
        refine g_iconst (v := 5) ik_5 ?_
        refine g_callS (as := [_, _]) mk_L_up ml_L_35 sm_L_up rfl rfl ⟨⟨nle rfl, nle rfl⟩, nle rfl, nle rfl⟩ rfl rfl (nle rfl) ?_
        refine ct_L_up (m := 5) (by omega) (by omega) ?_
        refine kq_s ?_
        refine g_iadd ?_
        refine g_istore (nle rfl) ?_
        refine g_iload_n rfl ?_
        refine g_bipush (v := 6) bk_6 ?_
        refine g_ishr ?_
        refine g_bipush (v := 6) bk_6 ?_
        refine g_callS (as := [_, _]) mk_L_up ml_L_35 sm_L_up rfl rfl ⟨⟨nle rfl, nle rfl⟩, nle rfl, nle rfl⟩ rfl rfl (nle rfl) ?_
        refine ct_L_up (m := 6) (by omega) (by omega) ?_
        refine kq_s ?_
        refine g_istore (nle rfl) ?_
        refine g_iload_n rfl ?_
        refine g_bipush (v := 6) bk_6 ?_
        refine g_ishr ?_
        refine g_bipush (v := 6) bk_6 ?_
        refine g_callS (as := [_, _]) mk_L_up ml_L_35 sm_L_up rfl rfl ⟨⟨nle rfl, nle rfl⟩, nle rfl, nle rfl⟩ rfl rfl (nle rfl) ?_
        refine ct_L_up (m := 6) (by omega) (by omega) ?_
        refine kq_s ?_
        refine g_istore (nle rfl) ?_
        refine g_aload_n rfl ?_
        refine g_iload rfl ?_
        refine g_iload rfl ?_
        refine g_iload rfl ?_
        refine g_iload rfl ?_
        refine g_iload rfl ?_
        refine g_iload rfl ?_
        refine g_callV (as := [_, _, _, _, _, _]) mk_X7_why ml_L_97 im_X7_why se_X7_why rfl rfl ⟨⟨nle rfl, nle rfl⟩, nle rfl, nle rfl⟩ hx.1 rfl rfl rfl (nle rfl) ?_
        refine l_why hx hS hI hf ht (bd_up (m := 4) (by omega)) (bd_1up (m := 5) (by omega)) (bd_up (m := 6) (by omega)) (bd_up (m := 6) (by omega)) ?_
        refine kq_s ?_
        refine g_istore (nle rfl) ?_
        refine g_aload_n rfl ?_
        refine g_iload rfl ?_
        refine g_iload rfl ?_
        refine g_iload rfl ?_
        refine g_iload rfl ?_
        refine g_iload rfl ?_
        refine g_callV (as := [_, _, _, _, _]) mk_X7_bestFloor ml_L_51 im_X7_bestFloor se_X7_bestFloor rfl rfl ⟨⟨nle rfl, nle rfl⟩, nle rfl, nle rfl⟩ hx.1 rfl rfl rfl (nle rfl) ?_
        refine l_bestFloor hx hS hI ht (bd_up (m := 4) (by omega)) (bd_1up (m := 5) (by omega)) (bd_up (m := 6) (by omega)) (bd_up (m := 6) (by omega)) ?_
        refine kq_s ?_
        refine g_istore (nle rfl) ?_
        refine g_iload rfl ?_
        refine g_if_lt rfl L_L_isAhead_168 (fun h_4 => ?_) (fun h_4 => ?_)
        · exact g_lo2 (ahd_168 hx hI hB hO hQ hf ht hn (bd_up (m := 4) (by omega)) (bd_1up (m := 5) (by omega)) (bd_up (m := 6) (by omega)) (bd_up (m := 6) (by omega)) (fun h => bf_yes hI hf (bd_1up (m := 5) (by omega)) h)) ⟨rfl, rfl, rfl, rfl, rfl, rfl, rfl, rfl, rfl, rfl, rfl, rfl, rfl, rfl, trivial⟩
        · obtain ⟨g, g1, g2, g3⟩ : ∃ g, g < nf ∧ (bfC s nc (nI (upN (x >>> (3 &&& 31)) 4)) ((1 : Int32) + nI (upN (y >>> (3 &&& 31)) 5)) (upN y nt) (nI (upN (x >>> (6 &&& 31)) 6)) (nI (upN (y >>> (6 &&& 31)) 6)) nf).1 = nI g ∧ whyI s nc (nI (upN (x >>> (3 &&& 31)) 4)) ((1 : Int32) + nI (upN (y >>> (3 &&& 31)) 5)) g (upN y nt) (nI (upN (x >>> (6 &&& 31)) 6)) (nI (upN (y >>> (6 &&& 31)) 6)) = 0 := by
            rcases bf_cases (s := s) (nc := nc) (st := nI (upN (x >>> (3 &&& 31)) 4)) (lv := (1 : Int32) + nI (upN (y >>> (3 &&& 31)) 5)) (t := (upN y nt)) (dy := nI (upN (x >>> (6 &&& 31)) 6)) (hr := nI (upN (y >>> (6 &&& 31)) 6)) nf (by omega) with q | q
            · rw [q] at h_4; exact absurd h_4 (by decide)
            · exact q
          refine g_aload_n rfl ?_
          refine g_iload rfl ?_
          refine g_iload rfl ?_
          refine g_iload rfl ?_
          refine g_iload rfl ?_
          refine g_iload rfl ?_
          refine g_iload rfl ?_
          refine g_callV (as := [_, _, _, _, _, _]) mk_X7_why ml_L_97 im_X7_why se_X7_why rfl rfl ⟨⟨nle rfl, nle rfl⟩, nle rfl, nle rfl⟩ hx.1 rfl rfl rfl (nle rfl) ?_
          rw [g2]
          refine l_why hx hS hI g1 ht (bd_up (m := 4) (by omega)) (bd_1up (m := 5) (by omega)) (bd_up (m := 6) (by omega)) (bd_up (m := 6) (by omega)) ?_
          rw [g3]
          refine kq_s ?_
          refine g_if_ne rfl L_L_isAhead_281 (fun h_5 => absurd h_5 (by decide)) (fun h_5 => ?_)
          refine g_fall rfl L_L_isAhead_168 ?_
          exact g_lo2 (ahd_168 hx hI hB hO hQ hf ht hn (bd_up (m := 4) (by omega)) (bd_1up (m := 5) (by omega)) (bd_up (m := 6) (by omega)) (bd_up (m := 6) (by omega)) (fun _ => nn (by omega))) ⟨rfl, rfl, rfl, rfl, rfl, rfl, rfl, rfl, rfl, rfl, rfl, rfl, rfl, rfl, trivial⟩
