set_option maxRecDepth 100000 in
set_option maxHeartbeats 4000000 in
theorem ct_X8_can {X : Xs} {κ : Kp} {M : Mem} {Q : Rs → Kp → Mem → Prop} {m : Nat} (hm : IsMod κ.2.1 m) {B : Nat} (hI : IR B (M (m + 1))) {c : Nat} {qs : List (Bool × Nat × Nat)} {a : Nat → Int32} (hc : c < 256) (h7 : M m 7 = nI c) (hfl : flds c = some qs) (hv : ∀ i, i < qs.length → M (m + 4) i = a i) (hQ : Q (.inl (some (.int (bI (cmdG c (M (m + 1)) a))))) κ M) : Ct X m_X8_can [.ref m] κ M Q := by
  refine ct_of B_X8_can_0 pn_X8 rfl (nle rfl) L_X8_can_0 ?_
  refine g_aload_n rfl ?_
  refine g_getI fl_X8_102 rfl hm.1 rfl ?_
  rw [h7]
  rcases sw_cases (nI c) 99 22 (nle rfl) with ⟨j_4, hj_4, hx_4⟩ | ho_4
  · have hc_4 : j_4 = 0 ∨ j_4 = 1 ∨ j_4 = 2 ∨ j_4 = 3 ∨ j_4 = 4 ∨ j_4 = 5 ∨ j_4 = 6 ∨ j_4 = 7 ∨ j_4 = 8 ∨ j_4 = 9 ∨ j_4 = 10 ∨ j_4 = 11 ∨ j_4 = 12 ∨ j_4 = 13 ∨ j_4 = 14 ∨ j_4 = 15 ∨ j_4 = 16 ∨ j_4 = 17 ∨ j_4 = 18 ∨ j_4 = 19 ∨ j_4 = 20 ∨ j_4 = 21 := by omega
    rcases hc_4 with rfl | rfl | rfl | rfl | rfl | rfl | rfl | rfl | rfl | rfl | rfl | rfl | rfl | rfl | rfl | rfl | rfl | rfl | rfl | rfl | rfl | rfl
    · replace hx_4 : (nI c) = 99 := hx_4.trans (by decide)
      refine g_tabIn (off := 136) (by rw [hx_4]; decide) (by rw [hx_4]; decide) (by rw [hx_4]; decide) rfl L_X8_can_140 ?_
      have hcc : c = 99 := (nI_eq (a := c) (b := 99) (by omega) (by omega)).mp hx_4
      subst hcc
      have hq : [(false, 0, 3), (false, 1, 5), (false, 0, 3), (false, 0, 4), (false, 0, 5), (false, 0, 5)] = qs := Option.some.inj hfl
      subst hq
      refine g_aload_n rfl ?_
      refine g_callV (as := []) mk_X8_canSet ml_X8_133 im_X8_canSet se_X8_canSet rfl rfl ⟨⟨nle rfl, nle rfl⟩, nle rfl, nle rfl⟩ hm.1 rfl rfl rfl (nle rfl) ?_
      refine ct_X8_canSet hm ?_
      rw [hv 2 (by decide), hv 3 (by decide)]
      refine kq_s ?_
      refine g_if_eq_b rfl L_X8_can_194 (fun h_1 => ?_) (fun h_1 => ?_)
      · have hgh := h_1
        refine g_iconst (v := 0) ik_0 ?_
        refine g_fall rfl L_X8_can_195 ?_
        refine g_zret rfl rfl (nle rfl) (nle rfl) ?_
        refine qeq hQ ?_ rfl
        show _ = bI (gCl (M (m + 1)) (a 2) (a 3) && decide (wCl (M (m + 1)) (a 0) (a 1) (a 2) (a 3) (a 4) (a 5) = 0))
        have hgc : gCl (M (m + 1)) (a 2) (a 3) = false := hgh
        rw [hgc]
        rfl
      · have hgh := h_1
        refine g_aload_n rfl ?_
        refine g_aload_n rfl ?_
        refine g_getR (w := (m + 4)) fl_X8_19 rfl hm.1 rfl ?_
        refine g_iconst (v := 0) ik_0 ?_
        refine g_iaload (j := 0) hm.2.2.2.2 rfl (nle rfl) (nle rfl) ?_
        rw [hv 0 (by decide)]
        refine g_aload_n rfl ?_
        refine g_getR (w := (m + 4)) fl_X8_19 rfl hm.1 rfl ?_
        refine g_iconst (v := 1) ik_1 ?_
        refine g_iaload (j := 1) hm.2.2.2.2 rfl (nle rfl) (nle rfl) ?_
        rw [hv 1 (by decide)]
        refine g_aload_n rfl ?_
        refine g_getR (w := (m + 4)) fl_X8_19 rfl hm.1 rfl ?_
        refine g_iconst (v := 2) ik_2 ?_
        refine g_iaload (j := 2) hm.2.2.2.2 rfl (nle rfl) (nle rfl) ?_
        rw [hv 2 (by decide)]
        refine g_aload_n rfl ?_
        refine g_getR (w := (m + 4)) fl_X8_19 rfl hm.1 rfl ?_
        refine g_iconst (v := 3) ik_3 ?_
        refine g_iaload (j := 3) hm.2.2.2.2 rfl (nle rfl) (nle rfl) ?_
        rw [hv 3 (by decide)]
        refine g_aload_n rfl ?_
        refine g_getR (w := (m + 4)) fl_X8_19 rfl hm.1 rfl ?_
        refine g_iconst (v := 4) ik_4 ?_
        refine g_iaload (j := 4) hm.2.2.2.2 rfl (nle rfl) (nle rfl) ?_
        rw [hv 4 (by decide)]
        refine g_aload_n rfl ?_
        refine g_getR (w := (m + 4)) fl_X8_19 rfl hm.1 rfl ?_
        refine g_iconst (v := 5) ik_5 ?_
        refine g_iaload (j := 5) hm.2.2.2.2 rfl (nle rfl) (nle rfl) ?_
        rw [hv 5 (by decide)]
        refine g_callV (as := [_, _, _, _, _, _]) mk_X8_whyNo ml_X8_136 im_X8_whyNo se_X8_whyNo rfl rfl ⟨⟨nle rfl, nle rfl⟩, nle rfl, nle rfl⟩ hm.1 rfl rfl rfl (nle rfl) ?_
        have hgc : gCl (M (m + 1)) (a 2) (a 3) = true := hgh
        have hg2 := hgc
        unfold gCl at hg2
        rw [Bool.and_eq_true, Bool.and_eq_true] at hg2
        refine m_whyNo hm hI hg2.2.1 hg2.2.2 ?_
        refine kq_s ?_
        refine g_if_ne rfl L_X8_can_194 (fun h_2 => ?_) (fun h_2 => ?_)
        · refine g_iconst (v := 0) ik_0 ?_
          refine g_fall rfl L_X8_can_195 ?_
          refine g_zret rfl rfl (nle rfl) (nle rfl) ?_
          refine qeq hQ ?_ rfl
          show _ = bI (gCl (M (m + 1)) (a 2) (a 3) && decide (wCl (M (m + 1)) (a 0) (a 1) (a 2) (a 3) (a 4) (a 5) = 0))
          rw [hgc, decide_eq_false (by assumption)]
          rfl
        · refine g_iconst (v := 1) ik_1 ?_
          refine g_goto rfl L_X8_can_195 ?_
          refine g_zret rfl rfl (nle rfl) (nle rfl) ?_
          refine qeq hQ ?_ rfl
          show _ = bI (gCl (M (m + 1)) (a 2) (a 3) && decide (wCl (M (m + 1)) (a 0) (a 1) (a 2) (a 3) (a 4) (a 5) = 0))
          rw [hgc, decide_eq_true (by assumption)]
          rfl
    · replace hx_4 : (nI c) = 100 := hx_4.trans (by decide)
      refine g_tabIn (off := 192) (by rw [hx_4]; decide) (by rw [hx_4]; decide) (by rw [hx_4]; decide) rfl L_X8_can_196 ?_
      have hcc : c = 100 := (nI_eq (a := c) (b := 100) (by omega) (by omega)).mp hx_4
      subst hcc
      have hq : [] = qs := Option.some.inj hfl
      subst hq
      refine g_aload_n rfl ?_
      refine g_getR (w := (m + 1)) fl_X8_7 rfl hm.1 rfl ?_
      refine g_iconst (v := 3) ik_3 ?_
      refine g_iaload (j := 3) hm.2.1 rfl (nle rfl) (nle rfl) ?_
      refine g_bipush (v := 12) bk_12 ?_
      refine g_icmp_ge rfl L_X8_can_211 (fun h_3 => ?_) (fun h_3 => ?_)
      · refine g_iconst (v := 0) ik_0 ?_
        refine g_fall rfl L_X8_can_212 ?_
        refine g_zret rfl rfl (nle rfl) (nle rfl) ?_
        refine qeq hQ ?_ rfl
        show _ = bI (gDa (M (m + 1)))
        clear hQ; simp_all [gFl, gTe, gDa, bI, i32le, -Int32.not_lt]
      · refine g_iconst (v := 1) ik_1 ?_
        refine g_goto rfl L_X8_can_212 ?_
        refine g_zret rfl rfl (nle rfl) (nle rfl) ?_
        refine qeq hQ ?_ rfl
        show _ = bI (gDa (M (m + 1)))
        clear hQ; simp_all [gFl, gTe, gDa, bI, i32le, -Int32.not_lt]
    · replace hx_4 : (nI c) = 101 := hx_4.trans (by decide)
      refine g_tabIn (off := 220) (by rw [hx_4]; decide) (by rw [hx_4]; decide) (by rw [hx_4]; decide) rfl L_X8_can_224 ?_
      have hcc : c = 101 := (nI_eq (a := c) (b := 101) (by omega) (by omega)).mp hx_4
      subst hcc
      have hq : [(true, 0, 11), (false, 0, 9)] = qs := Option.some.inj hfl
      subst hq
      refine g_aload_n rfl ?_
      refine g_callV (as := []) mk_X8_areBoth ml_X8_143 im_X8_areBoth se_X8_areBoth rfl rfl ⟨⟨nle rfl, nle rfl⟩, nle rfl, nle rfl⟩ hm.1 rfl rfl rfl (nle rfl) ?_
      refine ct_X8_areBoth hm ?_
      rw [hv 0 (by decide), hv 1 (by decide)]
      refine kq_s ?_
      refine g_if_eq_b rfl L_X8_can_254 (fun h_4 => ?_) (fun h_4 => ?_)
      · have hgh := h_4
        refine g_iconst (v := 0) ik_0 ?_
        refine g_fall rfl L_X8_can_255 ?_
        refine g_zret rfl rfl (nle rfl) (nle rfl) ?_
        refine qeq hQ ?_ rfl
        show _ = bI (gSe (M (m + 1)) (a 0) (a 1) && decide (wSe (M (m + 1)) (a 0) (a 1) = 0))
        have hgc : gSe (M (m + 1)) (a 0) (a 1) = false := hgh
        rw [hgc]
        rfl
      · have hgh := h_4
        refine g_aload_n rfl ?_
        refine g_aload_n rfl ?_
        refine g_getR (w := (m + 4)) fl_X8_19 rfl hm.1 rfl ?_
        refine g_iconst (v := 0) ik_0 ?_
        refine g_iaload (j := 0) hm.2.2.2.2 rfl (nle rfl) (nle rfl) ?_
        rw [hv 0 (by decide)]
        refine g_aload_n rfl ?_
        refine g_getR (w := (m + 4)) fl_X8_19 rfl hm.1 rfl ?_
        refine g_iconst (v := 1) ik_1 ?_
        refine g_iaload (j := 1) hm.2.2.2.2 rfl (nle rfl) (nle rfl) ?_
        rw [hv 1 (by decide)]
        refine g_callV (as := [_, _]) mk_X8_whyNoSeat ml_X8_146 im_X8_whyNoSeat se_X8_whyNoSeat rfl rfl ⟨⟨nle rfl, nle rfl⟩, nle rfl, nle rfl⟩ hm.1 rfl rfl rfl (nle rfl) ?_
        have hgc : gSe (M (m + 1)) (a 0) (a 1) = true := hgh
        refine m_whyNoSeat hm hI hgc ?_
        refine kq_s ?_
        refine g_if_ne rfl L_X8_can_254 (fun h_5 => ?_) (fun h_5 => ?_)
        · refine g_iconst (v := 0) ik_0 ?_
          refine g_fall rfl L_X8_can_255 ?_
          refine g_zret rfl rfl (nle rfl) (nle rfl) ?_
          refine qeq hQ ?_ rfl
          show _ = bI (gSe (M (m + 1)) (a 0) (a 1) && decide (wSe (M (m + 1)) (a 0) (a 1) = 0))
          rw [hgc, decide_eq_false (by assumption)]
          rfl
        · refine g_iconst (v := 1) ik_1 ?_
          refine g_goto rfl L_X8_can_255 ?_
          refine g_zret rfl rfl (nle rfl) (nle rfl) ?_
          refine qeq hQ ?_ rfl
          show _ = bI (gSe (M (m + 1)) (a 0) (a 1) && decide (wSe (M (m + 1)) (a 0) (a 1) = 0))
          rw [hgc, decide_eq_true (by assumption)]
          rfl
    · replace hx_4 : (nI c) = 102 := hx_4.trans (by decide)
      refine g_tabIn (off := 104) (by rw [hx_4]; decide) (by rw [hx_4]; decide) (by rw [hx_4]; decide) rfl L_X8_can_108 ?_
      have hcc : c = 102 := (nI_eq (a := c) (b := 102) (by omega) (by omega)).mp hx_4
      subst hcc
      have hq : [(false, 1, 9), (false, 0, 4), (true, 0, 60), (true, 1, 30)] = qs := Option.some.inj hfl
      subst hq
      refine g_aload_n rfl ?_
      refine g_getR (w := (m + 1)) fl_X8_7 rfl hm.1 rfl ?_
      refine g_iconst (v := 0) ik_0 ?_
      refine g_iaload (j := 0) hm.2.1 rfl (nle rfl) (nle rfl) ?_
      refine g_iconst (v := 4) ik_4 ?_
      refine g_icmp_ge rfl L_X8_can_122 (fun h_6 => ?_) (fun h_6 => ?_)
      · refine g_iconst (v := 0) ik_0 ?_
        refine g_fall rfl L_X8_can_123 ?_
        refine g_zret rfl rfl (nle rfl) (nle rfl) ?_
        refine qeq hQ ?_ rfl
        show _ = bI (gFl (M (m + 1)))
        clear hQ; simp_all [gFl, gTe, gDa, bI, i32le, -Int32.not_lt]
      · refine g_iconst (v := 1) ik_1 ?_
        refine g_goto rfl L_X8_can_123 ?_
        refine g_zret rfl rfl (nle rfl) (nle rfl) ?_
        refine qeq hQ ?_ rfl
        show _ = bI (gFl (M (m + 1)))
        clear hQ; simp_all [gFl, gTe, gDa, bI, i32le, -Int32.not_lt]
    · replace hx_4 : (nI c) = 103 := hx_4.trans (by decide)
      refine g_tabIn (off := 295) (by rw [hx_4]; decide) (by rw [hx_4]; decide) (by rw [hx_4]; decide) rfl L_X8_can_299 ?_
      have hcc : c = 103 := (nI_eq (a := c) (b := 103) (by omega) (by omega)).mp hx_4
      subst hcc
      cases hfl
    · replace hx_4 : (nI c) = 104 := hx_4.trans (by decide)
      refine g_tabIn (off := 295) (by rw [hx_4]; decide) (by rw [hx_4]; decide) (by rw [hx_4]; decide) rfl L_X8_can_299 ?_
      have hcc : c = 104 := (nI_eq (a := c) (b := 104) (by omega) (by omega)).mp hx_4
      subst hcc
      cases hfl
    · replace hx_4 : (nI c) = 105 := hx_4.trans (by decide)
      refine g_tabIn (off := 295) (by rw [hx_4]; decide) (by rw [hx_4]; decide) (by rw [hx_4]; decide) rfl L_X8_can_299 ?_
      have hcc : c = 105 := (nI_eq (a := c) (b := 105) (by omega) (by omega)).mp hx_4
      subst hcc
      cases hfl
    · replace hx_4 : (nI c) = 106 := hx_4.trans (by decide)
      refine g_tabIn (off := 295) (by rw [hx_4]; decide) (by rw [hx_4]; decide) (by rw [hx_4]; decide) rfl L_X8_can_299 ?_
      have hcc : c = 106 := (nI_eq (a := c) (b := 106) (by omega) (by omega)).mp hx_4
      subst hcc
      cases hfl
    · replace hx_4 : (nI c) = 107 := hx_4.trans (by decide)
      refine g_tabIn (off := 295) (by rw [hx_4]; decide) (by rw [hx_4]; decide) (by rw [hx_4]; decide) rfl L_X8_can_299 ?_
      have hcc : c = 107 := (nI_eq (a := c) (b := 107) (by omega) (by omega)).mp hx_4
      subst hcc
      cases hfl
    · replace hx_4 : (nI c) = 108 := hx_4.trans (by decide)
      refine g_tabIn (off := 252) (by rw [hx_4]; decide) (by rw [hx_4]; decide) (by rw [hx_4]; decide) rfl L_X8_can_256 ?_
      have hcc : c = 108 := (nI_eq (a := c) (b := 108) (by omega) (by omega)).mp hx_4
      subst hcc
      have hq : [(true, 0, 11), (false, 0, 9)] = qs := Option.some.inj hfl
      subst hq
      refine g_aload_n rfl ?_
      refine g_callV (as := []) mk_X8_areBoth ml_X8_143 im_X8_areBoth se_X8_areBoth rfl rfl ⟨⟨nle rfl, nle rfl⟩, nle rfl, nle rfl⟩ hm.1 rfl rfl rfl (nle rfl) ?_
      refine ct_X8_areBoth hm ?_
      rw [hv 0 (by decide), hv 1 (by decide)]
      refine kq_s ?_
      refine g_if_eq_b rfl L_X8_can_286 (fun h_7 => ?_) (fun h_7 => ?_)
      · have hgh := h_7
        refine g_iconst (v := 0) ik_0 ?_
        refine g_fall rfl L_X8_can_287 ?_
        refine g_zret rfl rfl (nle rfl) (nle rfl) ?_
        refine qeq hQ ?_ rfl
        show _ = bI (isD (M (m + 1)) (a 0) && (isC (M (m + 1)) (a 1) && bitS (M (m + 1) (39 + 9 * tn (a 1) + 8)) (a 0)))
        rw [← Bool.and_assoc]
        have hgc : (isD (M (m + 1)) (a 0) && isC (M (m + 1)) (a 1)) = false := hgh
        rw [hgc]
        rfl
      · have hgh := h_7
        refine g_aload_n rfl ?_
        refine g_aload_n rfl ?_
        refine g_getR (w := (m + 4)) fl_X8_19 rfl hm.1 rfl ?_
        refine g_iconst (v := 0) ik_0 ?_
        refine g_iaload (j := 0) hm.2.2.2.2 rfl (nle rfl) (nle rfl) ?_
        rw [hv 0 (by decide)]
        refine g_aload_n rfl ?_
        refine g_getR (w := (m + 4)) fl_X8_19 rfl hm.1 rfl ?_
        refine g_iconst (v := 1) ik_1 ?_
        refine g_iaload (j := 1) hm.2.2.2.2 rfl (nle rfl) (nle rfl) ?_
        rw [hv 1 (by decide)]
        refine g_callV (as := [_, _]) mk_X8_hasSeat ml_X8_53 im_X8_hasSeat se_X8_hasSeat rfl rfl ⟨⟨nle rfl, nle rfl⟩, nle rfl, nle rfl⟩ hm.1 rfl rfl rfl (nle rfl) ?_
        have hgc : gSe (M (m + 1)) (a 0) (a 1) = true := hgh
        have hg2 := hgc
        unfold gSe at hg2
        rw [Bool.and_eq_true] at hg2
        refine m_hasSeat hm hI hg2.2 ?_
        refine kq_s ?_
        refine g_if_eq_b rfl L_X8_can_286 (fun h_8 => ?_) (fun h_8 => ?_)
        · refine g_iconst (v := 0) ik_0 ?_
          refine g_fall rfl L_X8_can_287 ?_
          refine g_zret rfl rfl (nle rfl) (nle rfl) ?_
          refine qeq hQ ?_ rfl
          show _ = bI (isD (M (m + 1)) (a 0) && (isC (M (m + 1)) (a 1) && bitS (M (m + 1) (39 + 9 * tn (a 1) + 8)) (a 0)))
          rw [← Bool.and_assoc]
          have hgc2 : (isD (M (m + 1)) (a 0) && isC (M (m + 1)) (a 1)) = true := hgc
          rw [hgc2]
          simp_all [bI]
        · refine g_iconst (v := 1) ik_1 ?_
          refine g_goto rfl L_X8_can_287 ?_
          refine g_zret rfl rfl (nle rfl) (nle rfl) ?_
          refine qeq hQ ?_ rfl
          show _ = bI (isD (M (m + 1)) (a 0) && (isC (M (m + 1)) (a 1) && bitS (M (m + 1) (39 + 9 * tn (a 1) + 8)) (a 0)))
          rw [← Bool.and_assoc]
          have hgc2 : (isD (M (m + 1)) (a 0) && isC (M (m + 1)) (a 1)) = true := hgc
          rw [hgc2]
          simp_all [bI]
    · replace hx_4 : (nI c) = 109 := hx_4.trans (by decide)
      refine g_tabIn (off := 295) (by rw [hx_4]; decide) (by rw [hx_4]; decide) (by rw [hx_4]; decide) rfl L_X8_can_299 ?_
      have hcc : c = 109 := (nI_eq (a := c) (b := 109) (by omega) (by omega)).mp hx_4
      subst hcc
      cases hfl
    · replace hx_4 : (nI c) = 110 := hx_4.trans (by decide)
      refine g_tabIn (off := 295) (by rw [hx_4]; decide) (by rw [hx_4]; decide) (by rw [hx_4]; decide) rfl L_X8_can_299 ?_
      have hcc : c = 110 := (nI_eq (a := c) (b := 110) (by omega) (by omega)).mp hx_4
      subst hcc
      cases hfl
    · replace hx_4 : (nI c) = 111 := hx_4.trans (by decide)
      refine g_tabIn (off := 295) (by rw [hx_4]; decide) (by rw [hx_4]; decide) (by rw [hx_4]; decide) rfl L_X8_can_299 ?_
      have hcc : c = 111 := (nI_eq (a := c) (b := 111) (by omega) (by omega)).mp hx_4
      subst hcc
      cases hfl
    · replace hx_4 : (nI c) = 112 := hx_4.trans (by decide)
      refine g_tabIn (off := 209) (by rw [hx_4]; decide) (by rw [hx_4]; decide) (by rw [hx_4]; decide) rfl L_X8_can_213 ?_
      have hcc : c = 112 := (nI_eq (a := c) (b := 112) (by omega) (by omega)).mp hx_4
      subst hcc
      have hq : [(true, 0, 11)] = qs := Option.some.inj hfl
      subst hq
      refine g_aload_n rfl ?_
      refine g_aload_n rfl ?_
      refine g_getR (w := (m + 4)) fl_X8_19 rfl hm.1 rfl ?_
      refine g_iconst (v := 0) ik_0 ?_
      refine g_iaload (j := 0) hm.2.2.2.2 rfl (nle rfl) (nle rfl) ?_
      rw [hv 0 (by decide)]
      refine g_callV (as := [_]) mk_X8_canPass ml_X8_140 im_X8_canPass se_X8_canPass rfl rfl ⟨⟨nle rfl, nle rfl⟩, nle rfl, nle rfl⟩ hm.1 rfl rfl rfl (nle rfl) ?_
      refine m_canPass hm hI ?_
      refine kq_s ?_
      refine g_zret rfl (nar_bI _) (nle rfl) (nle rfl) ?_
      exact hQ
    · replace hx_4 : (nI c) = 113 := hx_4.trans (by decide)
      refine g_tabIn (off := 295) (by rw [hx_4]; decide) (by rw [hx_4]; decide) (by rw [hx_4]; decide) rfl L_X8_can_299 ?_
      have hcc : c = 113 := (nI_eq (a := c) (b := 113) (by omega) (by omega)).mp hx_4
      subst hcc
      cases hfl
    · replace hx_4 : (nI c) = 114 := hx_4.trans (by decide)
      refine g_tabIn (off := 295) (by rw [hx_4]; decide) (by rw [hx_4]; decide) (by rw [hx_4]; decide) rfl L_X8_can_299 ?_
      have hcc : c = 114 := (nI_eq (a := c) (b := 114) (by omega) (by omega)).mp hx_4
      subst hcc
      cases hfl
    · replace hx_4 : (nI c) = 115 := hx_4.trans (by decide)
      refine g_tabIn (off := 295) (by rw [hx_4]; decide) (by rw [hx_4]; decide) (by rw [hx_4]; decide) rfl L_X8_can_299 ?_
      have hcc : c = 115 := (nI_eq (a := c) (b := 115) (by omega) (by omega)).mp hx_4
      subst hcc
      cases hfl
    · replace hx_4 : (nI c) = 116 := hx_4.trans (by decide)
      refine g_tabIn (off := 120) (by rw [hx_4]; decide) (by rw [hx_4]; decide) (by rw [hx_4]; decide) rfl L_X8_can_124 ?_
      have hcc : c = 116 := (nI_eq (a := c) (b := 116) (by omega) (by omega)).mp hx_4
      subst hcc
      have hq : [(true, 0, 15), (false, 1, 5)] = qs := Option.some.inj hfl
      subst hq
      refine g_aload_n rfl ?_
      refine g_getR (w := (m + 1)) fl_X8_7 rfl hm.1 rfl ?_
      refine g_iconst (v := 1) ik_1 ?_
      refine g_iaload (j := 1) hm.2.1 rfl (nle rfl) (nle rfl) ?_
      refine g_iconst (v := 5) ik_5 ?_
      refine g_icmp_ge rfl L_X8_can_138 (fun h_9 => ?_) (fun h_9 => ?_)
      · refine g_iconst (v := 0) ik_0 ?_
        refine g_fall rfl L_X8_can_139 ?_
        refine g_zret rfl rfl (nle rfl) (nle rfl) ?_
        refine qeq hQ ?_ rfl
        show _ = bI (gTe (M (m + 1)))
        clear hQ; simp_all [gFl, gTe, gDa, bI, i32le, -Int32.not_lt]
      · refine g_iconst (v := 1) ik_1 ?_
        refine g_goto rfl L_X8_can_139 ?_
        refine g_zret rfl rfl (nle rfl) (nle rfl) ?_
        refine qeq hQ ?_ rfl
        show _ = bI (gTe (M (m + 1)))
        clear hQ; simp_all [gFl, gTe, gDa, bI, i32le, -Int32.not_lt]
    · replace hx_4 : (nI c) = 117 := hx_4.trans (by decide)
      refine g_tabIn (off := 295) (by rw [hx_4]; decide) (by rw [hx_4]; decide) (by rw [hx_4]; decide) rfl L_X8_can_299 ?_
      have hcc : c = 117 := (nI_eq (a := c) (b := 117) (by omega) (by omega)).mp hx_4
      subst hcc
      cases hfl
    · replace hx_4 : (nI c) = 118 := hx_4.trans (by decide)
      refine g_tabIn (off := 295) (by rw [hx_4]; decide) (by rw [hx_4]; decide) (by rw [hx_4]; decide) rfl L_X8_can_299 ?_
      have hcc : c = 118 := (nI_eq (a := c) (b := 118) (by omega) (by omega)).mp hx_4
      subst hcc
      cases hfl
    · replace hx_4 : (nI c) = 119 := hx_4.trans (by decide)
      refine g_tabIn (off := 295) (by rw [hx_4]; decide) (by rw [hx_4]; decide) (by rw [hx_4]; decide) rfl L_X8_can_299 ?_
      have hcc : c = 119 := (nI_eq (a := c) (b := 119) (by omega) (by omega)).mp hx_4
      subst hcc
      have hq : [(false, 1, 9)] = qs := Option.some.inj hfl
      subst hq
      refine g_iconst (v := 1) ik_1 ?_
      refine g_zret rfl rfl (nle rfl) (nle rfl) ?_
      exact hQ
    · replace hx_4 : (nI c) = 120 := hx_4.trans (by decide)
      refine g_tabIn (off := 284) (by rw [hx_4]; decide) (by rw [hx_4]; decide) (by rw [hx_4]; decide) rfl L_X8_can_288 ?_
      have hcc : c = 120 := (nI_eq (a := c) (b := 120) (by omega) (by omega)).mp hx_4
      subst hcc
      have hq : [(false, 0, 9)] = qs := Option.some.inj hfl
      subst hq
      refine g_aload_n rfl ?_
      refine g_aload_n rfl ?_
      refine g_getR (w := (m + 4)) fl_X8_19 rfl hm.1 rfl ?_
      refine g_iconst (v := 0) ik_0 ?_
      refine g_iaload (j := 0) hm.2.2.2.2 rfl (nle rfl) (nle rfl) ?_
      rw [hv 0 (by decide)]
      refine g_callV (as := [_]) mk_X8_isClass ml_X8_130 im_X8_isClass se_X8_isClass rfl rfl ⟨⟨nle rfl, nle rfl⟩, nle rfl, nle rfl⟩ hm.1 rfl rfl rfl (nle rfl) ?_
      refine ct_X8_isClass hm ?_
      refine kq_s ?_
      refine g_zret rfl (nar_bI _) (nle rfl) (nle rfl) ?_
      exact hQ
  · refine g_tabOut (ho_4.imp (fun h => h) (fun h => h)) rfl L_X8_can_299 ?_
    rw [flds_out (ho_4.imp (fun h => by rw [nI_toInt (by omega)] at h; omega) (fun h => by rw [nI_toInt (by omega)] at h; omega))] at hfl
    cases hfl
set_option maxRecDepth 100000 in
set_option maxHeartbeats 4000000 in
theorem ct_X8_does {X : Xs} {κ : Kp} {M : Mem} {Q : Rs → Kp → Mem → Prop} {m : Nat} (hm : IsMod κ.2.1 m) {B : Nat} (hI : IR B (M (m + 1))) {c : Nat} {qs : List (Bool × Nat × Nat)} {a : Nat → Int32} (hc : c < 256) (h7 : M m 7 = nI c) (hfl : flds c = some qs) (hv : ∀ i, i < qs.length → M (m + 4) i = a i) (hr : ∀ i lo hi b, qs[i]? = some (b, lo, hi) → ∃ v, lo ≤ v ∧ v ≤ hi ∧ a i = nI v) (hg : cmdG c (M (m + 1)) a = true) (hQ : Q (.inl none) κ (sR M (m + 1) (cmdT c (M (m + 1)) a))) : Ct X m_X8_does [.ref m] κ M Q := by
  refine ct_of B_X8_does_0 pn_X8 rfl (nle rfl) L_X8_does_0 ?_
  refine g_aload_n rfl ?_
  refine g_getI fl_X8_102 rfl hm.1 rfl ?_
  rw [h7]
  rcases sw_cases (nI c) 99 22 (nle rfl) with ⟨j_4, hj_4, hx_4⟩ | ho_4
  · have hc_4 : j_4 = 0 ∨ j_4 = 1 ∨ j_4 = 2 ∨ j_4 = 3 ∨ j_4 = 4 ∨ j_4 = 5 ∨ j_4 = 6 ∨ j_4 = 7 ∨ j_4 = 8 ∨ j_4 = 9 ∨ j_4 = 10 ∨ j_4 = 11 ∨ j_4 = 12 ∨ j_4 = 13 ∨ j_4 = 14 ∨ j_4 = 15 ∨ j_4 = 16 ∨ j_4 = 17 ∨ j_4 = 18 ∨ j_4 = 19 ∨ j_4 = 20 ∨ j_4 = 21 := by omega
    rcases hc_4 with rfl | rfl | rfl | rfl | rfl | rfl | rfl | rfl | rfl | rfl | rfl | rfl | rfl | rfl | rfl | rfl | rfl | rfl | rfl | rfl | rfl | rfl
    · replace hx_4 : (nI c) = 99 := hx_4.trans (by decide)
      refine g_tabIn (off := 156) (by rw [hx_4]; decide) (by rw [hx_4]; decide) (by rw [hx_4]; decide) rfl L_X8_does_160 ?_
      have hcc : c = 99 := (nI_eq (a := c) (b := 99) (by omega) (by omega)).mp hx_4
      subst hcc
      have hq : [(false, 0, 3), (false, 1, 5), (false, 0, 3), (false, 0, 4), (false, 0, 5), (false, 0, 5)] = qs := Option.some.inj hfl
      subst hq
      refine g_aload_n rfl ?_
      refine g_aload_n rfl ?_
      refine g_getR (w := (m + 4)) fl_X8_19 rfl hm.1 rfl ?_
      refine g_iconst (v := 0) ik_0 ?_
      refine g_iaload (j := 0) hm.2.2.2.2 rfl (nle rfl) (nle rfl) ?_
      rw [hv 0 (by decide)]
      refine g_aload_n rfl ?_
      refine g_getR (w := (m + 4)) fl_X8_19 rfl hm.1 rfl ?_
      refine g_iconst (v := 1) ik_1 ?_
      refine g_iaload (j := 1) hm.2.2.2.2 rfl (nle rfl) (nle rfl) ?_
      rw [hv 1 (by decide)]
      refine g_aload_n rfl ?_
      refine g_getR (w := (m + 4)) fl_X8_19 rfl hm.1 rfl ?_
      refine g_iconst (v := 2) ik_2 ?_
      refine g_iaload (j := 2) hm.2.2.2.2 rfl (nle rfl) (nle rfl) ?_
      rw [hv 2 (by decide)]
      refine g_aload_n rfl ?_
      refine g_getR (w := (m + 4)) fl_X8_19 rfl hm.1 rfl ?_
      refine g_iconst (v := 3) ik_3 ?_
      refine g_iaload (j := 3) hm.2.2.2.2 rfl (nle rfl) (nle rfl) ?_
      rw [hv 3 (by decide)]
      refine g_aload_n rfl ?_
      refine g_getR (w := (m + 4)) fl_X8_19 rfl hm.1 rfl ?_
      refine g_iconst (v := 4) ik_4 ?_
      refine g_iaload (j := 4) hm.2.2.2.2 rfl (nle rfl) (nle rfl) ?_
      rw [hv 4 (by decide)]
      refine g_aload_n rfl ?_
      refine g_getR (w := (m + 4)) fl_X8_19 rfl hm.1 rfl ?_
      refine g_iconst (v := 5) ik_5 ?_
      refine g_iaload (j := 5) hm.2.2.2.2 rfl (nle rfl) (nle rfl) ?_
      rw [hv 5 (by decide)]
      refine g_callV (as := [_, _, _, _, _, _]) mk_X8_sets ml_X8_156 im_X8_sets se_X8_sets rfl rfl ⟨⟨nle rfl, nle rfl⟩, nle rfl, nle rfl⟩ hm.1 rfl rfl rfl (nle rfl) ?_
      have hg2 : (gCl (M (m + 1)) (a 2) (a 3) && decide (wCl (M (m + 1)) (a 0) (a 1) (a 2) (a 3) (a 4) (a 5) = 0)) = true := hg
      rw [Bool.and_eq_true] at hg2
      have hg3 := hg2.1
      unfold gCl at hg3
      rw [Bool.and_eq_true] at hg3
      refine m_sets hm hI hg3.1 ?_
      refine kq_n ?_
      refine g_goto rfl L_X8_does_289 ?_
      refine g_vret rfl (nle rfl) (nle rfl) ?_
      exact hQ
    · replace hx_4 : (nI c) = 100 := hx_4.trans (by decide)
      refine g_tabIn (off := 199) (by rw [hx_4]; decide) (by rw [hx_4]; decide) (by rw [hx_4]; decide) rfl L_X8_does_203 ?_
      have hcc : c = 100 := (nI_eq (a := c) (b := 100) (by omega) (by omega)).mp hx_4
      subst hcc
      have hq : [] = qs := Option.some.inj hfl
      subst hq
      refine g_aload_n rfl ?_
      refine g_callV (as := []) mk_X8_dancers ml_X8_160 im_X8_dancers se_X8_dancers rfl rfl ⟨⟨nle rfl, nle rfl⟩, nle rfl, nle rfl⟩ hm.1 rfl rfl rfl (nle rfl) ?_
      refine m_dancers hm hI hg ?_
      refine kq_s ?_
      refine g_pop rfl ?_
      refine g_goto rfl L_X8_does_289 ?_
      refine g_vret rfl (nle rfl) (nle rfl) ?_
      exact hQ
    · replace hx_4 : (nI c) = 101 := hx_4.trans (by decide)
      refine g_tabIn (off := 221) (by rw [hx_4]; decide) (by rw [hx_4]; decide) (by rw [hx_4]; decide) rfl L_X8_does_225 ?_
      have hcc : c = 101 := (nI_eq (a := c) (b := 101) (by omega) (by omega)).mp hx_4
      subst hcc
      have hq : [(true, 0, 11), (false, 0, 9)] = qs := Option.some.inj hfl
      subst hq
      refine g_aload_n rfl ?_
      refine g_aload_n rfl ?_
      refine g_getR (w := (m + 4)) fl_X8_19 rfl hm.1 rfl ?_
      refine g_iconst (v := 0) ik_0 ?_
      refine g_iaload (j := 0) hm.2.2.2.2 rfl (nle rfl) (nle rfl) ?_
      rw [hv 0 (by decide)]
      refine g_aload_n rfl ?_
      refine g_getR (w := (m + 4)) fl_X8_19 rfl hm.1 rfl ?_
      refine g_iconst (v := 1) ik_1 ?_
      refine g_iaload (j := 1) hm.2.2.2.2 rfl (nle rfl) (nle rfl) ?_
      rw [hv 1 (by decide)]
      refine g_callV (as := [_, _]) mk_X8_enters ml_X8_166 im_X8_enters se_X8_enters rfl rfl ⟨⟨nle rfl, nle rfl⟩, nle rfl, nle rfl⟩ hm.1 rfl rfl rfl (nle rfl) ?_
      have hg2 : (gSe (M (m + 1)) (a 0) (a 1) && decide (wSe (M (m + 1)) (a 0) (a 1) = 0)) = true := hg
      rw [Bool.and_eq_true] at hg2
      have hg3 := hg2.1
      unfold gSe at hg3
      rw [Bool.and_eq_true] at hg3
      refine m_enters hm hI hg3.2 ?_
      refine kq_n ?_
      refine g_goto rfl L_X8_does_289 ?_
      refine g_vret rfl (nle rfl) (nle rfl) ?_
      exact hQ
    · replace hx_4 : (nI c) = 102 := hx_4.trans (by decide)
      refine g_tabIn (off := 104) (by rw [hx_4]; decide) (by rw [hx_4]; decide) (by rw [hx_4]; decide) rfl L_X8_does_108 ?_
      have hcc : c = 102 := (nI_eq (a := c) (b := 102) (by omega) (by omega)).mp hx_4
      subst hcc
      have hq : [(false, 1, 9), (false, 0, 4), (true, 0, 60), (true, 1, 30)] = qs := Option.some.inj hfl
      subst hq
      refine g_aload_n rfl ?_
      refine g_aload_n rfl ?_
      refine g_getR (w := (m + 4)) fl_X8_19 rfl hm.1 rfl ?_
      refine g_iconst (v := 0) ik_0 ?_
      refine g_iaload (j := 0) hm.2.2.2.2 rfl (nle rfl) (nle rfl) ?_
      rw [hv 0 (by decide)]
      refine g_aload_n rfl ?_
      refine g_getR (w := (m + 4)) fl_X8_19 rfl hm.1 rfl ?_
      refine g_iconst (v := 1) ik_1 ?_
      refine g_iaload (j := 1) hm.2.2.2.2 rfl (nle rfl) (nle rfl) ?_
      rw [hv 1 (by decide)]
      refine g_aload_n rfl ?_
      refine g_getR (w := (m + 4)) fl_X8_19 rfl hm.1 rfl ?_
      refine g_iconst (v := 2) ik_2 ?_
      refine g_iaload (j := 2) hm.2.2.2.2 rfl (nle rfl) (nle rfl) ?_
      rw [hv 2 (by decide)]
      refine g_aload_n rfl ?_
      refine g_getR (w := (m + 4)) fl_X8_19 rfl hm.1 rfl ?_
      refine g_iconst (v := 3) ik_3 ?_
      refine g_iaload (j := 3) hm.2.2.2.2 rfl (nle rfl) (nle rfl) ?_
      rw [hv 3 (by decide)]
      refine g_callV (as := [_, _, _, _]) mk_X8_floors ml_X8_149 im_X8_floors se_X8_floors rfl rfl ⟨⟨nle rfl, nle rfl⟩, nle rfl, nle rfl⟩ hm.1 rfl rfl rfl (nle rfl) ?_
      refine m_floors hm hI hg ?_
      refine kq_s ?_
      refine g_pop rfl ?_
      refine g_goto rfl L_X8_does_289 ?_
      refine g_vret rfl (nle rfl) (nle rfl) ?_
      exact hQ
    · replace hx_4 : (nI c) = 103 := hx_4.trans (by decide)
      refine g_tabIn (off := 274) (by rw [hx_4]; decide) (by rw [hx_4]; decide) (by rw [hx_4]; decide) rfl L_X8_does_278 ?_
      have hcc : c = 103 := (nI_eq (a := c) (b := 103) (by omega) (by omega)).mp hx_4
      subst hcc
      cases hfl
    · replace hx_4 : (nI c) = 104 := hx_4.trans (by decide)
      refine g_tabIn (off := 274) (by rw [hx_4]; decide) (by rw [hx_4]; decide) (by rw [hx_4]; decide) rfl L_X8_does_278 ?_
      have hcc : c = 104 := (nI_eq (a := c) (b := 104) (by omega) (by omega)).mp hx_4
      subst hcc
      cases hfl
    · replace hx_4 : (nI c) = 105 := hx_4.trans (by decide)
      refine g_tabIn (off := 274) (by rw [hx_4]; decide) (by rw [hx_4]; decide) (by rw [hx_4]; decide) rfl L_X8_does_278 ?_
      have hcc : c = 105 := (nI_eq (a := c) (b := 105) (by omega) (by omega)).mp hx_4
      subst hcc
      cases hfl
    · replace hx_4 : (nI c) = 106 := hx_4.trans (by decide)
      refine g_tabIn (off := 274) (by rw [hx_4]; decide) (by rw [hx_4]; decide) (by rw [hx_4]; decide) rfl L_X8_does_278 ?_
      have hcc : c = 106 := (nI_eq (a := c) (b := 106) (by omega) (by omega)).mp hx_4
      subst hcc
      cases hfl
    · replace hx_4 : (nI c) = 107 := hx_4.trans (by decide)
      refine g_tabIn (off := 274) (by rw [hx_4]; decide) (by rw [hx_4]; decide) (by rw [hx_4]; decide) rfl L_X8_does_278 ?_
      have hcc : c = 107 := (nI_eq (a := c) (b := 107) (by omega) (by omega)).mp hx_4
      subst hcc
      cases hfl
    · replace hx_4 : (nI c) = 108 := hx_4.trans (by decide)
      refine g_tabIn (off := 240) (by rw [hx_4]; decide) (by rw [hx_4]; decide) (by rw [hx_4]; decide) rfl L_X8_does_244 ?_
      have hcc : c = 108 := (nI_eq (a := c) (b := 108) (by omega) (by omega)).mp hx_4
      subst hcc
      have hq : [(true, 0, 11), (false, 0, 9)] = qs := Option.some.inj hfl
      subst hq
      refine g_aload_n rfl ?_
      refine g_aload_n rfl ?_
      refine g_getR (w := (m + 4)) fl_X8_19 rfl hm.1 rfl ?_
      refine g_iconst (v := 0) ik_0 ?_
      refine g_iaload (j := 0) hm.2.2.2.2 rfl (nle rfl) (nle rfl) ?_
      rw [hv 0 (by decide)]
      refine g_aload_n rfl ?_
      refine g_getR (w := (m + 4)) fl_X8_19 rfl hm.1 rfl ?_
      refine g_iconst (v := 1) ik_1 ?_
      refine g_iaload (j := 1) hm.2.2.2.2 rfl (nle rfl) (nle rfl) ?_
      rw [hv 1 (by decide)]
      refine g_callV (as := [_, _]) mk_X8_leaves ml_X8_169 im_X8_leaves se_X8_leaves rfl rfl ⟨⟨nle rfl, nle rfl⟩, nle rfl, nle rfl⟩ hm.1 rfl rfl rfl (nle rfl) ?_
      have hg2 : gLe (M (m + 1)) (a 0) (a 1) = true := hg
      unfold gLe at hg2
      rw [Bool.and_eq_true, Bool.and_eq_true] at hg2
      refine m_leaves hm hI hg2.2.1 ?_
      refine kq_s ?_
      refine g_pop rfl ?_
      refine g_goto rfl L_X8_does_289 ?_
      refine g_vret rfl (nle rfl) (nle rfl) ?_
      exact hQ
    · replace hx_4 : (nI c) = 109 := hx_4.trans (by decide)
      refine g_tabIn (off := 274) (by rw [hx_4]; decide) (by rw [hx_4]; decide) (by rw [hx_4]; decide) rfl L_X8_does_278 ?_
      have hcc : c = 109 := (nI_eq (a := c) (b := 109) (by omega) (by omega)).mp hx_4
      subst hcc
      cases hfl
    · replace hx_4 : (nI c) = 110 := hx_4.trans (by decide)
      refine g_tabIn (off := 274) (by rw [hx_4]; decide) (by rw [hx_4]; decide) (by rw [hx_4]; decide) rfl L_X8_does_278 ?_
      have hcc : c = 110 := (nI_eq (a := c) (b := 110) (by omega) (by omega)).mp hx_4
      subst hcc
      cases hfl
    · replace hx_4 : (nI c) = 111 := hx_4.trans (by decide)
      refine g_tabIn (off := 274) (by rw [hx_4]; decide) (by rw [hx_4]; decide) (by rw [hx_4]; decide) rfl L_X8_does_278 ?_
      have hcc : c = 111 := (nI_eq (a := c) (b := 111) (by omega) (by omega)).mp hx_4
      subst hcc
      cases hfl
    · replace hx_4 : (nI c) = 112 := hx_4.trans (by decide)
      refine g_tabIn (off := 207) (by rw [hx_4]; decide) (by rw [hx_4]; decide) (by rw [hx_4]; decide) rfl L_X8_does_211 ?_
      have hcc : c = 112 := (nI_eq (a := c) (b := 112) (by omega) (by omega)).mp hx_4
      subst hcc
      have hq : [(true, 0, 11)] = qs := Option.some.inj hfl
      subst hq
      refine g_aload_n rfl ?_
      refine g_aload_n rfl ?_
      refine g_getR (w := (m + 4)) fl_X8_19 rfl hm.1 rfl ?_
      refine g_iconst (v := 0) ik_0 ?_
      refine g_iaload (j := 0) hm.2.2.2.2 rfl (nle rfl) (nle rfl) ?_
      rw [hv 0 (by decide)]
      refine g_callV (as := [_]) mk_X8_passes ml_X8_163 im_X8_passes se_X8_passes rfl rfl ⟨⟨nle rfl, nle rfl⟩, nle rfl, nle rfl⟩ hm.1 rfl rfl rfl (nle rfl) ?_
      have hg2 : cpass (M (m + 1)) (a 0) = true := hg
      unfold cpass at hg2
      rw [Bool.and_eq_true] at hg2
      refine m_passes hm hI hg2.1 ?_
      refine kq_s ?_
      refine g_pop rfl ?_
      refine g_goto rfl L_X8_does_289 ?_
      refine g_vret rfl (nle rfl) (nle rfl) ?_
      exact hQ
    · replace hx_4 : (nI c) = 113 := hx_4.trans (by decide)
      refine g_tabIn (off := 274) (by rw [hx_4]; decide) (by rw [hx_4]; decide) (by rw [hx_4]; decide) rfl L_X8_does_278 ?_
      have hcc : c = 113 := (nI_eq (a := c) (b := 113) (by omega) (by omega)).mp hx_4
      subst hcc
      cases hfl
    · replace hx_4 : (nI c) = 114 := hx_4.trans (by decide)
      refine g_tabIn (off := 274) (by rw [hx_4]; decide) (by rw [hx_4]; decide) (by rw [hx_4]; decide) rfl L_X8_does_278 ?_
      have hcc : c = 114 := (nI_eq (a := c) (b := 114) (by omega) (by omega)).mp hx_4
      subst hcc
      cases hfl
    · replace hx_4 : (nI c) = 115 := hx_4.trans (by decide)
      refine g_tabIn (off := 274) (by rw [hx_4]; decide) (by rw [hx_4]; decide) (by rw [hx_4]; decide) rfl L_X8_does_278 ?_
      have hcc : c = 115 := (nI_eq (a := c) (b := 115) (by omega) (by omega)).mp hx_4
      subst hcc
      cases hfl
    · replace hx_4 : (nI c) = 116 := hx_4.trans (by decide)
      refine g_tabIn (off := 136) (by rw [hx_4]; decide) (by rw [hx_4]; decide) (by rw [hx_4]; decide) rfl L_X8_does_140 ?_
      have hcc : c = 116 := (nI_eq (a := c) (b := 116) (by omega) (by omega)).mp hx_4
      subst hcc
      have hq : [(true, 0, 15), (false, 1, 5)] = qs := Option.some.inj hfl
      subst hq
      refine g_aload_n rfl ?_
      refine g_aload_n rfl ?_
      refine g_getR (w := (m + 4)) fl_X8_19 rfl hm.1 rfl ?_
      refine g_iconst (v := 0) ik_0 ?_
      refine g_iaload (j := 0) hm.2.2.2.2 rfl (nle rfl) (nle rfl) ?_
      rw [hv 0 (by decide)]
      refine g_aload_n rfl ?_
      refine g_getR (w := (m + 4)) fl_X8_19 rfl hm.1 rfl ?_
      refine g_iconst (v := 1) ik_1 ?_
      refine g_iaload (j := 1) hm.2.2.2.2 rfl (nle rfl) (nle rfl) ?_
      rw [hv 1 (by decide)]
      refine g_callV (as := [_, _]) mk_X8_teachers ml_X8_153 im_X8_teachers se_X8_teachers rfl rfl ⟨⟨nle rfl, nle rfl⟩, nle rfl, nle rfl⟩ hm.1 rfl rfl rfl (nle rfl) ?_
      refine m_teachers hm hI hg ?_
      refine kq_s ?_
      refine g_pop rfl ?_
      refine g_goto rfl L_X8_does_289 ?_
      refine g_vret rfl (nle rfl) (nle rfl) ?_
      exact hQ
    · replace hx_4 : (nI c) = 117 := hx_4.trans (by decide)
      refine g_tabIn (off := 274) (by rw [hx_4]; decide) (by rw [hx_4]; decide) (by rw [hx_4]; decide) rfl L_X8_does_278 ?_
      have hcc : c = 117 := (nI_eq (a := c) (b := 117) (by omega) (by omega)).mp hx_4
      subst hcc
      cases hfl
    · replace hx_4 : (nI c) = 118 := hx_4.trans (by decide)
      refine g_tabIn (off := 274) (by rw [hx_4]; decide) (by rw [hx_4]; decide) (by rw [hx_4]; decide) rfl L_X8_does_278 ?_
      have hcc : c = 118 := (nI_eq (a := c) (b := 118) (by omega) (by omega)).mp hx_4
      subst hcc
      cases hfl
    · replace hx_4 : (nI c) = 119 := hx_4.trans (by decide)
      refine g_tabIn (off := 274) (by rw [hx_4]; decide) (by rw [hx_4]; decide) (by rw [hx_4]; decide) rfl L_X8_does_278 ?_
      have hcc : c = 119 := (nI_eq (a := c) (b := 119) (by omega) (by omega)).mp hx_4
      subst hcc
      have hq : [(false, 1, 9)] = qs := Option.some.inj hfl
      subst hq
      refine g_aload_n rfl ?_
      refine g_aload_n rfl ?_
      refine g_getR (w := (m + 4)) fl_X8_19 rfl hm.1 rfl ?_
      refine g_iconst (v := 0) ik_0 ?_
      refine g_iaload (j := 0) hm.2.2.2.2 rfl (nle rfl) (nle rfl) ?_
      rw [hv 0 (by decide)]
      refine g_callV (as := [_]) mk_X8_weeksGo ml_X8_175 im_X8_weeksGo se_X8_weeksGo rfl rfl ⟨⟨nle rfl, nle rfl⟩, nle rfl, nle rfl⟩ hm.1 rfl rfl rfl (nle rfl) ?_
      obtain ⟨v, hv1, hv2, hv3⟩ := hr 0 1 9 false rfl
      refine m_weeksGo hm hI v hv3 (by omega) (fun u hu eu => ?_)
      refine kq_s ?_
      refine g_pop rfl ?_
      refine g_fall rfl L_X8_does_289 ?_
      refine g_vret rfl (nle rfl) (nle rfl) ?_
      exact qeqv hQ (by rw [show cmdT 119 (M (m + 1)) a = wkC v (M (m + 1)) by show wkC (tn (a 0)) _ = _; rw [hv3, tn_nI (by omega)]])
    · replace hx_4 : (nI c) = 120 := hx_4.trans (by decide)
      refine g_tabIn (off := 260) (by rw [hx_4]; decide) (by rw [hx_4]; decide) (by rw [hx_4]; decide) rfl L_X8_does_264 ?_
      have hcc : c = 120 := (nI_eq (a := c) (b := 120) (by omega) (by omega)).mp hx_4
      subst hcc
      have hq : [(false, 0, 9)] = qs := Option.some.inj hfl
      subst hq
      refine g_aload_n rfl ?_
      refine g_aload_n rfl ?_
      refine g_getR (w := (m + 4)) fl_X8_19 rfl hm.1 rfl ?_
      refine g_iconst (v := 0) ik_0 ?_
      refine g_iaload (j := 0) hm.2.2.2.2 rfl (nle rfl) (nle rfl) ?_
      rw [hv 0 (by decide)]
      refine g_callV (as := [_]) mk_X8_drops ml_X8_172 im_X8_drops se_X8_drops rfl rfl ⟨⟨nle rfl, nle rfl⟩, nle rfl, nle rfl⟩ hm.1 rfl rfl rfl (nle rfl) ?_
      refine m_drops hm hI hg ?_
      refine kq_s ?_
      refine g_pop rfl ?_
      refine g_goto rfl L_X8_does_289 ?_
      refine g_vret rfl (nle rfl) (nle rfl) ?_
      exact hQ
  · refine g_tabOut (ho_4.imp (fun h => h) (fun h => h)) rfl L_X8_does_278 ?_
    rw [flds_out (ho_4.imp (fun h => by rw [nI_toInt (by omega)] at h; omega) (fun h => by rw [nI_toInt (by omega)] at h; omega))] at hfl
    cases hfl
theorem hi_fl {s : Nat → Int32} {n : Nat} (hn : n < 4) {a b c d : Int32} {j : Nat} (hj : 189 ≤ j) : flS s n a b c d j = s j := by unfold flS; simp (disch := omega) only [upd_ne]
theorem hi_te {s : Nat → Int32} {n : Nat} (hn : n < 5) {a b : Int32} {j : Nat} (hj : 189 ≤ j) : teS s n a b j = s j := by unfold teS; simp (disch := omega) only [upd_ne]
theorem hi_cl {s : Nat → Int32} {n : Nat} (hn : n < 10) {a b c d e f : Int32} {j : Nat} (hj : 189 ≤ j) : clS s n a b c d e f j = s j := by unfold clS; simp (disch := omega) only [upd_ne]
theorem hi_da {s : Nat → Int32} {n : Nat} (hn : n < 12) {j : Nat} (hj : 189 ≤ j) : daS s n j = s j := by
  unfold daS
  rw [upd_ne (by omega), if_neg (by omega), if_neg (by omega)]
theorem hi_pa {s : Nat → Int32} {n : Nat} (hn : n < 12) {j : Nat} (hj : 189 ≤ j) : paS s n j = s j := by unfold paS; simp (disch := omega) only [upd_ne]
theorem hi_en {s : Nat → Int32} {d : Int32} {k : Nat} (hk : k < 10) {j : Nat} (hj : 189 ≤ j) : enS s d k j = s j := by unfold enS; simp (disch := omega) only [upd_ne]
theorem hi_le {s : Nat → Int32} {d : Int32} {k : Nat} (hk : k < 10) {j : Nat} (hj : 189 ≤ j) : leS s d k j = s j := by unfold leS; simp (disch := omega) only [upd_ne]
theorem hi_dr {s : Nat → Int32} {n k : Nat} (hn : n ≤ 10) {j : Nat} (hj : 189 ≤ j) : drS s n k j = s j := drS_o (by omega) (by omega) (Or.inr (by omega))
theorem hi_dn {w : Int32} {k : Nat} (hk : k < 10) {s : Nat → Int32} {j : Nat} (hj : 189 ≤ j) : ∀ n, n ≤ 12 → dnN w k n s j = s j
  | 0, _ => rfl
  | n + 1, hn => by
    show (if bitS w (nI n) then danS (dnN w k n s) k n else dnN w k n s) j = s j
    split
    · unfold danS
      simp (disch := omega) only [upd_ne]
      exact hi_dn hk hj n (by omega)
    · exact hi_dn hk hj n (by omega)
theorem hi_cls {nd : Nat} (hnd : nd ≤ 12) {s : Nat → Int32} {j : Nat} (hj : 189 ≤ j) : ∀ k, k ≤ 10 → clsN nd k s j = s j
  | 0, _ => rfl
  | k + 1, hk => by
    show stepC nd (clsN nd k s) k j = s j
    unfold stepC
    split
    · rw [upd_ne (by omega)]; exact hi_cls hnd hj k (by omega)
    · rw [hi_dn (by omega) hj nd hnd, ho_o (by omega) (by omega)]
      exact hi_cls hnd hj k (by omega)
theorem hi_ri {s : Nat → Int32} {j : Nat} (hj : 189 ≤ j) : ∀ n, n ≤ 12 → riseN n s j = s j
  | 0, _ => rfl
  | n + 1, hn => by
    show riseS (riseN n s) n j = s j
    unfold riseS
    split
    · rw [upd_ne (by omega), upd_ne (by omega)]; exact hi_ri hj n (by omega)
    · exact hi_ri hj n (by omega)
theorem hi_week {nc nd : Nat} (hnc : nc ≤ 10) (hnd : nd ≤ 12) {s : Nat → Int32} {j : Nat} (hj : 189 ≤ j) : weekS nc nd s j = s j := by
  unfold weekS
  rw [hi_ri hj nd hnd, hi_cls hnd hj nc hnc, upd_ne (by omega)]
theorem hi_wk {nc nd : Nat} (hnc : nc ≤ 10) (hnd : nd ≤ 12) {s : Nat → Int32} {j : Nat} (hj : 189 ≤ j) : ∀ n, wkN nc nd n s j = s j
  | 0 => rfl
  | n + 1 => by
    show weekS nc nd (wkN nc nd n s) j = s j
    rw [hi_week hnc hnd hj]
    exact hi_wk hnc hnd hj n
theorem hi_wkC {B : Nat} {s : Nat → Int32} (hI : IR B s) {n j : Nat} (hj : 189 ≤ j) : wkC n s j = s j := by
  obtain ⟨nf, nt, nc, nd, hI⟩ := hI
  unfold wkC
  rw [hI.n2, hI.n3]
  exact hi_wk hI.lc hI.ld hj n
theorem cmd_keep {B c : Nat} {s a : Nat → Int32} {qs : List (Bool × Nat × Nat)} (hI : IR B s) (hc : c < 256) (hfl : flds c = some qs) (hr : ∀ i lo hi b, qs[i]? = some (b, lo, hi) → ∃ v, lo ≤ v ∧ v ≤ hi ∧ a i = nI v) (hg : cmdG c s a = true) : IR (B + 9) (cmdT c s a) ∧ ∀ j, 189 ≤ j → cmdT c s a j = s j := by
  obtain ⟨nf, nt, nc, nd, hI⟩ := hI
  have bf := hI.lf
  have bt := hI.lt
  have bc := hI.lc
  have bn := hI.ld
  have hw : ∀ n, n ≤ 9 → IR (B + 9) (wkC n s) ∧ ∀ j, 189 ≤ j → wkC n s j = s j := fun n hn => by
    refine ⟨?_, fun j hj => hi_wkC ⟨_, _, _, _, hI⟩ hj⟩
    unfold wkC
    rw [hI.n2, hI.n3]
    exact ⟨_, _, _, _, (inv_wk hI n).up (by omega)⟩
  unfold flds at hfl
  repeat' split at hfl
  · next e =>
    subst e
    cases hfl
    have hg2 : gFl s = true := hg
    rw [hI.qFl] at hg2
    show IR (B + 9) (flS s (cN s 0) _ _ _ _) ∧ ∀ j, 189 ≤ j → flS s (cN s 0) _ _ _ _ j = s j
    rw [hI.n0]
    exact ⟨⟨_, _, _, _, (inv_fl hI (of_decide_eq_true hg2) (hr 1 0 4 false rfl) (hr 2 0 60 true rfl) (hr 3 1 30 true rfl)).up (by omega)⟩, fun j hj => hi_fl (of_decide_eq_true hg2) hj⟩
  · next _ e =>
    subst e
    cases hfl
    have hg2 : gTe s = true := hg
    rw [hI.qTe] at hg2
    show IR (B + 9) (teS s (cN s 1) _ _) ∧ ∀ j, 189 ≤ j → teS s (cN s 1) _ _ j = s j
    rw [hI.n1]
    exact ⟨⟨_, _, _, _, (inv_te hI (of_decide_eq_true hg2)).up (by omega)⟩, fun j hj => hi_te (of_decide_eq_true hg2) hj⟩
  · next _ _ e =>
    subst e
    cases hfl
    have hg2 : (gCl s (a 2) (a 3) && _) = true := hg
    rw [Bool.and_eq_true] at hg2
    obtain ⟨h10, ⟨f, hf, ef⟩, -⟩ := hI.qCl.mp hg2.1
    show IR (B + 9) (clS s (cN s 2) (a 0) (a 1) (a 2) (a 3) (a 4) (a 5)) ∧ ∀ j, 189 ≤ j → clS s (cN s 2) (a 0) (a 1) (a 2) (a 3) (a 4) (a 5) j = s j
    rw [hI.n2, ef]
    exact ⟨⟨_, _, _, _, (inv_cl hI h10 hf (hr 4 0 5 false rfl)).up (by omega)⟩, fun j hj => hi_cl h10 hj⟩
  · next _ _ _ e =>
    subst e
    cases hfl
    have hg2 : cpass s (a 0) = true := hg
    obtain ⟨d, hd, ed, hl⟩ := hI.qPa.mp hg2
    show IR (B + 9) (paS s (tn (a 0))) ∧ ∀ j, 189 ≤ j → paS s (tn (a 0)) j = s j
    rw [ed, tn_nI (by omega)]
    exact ⟨⟨_, _, _, _, (inv_pa hI hd hl).up (by omega)⟩, fun j hj => hi_pa (by omega) hj⟩
  · next _ _ _ _ e =>
    cases hfl
    rcases e with e | e
    · subst e
      have hg2 : (gSe s (a 0) (a 1) && decide (wSe s (a 0) (a 1) = 0)) = true := hg
      rw [Bool.and_eq_true] at hg2
      obtain ⟨⟨d, hd, ed⟩, ⟨k, hk, ek⟩⟩ := hI.qSe.mp hg2.1
      obtain ⟨f, hf, ef⟩ := (hI.cl hk).1
      have hw0 := of_decide_eq_true hg2.2
      unfold wSe at hw0
      rw [hI.n2, ed, ek, tn_nI (by omega), tn_nI (by omega), ef, tn_nI (by omega)] at hw0
      show IR (B + 9) (enS s (a 0) (tn (a 1))) ∧ ∀ j, 189 ≤ j → enS s (a 0) (tn (a 1)) j = s j
      rw [ed, ek, tn_nI (by omega)]
      exact ⟨⟨_, _, _, _, (inv_en hI hd hk (whyS_bit hw0)).up (by omega)⟩, fun j hj => hi_en (by omega) hj⟩
    · subst e
      have hg2 : gLe s (a 0) (a 1) = true := hg
      obtain ⟨d, k, hd, hk, ed, ek, hb⟩ := hI.qLe.mp hg2
      show IR (B + 9) (leS s (a 0) (tn (a 1))) ∧ ∀ j, 189 ≤ j → leS s (a 0) (tn (a 1)) j = s j
      rw [ed, ek, tn_nI (by omega)]
      exact ⟨⟨_, _, _, _, (inv_le hI hd hk hb).up (by omega)⟩, fun j hj => hi_le (by omega) hj⟩
  · next _ _ _ _ _ e =>
    subst e
    cases hfl
    have hg2 : isC s (a 0) = true := hg
    obtain ⟨k, hk, ek⟩ := hI.xC.mp hg2
    show IR (B + 9) (drS s (cN s 2) (tn (a 0))) ∧ ∀ j, 189 ≤ j → drS s (cN s 2) (tn (a 0)) j = s j
    rw [hI.n2, ek, tn_nI (by omega)]
    exact ⟨⟨_, _, _, _, (inv_dr hI hk).up (by omega)⟩, fun j hj => hi_dr bc hj⟩
  · next _ _ _ _ _ _ e =>
    subst e
    cases hfl
    obtain ⟨v, v1, v2, v3⟩ := hr 0 1 9 false rfl
    show IR (B + 9) (wkC (tn (a 0)) s) ∧ ∀ j, 189 ≤ j → wkC (tn (a 0)) s j = s j
    rw [v3, tn_nI (by omega)]
    exact hw v v2
  · next _ _ _ _ _ _ _ e =>
    subst e
    cases hfl
    have hg2 : gDa s = true := hg
    rw [hI.qDa] at hg2
    show IR (B + 9) (daS s (cN s 3)) ∧ ∀ j, 189 ≤ j → daS s (cN s 3) j = s j
    rw [hI.n3]
    exact ⟨⟨_, _, _, _, (inv_da hI (of_decide_eq_true hg2)).up (by omega)⟩, fun j hj => hi_da (of_decide_eq_true hg2) hj⟩
  · cases hfl
