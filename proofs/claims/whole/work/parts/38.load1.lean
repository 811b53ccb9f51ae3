set_option maxRecDepth 100000 in
set_option maxHeartbeats 4000000 in
theorem ct_X7_doCommand {X : Xs} {κ : Kp} {M : Mem} {Q : Rs → Kp → Mem → Prop} {x : Nat} (hx : IsDF κ.2.1 x) {B : Nat} {s : Nat → Int32} (hS : SR B M (x + 4) s) {c : Nat} {qs : List (Bool × Nat × Nat)} {a : Nat → Int32} (hc : c < 256) (hfl : flds c = some qs) (hv : ∀ i, i < qs.length → M (x + 1 + 2) i = a i) (hr : ∀ i lo hi b, qs[i]? = some (b, lo, hi) → ∃ v, lo ≤ v ∧ v ≤ hi ∧ a i = nI v) (hY : cmdG c s a = true → ∀ M', SR (B + 9) M' (x + 4) (cmdT c s a) → FrS M M' (x + 4) → Q (.inl (some (.int 1))) κ M') (hN : cmdG c s a = false → Q (.inl (some (.int 0))) κ M) : Ct X m_X7_doCommand [.ref x, .int (nI c), .ref (x + 1 + 2)] κ M Q := by
  refine ct_of B_X7_doCommand_0 pn_X7 rfl (nle rfl) L_X7_doCommand_0 ?_
  refine g_iload_n rfl ?_
  rcases sw_cases (nI c) 99 22 (nle rfl) with ⟨j_1, hj_1, hx_1⟩ | ho_1
  · have hc_1 : j_1 = 0 ∨ j_1 = 1 ∨ j_1 = 2 ∨ j_1 = 3 ∨ j_1 = 4 ∨ j_1 = 5 ∨ j_1 = 6 ∨ j_1 = 7 ∨ j_1 = 8 ∨ j_1 = 9 ∨ j_1 = 10 ∨ j_1 = 11 ∨ j_1 = 12 ∨ j_1 = 13 ∨ j_1 = 14 ∨ j_1 = 15 ∨ j_1 = 16 ∨ j_1 = 17 ∨ j_1 = 18 ∨ j_1 = 19 ∨ j_1 = 20 ∨ j_1 = 21 := by omega
    rcases hc_1 with rfl | rfl | rfl | rfl | rfl | rfl | rfl | rfl | rfl | rfl | rfl | rfl | rfl | rfl | rfl | rfl | rfl | rfl | rfl | rfl | rfl | rfl
    · replace hx_1 : (nI c) = 99 := hx_1.trans (by decide)
      refine g_tabIn (off := 155) (by rw [hx_1]; decide) (by rw [hx_1]; decide) (by rw [hx_1]; decide) rfl L_X7_doCommand_156 ?_
      have hcc : c = 99 := (nI_eq (a := c) (b := 99) (by omega) (by omega)).mp hx_1
      subst hcc
      have hq : [(false, 0, 3), (false, 1, 5), (false, 0, 3), (false, 0, 4), (false, 0, 5), (false, 0, 5)] = qs := Option.some.inj hfl
      subst hq
      refine g_aload_n rfl ?_
      refine g_getR (w := (x + 4)) fl_X7_19 rfl hx.1 rfl ?_
      refine g_aload_n rfl ?_
      refine g_iconst (v := 0) ik_0 ?_
      refine g_iaload (j := 0) hx.2.1.2.2 rfl (nle rfl) (nle rfl) ?_
      rw [hv 0 (by decide)]
      refine g_aload_n rfl ?_
      refine g_iconst (v := 1) ik_1 ?_
      refine g_iaload (j := 1) hx.2.1.2.2 rfl (nle rfl) (nle rfl) ?_
      rw [hv 1 (by decide)]
      refine g_aload_n rfl ?_
      refine g_iconst (v := 2) ik_2 ?_
      refine g_iaload (j := 2) hx.2.1.2.2 rfl (nle rfl) (nle rfl) ?_
      rw [hv 2 (by decide)]
      refine g_aload_n rfl ?_
      refine g_iconst (v := 3) ik_3 ?_
      refine g_iaload (j := 3) hx.2.1.2.2 rfl (nle rfl) (nle rfl) ?_
      rw [hv 3 (by decide)]
      refine g_aload_n rfl ?_
      refine g_iconst (v := 4) ik_4 ?_
      refine g_iaload (j := 4) hx.2.1.2.2 rfl (nle rfl) (nle rfl) ?_
      rw [hv 4 (by decide)]
      refine g_aload_n rfl ?_
      refine g_iconst (v := 5) ik_5 ?_
      refine g_iaload (j := 5) hx.2.1.2.2 rfl (nle rfl) (nle rfl) ?_
      rw [hv 5 (by decide)]
      refine g_callV (as := [_, _, _, _, _, _]) mk_X4_addLesson ml_X7_270 im_X4_addLesson se_X4_addLesson rfl rfl ⟨⟨nle rfl, nle rfl⟩, nle rfl, nle rfl⟩ hx.2.2.1.s0 rfl rfl rfl (nle rfl) ?_
      refine k_addLesson hx.2.2.1 hS (hr 4 0 5 false rfl) (fun hg => ?_) (fun hg hw => ?_) (fun hg hw M1 hS1 hF1 => ?_)
      · refine kq_s ?_
        refine g_if_ne rfl L_X7_doCommand_188 (fun h_1 => ?_) (fun h_1 => absurd h_1 (by decide))
        refine g_iconst (v := 0) ik_0 ?_
        refine g_fall rfl L_X7_doCommand_189 ?_
        refine g_zret rfl rfl (nle rfl) (nle rfl) ?_
        exact hN (by show (gCl s (a 2) (a 3) && _) = false; rw [hg]; rfl)
      · refine kq_s ?_
        refine g_if_ne rfl L_X7_doCommand_188 (fun h_2 => ?_) (fun h_2 => absurd h_2 hw)
        refine g_iconst (v := 0) ik_0 ?_
        refine g_fall rfl L_X7_doCommand_189 ?_
        refine g_zret rfl rfl (nle rfl) (nle rfl) ?_
        exact hN (by show (gCl s (a 2) (a 3) && decide (wCl s (a 0) (a 1) (a 2) (a 3) (a 4) (a 5) = 0)) = false; rw [hg, decide_eq_false hw]; rfl)
      · refine kq_s ?_
        refine g_if_ne rfl L_X7_doCommand_188 (fun h_3 => absurd h_3 (by decide)) (fun h_3 => ?_)
        refine g_iconst (v := 1) ik_1 ?_
        refine g_goto rfl L_X7_doCommand_189 ?_
        refine g_zret rfl rfl (nle rfl) (nle rfl) ?_
        exact hY (by show (gCl s (a 2) (a 3) && decide (wCl s (a 0) (a 1) (a 2) (a 3) (a 4) (a 5) = 0)) = true; rw [hg, decide_eq_true hw]; rfl) M1 (hS1.up (by omega)) hF1
    · replace hx_1 : (nI c) = 100 := hx_1.trans (by decide)
      refine g_tabIn (off := 189) (by rw [hx_1]; decide) (by rw [hx_1]; decide) (by rw [hx_1]; decide) rfl L_X7_doCommand_190 ?_
      have hcc : c = 100 := (nI_eq (a := c) (b := 100) (by omega) (by omega)).mp hx_1
      subst hcc
      have hq : [] = qs := Option.some.inj hfl
      subst hq
      refine g_aload_n rfl ?_
      refine g_getR (w := (x + 4)) fl_X7_19 rfl hx.1 rfl ?_
      refine g_callV (as := []) mk_X4_addDancer ml_X7_280 im_X4_addDancer se_X4_addDancer rfl rfl ⟨⟨nle rfl, nle rfl⟩, nle rfl, nle rfl⟩ hx.2.2.1.s0 rfl rfl rfl (nle rfl) ?_
      refine k_addDancer hx.2.2.1 hS (fun hg => ?_) (fun hg n hn en M1 hS1 hF1 => ?_)
      · refine kq_s ?_
        refine g_iconst (v := -1) ik_m1 ?_
        refine g_icmp_eq rfl L_X7_doCommand_205 (fun h_4 => ?_) (fun h_4 => absurd h_4 (by decide))
        refine g_iconst (v := 0) ik_0 ?_
        refine g_fall rfl L_X7_doCommand_206 ?_
        refine g_zret rfl rfl (nle rfl) (nle rfl) ?_
        exact hN hg
      · refine kq_s ?_
        refine g_iconst (v := -1) ik_m1 ?_
        refine g_icmp_eq rfl L_X7_doCommand_205 (fun h_5 => (c48 (by omega) h_5).elim) (fun h_5 => ?_)
        refine g_iconst (v := 1) ik_1 ?_
        refine g_goto rfl L_X7_doCommand_206 ?_
        refine g_zret rfl rfl (nle rfl) (nle rfl) ?_
        exact hY hg M1 (hS1.up (by omega)) hF1
    · replace hx_1 : (nI c) = 101 := hx_1.trans (by decide)
      refine g_tabIn (off := 226) (by rw [hx_1]; decide) (by rw [hx_1]; decide) (by rw [hx_1]; decide) rfl L_X7_doCommand_227 ?_
      have hcc : c = 101 := (nI_eq (a := c) (b := 101) (by omega) (by omega)).mp hx_1
      subst hcc
      have hq : [(true, 0, 11), (false, 0, 9)] = qs := Option.some.inj hfl
      subst hq
      refine g_aload_n rfl ?_
      refine g_getR (w := (x + 4)) fl_X7_19 rfl hx.1 rfl ?_
      refine g_aload_n rfl ?_
      refine g_iconst (v := 0) ik_0 ?_
      refine g_iaload (j := 0) hx.2.1.2.2 rfl (nle rfl) (nle rfl) ?_
      rw [hv 0 (by decide)]
      refine g_aload_n rfl ?_
      refine g_iconst (v := 1) ik_1 ?_
      refine g_iaload (j := 1) hx.2.1.2.2 rfl (nle rfl) (nle rfl) ?_
      rw [hv 1 (by decide)]
      refine g_callV (as := [_, _]) mk_X4_takeSeat ml_X7_289 im_X4_takeSeat se_X4_takeSeat rfl rfl ⟨⟨nle rfl, nle rfl⟩, nle rfl, nle rfl⟩ hx.2.2.1.s0 rfl rfl rfl (nle rfl) ?_
      refine k_takeSeat hx.2.2.1 hS (fun hg => ?_) (fun hg hw => ?_) (fun hg hw M1 hS1 hF1 => ?_)
      · refine kq_s ?_
        refine g_if_ne rfl L_X7_doCommand_247 (fun h_6 => ?_) (fun h_6 => absurd h_6 (by decide))
        refine g_iconst (v := 0) ik_0 ?_
        refine g_fall rfl L_X7_doCommand_248 ?_
        refine g_zret rfl rfl (nle rfl) (nle rfl) ?_
        exact hN (by show (gSe s (a 0) (a 1) && _) = false; rw [hg]; rfl)
      · refine kq_s ?_
        refine g_if_ne rfl L_X7_doCommand_247 (fun h_7 => ?_) (fun h_7 => absurd h_7 hw)
        refine g_iconst (v := 0) ik_0 ?_
        refine g_fall rfl L_X7_doCommand_248 ?_
        refine g_zret rfl rfl (nle rfl) (nle rfl) ?_
        exact hN (by show (gSe s (a 0) (a 1) && decide (wSe s (a 0) (a 1) = 0)) = false; rw [hg, decide_eq_false hw]; rfl)
      · refine kq_s ?_
        refine g_if_ne rfl L_X7_doCommand_247 (fun h_8 => absurd h_8 (by decide)) (fun h_8 => ?_)
        refine g_iconst (v := 1) ik_1 ?_
        refine g_goto rfl L_X7_doCommand_248 ?_
        refine g_zret rfl rfl (nle rfl) (nle rfl) ?_
        exact hY (by show (gSe s (a 0) (a 1) && decide (wSe s (a 0) (a 1) = 0)) = true; rw [hg, decide_eq_true hw]; rfl) M1 (hS1.up (by omega)) hF1
    · replace hx_1 : (nI c) = 102 := hx_1.trans (by decide)
      refine g_tabIn (off := 103) (by rw [hx_1]; decide) (by rw [hx_1]; decide) (by rw [hx_1]; decide) rfl L_X7_doCommand_104 ?_
      have hcc : c = 102 := (nI_eq (a := c) (b := 102) (by omega) (by omega)).mp hx_1
      subst hcc
      have hq : [(false, 1, 9), (false, 0, 4), (true, 0, 60), (true, 1, 30)] = qs := Option.some.inj hfl
      subst hq
      refine g_aload_n rfl ?_
      refine g_getR (w := (x + 4)) fl_X7_19 rfl hx.1 rfl ?_
      refine g_aload_n rfl ?_
      refine g_iconst (v := 0) ik_0 ?_
      refine g_iaload (j := 0) hx.2.1.2.2 rfl (nle rfl) (nle rfl) ?_
      rw [hv 0 (by decide)]
      refine g_aload_n rfl ?_
      refine g_iconst (v := 1) ik_1 ?_
      refine g_iaload (j := 1) hx.2.1.2.2 rfl (nle rfl) (nle rfl) ?_
      rw [hv 1 (by decide)]
      refine g_aload_n rfl ?_
      refine g_iconst (v := 2) ik_2 ?_
      refine g_iaload (j := 2) hx.2.1.2.2 rfl (nle rfl) (nle rfl) ?_
      rw [hv 2 (by decide)]
      refine g_aload_n rfl ?_
      refine g_iconst (v := 3) ik_3 ?_
      refine g_iaload (j := 3) hx.2.1.2.2 rfl (nle rfl) (nle rfl) ?_
      rw [hv 3 (by decide)]
      refine g_callV (as := [_, _, _, _]) mk_X4_addFloor ml_X7_258 im_X4_addFloor se_X4_addFloor rfl rfl ⟨⟨nle rfl, nle rfl⟩, nle rfl, nle rfl⟩ hx.2.2.1.s0 rfl rfl rfl (nle rfl) ?_
      refine k_addFloor hx.2.2.1 hS (hr 1 0 4 false rfl) (hr 2 0 60 true rfl) (hr 3 1 30 true rfl) (fun hg => ?_) (fun hg n hn en M1 hS1 hF1 => ?_)
      · refine kq_s ?_
        refine g_iconst (v := -1) ik_m1 ?_
        refine g_icmp_eq rfl L_X7_doCommand_131 (fun h_9 => ?_) (fun h_9 => absurd h_9 (by decide))
        refine g_iconst (v := 0) ik_0 ?_
        refine g_fall rfl L_X7_doCommand_132 ?_
        refine g_zret rfl rfl (nle rfl) (nle rfl) ?_
        exact hN hg
      · refine kq_s ?_
        refine g_iconst (v := -1) ik_m1 ?_
        refine g_icmp_eq rfl L_X7_doCommand_131 (fun h_10 => (c48 (by omega) h_10).elim) (fun h_10 => ?_)
        refine g_iconst (v := 1) ik_1 ?_
        refine g_goto rfl L_X7_doCommand_132 ?_
        refine g_zret rfl rfl (nle rfl) (nle rfl) ?_
        exact hY hg M1 (hS1.up (by omega)) hF1
    · replace hx_1 : (nI c) = 103 := hx_1.trans (by decide)
      refine g_tabIn (off := 311) (by rw [hx_1]; decide) (by rw [hx_1]; decide) (by rw [hx_1]; decide) rfl L_X7_doCommand_312 ?_
      have hcc : c = 103 := (nI_eq (a := c) (b := 103) (by omega) (by omega)).mp hx_1
      subst hcc
      cases hfl
    · replace hx_1 : (nI c) = 104 := hx_1.trans (by decide)
      refine g_tabIn (off := 311) (by rw [hx_1]; decide) (by rw [hx_1]; decide) (by rw [hx_1]; decide) rfl L_X7_doCommand_312 ?_
      have hcc : c = 104 := (nI_eq (a := c) (b := 104) (by omega) (by omega)).mp hx_1
      subst hcc
      cases hfl
    · replace hx_1 : (nI c) = 105 := hx_1.trans (by decide)
      refine g_tabIn (off := 311) (by rw [hx_1]; decide) (by rw [hx_1]; decide) (by rw [hx_1]; decide) rfl L_X7_doCommand_312 ?_
      have hcc : c = 105 := (nI_eq (a := c) (b := 105) (by omega) (by omega)).mp hx_1
      subst hcc
      cases hfl
    · replace hx_1 : (nI c) = 106 := hx_1.trans (by decide)
      refine g_tabIn (off := 311) (by rw [hx_1]; decide) (by rw [hx_1]; decide) (by rw [hx_1]; decide) rfl L_X7_doCommand_312 ?_
      have hcc : c = 106 := (nI_eq (a := c) (b := 106) (by omega) (by omega)).mp hx_1
      subst hcc
      cases hfl
    · replace hx_1 : (nI c) = 107 := hx_1.trans (by decide)
      refine g_tabIn (off := 311) (by rw [hx_1]; decide) (by rw [hx_1]; decide) (by rw [hx_1]; decide) rfl L_X7_doCommand_312 ?_
      have hcc : c = 107 := (nI_eq (a := c) (b := 107) (by omega) (by omega)).mp hx_1
      subst hcc
      cases hfl
    · replace hx_1 : (nI c) = 108 := hx_1.trans (by decide)
      refine g_tabIn (off := 248) (by rw [hx_1]; decide) (by rw [hx_1]; decide) (by rw [hx_1]; decide) rfl L_X7_doCommand_249 ?_
      have hcc : c = 108 := (nI_eq (a := c) (b := 108) (by omega) (by omega)).mp hx_1
      subst hcc
      have hq : [(true, 0, 11), (false, 0, 9)] = qs := Option.some.inj hfl
      subst hq
      refine g_aload_n rfl ?_
      refine g_getR (w := (x + 4)) fl_X7_19 rfl hx.1 rfl ?_
      refine g_aload_n rfl ?_
      refine g_iconst (v := 0) ik_0 ?_
      refine g_iaload (j := 0) hx.2.1.2.2 rfl (nle rfl) (nle rfl) ?_
      rw [hv 0 (by decide)]
      refine g_aload_n rfl ?_
      refine g_iconst (v := 1) ik_1 ?_
      refine g_iaload (j := 1) hx.2.1.2.2 rfl (nle rfl) (nle rfl) ?_
      rw [hv 1 (by decide)]
      refine g_callV (as := [_, _]) mk_X4_giveUpSeat ml_X7_296 im_X4_giveUpSeat se_X4_giveUpSeat rfl rfl ⟨⟨nle rfl, nle rfl⟩, nle rfl, nle rfl⟩ hx.2.2.1.s0 rfl rfl rfl (nle rfl) ?_
      refine k_giveUpSeat hx.2.2.1 hS (fun hg => ?_) (fun hg M1 hS1 hF1 => ?_)
      · refine kq_s ?_
        refine g_iconst (v := -1) ik_m1 ?_
        refine g_icmp_eq rfl L_X7_doCommand_270 (fun h_11 => ?_) (fun h_11 => absurd h_11 (by decide))
        refine g_iconst (v := 0) ik_0 ?_
        refine g_fall rfl L_X7_doCommand_271 ?_
        refine g_zret rfl rfl (nle rfl) (nle rfl) ?_
        exact hN hg
      · obtain ⟨u, hu, eu⟩ := bits_nn (leS s (a 0) (tn (a 1)) (39 + 9 * tn (a 1) + 8))
        refine kq_s ?_
        refine g_iconst (v := -1) ik_m1 ?_
        refine g_icmp_eq rfl L_X7_doCommand_270 (fun h_12 => (c48 (by omega) (eu.symm.trans h_12)).elim) (fun h_12 => ?_)
        refine g_iconst (v := 1) ik_1 ?_
        refine g_goto rfl L_X7_doCommand_271 ?_
        refine g_zret rfl rfl (nle rfl) (nle rfl) ?_
        exact hY hg M1 (hS1.up (by omega)) hF1
    · replace hx_1 : (nI c) = 109 := hx_1.trans (by decide)
      refine g_tabIn (off := 311) (by rw [hx_1]; decide) (by rw [hx_1]; decide) (by rw [hx_1]; decide) rfl L_X7_doCommand_312 ?_
      have hcc : c = 109 := (nI_eq (a := c) (b := 109) (by omega) (by omega)).mp hx_1
      subst hcc
      cases hfl
    · replace hx_1 : (nI c) = 110 := hx_1.trans (by decide)
      refine g_tabIn (off := 311) (by rw [hx_1]; decide) (by rw [hx_1]; decide) (by rw [hx_1]; decide) rfl L_X7_doCommand_312 ?_
      have hcc : c = 110 := (nI_eq (a := c) (b := 110) (by omega) (by omega)).mp hx_1
      subst hcc
      cases hfl
    · replace hx_1 : (nI c) = 111 := hx_1.trans (by decide)
      refine g_tabIn (off := 311) (by rw [hx_1]; decide) (by rw [hx_1]; decide) (by rw [hx_1]; decide) rfl L_X7_doCommand_312 ?_
      have hcc : c = 111 := (nI_eq (a := c) (b := 111) (by omega) (by omega)).mp hx_1
      subst hcc
      cases hfl
    · replace hx_1 : (nI c) = 112 := hx_1.trans (by decide)
      refine g_tabIn (off := 206) (by rw [hx_1]; decide) (by rw [hx_1]; decide) (by rw [hx_1]; decide) rfl L_X7_doCommand_207 ?_
      have hcc : c = 112 := (nI_eq (a := c) (b := 112) (by omega) (by omega)).mp hx_1
      subst hcc
      have hq : [(true, 0, 11)] = qs := Option.some.inj hfl
      subst hq
      refine g_aload_n rfl ?_
      refine g_getR (w := (x + 4)) fl_X7_19 rfl hx.1 rfl ?_
      refine g_aload_n rfl ?_
      refine g_iconst (v := 0) ik_0 ?_
      refine g_iaload (j := 0) hx.2.1.2.2 rfl (nle rfl) (nle rfl) ?_
      rw [hv 0 (by decide)]
      refine g_callV (as := [_]) mk_X4_givePass ml_X7_286 im_X4_givePass se_X4_givePass rfl rfl ⟨⟨nle rfl, nle rfl⟩, nle rfl, nle rfl⟩ hx.2.2.1.s0 rfl rfl rfl (nle rfl) ?_
      refine k_givePass hx.2.2.1 hS (fun hg => ?_) (fun hg n hn en M1 hS1 hF1 => ?_)
      · refine kq_s ?_
        refine g_iconst (v := -1) ik_m1 ?_
        refine g_icmp_eq rfl L_X7_doCommand_225 (fun h_13 => ?_) (fun h_13 => absurd h_13 (by decide))
        refine g_iconst (v := 0) ik_0 ?_
        refine g_fall rfl L_X7_doCommand_226 ?_
        refine g_zret rfl rfl (nle rfl) (nle rfl) ?_
        exact hN hg
      · refine kq_s ?_
        refine g_iconst (v := -1) ik_m1 ?_
        refine g_icmp_eq rfl L_X7_doCommand_225 (fun h_14 => (c48 (by omega) h_14).elim) (fun h_14 => ?_)
        refine g_iconst (v := 1) ik_1 ?_
        refine g_goto rfl L_X7_doCommand_226 ?_
        refine g_zret rfl rfl (nle rfl) (nle rfl) ?_
        exact hY hg M1 (hS1.up (by omega)) hF1
    · replace hx_1 : (nI c) = 113 := hx_1.trans (by decide)
      refine g_tabIn (off := 311) (by rw [hx_1]; decide) (by rw [hx_1]; decide) (by rw [hx_1]; decide) rfl L_X7_doCommand_312 ?_
      have hcc : c = 113 := (nI_eq (a := c) (b := 113) (by omega) (by omega)).mp hx_1
      subst hcc
      cases hfl
    · replace hx_1 : (nI c) = 114 := hx_1.trans (by decide)
      refine g_tabIn (off := 311) (by rw [hx_1]; decide) (by rw [hx_1]; decide) (by rw [hx_1]; decide) rfl L_X7_doCommand_312 ?_
      have hcc : c = 114 := (nI_eq (a := c) (b := 114) (by omega) (by omega)).mp hx_1
      subst hcc
      cases hfl
    · replace hx_1 : (nI c) = 115 := hx_1.trans (by decide)
      refine g_tabIn (off := 311) (by rw [hx_1]; decide) (by rw [hx_1]; decide) (by rw [hx_1]; decide) rfl L_X7_doCommand_312 ?_
      have hcc : c = 115 := (nI_eq (a := c) (b := 115) (by omega) (by omega)).mp hx_1
      subst hcc
      cases hfl
    · replace hx_1 : (nI c) = 116 := hx_1.trans (by decide)
      refine g_tabIn (off := 132) (by rw [hx_1]; decide) (by rw [hx_1]; decide) (by rw [hx_1]; decide) rfl L_X7_doCommand_133 ?_
      have hcc : c = 116 := (nI_eq (a := c) (b := 116) (by omega) (by omega)).mp hx_1
      subst hcc
      have hq : [(true, 0, 15), (false, 1, 5)] = qs := Option.some.inj hfl
      subst hq
      refine g_aload_n rfl ?_
      refine g_getR (w := (x + 4)) fl_X7_19 rfl hx.1 rfl ?_
      refine g_aload_n rfl ?_
      refine g_iconst (v := 0) ik_0 ?_
      refine g_iaload (j := 0) hx.2.1.2.2 rfl (nle rfl) (nle rfl) ?_
      rw [hv 0 (by decide)]
      refine g_aload_n rfl ?_
      refine g_iconst (v := 1) ik_1 ?_
      refine g_iaload (j := 1) hx.2.1.2.2 rfl (nle rfl) (nle rfl) ?_
      rw [hv 1 (by decide)]
      refine g_callV (as := [_, _]) mk_X4_addTeacher ml_X7_262 im_X4_addTeacher se_X4_addTeacher rfl rfl ⟨⟨nle rfl, nle rfl⟩, nle rfl, nle rfl⟩ hx.2.2.1.s0 rfl rfl rfl (nle rfl) ?_
      refine k_addTeacher hx.2.2.1 hS (fun hg => ?_) (fun hg n hn en M1 hS1 hF1 => ?_)
      · refine kq_s ?_
        refine g_iconst (v := -1) ik_m1 ?_
        refine g_icmp_eq rfl L_X7_doCommand_154 (fun h_15 => ?_) (fun h_15 => absurd h_15 (by decide))
        refine g_iconst (v := 0) ik_0 ?_
        refine g_fall rfl L_X7_doCommand_155 ?_
        refine g_zret rfl rfl (nle rfl) (nle rfl) ?_
        exact hN hg
      · refine kq_s ?_
        refine g_iconst (v := -1) ik_m1 ?_
        refine g_icmp_eq rfl L_X7_doCommand_154 (fun h_16 => (c48 (by omega) h_16).elim) (fun h_16 => ?_)
        refine g_iconst (v := 1) ik_1 ?_
        refine g_goto rfl L_X7_doCommand_155 ?_
        refine g_zret rfl rfl (nle rfl) (nle rfl) ?_
        exact hY hg M1 (hS1.up (by omega)) hF1
    · replace hx_1 : (nI c) = 117 := hx_1.trans (by decide)
      refine g_tabIn (off := 311) (by rw [hx_1]; decide) (by rw [hx_1]; decide) (by rw [hx_1]; decide) rfl L_X7_doCommand_312 ?_
      have hcc : c = 117 := (nI_eq (a := c) (b := 117) (by omega) (by omega)).mp hx_1
      subst hcc
      cases hfl
    · replace hx_1 : (nI c) = 118 := hx_1.trans (by decide)
      refine g_tabIn (off := 311) (by rw [hx_1]; decide) (by rw [hx_1]; decide) (by rw [hx_1]; decide) rfl L_X7_doCommand_312 ?_
      have hcc : c = 118 := (nI_eq (a := c) (b := 118) (by omega) (by omega)).mp hx_1
      subst hcc
      cases hfl
    · replace hx_1 : (nI c) = 119 := hx_1.trans (by decide)
      refine g_tabIn (off := 291) (by rw [hx_1]; decide) (by rw [hx_1]; decide) (by rw [hx_1]; decide) rfl L_X7_doCommand_292 ?_
      have hcc : c = 119 := (nI_eq (a := c) (b := 119) (by omega) (by omega)).mp hx_1
      subst hcc
      have hq : [(false, 1, 9)] = qs := Option.some.inj hfl
      subst hq
      refine g_aload_n rfl ?_
      refine g_getR (w := (x + 4)) fl_X7_19 rfl hx.1 rfl ?_
      refine g_aload_n rfl ?_
      refine g_iconst (v := 0) ik_0 ?_
      refine g_iaload (j := 0) hx.2.1.2.2 rfl (nle rfl) (nle rfl) ?_
      rw [hv 0 (by decide)]
      refine g_callV (as := [_]) mk_X4_passWeeks ml_X7_299 im_X4_passWeeks se_X4_passWeeks rfl rfl ⟨⟨nle rfl, nle rfl⟩, nle rfl, nle rfl⟩ hx.2.2.1.s0 rfl rfl rfl (nle rfl) ?_
      obtain ⟨v, hv1, hv2, hv3⟩ := hr 0 1 9 false rfl
      refine k_passWeeks hx.2.2.1 hS v hv3 (by omega) (fun u M1 hu eu hS1 hF1 => ?_)
      · refine kq_s ?_
        refine g_iconst (v := -1) ik_m1 ?_
        refine g_icmp_eq rfl L_X7_doCommand_310 (fun h_17 => (c48 (by omega) h_17).elim) (fun h_17 => ?_)
        refine g_iconst (v := 1) ik_1 ?_
        refine g_goto rfl L_X7_doCommand_311 ?_
        refine g_zret rfl rfl (nle rfl) (nle rfl) ?_
        exact hY rfl M1 (by rw [show cmdT 119 s a = wkC v s by show wkC (tn (a 0)) s = _; rw [hv3, tn_nI (by omega)]]; exact hS1.up (by omega)) hF1
    · replace hx_1 : (nI c) = 120 := hx_1.trans (by decide)
      refine g_tabIn (off := 271) (by rw [hx_1]; decide) (by rw [hx_1]; decide) (by rw [hx_1]; decide) rfl L_X7_doCommand_272 ?_
      have hcc : c = 120 := (nI_eq (a := c) (b := 120) (by omega) (by omega)).mp hx_1
      subst hcc
      have hq : [(false, 0, 9)] = qs := Option.some.inj hfl
      subst hq
      refine g_aload_n rfl ?_
      refine g_getR (w := (x + 4)) fl_X7_19 rfl hx.1 rfl ?_
      refine g_aload_n rfl ?_
      refine g_iconst (v := 0) ik_0 ?_
      refine g_iaload (j := 0) hx.2.1.2.2 rfl (nle rfl) (nle rfl) ?_
      rw [hv 0 (by decide)]
      refine g_callV (as := [_]) mk_X4_dropLesson ml_X7_277 im_X4_dropLesson se_X4_dropLesson rfl rfl ⟨⟨nle rfl, nle rfl⟩, nle rfl, nle rfl⟩ hx.2.2.1.s0 rfl rfl rfl (nle rfl) ?_
      refine k_dropLesson hx.2.2.1 hS (fun hg => ?_) (fun hg M1 hS1 hF1 => ?_)
      · refine kq_s ?_
        refine g_iconst (v := -1) ik_m1 ?_
        refine g_icmp_eq rfl L_X7_doCommand_290 (fun h_18 => ?_) (fun h_18 => absurd h_18 (by decide))
        refine g_iconst (v := 0) ik_0 ?_
        refine g_fall rfl L_X7_doCommand_291 ?_
        refine g_zret rfl rfl (nle rfl) (nle rfl) ?_
        exact hN hg
      · obtain ⟨u, hu, eu⟩ := bits_nn (s (39 + 9 * tn (a 0) + 8))
        refine kq_s ?_
        refine g_iconst (v := -1) ik_m1 ?_
        refine g_icmp_eq rfl L_X7_doCommand_290 (fun h_19 => (c48 (by omega) (eu.symm.trans h_19)).elim) (fun h_19 => ?_)
        refine g_iconst (v := 1) ik_1 ?_
        refine g_goto rfl L_X7_doCommand_291 ?_
        refine g_zret rfl rfl (nle rfl) (nle rfl) ?_
        exact hY hg M1 (hS1.up (by omega)) hF1
  · refine g_tabOut (ho_1.imp (fun h => h) (fun h => h)) rfl L_X7_doCommand_312 ?_
    rw [flds_out (ho_1.imp (fun h => by rw [nI_toInt (by omega)] at h; omega) (fun h => by rw [nI_toInt (by omega)] at h; omega))] at hfl
    cases hfl
/-- what a load leaves alone in the class -/
def FrL (M M' : Mem) (x : Nat) : Prop := (∀ r, r ≠ x + 1 → r ≠ x + 1 + 2 → (r < x + 4 ∨ x + 4 + 37 ≤ r) → M' r = M r) ∧ M' (x + 1) 2 = M (x + 1) 2 ∧ M' (x + 4) 12 = M (x + 4) 12
theorem FrL.rf (M : Mem) (x : Nat) : FrL M M x := ⟨fun _ _ _ _ => rfl, rfl, rfl⟩
theorem FrL.tr {M M' M'' : Mem} {x : Nat} (h : FrL M M' x) (h2 : FrL M' M'' x) : FrL M M'' x := ⟨fun r a b c => (h2.1 r a b c).trans (h.1 r a b c), h2.2.1.trans h.2.1, h2.2.2.trans h.2.2⟩
theorem FrC.l {M M' : Mem} {x : Nat} (h : FrC M M' (x + 1)) : FrL M M' x := ⟨fun r a b _ => h.1 r a b, h.2, by rw [h.1 (x + 4) (by omega) (by omega)]⟩
theorem FrS.l {M M' : Mem} {x : Nat} (h : FrS M M' (x + 4)) : FrL M M' x := ⟨fun r _ _ c => h.1 r c, by rw [h.1 (x + 1) (by omega)], h.2⟩
theorem FrC.sr {B : Nat} {M M' : Mem} {x : Nat} {s : Nat → Int32} (h : FrC M M' (x + 1)) (hS : SR B M (x + 4) s) : SR B M' (x + 4) s := hS.fr fun r h1 h2 => h.1 r (by omega) (by omega)
set_option maxRecDepth 100000 in
set_option maxHeartbeats 4000000 in
theorem gl_load {X : Xs} {κ : Kp} {M M1 : Mem} {Q : Rs → Kp → Mem → Prop} {x : Nat} (hx : IsDF κ.2.1 x) {len : Nat} {t : Nat → Int32} (h2 : M (x + 1) 2 = nI len) (ht : M (x + 1 + 1) = t) (hT : TxOK t len) {B : Nat} {s : Nat → Int32} (hS : SR B M (x + 4) s) (hy : 0 < len ∧ ch t 0 = 83) {z : Nat} (hz : prs t len 120 1 = (true, z)) (f3 : M1 (x + 1) 3 = nI 1) (fC : FrC M M1 (x + 1)) (hQ : ∀ M', SR (B + 1080) M' (x + 4) (ldF t len 120 1 s 0).1 → FrL M M' x → Q (.inl (some (.int (ldF t len 120 1 s 0).2))) κ M') : G X m_X7_load B_X7_load_35 35 [(0, some (.ref x)), (1, some (.int 0)), (2, some (.int 0))] [] 1 6 κ M1 Q := by
  refine g_lo2 (lo' := [(0, some (.ref x)), (1, some (.int 0)), (2, some (.int (nI 0)))]) ?_ ⟨rfl, rfl, rfl, trivial⟩
  refine loop_up (P := fun i => ∀ (M2 : Mem) (q : Nat) (s2 : Nat → Int32) (out : Int32), i + 1 ≤ q → q ≤ len → M2 (x + 1) 3 = nI q → FrL M M2 x → SR (B + 9 * i) M2 (x + 4) s2 → prs t len (120 - i) q = (true, z) → ldF t len 120 1 s 0 = ldF t len (120 - i) q s2 out → G X m_X7_load B_X7_load_35 35 [(0, some (.ref x)), (1, some (.int out)), (2, some (.int (nI i)))] [] 1 6 κ M2 Q) 120 (fun i hle_i ih_i M2 q s2 out hq1 hq2 g3 FL hS2 hpr hLd => ?_) 0 (Nat.zero_le _) M1 1 s 0 (by omega) (by have := hy.1; omega) f3 fC.l (fC.sr hS) hz rfl
  have hl := hT.1
  have g2 : M2 (x + 1) 2 = nI len := FL.2.1.trans h2
  have gt : M2 (x + 1 + 1) = t := (FL.1 _ (by omega) (by omega) (by omega)).trans ht
  refine g_iload_n rfl ?_
  refine g_bipush (v := 120) bk_120 ?_
  refine g_icmp_ge rfl L_X7_load_91 (fun h_1 => absurd ((nI_leI (a := 120) (b := i) (by omega) (by omega)).mp h_1) (by omega)) (fun h_1 => ?_)
  refine g_aload_n rfl ?_
  refine g_getR (w := (x + 1)) fl_X7_10 rfl hx.1 rfl ?_
  refine g_callV (as := []) mk_X6_hasMore ml_X7_74 im_X6_hasMore se_X6_hasMore rfl rfl ⟨⟨nle rfl, nle rfl⟩, nle rfl, nle rfl⟩ hx.2.1.1 rfl rfl rfl (nle rfl) ?_
  refine ct_X6_hasMore hx.2.1 g2 g3 gt hT (by omega) ?_
  refine kq_s ?_
  refine g_if_eq_b rfl L_X7_load_91 (fun h_2 => ?_) (fun h_2 => ?_)
  · have hge := of_decide_eq_false h_2
    refine g_iload_n rfl ?_
    refine g_iret rfl (nle rfl) (nle rfl) ?_
    have e1 := hLd.trans (ldF_end hge _)
    exact qeq (hQ M2 (by rw [e1]; exact hS2.up (by omega)) FL) (by rw [e1]) rfl
  · have hlt := of_decide_eq_true h_2
    refine g_aload_n rfl ?_
    refine g_getR (w := (x + 1)) fl_X7_10 rfl hx.1 rfl ?_
    refine g_callV (as := []) mk_X6_readCommand ml_X7_77 im_X6_readCommand se_X6_readCommand rfl rfl ⟨⟨nle rfl, nle rfl⟩, nle rfl, nle rfl⟩ hx.2.1.1 rfl rfl rfl (nle rfl) ?_
    obtain ⟨e, hrd, hpn⟩ := prs_step (n := 120 - (i + 1)) (by rw [show 120 - (i + 1) + 1 = 120 - i by omega]; exact hpr) hlt
    obtain ⟨r1, r2⟩ := rdC_pos hlt hrd
    refine ct_X6_readCommand hx.2.1 g2 g3 gt hT hlt (fun M3 e2 qs hrd2 hfl k3 k5 kv kC => ?_) (fun M3 e2 hrd2 k3 kC => ?_)
    · have ee : e = e2 := by rw [hrd] at hrd2; cases hrd2; rfl
      subst ee
      have hca := hT.at hlt
      have ea := cmdA_eq hfl
      refine kq_s ?_
      refine g_if_eq rfl L_X7_load_85 (fun h_3 => absurd h_3 (by decide)) (fun h_3 => ?_)
      refine g_aload_n rfl ?_
      refine g_aload_n rfl ?_
      refine g_getR (w := (x + 1)) fl_X7_10 rfl hx.1 rfl ?_
      refine g_getI fl_X7_80 rfl hx.2.1.1 rfl ?_
      rw [k5, hca.1]
      refine g_aload_n rfl ?_
      refine g_getR (w := (x + 1)) fl_X7_10 rfl hx.1 rfl ?_
      refine g_getR (w := (x + 1 + 2)) fl_X7_84 rfl hx.2.1.1 rfl ?_
      refine g_callV (as := [_, _]) mk_X7_doCommand ml_X7_88 im_X7_doCommand se_X7_doCommand rfl rfl ⟨⟨nle rfl, nle rfl⟩, nle rfl, nle rfl⟩ hx.1 rfl rfl rfl (nle rfl) ?_
      refine ct_X7_doCommand hx (kC.sr hS2) hca.2 hfl kv (by rw [← ea]; exact cmdA_r hfl hrd) (fun hg M4 hS4 hF4 => ?_) (fun hg => ?_)
      · rw [← ea] at hS4
        refine kq_s ?_
        refine g_if_ne rfl L_X7_load_85 (fun h_4 => ?_) (fun h_4 => absurd h_4 (by decide))
        refine g_iinc (v := nI (i + 1)) rfl (nI_inc _) (nle rfl) ?_
        refine g_goto rfl L_X7_load_35 ?_
        exact g_lo2 (ih_i (by omega) M4 e (cmdT (ch t q) s2 (cmdA t q)) out (by omega) r2 (by rw [hF4.1 (x + 1) (by omega)]; exact k3) ((FL.tr kC.l).tr hF4.l) (hS4.up (by omega)) hpn (hLd.trans (by rw [show 120 - i = (120 - (i + 1)) + 1 by omega]; exact ldF_y hlt hrd (by rw [ea]; exact hg)))) ⟨rfl, rfl, rfl, trivial⟩
      · refine kq_s ?_
        refine g_if_ne rfl L_X7_load_85 (fun h_5 => absurd h_5 (by decide)) (fun h_5 => ?_)
        refine g_iinc rfl rfl (nle rfl) ?_
        refine g_fall rfl L_X7_load_85 ?_
        refine g_iinc (v := nI (i + 1)) rfl (nI_inc _) (nle rfl) ?_
        refine g_goto rfl L_X7_load_35 ?_
        exact g_lo2 (ih_i (by omega) M3 e s2 (out + 1) (by omega) r2 k3 (FL.tr kC.l) ((kC.sr hS2).up (by omega)) hpn (hLd.trans (by rw [show 120 - i = (120 - (i + 1)) + 1 by omega]; exact ldF_n hlt hrd (by rw [ea]; exact hg)))) ⟨rfl, rfl, rfl, trivial⟩
    · rw [hrd] at hrd2
      cases hrd2
