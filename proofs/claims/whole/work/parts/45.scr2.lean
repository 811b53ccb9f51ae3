theorem left_nn {B : Nat} {s : Nat → Int32} (hI : IR B s) {d : Int32} (h : cpass s d = true) : ∃ n, n < 90 ∧ s (129 + 5 * tn d + 2) = nI n := by
  obtain ⟨nf, nt, nc, nd, hI⟩ := hI
  have bn := hI.ld
  obtain ⟨d', hd, ed, hl⟩ := hI.qPa.mp h
  obtain ⟨n, -, n2, n3⟩ := (hI.da hd).1
  refine ⟨n, ?_, by rw [ed, tn_nI (by omega)]; exact n3⟩
  rw [n3] at hl
  exact (nI_ltI (a := n) (b := 90) (by omega) (by omega)).mp hl
theorem in3 {g : Nat} (hg : g < 100000) : inB (nI g) 30001 30009 = (decide (30001 ≤ g) && decide (g ≤ 30009)) := by
  unfold inB
  congr 1
  · exact decide_eq_decide.mpr (nI_leI (a := 30001) (b := g) (by omega) (by omega))
  · exact decide_eq_decide.mpr (nI_leI (a := g) (b := 30009) (by omega) (by omega))
theorem dan_lt {B nf nt nc nd : Nat} {s : Nat → Int32} (hI : Inv B nf nt nc nd s) {g : Nat} (h : isD s (nI (g / 1000 % 10)) = true) : g / 1000 % 10 < nd := by
  obtain ⟨d, hd, ed⟩ := hI.xD.mp h
  have := (nI_eq (a := g / 1000 % 10) (b := d) (by omega) (by have := hI.ld; omega)).mp ed
  omega
set_option maxRecDepth 100000 in
set_option maxHeartbeats 4000000 in
theorem ct_X8_isCommand {X : Xs} {κ : Kp} {M : Mem} {Q : Rs → Kp → Mem → Prop} {m : Nat} (hm : IsMod κ.2.1 m) {B : Nat} (hI : IR B (M (m + 1))) {g : Nat} (hg0 : g < 100000) (hQ : Q (.inl (some (.int (bI (gcB g (M (m + 1))))))) κ (sR M (m + 1) (gcS g (M (m + 1))))) : Ct X m_X8_isCommand [.ref m, .int (nI g)] κ M Q := by
  refine ct_of B_X8_isCommand_0 pn_X8 rfl (nle rfl) L_X8_isCommand_0 ?_
  refine g_iload_n rfl ?_
  refine g_sipush (v := 10000) sk_10000 ?_
  refine g_idiv (by decide) ?_
  rw [show nI (g) / 10000 = nI (g / 10000) from pk_div (d := 10000) (by omega) (by omega) (by omega)]
  refine g_istore_n (nle rfl) ?_
  refine g_iload_n rfl ?_
  refine g_sipush (v := 1000) sk_1000 ?_
  refine g_idiv (by decide) ?_
  rw [show nI (g) / 1000 = nI (g / 1000) from pk_div (d := 1000) (by omega) (by omega) (by omega)]
  refine g_bipush (v := 10) bk_10 ?_
  refine g_irem (by decide) ?_
  rw [show nI ((g / 1000)) - nI ((g / 1000)) / 10 * 10 = nI ((g / 1000) % 10) from pk_rem (d := 10) (by omega) (by omega) (by omega)]
  refine g_istore_n (nle rfl) ?_
  refine g_iload_n rfl ?_
  refine g_bipush (v := 100) bk_100 ?_
  refine g_idiv (by decide) ?_
  rw [show nI (g) / 100 = nI (g / 100) from pk_div (d := 100) (by omega) (by omega) (by omega)]
  refine g_bipush (v := 10) bk_10 ?_
  refine g_irem (by decide) ?_
  rw [show nI ((g / 100)) - nI ((g / 100)) / 10 * 10 = nI ((g / 100) % 10) from pk_rem (d := 10) (by omega) (by omega) (by omega)]
  refine g_istore (nle rfl) ?_
  refine g_iload_n rfl ?_
  refine g_bipush (v := 100) bk_100 ?_
  refine g_irem (by decide) ?_
  rw [show nI (g) - nI (g) / 100 * 100 = nI (g % 100) from pk_rem (d := 100) (by omega) (by omega) (by omega)]
  refine g_istore (nle rfl) ?_
  refine g_iload_n rfl ?_
  rcases sw_cases (nI (g / 10000)) 1 9 (nle rfl) with ⟨j_31, hj_31, hx_31⟩ | ho_31
  · have hc_31 : j_31 = 0 ∨ j_31 = 1 ∨ j_31 = 2 ∨ j_31 = 3 ∨ j_31 = 4 ∨ j_31 = 5 ∨ j_31 = 6 ∨ j_31 = 7 ∨ j_31 = 8 := by omega
    rcases hc_31 with rfl | rfl | rfl | rfl | rfl | rfl | rfl | rfl | rfl
    · replace hx_31 : (nI (g / 10000)) = 1 := hx_31.trans (by decide)
      refine g_tabIn (off := 49) (by rw [hx_31]; decide) (by rw [hx_31]; decide) (by rw [hx_31]; decide) rfl L_X8_isCommand_80 ?_
      have hk : g / 10000 = 1 := (nI_eq (a := g / 10000) (b := 1) (by omega) (by omega)).mp hx_31
      refine g_iload rfl ?_
      refine g_if_ne rfl L_X8_isCommand_116 (fun h_1 => ?_) (fun h_1 => ?_)
      · have hz : ¬ g % 100 = 0 := fun z => h_1 (by rw [z]; rfl)
        refine g_iconst (v := 0) ik_0 ?_
        refine g_fall rfl L_X8_isCommand_117 ?_
        refine g_zret rfl rfl (nle rfl) (nle rfl) ?_
        have hB : gcB g (M (m + 1)) = false := by rw [gcB_1 hk, decide_eq_false (show ¬ g % 100 = 0 by omega)]; rfl
        have hSS : gcS g (M (m + 1)) = (M (m + 1)) := by rw [gcS_1 hk, decide_eq_false (show ¬ g % 100 = 0 by omega)]; rfl
        refine qeq hQ (by rw [hB]; rfl) (by rw [hSS, sR_self])
      · have hz_42 : g % 100 = 0 := (nI_eq (a := g % 100) (b := 0) (by omega) (by omega)).mp h_1
        refine g_aload_n rfl ?_
        refine g_iload_n rfl ?_
        refine g_callV (as := [_]) mk_X8_isDancer ml_X8_127 im_X8_isDancer se_X8_isDancer rfl rfl ⟨⟨nle rfl, nle rfl⟩, nle rfl, nle rfl⟩ hm.1 rfl rfl rfl (nle rfl) ?_
        refine ct_X8_isDancer hm ?_
        refine kq_s ?_
        refine g_if_eq_b rfl L_X8_isCommand_116 (fun h_2 => ?_) (fun h_2 => ?_)
        · have hD : isD (M (m + 1)) (nI (g / 1000 % 10)) = false := h_2
          refine g_iconst (v := 0) ik_0 ?_
          refine g_fall rfl L_X8_isCommand_117 ?_
          refine g_zret rfl rfl (nle rfl) (nle rfl) ?_
          have hg : gSe (M (m + 1)) (nI (g / 1000 % 10)) (nI (g / 100 % 10)) = false := by unfold gSe; rw [hD]; simp
          have hB : gcB g (M (m + 1)) = false := by rw [gcB_1 hk, hg]; simp
          have hSS : gcS g (M (m + 1)) = (M (m + 1)) := by rw [gcS_1 hk, hg]; simp
          refine qeq hQ (by rw [hB]; rfl) (by rw [hSS, sR_self])
        · have hD : isD (M (m + 1)) (nI (g / 1000 % 10)) = true := h_2
          refine g_aload_n rfl ?_
          refine g_iload rfl ?_
          refine g_callV (as := [_]) mk_X8_isClass ml_X8_130 im_X8_isClass se_X8_isClass rfl rfl ⟨⟨nle rfl, nle rfl⟩, nle rfl, nle rfl⟩ hm.1 rfl rfl rfl (nle rfl) ?_
          refine ct_X8_isClass hm ?_
          refine kq_s ?_
          refine g_if_eq_b rfl L_X8_isCommand_116 (fun h_3 => ?_) (fun h_3 => ?_)
          · have hC : isC (M (m + 1)) (nI (g / 100 % 10)) = false := h_3
            refine g_iconst (v := 0) ik_0 ?_
            refine g_fall rfl L_X8_isCommand_117 ?_
            refine g_zret rfl rfl (nle rfl) (nle rfl) ?_
            have hg : gSe (M (m + 1)) (nI (g / 1000 % 10)) (nI (g / 100 % 10)) = false := by unfold gSe; rw [hC]; simp
            have hB : gcB g (M (m + 1)) = false := by rw [gcB_1 hk, hg]; simp
            have hSS : gcS g (M (m + 1)) = (M (m + 1)) := by rw [gcS_1 hk, hg]; simp
            refine qeq hQ (by rw [hB]; rfl) (by rw [hSS, sR_self])
          · have hC : isC (M (m + 1)) (nI (g / 100 % 10)) = true := h_3
            refine g_aload_n rfl ?_
            refine g_iload_n rfl ?_
            refine g_iload rfl ?_
            refine g_callV (as := [_, _]) mk_X8_triesSeat ml_X8_215 im_X8_triesSeat se_X8_triesSeat rfl rfl ⟨⟨nle rfl, nle rfl⟩, nle rfl, nle rfl⟩ hm.1 rfl rfl rfl (nle rfl) ?_
            have hg : gSe (M (m + 1)) (nI (g / 1000 % 10)) (nI (g / 100 % 10)) = true := by unfold gSe; rw [hD, hC]; rfl
            refine m_triesSeat hm hI hg ?_
            refine kq_s ?_
            refine g_if_ne rfl L_X8_isCommand_116 (fun h_4 => ?_) (fun h_4 => ?_)
            · have hw := h_4
              refine g_iconst (v := 0) ik_0 ?_
              refine g_fall rfl L_X8_isCommand_117 ?_
              refine g_zret rfl rfl (nle rfl) (nle rfl) ?_
              have hB : gcB g (M (m + 1)) = false := by rw [gcB_1 hk, decide_eq_false hw]; simp
              have hSS : gcS g (M (m + 1)) = tsT (M (m + 1)) (nI (g / 1000 % 10)) (nI (g / 100 % 10)) := by rw [gcS_1 hk, hg, decide_eq_true (show g % 100 = 0 by omega)]; rfl
              exact qeq hQ (by rw [hB]; rfl) (by rw [hSS])
            · have hw := h_4
              refine g_iconst (v := 1) ik_1 ?_
              refine g_goto rfl L_X8_isCommand_117 ?_
              refine g_zret rfl rfl (nle rfl) (nle rfl) ?_
              have hB : gcB g (M (m + 1)) = true := by rw [gcB_1 hk, decide_eq_true hw, hg, decide_eq_true (show g % 100 = 0 by omega)]; rfl
              have hSS : gcS g (M (m + 1)) = tsT (M (m + 1)) (nI (g / 1000 % 10)) (nI (g / 100 % 10)) := by rw [gcS_1 hk, hg, decide_eq_true (show g % 100 = 0 by omega)]; rfl
              exact qeq hQ (by rw [hB]; rfl) (by rw [hSS])
    · replace hx_31 : (nI (g / 10000)) = 2 := hx_31.trans (by decide)
      refine g_tabIn (off := 87) (by rw [hx_31]; decide) (by rw [hx_31]; decide) (by rw [hx_31]; decide) rfl L_X8_isCommand_118 ?_
      have hk : g / 10000 = 2 := (nI_eq (a := g / 10000) (b := 2) (by omega) (by omega)).mp hx_31
      refine g_iload rfl ?_
      refine g_if_ne rfl L_X8_isCommand_164 (fun h_5 => ?_) (fun h_5 => ?_)
      · have hz : ¬ g % 100 = 0 := fun z => h_5 (by rw [z]; rfl)
        refine g_iconst (v := 0) ik_0 ?_
        refine g_fall rfl L_X8_isCommand_165 ?_
        refine g_zret rfl rfl (nle rfl) (nle rfl) ?_
        have hB : gcB g (M (m + 1)) = false := by rw [gcB_2 hk, decide_eq_false (show ¬ g % 100 = 0 by omega)]; rfl
        have hSS : gcS g (M (m + 1)) = (M (m + 1)) := by rw [gcS_2 hk, decide_eq_false (show ¬ g % 100 = 0 by omega)]; rfl
        refine qeq hQ (by rw [hB]; rfl) (by rw [hSS, sR_self])
      · have hz_107 : g % 100 = 0 := (nI_eq (a := g % 100) (b := 0) (by omega) (by omega)).mp h_5
        refine g_aload_n rfl ?_
        refine g_iload_n rfl ?_
        refine g_callV (as := [_]) mk_X8_isDancer ml_X8_127 im_X8_isDancer se_X8_isDancer rfl rfl ⟨⟨nle rfl, nle rfl⟩, nle rfl, nle rfl⟩ hm.1 rfl rfl rfl (nle rfl) ?_
        refine ct_X8_isDancer hm ?_
        refine kq_s ?_
        refine g_if_eq_b rfl L_X8_isCommand_164 (fun h_6 => ?_) (fun h_6 => ?_)
        · have hD : isD (M (m + 1)) (nI (g / 1000 % 10)) = false := h_6
          refine g_iconst (v := 0) ik_0 ?_
          refine g_fall rfl L_X8_isCommand_165 ?_
          refine g_zret rfl rfl (nle rfl) (nle rfl) ?_
          have hg : gLe (M (m + 1)) (nI (g / 1000 % 10)) (nI (g / 100 % 10)) = false := by unfold gLe; rw [hD]; simp
          have hB : gcB g (M (m + 1)) = false := by rw [gcB_2 hk, hg]; simp
          have hSS : gcS g (M (m + 1)) = (M (m + 1)) := by rw [gcS_2 hk, hg]; simp
          refine qeq hQ (by rw [hB]; rfl) (by rw [hSS, sR_self])
        · have hD : isD (M (m + 1)) (nI (g / 1000 % 10)) = true := h_6
          refine g_aload_n rfl ?_
          refine g_iload rfl ?_
          refine g_callV (as := [_]) mk_X8_isClass ml_X8_130 im_X8_isClass se_X8_isClass rfl rfl ⟨⟨nle rfl, nle rfl⟩, nle rfl, nle rfl⟩ hm.1 rfl rfl rfl (nle rfl) ?_
          refine ct_X8_isClass hm ?_
          refine kq_s ?_
          refine g_if_eq_b rfl L_X8_isCommand_164 (fun h_7 => ?_) (fun h_7 => ?_)
          · have hC : isC (M (m + 1)) (nI (g / 100 % 10)) = false := h_7
            refine g_iconst (v := 0) ik_0 ?_
            refine g_fall rfl L_X8_isCommand_165 ?_
            refine g_zret rfl rfl (nle rfl) (nle rfl) ?_
            have hg : gLe (M (m + 1)) (nI (g / 1000 % 10)) (nI (g / 100 % 10)) = false := by unfold gLe; rw [hC]; simp
            have hB : gcB g (M (m + 1)) = false := by rw [gcB_2 hk, hg]; simp
            have hSS : gcS g (M (m + 1)) = (M (m + 1)) := by rw [gcS_2 hk, hg]; simp
            refine qeq hQ (by rw [hB]; rfl) (by rw [hSS, sR_self])
          · have hC : isC (M (m + 1)) (nI (g / 100 % 10)) = true := h_7
            refine g_aload_n rfl ?_
            refine g_iload_n rfl ?_
            refine g_iload rfl ?_
            refine g_callV (as := [_, _]) mk_X8_hasSeat ml_X8_53 im_X8_hasSeat se_X8_hasSeat rfl rfl ⟨⟨nle rfl, nle rfl⟩, nle rfl, nle rfl⟩ hm.1 rfl rfl rfl (nle rfl) ?_
            refine m_hasSeat hm hI hC ?_
            refine kq_s ?_
            refine g_if_eq_b rfl L_X8_isCommand_164 (fun h_8 => ?_) (fun h_8 => ?_)
            · have hb := h_8
              refine g_iconst (v := 0) ik_0 ?_
              refine g_fall rfl L_X8_isCommand_165 ?_
              refine g_zret rfl rfl (nle rfl) (nle rfl) ?_
              have hg : gLe (M (m + 1)) (nI (g / 1000 % 10)) (nI (g / 100 % 10)) = false := by unfold gLe; rw [hb]; simp
              have hB : gcB g (M (m + 1)) = false := by rw [gcB_2 hk, hg]; simp
              have hSS : gcS g (M (m + 1)) = (M (m + 1)) := by rw [gcS_2 hk, hg]; simp
              refine qeq hQ (by rw [hB]; rfl) (by rw [hSS, sR_self])
            · have hb := h_8
              refine g_aload_n rfl ?_
              refine g_iload_n rfl ?_
              refine g_iload rfl ?_
              refine g_callV (as := [_, _]) mk_X8_leaves ml_X8_169 im_X8_leaves se_X8_leaves rfl rfl ⟨⟨nle rfl, nle rfl⟩, nle rfl, nle rfl⟩ hm.1 rfl rfl rfl (nle rfl) ?_
              obtain ⟨u, hu, eu⟩ := bits_nn (leS (M (m + 1)) (nI (g / 1000 % 10)) (tn (nI (g / 100 % 10))) (39 + 9 * tn (nI (g / 100 % 10)) + 8))
              refine m_leaves hm hI hC ?_
              rw [eu]
              refine kq_s ?_
              refine g_if_lt rfl L_X8_isCommand_164 (fun h_9 => absurd ((nI_ltI (a := u) (b := 0) (by omega) (by omega)).mp h_9) (by omega)) (fun h_9 => ?_)
              refine g_iconst (v := 1) ik_1 ?_
              refine g_goto rfl L_X8_isCommand_165 ?_
              refine g_zret rfl rfl (nle rfl) (nle rfl) ?_
              have hg : gLe (M (m + 1)) (nI (g / 1000 % 10)) (nI (g / 100 % 10)) = true := by unfold gLe; rw [hD, hC, hb]; rfl
              have hB : gcB g (M (m + 1)) = true := by rw [gcB_2 hk, hg, decide_eq_true (show g % 100 = 0 by omega)]; rfl
              have hSS : gcS g (M (m + 1)) = leS (M (m + 1)) (nI (g / 1000 % 10)) (tn (nI (g / 100 % 10))) := by rw [gcS_2 hk, hg, decide_eq_true (show g % 100 = 0 by omega)]; rfl
              exact qeq hQ (by rw [hB]; rfl) (by rw [hSS])
    · replace hx_31 : (nI (g / 10000)) = 3 := hx_31.trans (by decide)
      refine g_tabIn (off := 135) (by rw [hx_31]; decide) (by rw [hx_31]; decide) (by rw [hx_31]; decide) rfl L_X8_isCommand_166 ?_
      have hk : g / 10000 = 3 := (nI_eq (a := g / 10000) (b := 3) (by omega) (by omega)).mp hx_31
      refine g_iload_n rfl ?_
      refine g_sipush (v := 30001) sk_30001 ?_
      refine g_sipush (v := 30009) sk_30009 ?_
      refine g_callS (as := [_, _, _]) mk_X8_in ml_X8_29 sm_X8_in rfl rfl ⟨⟨nle rfl, nle rfl⟩, nle rfl, nle rfl⟩ rfl rfl (nle rfl) ?_
      refine ct_X8_in ?_
      refine kq_s ?_
      refine g_if_eq_b rfl L_X8_isCommand_192 (fun h_10 => ?_) (fun h_10 => ?_)
      · have hin := (in3 hg0).symm.trans h_10
        refine g_iconst (v := 0) ik_0 ?_
        refine g_fall rfl L_X8_isCommand_193 ?_
        refine g_zret rfl rfl (nle rfl) (nle rfl) ?_
        have hB : gcB g (M (m + 1)) = false := (gcB_3 hk).trans hin
        have hSS : gcS g (M (m + 1)) = (M (m + 1)) := by rw [gcS_3 hk, hin]; rfl
        refine qeq hQ (by rw [hB]; rfl) (by rw [hSS, sR_self])
      · have hin := (in3 hg0).symm.trans h_10
        refine g_aload_n rfl ?_
        refine g_iload rfl ?_
        refine g_callV (as := [_]) mk_X8_weeksGo ml_X8_175 im_X8_weeksGo se_X8_weeksGo rfl rfl ⟨⟨nle rfl, nle rfl⟩, nle rfl, nle rfl⟩ hm.1 rfl rfl rfl (nle rfl) ?_
        refine m_weeksGo hm hI (g % 100) rfl (by omega) (fun u hu eu => ?_)
        refine kq_s ?_
        refine g_if_lt rfl L_X8_isCommand_192 (fun h_11 => absurd ((nI_ltI (a := u) (b := 0) (by omega) (by omega)).mp h_11) (by omega)) (fun h_11 => ?_)
        refine g_iconst (v := 1) ik_1 ?_
        refine g_goto rfl L_X8_isCommand_193 ?_
        refine g_zret rfl rfl (nle rfl) (nle rfl) ?_
        have hB : gcB g (M (m + 1)) = true := (gcB_3 hk).trans hin
        have hSS : gcS g (M (m + 1)) = wkC (g % 100) (M (m + 1)) := by rw [gcS_3 hk, hin]; rfl
        exact qeq hQ (by rw [hB]; rfl) (by rw [hSS])
    · replace hx_31 : (nI (g / 10000)) = 4 := hx_31.trans (by decide)
      refine g_tabIn (off := 163) (by rw [hx_31]; decide) (by rw [hx_31]; decide) (by rw [hx_31]; decide) rfl L_X8_isCommand_194 ?_
      have hk : g / 10000 = 4 := (nI_eq (a := g / 10000) (b := 4) (by omega) (by omega)).mp hx_31
      refine g_iload rfl ?_
      refine g_if_ne rfl L_X8_isCommand_224 (fun h_12 => ?_) (fun h_12 => ?_)
      · have hz : ¬ g / 100 % 10 = 0 := fun z => h_12 (by rw [z]; rfl)
        refine g_iconst (v := 0) ik_0 ?_
        refine g_fall rfl L_X8_isCommand_225 ?_
        refine g_zret rfl rfl (nle rfl) (nle rfl) ?_
        have hB : gcB g (M (m + 1)) = false := by rw [gcB_4 hk, decide_eq_false (show ¬ g % 1000 = 0 by omega)]; rfl
        have hSS : gcS g (M (m + 1)) = (M (m + 1)) := by rw [gcS_4 hk, decide_eq_false (show ¬ g % 1000 = 0 by omega)]; rfl
        refine qeq hQ (by rw [hB]; rfl) (by rw [hSS, sR_self])
      · have hz_212 : g / 100 % 10 = 0 := (nI_eq (a := g / 100 % 10) (b := 0) (by omega) (by omega)).mp h_12
        refine g_iload rfl ?_
        refine g_if_ne rfl L_X8_isCommand_224 (fun h_13 => ?_) (fun h_13 => ?_)
        · have hz : ¬ g % 100 = 0 := fun z => h_13 (by rw [z]; rfl)
          refine g_iconst (v := 0) ik_0 ?_
          refine g_fall rfl L_X8_isCommand_225 ?_
          refine g_zret rfl rfl (nle rfl) (nle rfl) ?_
          have hB : gcB g (M (m + 1)) = false := by rw [gcB_4 hk, decide_eq_false (show ¬ g % 1000 = 0 by omega)]; rfl
          have hSS : gcS g (M (m + 1)) = (M (m + 1)) := by rw [gcS_4 hk, decide_eq_false (show ¬ g % 1000 = 0 by omega)]; rfl
          refine qeq hQ (by rw [hB]; rfl) (by rw [hSS, sR_self])
        · have hz_222 : g % 100 = 0 := (nI_eq (a := g % 100) (b := 0) (by omega) (by omega)).mp h_13
          refine g_aload_n rfl ?_
          refine g_iload_n rfl ?_
          refine g_callV (as := [_]) mk_X8_canPass ml_X8_140 im_X8_canPass se_X8_canPass rfl rfl ⟨⟨nle rfl, nle rfl⟩, nle rfl, nle rfl⟩ hm.1 rfl rfl rfl (nle rfl) ?_
          refine m_canPass hm hI ?_
          refine kq_s ?_
          refine g_if_eq_b rfl L_X8_isCommand_224 (fun h_14 => ?_) (fun h_14 => ?_)
          · have hP : cpass (M (m + 1)) (nI (g / 1000 % 10)) = false := h_14
            refine g_iconst (v := 0) ik_0 ?_
            refine g_fall rfl L_X8_isCommand_225 ?_
            refine g_zret rfl rfl (nle rfl) (nle rfl) ?_
            have hB : gcB g (M (m + 1)) = false := by rw [gcB_4 hk, hP]; simp
            have hSS : gcS g (M (m + 1)) = (M (m + 1)) := by rw [gcS_4 hk, hP]; simp
            refine qeq hQ (by rw [hB]; rfl) (by rw [hSS, sR_self])
          · have hP : cpass (M (m + 1)) (nI (g / 1000 % 10)) = true := h_14
            refine g_aload_n rfl ?_
            refine g_iload_n rfl ?_
            refine g_callV (as := [_]) mk_X8_passes ml_X8_163 im_X8_passes se_X8_passes rfl rfl ⟨⟨nle rfl, nle rfl⟩, nle rfl, nle rfl⟩ hm.1 rfl rfl rfl (nle rfl) ?_
            have hP2 := hP
            unfold cpass at hP2
            rw [Bool.and_eq_true] at hP2
            obtain ⟨n, hn, en⟩ := left_nn hI hP
            refine m_passes hm hI hP2.1 ?_
            rw [en, show nI n + 10 = nI (n + 10) from nI_add n 10]
            refine kq_s ?_
            refine g_if_le rfl L_X8_isCommand_224 (fun h_15 => absurd ((nI_leI (a := n + 10) (b := 0) (by omega) (by omega)).mp h_15) (by omega)) (fun h_15 => ?_)
            refine g_iconst (v := 1) ik_1 ?_
            refine g_goto rfl L_X8_isCommand_225 ?_
            refine g_zret rfl rfl (nle rfl) (nle rfl) ?_
            have hB : gcB g (M (m + 1)) = true := by rw [gcB_4 hk, hP, decide_eq_true (show g % 1000 = 0 by omega)]; rfl
            have hSS : gcS g (M (m + 1)) = paS (M (m + 1)) (tn (nI (g / 1000 % 10))) := by rw [gcS_4 hk, hP, decide_eq_true (show g % 1000 = 0 by omega)]; rfl
            exact qeq hQ (by rw [hB]; rfl) (by rw [hSS])
    · replace hx_31 : (nI (g / 10000)) = 5 := hx_31.trans (by decide)
      refine g_tabIn (off := 195) (by rw [hx_31]; decide) (by rw [hx_31]; decide) (by rw [hx_31]; decide) rfl L_X8_isCommand_226 ?_
      have hk : g / 10000 = 5 := (nI_eq (a := g / 10000) (b := 5) (by omega) (by omega)).mp hx_31
      refine g_iload rfl ?_
      refine g_if_ne rfl L_X8_isCommand_256 (fun h_16 => ?_) (fun h_16 => ?_)
      · have hz : ¬ g / 100 % 10 = 0 := fun z => h_16 (by rw [z]; rfl)
        refine g_iconst (v := 0) ik_0 ?_
        refine g_fall rfl L_X8_isCommand_257 ?_
        refine g_zret rfl rfl (nle rfl) (nle rfl) ?_
        have hB : gcB g (M (m + 1)) = false := by rw [gcB_5 hk, decide_eq_false (show ¬ g % 1000 = 0 by omega)]; rfl
        have hSS : gcS g (M (m + 1)) = (M (m + 1)) := by rw [gcS_5 hk, decide_eq_false (show ¬ g % 1000 = 0 by omega)]; rfl
        refine qeq hQ (by rw [hB]; rfl) (by rw [hSS, sR_self])
      · have hz_266 : g / 100 % 10 = 0 := (nI_eq (a := g / 100 % 10) (b := 0) (by omega) (by omega)).mp h_16
        refine g_iload rfl ?_
        refine g_if_ne rfl L_X8_isCommand_256 (fun h_17 => ?_) (fun h_17 => ?_)
        · have hz : ¬ g % 100 = 0 := fun z => h_17 (by rw [z]; rfl)
          refine g_iconst (v := 0) ik_0 ?_
          refine g_fall rfl L_X8_isCommand_257 ?_
          refine g_zret rfl rfl (nle rfl) (nle rfl) ?_
          have hB : gcB g (M (m + 1)) = false := by rw [gcB_5 hk, decide_eq_false (show ¬ g % 1000 = 0 by omega)]; rfl
          have hSS : gcS g (M (m + 1)) = (M (m + 1)) := by rw [gcS_5 hk, decide_eq_false (show ¬ g % 1000 = 0 by omega)]; rfl
          refine qeq hQ (by rw [hB]; rfl) (by rw [hSS, sR_self])
        · have hz_276 : g % 100 = 0 := (nI_eq (a := g % 100) (b := 0) (by omega) (by omega)).mp h_17
          refine g_aload_n rfl ?_
          refine g_iload_n rfl ?_
          refine g_callV (as := [_]) mk_X8_isClass ml_X8_130 im_X8_isClass se_X8_isClass rfl rfl ⟨⟨nle rfl, nle rfl⟩, nle rfl, nle rfl⟩ hm.1 rfl rfl rfl (nle rfl) ?_
          refine ct_X8_isClass hm ?_
          refine kq_s ?_
          refine g_if_eq_b rfl L_X8_isCommand_256 (fun h_18 => ?_) (fun h_18 => ?_)
          · have hX : isC (M (m + 1)) (nI (g / 1000 % 10)) = false := h_18
            refine g_iconst (v := 0) ik_0 ?_
            refine g_fall rfl L_X8_isCommand_257 ?_
            refine g_zret rfl rfl (nle rfl) (nle rfl) ?_
            have hB : gcB g (M (m + 1)) = false := by rw [gcB_5 hk, hX]; simp
            have hSS : gcS g (M (m + 1)) = (M (m + 1)) := by rw [gcS_5 hk, hX]; simp
            refine qeq hQ (by rw [hB]; rfl) (by rw [hSS, sR_self])
          · have hX : isC (M (m + 1)) (nI (g / 1000 % 10)) = true := h_18
            refine g_aload_n rfl ?_
            refine g_iload_n rfl ?_
            refine g_callV (as := [_]) mk_X8_drops ml_X8_172 im_X8_drops se_X8_drops rfl rfl ⟨⟨nle rfl, nle rfl⟩, nle rfl, nle rfl⟩ hm.1 rfl rfl rfl (nle rfl) ?_
            obtain ⟨u, hu, eu⟩ := bits_nn ((M (m + 1)) (39 + 9 * tn (nI (g / 1000 % 10)) + 8))
            refine m_drops hm hI hX ?_
            rw [eu]
            refine kq_s ?_
            refine g_if_lt rfl L_X8_isCommand_256 (fun h_19 => absurd ((nI_ltI (a := u) (b := 0) (by omega) (by omega)).mp h_19) (by omega)) (fun h_19 => ?_)
            refine g_iconst (v := 1) ik_1 ?_
            refine g_goto rfl L_X8_isCommand_257 ?_
            refine g_zret rfl rfl (nle rfl) (nle rfl) ?_
            have hB : gcB g (M (m + 1)) = true := by rw [gcB_5 hk, hX, decide_eq_true (show g % 1000 = 0 by omega)]; rfl
            have hSS : gcS g (M (m + 1)) = drS (M (m + 1)) (cN (M (m + 1)) 2) (tn (nI (g / 1000 % 10))) := by rw [gcS_5 hk, hX, decide_eq_true (show g % 1000 = 0 by omega)]; rfl
            exact qeq hQ (by rw [hB]; rfl) (by rw [hSS])
    · replace hx_31 : (nI (g / 10000)) = 6 := hx_31.trans (by decide)
      refine g_tabIn (off := 227) (by rw [hx_31]; decide) (by rw [hx_31]; decide) (by rw [hx_31]; decide) rfl L_X8_isCommand_258 ?_
      have hk : g / 10000 = 6 := (nI_eq (a := g / 10000) (b := 6) (by omega) (by omega)).mp hx_31
      refine g_iload rfl ?_
      refine g_if_ne rfl L_X8_isCommand_293 (fun h_20 => ?_) (fun h_20 => ?_)
      · have hz : ¬ g / 100 % 10 = 0 := fun z => h_20 (by rw [z]; rfl)
        refine g_iconst (v := 0) ik_0 ?_
        refine g_fall rfl L_X8_isCommand_294 ?_
        refine g_zret rfl rfl (nle rfl) (nle rfl) ?_
        have hSS := gcS_6 (s := (M (m + 1))) hk
        have hB : gcB g (M (m + 1)) = false := by rw [gcB_6 hk, decide_eq_false (show ¬ g % 1000 < 10 by omega)]; rfl
        refine qeq hQ (by rw [hB]; rfl) (by rw [hSS, sR_self])
      · have hz_317 : g / 100 % 10 = 0 := (nI_eq (a := g / 100 % 10) (b := 0) (by omega) (by omega)).mp h_20
        refine g_iload rfl ?_
        refine g_bipush (v := 10) bk_10 ?_
        refine g_icmp_ge rfl L_X8_isCommand_293 (fun h_21 => ?_) (fun h_21 => ?_)
        · have hz : ¬ g % 100 < 10 := fun q => absurd ((nI_ltI (a := g % 100) (b := 10) (by omega) (by omega)).mpr q) (Int32.not_lt.mpr h_21)
          refine g_iconst (v := 0) ik_0 ?_
          refine g_fall rfl L_X8_isCommand_294 ?_
          refine g_zret rfl rfl (nle rfl) (nle rfl) ?_
          have hSS := gcS_6 (s := (M (m + 1))) hk
          have hB : gcB g (M (m + 1)) = false := by rw [gcB_6 hk, decide_eq_false (show ¬ g % 1000 < 10 by omega)]; rfl
          refine qeq hQ (by rw [hB]; rfl) (by rw [hSS, sR_self])
        · have hz6 : g % 100 < 10 := (nI_ltI (a := g % 100) (b := 10) (by omega) (by omega)).mp (Int32.not_le.mp h_21)
          refine g_aload_n rfl ?_
          refine g_iload_n rfl ?_
          refine g_callV (as := [_]) mk_X8_isDancer ml_X8_127 im_X8_isDancer se_X8_isDancer rfl rfl ⟨⟨nle rfl, nle rfl⟩, nle rfl, nle rfl⟩ hm.1 rfl rfl rfl (nle rfl) ?_
          refine ct_X8_isDancer hm ?_
          refine kq_s ?_
          refine g_if_eq_b rfl L_X8_isCommand_293 (fun h_22 => ?_) (fun h_22 => ?_)
          · have hD : isD (M (m + 1)) (nI (g / 1000 % 10)) = false := h_22
            refine g_iconst (v := 0) ik_0 ?_
            refine g_fall rfl L_X8_isCommand_294 ?_
            refine g_zret rfl rfl (nle rfl) (nle rfl) ?_
            have hSS := gcS_6 (s := (M (m + 1))) hk
            have hB : gcB g (M (m + 1)) = false := by rw [gcB_6 hk, hD, Bool.false_and, Bool.and_false]
            refine qeq hQ (by rw [hB]; rfl) (by rw [hSS, sR_self])
          · have hD : isD (M (m + 1)) (nI (g / 1000 % 10)) = true := h_22
            refine g_aload_n rfl ?_
            refine g_iload_n rfl ?_
            refine g_iconst (v := 0) ik_0 ?_
            refine g_callV (as := [_, _]) mk_X8_ofDancer ml_X8_57 im_X8_ofDancer se_X8_ofDancer rfl rfl ⟨⟨nle rfl, nle rfl⟩, nle rfl, nle rfl⟩ hm.1 rfl rfl rfl (nle rfl) ?_
            refine ct_X8_ofDancer hm ((g / 1000) % 10) 0 rfl rfl (by omega) ?_
            refine kq_s ?_
            refine g_iload rfl ?_
            refine g_icmp_lt rfl L_X8_isCommand_293 (fun h_23 => ?_) (fun h_23 => ?_)
            · have hc : (M (m + 1)) (129 + 5 * (g / 1000 % 10)) < nI (g % 100) := h_23
              refine g_iconst (v := 0) ik_0 ?_
              refine g_fall rfl L_X8_isCommand_294 ?_
              refine g_zret rfl rfl (nle rfl) (nle rfl) ?_
              have hSS := gcS_6 (s := (M (m + 1))) hk
              have hB : gcB g (M (m + 1)) = false := by rw [gcB_6 hk, decide_eq_false (Int32.not_le.mpr hc), Bool.and_false, Bool.and_false]
              refine qeq hQ (by rw [hB]; rfl) (by rw [hSS, sR_self])
            · have hc : ¬ (M (m + 1)) (129 + 5 * (g / 1000 % 10)) < nI (g % 100) := h_23
              refine g_iconst (v := 1) ik_1 ?_
              refine g_goto rfl L_X8_isCommand_294 ?_
              refine g_zret rfl rfl (nle rfl) (nle rfl) ?_
              have hSS := gcS_6 (s := (M (m + 1))) hk
              have hB : gcB g (M (m + 1)) = true := by rw [gcB_6 hk, decide_eq_true (show g % 1000 < 10 by omega), decide_eq_true (Int32.not_lt.mp hc), hD]; rfl
              refine qeq hQ (by rw [hB]; rfl) (by rw [hSS, sR_self])
    · replace hx_31 : (nI (g / 10000)) = 7 := hx_31.trans (by decide)
      refine g_tabIn (off := 264) (by rw [hx_31]; decide) (by rw [hx_31]; decide) (by rw [hx_31]; decide) rfl L_X8_isCommand_295 ?_
      have hk : g / 10000 = 7 := (nI_eq (a := g / 10000) (b := 7) (by omega) (by omega)).mp hx_31
      refine g_iload rfl ?_
      refine g_if_ne rfl L_X8_isCommand_323 (fun h_24 => ?_) (fun h_24 => ?_)
      · have hz : ¬ g / 100 % 10 = 0 := fun z => h_24 (by rw [z]; rfl)
        refine g_iconst (v := 0) ik_0 ?_
        refine g_fall rfl L_X8_isCommand_324 ?_
        refine g_zret rfl rfl (nle rfl) (nle rfl) ?_
        have hSS := gcS_7 (s := (M (m + 1))) hk
        have hB : gcB g (M (m + 1)) = false := by rw [gcB_7 hk, decide_eq_false hz]; rfl
        refine qeq hQ (by rw [hB]; rfl) (by rw [hSS, sR_self])
      · have hz_377 : g / 100 % 10 = 0 := (nI_eq (a := g / 100 % 10) (b := 0) (by omega) (by omega)).mp h_24
        refine g_aload_n rfl ?_
        refine g_iload_n rfl ?_
        refine g_callV (as := [_]) mk_X8_isDancer ml_X8_127 im_X8_isDancer se_X8_isDancer rfl rfl ⟨⟨nle rfl, nle rfl⟩, nle rfl, nle rfl⟩ hm.1 rfl rfl rfl (nle rfl) ?_
        refine ct_X8_isDancer hm ?_
        refine kq_s ?_
        refine g_if_eq_b rfl L_X8_isCommand_323 (fun h_25 => ?_) (fun h_25 => ?_)
        · have hD : isD (M (m + 1)) (nI (g / 1000 % 10)) = false := h_25
          refine g_iconst (v := 0) ik_0 ?_
          refine g_fall rfl L_X8_isCommand_324 ?_
          refine g_zret rfl rfl (nle rfl) (nle rfl) ?_
          have hSS := gcS_7 (s := (M (m + 1))) hk
          have hB : gcB g (M (m + 1)) = false := by rw [gcB_7 hk, hD, Bool.false_and, Bool.and_false]
          refine qeq hQ (by rw [hB]; rfl) (by rw [hSS, sR_self])
        · have hD : isD (M (m + 1)) (nI (g / 1000 % 10)) = true := h_25
          refine g_aload_n rfl ?_
          refine g_iload_n rfl ?_
          refine g_iconst (v := 2) ik_2 ?_
          refine g_callV (as := [_, _]) mk_X8_ofDancer ml_X8_57 im_X8_ofDancer se_X8_ofDancer rfl rfl ⟨⟨nle rfl, nle rfl⟩, nle rfl, nle rfl⟩ hm.1 rfl rfl rfl (nle rfl) ?_
          refine ct_X8_ofDancer hm ((g / 1000) % 10) 2 rfl rfl (by omega) ?_
          refine kq_s ?_
          refine g_iload rfl ?_
          refine g_icmp_lt rfl L_X8_isCommand_323 (fun h_26 => ?_) (fun h_26 => ?_)
          · have hc := h_26
            refine g_iconst (v := 0) ik_0 ?_
            refine g_fall rfl L_X8_isCommand_324 ?_
            refine g_zret rfl rfl (nle rfl) (nle rfl) ?_
            have hSS := gcS_7 (s := (M (m + 1))) hk
            have hB : gcB g (M (m + 1)) = false := by rw [gcB_7 hk, decide_eq_false (Int32.not_le.mpr hc), Bool.and_false, Bool.and_false]
            refine qeq hQ (by rw [hB]; rfl) (by rw [hSS, sR_self])
          · have hc := h_26
            refine g_iconst (v := 1) ik_1 ?_
            refine g_goto rfl L_X8_isCommand_324 ?_
            refine g_zret rfl rfl (nle rfl) (nle rfl) ?_
            have hSS := gcS_7 (s := (M (m + 1))) hk
            have hB : gcB g (M (m + 1)) = true := by rw [gcB_7 hk, decide_eq_true (show g / 100 % 10 = 0 by omega), decide_eq_true (Int32.not_lt.mp hc), hD]; rfl
            refine qeq hQ (by rw [hB]; rfl) (by rw [hSS, sR_self])
    · replace hx_31 : (nI (g / 10000)) = 8 := hx_31.trans (by decide)
      refine g_tabIn (off := 294) (by rw [hx_31]; decide) (by rw [hx_31]; decide) (by rw [hx_31]; decide) rfl L_X8_isCommand_325 ?_
      have hk : g / 10000 = 8 := (nI_eq (a := g / 10000) (b := 8) (by omega) (by omega)).mp hx_31
      refine g_iload rfl ?_
      refine g_if_ne rfl L_X8_isCommand_357 (fun h_27 => ?_) (fun h_27 => ?_)
      · have hz : ¬ g / 100 % 10 = 0 := fun z => h_27 (by rw [z]; rfl)
        refine g_iconst (v := 0) ik_0 ?_
        refine g_fall rfl L_X8_isCommand_358 ?_
        refine g_zret rfl rfl (nle rfl) (nle rfl) ?_
        have hSS := gcS_8 (s := (M (m + 1))) hk
        have hB : gcB g (M (m + 1)) = false := by rw [gcB_8 hk, decide_eq_false hz]; rfl
        refine qeq hQ (by rw [hB]; rfl) (by rw [hSS, sR_self])
      · have hz_426 : g / 100 % 10 = 0 := (nI_eq (a := g / 100 % 10) (b := 0) (by omega) (by omega)).mp h_27
        refine g_aload_n rfl ?_
        refine g_iload_n rfl ?_
        refine g_callV (as := [_]) mk_X8_isClass ml_X8_130 im_X8_isClass se_X8_isClass rfl rfl ⟨⟨nle rfl, nle rfl⟩, nle rfl, nle rfl⟩ hm.1 rfl rfl rfl (nle rfl) ?_
        refine ct_X8_isClass hm ?_
        refine kq_s ?_
        refine g_if_eq_b rfl L_X8_isCommand_357 (fun h_28 => ?_) (fun h_28 => ?_)
        · have hC : isC (M (m + 1)) (nI (g / 1000 % 10)) = false := h_28
          refine g_iconst (v := 0) ik_0 ?_
          refine g_fall rfl L_X8_isCommand_358 ?_
          refine g_zret rfl rfl (nle rfl) (nle rfl) ?_
          have hSS := gcS_8 (s := (M (m + 1))) hk
          have hB : gcB g (M (m + 1)) = false := by rw [gcB_8 hk, hC, Bool.false_and, Bool.and_false]
          refine qeq hQ (by rw [hB]; rfl) (by rw [hSS, sR_self])
        · have hC : isC (M (m + 1)) (nI (g / 1000 % 10)) = true := h_28
          refine g_aload_n rfl ?_
          refine g_iload_n rfl ?_
          refine g_bipush (v := 8) bk_8 ?_
          refine g_callV (as := [_, _]) mk_X8_ofClass ml_X8_40 im_X8_ofClass se_X8_ofClass rfl rfl ⟨⟨nle rfl, nle rfl⟩, nle rfl, nle rfl⟩ hm.1 rfl rfl rfl (nle rfl) ?_
          refine ct_X8_ofClass hm ((g / 1000) % 10) 8 rfl rfl (by omega) ?_
          refine kq_s ?_
          refine g_callS (as := [_]) mk_X8_bits ml_X8_60 sm_X8_bits rfl rfl ⟨⟨nle rfl, nle rfl⟩, nle rfl, nle rfl⟩ rfl rfl (nle rfl) ?_
          refine ct_X8_bits ?_
          refine kq_s ?_
          refine g_iload rfl ?_
          refine g_icmp_lt rfl L_X8_isCommand_357 (fun h_29 => ?_) (fun h_29 => ?_)
          · have hc := h_29
            refine g_iconst (v := 0) ik_0 ?_
            refine g_fall rfl L_X8_isCommand_358 ?_
            refine g_zret rfl rfl (nle rfl) (nle rfl) ?_
            have hSS := gcS_8 (s := (M (m + 1))) hk
            have hB : gcB g (M (m + 1)) = false := by rw [gcB_8 hk, decide_eq_false (Int32.not_le.mpr hc), Bool.and_false, Bool.and_false]
            refine qeq hQ (by rw [hB]; rfl) (by rw [hSS, sR_self])
          · have hc := h_29
            refine g_iconst (v := 1) ik_1 ?_
            refine g_goto rfl L_X8_isCommand_358 ?_
            refine g_zret rfl rfl (nle rfl) (nle rfl) ?_
            have hSS := gcS_8 (s := (M (m + 1))) hk
            have hB : gcB g (M (m + 1)) = true := by rw [gcB_8 hk, decide_eq_true (show g / 100 % 10 = 0 by omega), decide_eq_true (Int32.not_lt.mp hc), hC]; rfl
            refine qeq hQ (by rw [hB]; rfl) (by rw [hSS, sR_self])
    · replace hx_31 : (nI (g / 10000)) = 9 := hx_31.trans (by decide)
      refine g_tabIn (off := 328) (by rw [hx_31]; decide) (by rw [hx_31]; decide) (by rw [hx_31]; decide) rfl L_X8_isCommand_359 ?_
      have hk : g / 10000 = 9 := (nI_eq (a := g / 10000) (b := 9) (by omega) (by omega)).mp hx_31
      refine g_iload_n rfl ?_
      refine g_if_ne rfl L_X8_isCommand_384 (fun h_30 => ?_) (fun h_30 => ?_)
      · have hz : ¬ g / 1000 % 10 = 0 := fun z => h_30 (by rw [z]; rfl)
        refine g_iconst (v := 0) ik_0 ?_
        refine g_fall rfl L_X8_isCommand_385 ?_
        refine g_zret rfl rfl (nle rfl) (nle rfl) ?_
        have hSS := gcS_9 (s := (M (m + 1))) hk
        have hB : gcB g (M (m + 1)) = false := by rw [gcB_9 hk, decide_eq_false hz]; rfl
        refine qeq hQ (by rw [hB]; rfl) (by rw [hSS, sR_self])
      · have hz_478 : g / 1000 % 10 = 0 := (nI_eq (a := g / 1000 % 10) (b := 0) (by omega) (by omega)).mp h_30
        refine g_iload rfl ?_
        refine g_if_ne rfl L_X8_isCommand_384 (fun h_31 => ?_) (fun h_31 => ?_)
        · have hz : ¬ g / 100 % 10 = 0 := fun z => h_31 (by rw [z]; rfl)
          refine g_iconst (v := 0) ik_0 ?_
          refine g_fall rfl L_X8_isCommand_385 ?_
          refine g_zret rfl rfl (nle rfl) (nle rfl) ?_
          have hSS := gcS_9 (s := (M (m + 1))) hk
          have hB : gcB g (M (m + 1)) = false := by rw [gcB_9 hk, decide_eq_false hz, Bool.false_and, Bool.and_false]
          refine qeq hQ (by rw [hB]; rfl) (by rw [hSS, sR_self])
        · have hz_488 : g / 100 % 10 = 0 := (nI_eq (a := g / 100 % 10) (b := 0) (by omega) (by omega)).mp h_31
          refine g_aload_n rfl ?_
          refine g_getR (w := (m + 1)) fl_X8_7 rfl hm.1 rfl ?_
          refine g_bipush (v := 7) bk_7 ?_
          refine g_iaload (j := 7) hm.2.1 rfl (nle rfl) (nle rfl) ?_
          refine g_iload rfl ?_
          refine g_icmp_lt rfl L_X8_isCommand_384 (fun h_32 => ?_) (fun h_32 => ?_)
          · have hc := h_32
            refine g_iconst (v := 0) ik_0 ?_
            refine g_fall rfl L_X8_isCommand_385 ?_
            refine g_zret rfl rfl (nle rfl) (nle rfl) ?_
            have hSS := gcS_9 (s := (M (m + 1))) hk
            have hB : gcB g (M (m + 1)) = false := by rw [gcB_9 hk, decide_eq_false (Int32.not_le.mpr hc), Bool.and_false, Bool.and_false]
            refine qeq hQ (by rw [hB]; rfl) (by rw [hSS, sR_self])
          · have hc := h_32
            refine g_iconst (v := 1) ik_1 ?_
            refine g_goto rfl L_X8_isCommand_385 ?_
            refine g_zret rfl rfl (nle rfl) (nle rfl) ?_
            have hSS := gcS_9 (s := (M (m + 1))) hk
            have hB : gcB g (M (m + 1)) = true := by rw [gcB_9 hk, decide_eq_true (show g / 1000 % 10 = 0 by omega), decide_eq_true (show g / 100 % 10 = 0 by omega), decide_eq_true (Int32.not_lt.mp hc)]; rfl
            refine qeq hQ (by rw [hB]; rfl) (by rw [hSS, sR_self])
  · refine g_tabOut (ho_31.imp (fun h => h) (fun h => h)) rfl L_X8_isCommand_386 ?_
    have hd_31_0 : ¬ (nI (g / 10000)) = 1 := sw_ne ho_31 1 (by decide)
    have hd_31_1 : ¬ (nI (g / 10000)) = 2 := sw_ne ho_31 2 (by decide)
    have hd_31_2 : ¬ (nI (g / 10000)) = 3 := sw_ne ho_31 3 (by decide)
    have hd_31_3 : ¬ (nI (g / 10000)) = 4 := sw_ne ho_31 4 (by decide)
    have hd_31_4 : ¬ (nI (g / 10000)) = 5 := sw_ne ho_31 5 (by decide)
    have hd_31_5 : ¬ (nI (g / 10000)) = 6 := sw_ne ho_31 6 (by decide)
    have hd_31_6 : ¬ (nI (g / 10000)) = 7 := sw_ne ho_31 7 (by decide)
    have hd_31_7 : ¬ (nI (g / 10000)) = 8 := sw_ne ho_31 8 (by decide)
    have hd_31_8 : ¬ (nI (g / 10000)) = 9 := sw_ne ho_31 9 (by decide)
    have hk : g / 10000 < 1 ∨ 9 < g / 10000 := by
      rcases ho_31 with h | h
      · rw [nI_toInt (by omega)] at h; omega
      · rw [nI_toInt (by omega)] at h; omega
    refine g_iconst (v := 0) ik_0 ?_
    refine g_zret rfl rfl (nle rfl) (nle rfl) ?_
    refine qeq hQ (by rw [gcB_0 hk]; rfl) (by rw [gcS_0 hk, sR_self])
theorem gc_keep {B g : Nat} {s : Nat → Int32} (hI : IR B s) : Kp3 (B + 100) s (gcS g s) := by
  have hrf : Kp3 (B + 100) s s := (Kp3.rf hI).up (by omega)
  rcases (show g / 10000 = 1 ∨ g / 10000 = 2 ∨ g / 10000 = 3 ∨ g / 10000 = 4 ∨ g / 10000 = 5 ∨ g / 10000 = 6 ∨ g / 10000 = 7 ∨ g / 10000 = 8 ∨ g / 10000 = 9 ∨ (g / 10000 < 1 ∨ 9 < g / 10000) by omega) with h | h | h | h | h | h | h | h | h | h
  · rw [gcS_1 h]
    split
    · next hg =>
      rw [Bool.and_eq_true] at hg
      exact (kp_ts hI hg.2).1.up (by omega)
    · exact hrf
  · rw [gcS_2 h]
    split
    · next hg =>
      rw [Bool.and_eq_true] at hg
      exact (kp_le hI hg.2).1.up (by omega)
    · exact hrf
  · rw [gcS_3 h]
    split
    · exact (kp_wk hI (g % 100)).1.up (by omega)
    · exact hrf
  · rw [gcS_4 h]
    split
    · next hg =>
      rw [Bool.and_eq_true] at hg
      exact (kp_pa hI hg.2).1.up (by omega)
    · exact hrf
  · rw [gcS_5 h]
    split
    · next hg =>
      rw [Bool.and_eq_true] at hg
      exact (kp_dr hI hg.2).1.up (by omega)
    · exact hrf
  · rw [gcS_6 h]; exact hrf
  · rw [gcS_7 h]; exact hrf
  · rw [gcS_8 h]; exact hrf
  · rw [gcS_9 h]; exact hrf
  · rw [gcS_0 h]; exact hrf
