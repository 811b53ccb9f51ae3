set_option maxRecDepth 100000 in
set_option maxHeartbeats 4000000 in
theorem ct_X8_turns_0 {X : Xs} {κ : Kp} {M : Mem} {Q : Rs → Kp → Mem → Prop} {m : Nat} (hm : IsMod κ.2.1 m) {B : Nat} (hI : IR B (M (m + 1))) {q : Nat} (hq : q < 2 ^ 31) (hQ : Q (.inl none) κ (sR M (m + 1) (tuK 0 q (M (m + 1))))) : Ct X m_X8_turns [.ref m, .int (nI 0), .int (nI q)] κ M Q := by
  refine ct_of B_X8_turns_0 pn_X8 rfl (nle rfl) L_X8_turns_0 ?_
  refine g_iload_n rfl ?_
  refine g_if_ne rfl L_X8_turns_52 (fun h_1 => absurd h_1 (by decide)) (fun h_1 => ?_)
  refine g_aload_n rfl ?_
  refine g_getR (w := (m + 1)) fl_X8_7 rfl hm.1 rfl ?_
  refine g_iconst (v := 0) ik_0 ?_
  refine g_iaload (j := 0) hm.2.1 rfl (nle rfl) (nle rfl) ?_
  refine g_iconst (v := 4) ik_4 ?_
  refine g_icmp_ge rfl L_X8_turns_52 (fun h_2 => ?_) (fun h_2 => ?_)
  · have hg : gFl (M (m + 1)) = false := decide_eq_false (Int32.not_lt.mpr h_2)
    refine g_iload_n rfl ?_
    refine g_iconst (v := 1) ik_1 ?_
    refine g_icmp_ne rfl L_X8_turns_87 (fun h_3 => ?_) (fun h_3 => absurd h_3 (by decide))
    refine g_iload_n rfl ?_
    refine g_iconst (v := 1) ik_1 ?_
    refine g_icmp_le rfl L_X8_turns_179 (fun h_4 => ?_) (fun h_4 => absurd h_4 (by decide))
    refine g_iload_n rfl ?_
    refine g_bipush (v := 6) bk_6 ?_
    refine g_icmp_ne rfl L_X8_turns_201 (fun h_5 => ?_) (fun h_5 => absurd h_5 (by decide))
    refine g_vret rfl (nle rfl) (nle rfl) ?_
    have e0 : tuK 0 q (M (m + 1)) = tu0 q (M (m + 1)) := rfl
    exact qeqv hQ (by rw [e0, show tu0 q (M (m + 1)) = M (m + 1) from if_neg (by rw [hg]; decide), sR_self])
  · have hg : gFl (M (m + 1)) = true := decide_eq_true (Int32.not_le.mp h_2)
    refine g_aload_n rfl ?_
    refine g_iconst (v := 1) ik_1 ?_
    refine g_iload_n rfl ?_
    refine g_bipush (v := 9) bk_9 ?_
    refine g_irem (by decide) ?_
    rw [show nI (q) - nI (q) / 9 * 9 = nI (q % 9) from pk_rem (d := 9) (by omega) (by omega) (by omega)]
    refine g_iadd ?_
    rw [show (1 : Int32) + nI ((q % 9)) = nI (1 + (q % 9)) from nI_add 1 _]
    refine g_iload_n rfl ?_
    refine g_bipush (v := 16) bk_16 ?_
    refine g_idiv (by decide) ?_
    rw [show nI (q) / 16 = nI (q / 16) from pk_div (d := 16) (by omega) (by omega) (by omega)]
    refine g_iconst (v := 5) ik_5 ?_
    refine g_irem (by decide) ?_
    rw [show nI ((q / 16)) - nI ((q / 16)) / 5 * 5 = nI ((q / 16) % 5) from pk_rem (d := 5) (by omega) (by omega) (by omega)]
    refine g_iload_n rfl ?_
    refine g_sipush (v := 128) sk_128 ?_
    refine g_idiv (by decide) ?_
    rw [show nI (q) / 128 = nI (q / 128) from pk_div (d := 128) (by omega) (by omega) (by omega)]
    refine g_bipush (v := 61) bk_61 ?_
    refine g_irem (by decide) ?_
    rw [show nI ((q / 128)) - nI ((q / 128)) / 61 * 61 = nI ((q / 128) % 61) from pk_rem (d := 61) (by omega) (by omega) (by omega)]
    refine g_iconst (v := 1) ik_1 ?_
    refine g_iload_n rfl ?_
    refine g_sipush (v := 8192) sk_8192 ?_
    refine g_idiv (by decide) ?_
    rw [show nI (q) / 8192 = nI (q / 8192) from pk_div (d := 8192) (by omega) (by omega) (by omega)]
    refine g_bipush (v := 30) bk_30 ?_
    refine g_irem (by decide) ?_
    rw [show nI ((q / 8192)) - nI ((q / 8192)) / 30 * 30 = nI ((q / 8192) % 30) from pk_rem (d := 30) (by omega) (by omega) (by omega)]
    refine g_iadd ?_
    rw [show (1 : Int32) + nI (((q / 8192) % 30)) = nI (1 + ((q / 8192) % 30)) from nI_add 1 _]
    refine g_callV (as := [_, _, _, _]) mk_X8_floors ml_X8_149 im_X8_floors se_X8_floors rfl rfl ⟨⟨nle rfl, nle rfl⟩, nle rfl, nle rfl⟩ hm.1 rfl rfl rfl (nle rfl) ?_
    refine m_floors hm hI hg ?_
    refine kq_s ?_
    refine g_pop rfl ?_
    refine g_goto rfl L_X8_turns_201 ?_
    refine g_vret rfl (nle rfl) (nle rfl) ?_
    have e0 : tuK 0 q (M (m + 1)) = tu0 q (M (m + 1)) := rfl
    exact qeqv hQ (by rw [e0]; exact congrArg (sR M (m + 1)) (if_pos hg).symm)
set_option maxRecDepth 100000 in
set_option maxHeartbeats 4000000 in
theorem ct_X8_turns_1 {X : Xs} {κ : Kp} {M : Mem} {Q : Rs → Kp → Mem → Prop} {m : Nat} (hm : IsMod κ.2.1 m) {B : Nat} (hI : IR B (M (m + 1))) {q : Nat} (hq : q < 2 ^ 31) (hQ : Q (.inl none) κ (sR M (m + 1) (tuK 1 q (M (m + 1))))) : Ct X m_X8_turns [.ref m, .int (nI 1), .int (nI q)] κ M Q := by
  refine ct_of B_X8_turns_0 pn_X8 rfl (nle rfl) L_X8_turns_0 ?_
  refine g_iload_n rfl ?_
  refine g_if_ne rfl L_X8_turns_52 (fun h_1 => ?_) (fun h_1 => absurd h_1 (by decide))
  refine g_iload_n rfl ?_
  refine g_iconst (v := 1) ik_1 ?_
  refine g_icmp_ne rfl L_X8_turns_87 (fun h_2 => absurd h_2 (by decide)) (fun h_2 => ?_)
  refine g_aload_n rfl ?_
  refine g_getR (w := (m + 1)) fl_X8_7 rfl hm.1 rfl ?_
  refine g_iconst (v := 1) ik_1 ?_
  refine g_iaload (j := 1) hm.2.1 rfl (nle rfl) (nle rfl) ?_
  refine g_iconst (v := 5) ik_5 ?_
  refine g_icmp_ge rfl L_X8_turns_87 (fun h_3 => ?_) (fun h_3 => ?_)
  · have hg : gTe (M (m + 1)) = false := decide_eq_false (Int32.not_lt.mpr h_3)
    refine g_iload_n rfl ?_
    refine g_iconst (v := 1) ik_1 ?_
    refine g_icmp_le rfl L_X8_turns_179 (fun h_4 => ?_) (fun h_4 => absurd h_4 (by decide))
    refine g_iload_n rfl ?_
    refine g_bipush (v := 6) bk_6 ?_
    refine g_icmp_ne rfl L_X8_turns_201 (fun h_5 => ?_) (fun h_5 => absurd h_5 (by decide))
    refine g_vret rfl (nle rfl) (nle rfl) ?_
    have e0 : tuK 1 q (M (m + 1)) = tu1 q (M (m + 1)) := rfl
    exact qeqv hQ (by rw [e0, show tu1 q (M (m + 1)) = M (m + 1) from if_neg (by rw [hg]; decide), sR_self])
  · have hg : gTe (M (m + 1)) = true := decide_eq_true (Int32.not_le.mp h_3)
    refine g_aload_n rfl ?_
    refine g_iload_n rfl ?_
    refine g_bipush (v := 16) bk_16 ?_
    refine g_irem (by decide) ?_
    rw [show nI (q) - nI (q) / 16 * 16 = nI (q % 16) from pk_rem (d := 16) (by omega) (by omega) (by omega)]
    refine g_iconst (v := 1) ik_1 ?_
    refine g_iload_n rfl ?_
    refine g_bipush (v := 16) bk_16 ?_
    refine g_idiv (by decide) ?_
    rw [show nI (q) / 16 = nI (q / 16) from pk_div (d := 16) (by omega) (by omega) (by omega)]
    refine g_iconst (v := 5) ik_5 ?_
    refine g_irem (by decide) ?_
    rw [show nI ((q / 16)) - nI ((q / 16)) / 5 * 5 = nI ((q / 16) % 5) from pk_rem (d := 5) (by omega) (by omega) (by omega)]
    refine g_iadd ?_
    rw [show (1 : Int32) + nI (((q / 16) % 5)) = nI (1 + ((q / 16) % 5)) from nI_add 1 _]
    refine g_callV (as := [_, _]) mk_X8_teachers ml_X8_153 im_X8_teachers se_X8_teachers rfl rfl ⟨⟨nle rfl, nle rfl⟩, nle rfl, nle rfl⟩ hm.1 rfl rfl rfl (nle rfl) ?_
    refine m_teachers hm hI hg ?_
    refine kq_s ?_
    refine g_pop rfl ?_
    refine g_goto rfl L_X8_turns_201 ?_
    refine g_vret rfl (nle rfl) (nle rfl) ?_
    have e0 : tuK 1 q (M (m + 1)) = tu1 q (M (m + 1)) := rfl
    exact qeqv hQ (by rw [e0]; exact congrArg (sR M (m + 1)) (if_pos hg).symm)
set_option maxRecDepth 100000 in
set_option maxHeartbeats 4000000 in
theorem ct_X8_turns_2 {X : Xs} {κ : Kp} {M : Mem} {Q : Rs → Kp → Mem → Prop} {m : Nat} (hm : IsMod κ.2.1 m) {B : Nat} (hI : IR B (M (m + 1))) {q : Nat} (hq : q < 2 ^ 31) (hQ : Q (.inl none) κ (sR M (m + 1) (tuK 2 q (M (m + 1))))) : Ct X m_X8_turns [.ref m, .int (nI 2), .int (nI q)] κ M Q := by
  refine ct_of B_X8_turns_0 pn_X8 rfl (nle rfl) L_X8_turns_0 ?_
  refine g_iload_n rfl ?_
  refine g_if_ne rfl L_X8_turns_52 (fun h_1 => ?_) (fun h_1 => absurd h_1 (by decide))
  refine g_iload_n rfl ?_
  refine g_iconst (v := 1) ik_1 ?_
  refine g_icmp_ne rfl L_X8_turns_87 (fun h_2 => ?_) (fun h_2 => absurd h_2 (by decide))
  refine g_iload_n rfl ?_
  refine g_iconst (v := 1) ik_1 ?_
  refine g_icmp_le rfl L_X8_turns_179 (fun h_3 => absurd h_3 (by decide)) (fun h_3 => ?_)
  refine g_iload_n rfl ?_
  refine g_bipush (v := 6) bk_6 ?_
  refine g_icmp_ge rfl L_X8_turns_179 (fun h_4 => absurd h_4 (by decide)) (fun h_4 => ?_)
  refine g_iload_n rfl ?_
  refine g_bipush (v := 32) bk_32 ?_
  refine g_idiv (by decide) ?_
  rw [show nI (q) / 32 = nI (q / 32) from pk_div (d := 32) (by omega) (by omega) (by omega)]
  refine g_iconst (v := 4) ik_4 ?_
  refine g_irem (by decide) ?_
  rw [show nI ((q / 32)) - nI ((q / 32)) / 4 * 4 = nI ((q / 32) % 4) from pk_rem (d := 4) (by omega) (by omega) (by omega)]
  refine g_istore_n (nle rfl) ?_
  refine g_iload_n rfl ?_
  refine g_sipush (v := 128) sk_128 ?_
  refine g_idiv (by decide) ?_
  rw [show nI (q) / 128 = nI (q / 128) from pk_div (d := 128) (by omega) (by omega) (by omega)]
  refine g_iconst (v := 5) ik_5 ?_
  refine g_irem (by decide) ?_
  rw [show nI ((q / 128)) - nI ((q / 128)) / 5 * 5 = nI ((q / 128) % 5) from pk_rem (d := 5) (by omega) (by omega) (by omega)]
  refine g_istore (nle rfl) ?_
  refine g_aload_n rfl ?_
  refine g_iload_n rfl ?_
  refine g_callV (as := [_]) mk_X8_isFloor ml_X8_121 im_X8_isFloor se_X8_isFloor rfl rfl ⟨⟨nle rfl, nle rfl⟩, nle rfl, nle rfl⟩ hm.1 rfl rfl rfl (nle rfl) ?_
  refine ct_X8_isFloor hm ?_
  refine kq_s ?_
  refine g_if_eq_b rfl L_X8_turns_176 (fun h_5 => ?_) (fun h_5 => ?_)
  · have hg : gCl (M (m + 1)) (nI (q / 32 % 4)) (nI (q / 128 % 5)) = false := by unfold gCl; rw [show isF (M (m + 1)) (nI (q / 32 % 4)) = false from h_5, Bool.false_and, Bool.and_false]
    refine g_goto rfl L_X8_turns_201 ?_
    refine g_vret rfl (nle rfl) (nle rfl) ?_
    have e0 : tuK 2 q (M (m + 1)) = tu2 q (M (m + 1)) := rfl
    exact qeqv hQ (by rw [e0, show tu2 q (M (m + 1)) = M (m + 1) from if_neg (by rw [hg]; decide), sR_self])
  · have hf := h_5
    refine g_aload_n rfl ?_
    refine g_iload rfl ?_
    refine g_callV (as := [_]) mk_X8_isTeacher ml_X8_124 im_X8_isTeacher se_X8_isTeacher rfl rfl ⟨⟨nle rfl, nle rfl⟩, nle rfl, nle rfl⟩ hm.1 rfl rfl rfl (nle rfl) ?_
    refine ct_X8_isTeacher hm ?_
    refine kq_s ?_
    refine g_if_eq_b rfl L_X8_turns_176 (fun h_6 => ?_) (fun h_6 => ?_)
    · have hg : gCl (M (m + 1)) (nI (q / 32 % 4)) (nI (q / 128 % 5)) = false := by unfold gCl; rw [show isT (M (m + 1)) (nI (q / 128 % 5)) = false from h_6, Bool.and_false, Bool.and_false]
      refine g_goto rfl L_X8_turns_201 ?_
      refine g_vret rfl (nle rfl) (nle rfl) ?_
      have e0 : tuK 2 q (M (m + 1)) = tu2 q (M (m + 1)) := rfl
      exact qeqv hQ (by rw [e0, show tu2 q (M (m + 1)) = M (m + 1) from if_neg (by rw [hg]; decide), sR_self])
    · have ht := h_6
      refine g_aload_n rfl ?_
      refine g_getR (w := (m + 1)) fl_X8_7 rfl hm.1 rfl ?_
      refine g_iconst (v := 2) ik_2 ?_
      refine g_iaload (j := 2) hm.2.1 rfl (nle rfl) (nle rfl) ?_
      refine g_bipush (v := 10) bk_10 ?_
      refine g_icmp_ge rfl L_X8_turns_176 (fun h_7 => ?_) (fun h_7 => ?_)
      · have hg : gCl (M (m + 1)) (nI (q / 32 % 4)) (nI (q / 128 % 5)) = false := by unfold gCl; rw [decide_eq_false (Int32.not_lt.mpr h_7), Bool.false_and]
        refine g_goto rfl L_X8_turns_201 ?_
        refine g_vret rfl (nle rfl) (nle rfl) ?_
        have e0 : tuK 2 q (M (m + 1)) = tu2 q (M (m + 1)) := rfl
        exact qeqv hQ (by rw [e0, show tu2 q (M (m + 1)) = M (m + 1) from if_neg (by rw [hg]; decide), sR_self])
      · have hg : gCl (M (m + 1)) (nI (q / 32 % 4)) (nI (q / 128 % 5)) = true := by unfold gCl; rw [decide_eq_true (Int32.not_le.mp h_7), show isF (M (m + 1)) (nI (q / 32 % 4)) = true from hf, show isT (M (m + 1)) (nI (q / 128 % 5)) = true from ht]; rfl
        refine g_aload_n rfl ?_
        refine g_iload_n rfl ?_
        refine g_iconst (v := 4) ik_4 ?_
        refine g_irem (by decide) ?_
        rw [show nI (q) - nI (q) / 4 * 4 = nI (q % 4) from pk_rem (d := 4) (by omega) (by omega) (by omega)]
        refine g_iconst (v := 1) ik_1 ?_
        refine g_iload_n rfl ?_
        refine g_iconst (v := 4) ik_4 ?_
        refine g_idiv (by decide) ?_
        rw [show nI (q) / 4 = nI (q / 4) from pk_div (d := 4) (by omega) (by omega) (by omega)]
        refine g_iconst (v := 5) ik_5 ?_
        refine g_irem (by decide) ?_
        rw [show nI ((q / 4)) - nI ((q / 4)) / 5 * 5 = nI ((q / 4) % 5) from pk_rem (d := 5) (by omega) (by omega) (by omega)]
        refine g_iadd ?_
        rw [show (1 : Int32) + nI (((q / 4) % 5)) = nI (1 + ((q / 4) % 5)) from nI_add 1 _]
        refine g_iload_n rfl ?_
        refine g_iload rfl ?_
        refine g_iload_n rfl ?_
        refine g_sipush (v := 1024) sk_1024 ?_
        refine g_idiv (by decide) ?_
        rw [show nI (q) / 1024 = nI (q / 1024) from pk_div (d := 1024) (by omega) (by omega) (by omega)]
        refine g_bipush (v := 6) bk_6 ?_
        refine g_irem (by decide) ?_
        rw [show nI ((q / 1024)) - nI ((q / 1024)) / 6 * 6 = nI ((q / 1024) % 6) from pk_rem (d := 6) (by omega) (by omega) (by omega)]
        refine g_iload_n rfl ?_
        refine g_sipush (v := 8192) sk_8192 ?_
        refine g_idiv (by decide) ?_
        rw [show nI (q) / 8192 = nI (q / 8192) from pk_div (d := 8192) (by omega) (by omega) (by omega)]
        refine g_bipush (v := 6) bk_6 ?_
        refine g_irem (by decide) ?_
        rw [show nI ((q / 8192)) - nI ((q / 8192)) / 6 * 6 = nI ((q / 8192) % 6) from pk_rem (d := 6) (by omega) (by omega) (by omega)]
        refine g_callV (as := [_, _, _, _, _, _]) mk_X8_triesClass ml_X8_212 im_X8_triesClass se_X8_triesClass rfl rfl ⟨⟨nle rfl, nle rfl⟩, nle rfl, nle rfl⟩ hm.1 rfl rfl rfl (nle rfl) ?_
        refine m_triesClass hm hI hg ?_
        refine kq_s ?_
        refine g_pop rfl ?_
        refine g_fall rfl L_X8_turns_176 ?_
        refine g_goto rfl L_X8_turns_201 ?_
        refine g_vret rfl (nle rfl) (nle rfl) ?_
        have e0 : tuK 2 q (M (m + 1)) = tu2 q (M (m + 1)) := rfl
        exact qeqv hQ (by rw [e0]; exact congrArg (sR M (m + 1)) (if_pos hg).symm)
set_option maxRecDepth 100000 in
set_option maxHeartbeats 4000000 in
theorem ct_X8_turns_3 {X : Xs} {κ : Kp} {M : Mem} {Q : Rs → Kp → Mem → Prop} {m : Nat} (hm : IsMod κ.2.1 m) {B : Nat} (hI : IR B (M (m + 1))) {q : Nat} (hq : q < 2 ^ 31) (hQ : Q (.inl none) κ (sR M (m + 1) (tuK 3 q (M (m + 1))))) : Ct X m_X8_turns [.ref m, .int (nI 3), .int (nI q)] κ M Q := by
  refine ct_of B_X8_turns_0 pn_X8 rfl (nle rfl) L_X8_turns_0 ?_
  refine g_iload_n rfl ?_
  refine g_if_ne rfl L_X8_turns_52 (fun h_1 => ?_) (fun h_1 => absurd h_1 (by decide))
  refine g_iload_n rfl ?_
  refine g_iconst (v := 1) ik_1 ?_
  refine g_icmp_ne rfl L_X8_turns_87 (fun h_2 => ?_) (fun h_2 => absurd h_2 (by decide))
  refine g_iload_n rfl ?_
  refine g_iconst (v := 1) ik_1 ?_
  refine g_icmp_le rfl L_X8_turns_179 (fun h_3 => absurd h_3 (by decide)) (fun h_3 => ?_)
  refine g_iload_n rfl ?_
  refine g_bipush (v := 6) bk_6 ?_
  refine g_icmp_ge rfl L_X8_turns_179 (fun h_4 => absurd h_4 (by decide)) (fun h_4 => ?_)
  refine g_iload_n rfl ?_
  refine g_bipush (v := 32) bk_32 ?_
  refine g_idiv (by decide) ?_
  rw [show nI (q) / 32 = nI (q / 32) from pk_div (d := 32) (by omega) (by omega) (by omega)]
  refine g_iconst (v := 4) ik_4 ?_
  refine g_irem (by decide) ?_
  rw [show nI ((q / 32)) - nI ((q / 32)) / 4 * 4 = nI ((q / 32) % 4) from pk_rem (d := 4) (by omega) (by omega) (by omega)]
  refine g_istore_n (nle rfl) ?_
  refine g_iload_n rfl ?_
  refine g_sipush (v := 128) sk_128 ?_
  refine g_idiv (by decide) ?_
  rw [show nI (q) / 128 = nI (q / 128) from pk_div (d := 128) (by omega) (by omega) (by omega)]
  refine g_iconst (v := 5) ik_5 ?_
  refine g_irem (by decide) ?_
  rw [show nI ((q / 128)) - nI ((q / 128)) / 5 * 5 = nI ((q / 128) % 5) from pk_rem (d := 5) (by omega) (by omega) (by omega)]
  refine g_istore (nle rfl) ?_
  refine g_aload_n rfl ?_
  refine g_iload_n rfl ?_
  refine g_callV (as := [_]) mk_X8_isFloor ml_X8_121 im_X8_isFloor se_X8_isFloor rfl rfl ⟨⟨nle rfl, nle rfl⟩, nle rfl, nle rfl⟩ hm.1 rfl rfl rfl (nle rfl) ?_
  refine ct_X8_isFloor hm ?_
  refine kq_s ?_
  refine g_if_eq_b rfl L_X8_turns_176 (fun h_5 => ?_) (fun h_5 => ?_)
  · have hg : gCl (M (m + 1)) (nI (q / 32 % 4)) (nI (q / 128 % 5)) = false := by unfold gCl; rw [show isF (M (m + 1)) (nI (q / 32 % 4)) = false from h_5, Bool.false_and, Bool.and_false]
    refine g_goto rfl L_X8_turns_201 ?_
    refine g_vret rfl (nle rfl) (nle rfl) ?_
    have e0 : tuK 3 q (M (m + 1)) = tu2 q (M (m + 1)) := rfl
    exact qeqv hQ (by rw [e0, show tu2 q (M (m + 1)) = M (m + 1) from if_neg (by rw [hg]; decide), sR_self])
  · have hf := h_5
    refine g_aload_n rfl ?_
    refine g_iload rfl ?_
    refine g_callV (as := [_]) mk_X8_isTeacher ml_X8_124 im_X8_isTeacher se_X8_isTeacher rfl rfl ⟨⟨nle rfl, nle rfl⟩, nle rfl, nle rfl⟩ hm.1 rfl rfl rfl (nle rfl) ?_
    refine ct_X8_isTeacher hm ?_
    refine kq_s ?_
    refine g_if_eq_b rfl L_X8_turns_176 (fun h_6 => ?_) (fun h_6 => ?_)
    · have hg : gCl (M (m + 1)) (nI (q / 32 % 4)) (nI (q / 128 % 5)) = false := by unfold gCl; rw [show isT (M (m + 1)) (nI (q / 128 % 5)) = false from h_6, Bool.and_false, Bool.and_false]
      refine g_goto rfl L_X8_turns_201 ?_
      refine g_vret rfl (nle rfl) (nle rfl) ?_
      have e0 : tuK 3 q (M (m + 1)) = tu2 q (M (m + 1)) := rfl
      exact qeqv hQ (by rw [e0, show tu2 q (M (m + 1)) = M (m + 1) from if_neg (by rw [hg]; decide), sR_self])
    · have ht := h_6
      refine g_aload_n rfl ?_
      refine g_getR (w := (m + 1)) fl_X8_7 rfl hm.1 rfl ?_
      refine g_iconst (v := 2) ik_2 ?_
      refine g_iaload (j := 2) hm.2.1 rfl (nle rfl) (nle rfl) ?_
      refine g_bipush (v := 10) bk_10 ?_
      refine g_icmp_ge rfl L_X8_turns_176 (fun h_7 => ?_) (fun h_7 => ?_)
      · have hg : gCl (M (m + 1)) (nI (q / 32 % 4)) (nI (q / 128 % 5)) = false := by unfold gCl; rw [decide_eq_false (Int32.not_lt.mpr h_7), Bool.false_and]
        refine g_goto rfl L_X8_turns_201 ?_
        refine g_vret rfl (nle rfl) (nle rfl) ?_
        have e0 : tuK 3 q (M (m + 1)) = tu2 q (M (m + 1)) := rfl
        exact qeqv hQ (by rw [e0, show tu2 q (M (m + 1)) = M (m + 1) from if_neg (by rw [hg]; decide), sR_self])
      · have hg : gCl (M (m + 1)) (nI (q / 32 % 4)) (nI (q / 128 % 5)) = true := by unfold gCl; rw [decide_eq_true (Int32.not_le.mp h_7), show isF (M (m + 1)) (nI (q / 32 % 4)) = true from hf, show isT (M (m + 1)) (nI (q / 128 % 5)) = true from ht]; rfl
        refine g_aload_n rfl ?_
        refine g_iload_n rfl ?_
        refine g_iconst (v := 4) ik_4 ?_
        refine g_irem (by decide) ?_
        rw [show nI (q) - nI (q) / 4 * 4 = nI (q % 4) from pk_rem (d := 4) (by omega) (by omega) (by omega)]
        refine g_iconst (v := 1) ik_1 ?_
        refine g_iload_n rfl ?_
        refine g_iconst (v := 4) ik_4 ?_
        refine g_idiv (by decide) ?_
        rw [show nI (q) / 4 = nI (q / 4) from pk_div (d := 4) (by omega) (by omega) (by omega)]
        refine g_iconst (v := 5) ik_5 ?_
        refine g_irem (by decide) ?_
        rw [show nI ((q / 4)) - nI ((q / 4)) / 5 * 5 = nI ((q / 4) % 5) from pk_rem (d := 5) (by omega) (by omega) (by omega)]
        refine g_iadd ?_
        rw [show (1 : Int32) + nI (((q / 4) % 5)) = nI (1 + ((q / 4) % 5)) from nI_add 1 _]
        refine g_iload_n rfl ?_
        refine g_iload rfl ?_
        refine g_iload_n rfl ?_
        refine g_sipush (v := 1024) sk_1024 ?_
        refine g_idiv (by decide) ?_
        rw [show nI (q) / 1024 = nI (q / 1024) from pk_div (d := 1024) (by omega) (by omega) (by omega)]
        refine g_bipush (v := 6) bk_6 ?_
        refine g_irem (by decide) ?_
        rw [show nI ((q / 1024)) - nI ((q / 1024)) / 6 * 6 = nI ((q / 1024) % 6) from pk_rem (d := 6) (by omega) (by omega) (by omega)]
        refine g_iload_n rfl ?_
        refine g_sipush (v := 8192) sk_8192 ?_
        refine g_idiv (by decide) ?_
        rw [show nI (q) / 8192 = nI (q / 8192) from pk_div (d := 8192) (by omega) (by omega) (by omega)]
        refine g_bipush (v := 6) bk_6 ?_
        refine g_irem (by decide) ?_
        rw [show nI ((q / 8192)) - nI ((q / 8192)) / 6 * 6 = nI ((q / 8192) % 6) from pk_rem (d := 6) (by omega) (by omega) (by omega)]
        refine g_callV (as := [_, _, _, _, _, _]) mk_X8_triesClass ml_X8_212 im_X8_triesClass se_X8_triesClass rfl rfl ⟨⟨nle rfl, nle rfl⟩, nle rfl, nle rfl⟩ hm.1 rfl rfl rfl (nle rfl) ?_
        refine m_triesClass hm hI hg ?_
        refine kq_s ?_
        refine g_pop rfl ?_
        refine g_fall rfl L_X8_turns_176 ?_
        refine g_goto rfl L_X8_turns_201 ?_
        refine g_vret rfl (nle rfl) (nle rfl) ?_
        have e0 : tuK 3 q (M (m + 1)) = tu2 q (M (m + 1)) := rfl
        exact qeqv hQ (by rw [e0]; exact congrArg (sR M (m + 1)) (if_pos hg).symm)
set_option maxRecDepth 100000 in
set_option maxHeartbeats 4000000 in
theorem ct_X8_turns_4 {X : Xs} {κ : Kp} {M : Mem} {Q : Rs → Kp → Mem → Prop} {m : Nat} (hm : IsMod κ.2.1 m) {B : Nat} (hI : IR B (M (m + 1))) {q : Nat} (hq : q < 2 ^ 31) (hQ : Q (.inl none) κ (sR M (m + 1) (tuK 4 q (M (m + 1))))) : Ct X m_X8_turns [.ref m, .int (nI 4), .int (nI q)] κ M Q := by
  refine ct_of B_X8_turns_0 pn_X8 rfl (nle rfl) L_X8_turns_0 ?_
  refine g_iload_n rfl ?_
  refine g_if_ne rfl L_X8_turns_52 (fun h_1 => ?_) (fun h_1 => absurd h_1 (by decide))
  refine g_iload_n rfl ?_
  refine g_iconst (v := 1) ik_1 ?_
  refine g_icmp_ne rfl L_X8_turns_87 (fun h_2 => ?_) (fun h_2 => absurd h_2 (by decide))
  refine g_iload_n rfl ?_
  refine g_iconst (v := 1) ik_1 ?_
  refine g_icmp_le rfl L_X8_turns_179 (fun h_3 => absurd h_3 (by decide)) (fun h_3 => ?_)
  refine g_iload_n rfl ?_
  refine g_bipush (v := 6) bk_6 ?_
  refine g_icmp_ge rfl L_X8_turns_179 (fun h_4 => absurd h_4 (by decide)) (fun h_4 => ?_)
  refine g_iload_n rfl ?_
  refine g_bipush (v := 32) bk_32 ?_
  refine g_idiv (by decide) ?_
  rw [show nI (q) / 32 = nI (q / 32) from pk_div (d := 32) (by omega) (by omega) (by omega)]
  refine g_iconst (v := 4) ik_4 ?_
  refine g_irem (by decide) ?_
  rw [show nI ((q / 32)) - nI ((q / 32)) / 4 * 4 = nI ((q / 32) % 4) from pk_rem (d := 4) (by omega) (by omega) (by omega)]
  refine g_istore_n (nle rfl) ?_
  refine g_iload_n rfl ?_
  refine g_sipush (v := 128) sk_128 ?_
  refine g_idiv (by decide) ?_
  rw [show nI (q) / 128 = nI (q / 128) from pk_div (d := 128) (by omega) (by omega) (by omega)]
  refine g_iconst (v := 5) ik_5 ?_
  refine g_irem (by decide) ?_
  rw [show nI ((q / 128)) - nI ((q / 128)) / 5 * 5 = nI ((q / 128) % 5) from pk_rem (d := 5) (by omega) (by omega) (by omega)]
  refine g_istore (nle rfl) ?_
  refine g_aload_n rfl ?_
  refine g_iload_n rfl ?_
  refine g_callV (as := [_]) mk_X8_isFloor ml_X8_121 im_X8_isFloor se_X8_isFloor rfl rfl ⟨⟨nle rfl, nle rfl⟩, nle rfl, nle rfl⟩ hm.1 rfl rfl rfl (nle rfl) ?_
  refine ct_X8_isFloor hm ?_
  refine kq_s ?_
  refine g_if_eq_b rfl L_X8_turns_176 (fun h_5 => ?_) (fun h_5 => ?_)
  · have hg : gCl (M (m + 1)) (nI (q / 32 % 4)) (nI (q / 128 % 5)) = false := by unfold gCl; rw [show isF (M (m + 1)) (nI (q / 32 % 4)) = false from h_5, Bool.false_and, Bool.and_false]
    refine g_goto rfl L_X8_turns_201 ?_
    refine g_vret rfl (nle rfl) (nle rfl) ?_
    have e0 : tuK 4 q (M (m + 1)) = tu2 q (M (m + 1)) := rfl
    exact qeqv hQ (by rw [e0, show tu2 q (M (m + 1)) = M (m + 1) from if_neg (by rw [hg]; decide), sR_self])
  · have hf := h_5
    refine g_aload_n rfl ?_
    refine g_iload rfl ?_
    refine g_callV (as := [_]) mk_X8_isTeacher ml_X8_124 im_X8_isTeacher se_X8_isTeacher rfl rfl ⟨⟨nle rfl, nle rfl⟩, nle rfl, nle rfl⟩ hm.1 rfl rfl rfl (nle rfl) ?_
    refine ct_X8_isTeacher hm ?_
    refine kq_s ?_
    refine g_if_eq_b rfl L_X8_turns_176 (fun h_6 => ?_) (fun h_6 => ?_)
    · have hg : gCl (M (m + 1)) (nI (q / 32 % 4)) (nI (q / 128 % 5)) = false := by unfold gCl; rw [show isT (M (m + 1)) (nI (q / 128 % 5)) = false from h_6, Bool.and_false, Bool.and_false]
      refine g_goto rfl L_X8_turns_201 ?_
      refine g_vret rfl (nle rfl) (nle rfl) ?_
      have e0 : tuK 4 q (M (m + 1)) = tu2 q (M (m + 1)) := rfl
      exact qeqv hQ (by rw [e0, show tu2 q (M (m + 1)) = M (m + 1) from if_neg (by rw [hg]; decide), sR_self])
    · have ht := h_6
      refine g_aload_n rfl ?_
      refine g_getR (w := (m + 1)) fl_X8_7 rfl hm.1 rfl ?_
      refine g_iconst (v := 2) ik_2 ?_
      refine g_iaload (j := 2) hm.2.1 rfl (nle rfl) (nle rfl) ?_
      refine g_bipush (v := 10) bk_10 ?_
      refine g_icmp_ge rfl L_X8_turns_176 (fun h_7 => ?_) (fun h_7 => ?_)
      · have hg : gCl (M (m + 1)) (nI (q / 32 % 4)) (nI (q / 128 % 5)) = false := by unfold gCl; rw [decide_eq_false (Int32.not_lt.mpr h_7), Bool.false_and]
        refine g_goto rfl L_X8_turns_201 ?_
        refine g_vret rfl (nle rfl) (nle rfl) ?_
        have e0 : tuK 4 q (M (m + 1)) = tu2 q (M (m + 1)) := rfl
        exact qeqv hQ (by rw [e0, show tu2 q (M (m + 1)) = M (m + 1) from if_neg (by rw [hg]; decide), sR_self])
      · have hg : gCl (M (m + 1)) (nI (q / 32 % 4)) (nI (q / 128 % 5)) = true := by unfold gCl; rw [decide_eq_true (Int32.not_le.mp h_7), show isF (M (m + 1)) (nI (q / 32 % 4)) = true from hf, show isT (M (m + 1)) (nI (q / 128 % 5)) = true from ht]; rfl
        refine g_aload_n rfl ?_
        refine g_iload_n rfl ?_
        refine g_iconst (v := 4) ik_4 ?_
        refine g_irem (by decide) ?_
        rw [show nI (q) - nI (q) / 4 * 4 = nI (q % 4) from pk_rem (d := 4) (by omega) (by omega) (by omega)]
        refine g_iconst (v := 1) ik_1 ?_
        refine g_iload_n rfl ?_
        refine g_iconst (v := 4) ik_4 ?_
        refine g_idiv (by decide) ?_
        rw [show nI (q) / 4 = nI (q / 4) from pk_div (d := 4) (by omega) (by omega) (by omega)]
        refine g_iconst (v := 5) ik_5 ?_
        refine g_irem (by decide) ?_
        rw [show nI ((q / 4)) - nI ((q / 4)) / 5 * 5 = nI ((q / 4) % 5) from pk_rem (d := 5) (by omega) (by omega) (by omega)]
        refine g_iadd ?_
        rw [show (1 : Int32) + nI (((q / 4) % 5)) = nI (1 + ((q / 4) % 5)) from nI_add 1 _]
        refine g_iload_n rfl ?_
        refine g_iload rfl ?_
        refine g_iload_n rfl ?_
        refine g_sipush (v := 1024) sk_1024 ?_
        refine g_idiv (by decide) ?_
        rw [show nI (q) / 1024 = nI (q / 1024) from pk_div (d := 1024) (by omega) (by omega) (by omega)]
        refine g_bipush (v := 6) bk_6 ?_
        refine g_irem (by decide) ?_
        rw [show nI ((q / 1024)) - nI ((q / 1024)) / 6 * 6 = nI ((q / 1024) % 6) from pk_rem (d := 6) (by omega) (by omega) (by omega)]
        refine g_iload_n rfl ?_
        refine g_sipush (v := 8192) sk_8192 ?_
        refine g_idiv (by decide) ?_
        rw [show nI (q) / 8192 = nI (q / 8192) from pk_div (d := 8192) (by omega) (by omega) (by omega)]
        refine g_bipush (v := 6) bk_6 ?_
        refine g_irem (by decide) ?_
        rw [show nI ((q / 8192)) - nI ((q / 8192)) / 6 * 6 = nI ((q / 8192) % 6) from pk_rem (d := 6) (by omega) (by omega) (by omega)]
        refine g_callV (as := [_, _, _, _, _, _]) mk_X8_triesClass ml_X8_212 im_X8_triesClass se_X8_triesClass rfl rfl ⟨⟨nle rfl, nle rfl⟩, nle rfl, nle rfl⟩ hm.1 rfl rfl rfl (nle rfl) ?_
        refine m_triesClass hm hI hg ?_
        refine kq_s ?_
        refine g_pop rfl ?_
        refine g_fall rfl L_X8_turns_176 ?_
        refine g_goto rfl L_X8_turns_201 ?_
        refine g_vret rfl (nle rfl) (nle rfl) ?_
        have e0 : tuK 4 q (M (m + 1)) = tu2 q (M (m + 1)) := rfl
        exact qeqv hQ (by rw [e0]; exact congrArg (sR M (m + 1)) (if_pos hg).symm)
set_option maxRecDepth 100000 in
set_option maxHeartbeats 4000000 in
theorem ct_X8_turns_5 {X : Xs} {κ : Kp} {M : Mem} {Q : Rs → Kp → Mem → Prop} {m : Nat} (hm : IsMod κ.2.1 m) {B : Nat} (hI : IR B (M (m + 1))) {q : Nat} (hq : q < 2 ^ 31) (hQ : Q (.inl none) κ (sR M (m + 1) (tuK 5 q (M (m + 1))))) : Ct X m_X8_turns [.ref m, .int (nI 5), .int (nI q)] κ M Q := by
  refine ct_of B_X8_turns_0 pn_X8 rfl (nle rfl) L_X8_turns_0 ?_
  refine g_iload_n rfl ?_
  refine g_if_ne rfl L_X8_turns_52 (fun h_1 => ?_) (fun h_1 => absurd h_1 (by decide))
  refine g_iload_n rfl ?_
  refine g_iconst (v := 1) ik_1 ?_
  refine g_icmp_ne rfl L_X8_turns_87 (fun h_2 => ?_) (fun h_2 => absurd h_2 (by decide))
  refine g_iload_n rfl ?_
  refine g_iconst (v := 1) ik_1 ?_
  refine g_icmp_le rfl L_X8_turns_179 (fun h_3 => absurd h_3 (by decide)) (fun h_3 => ?_)
  refine g_iload_n rfl ?_
  refine g_bipush (v := 6) bk_6 ?_
  refine g_icmp_ge rfl L_X8_turns_179 (fun h_4 => absurd h_4 (by decide)) (fun h_4 => ?_)
  refine g_iload_n rfl ?_
  refine g_bipush (v := 32) bk_32 ?_
  refine g_idiv (by decide) ?_
  rw [show nI (q) / 32 = nI (q / 32) from pk_div (d := 32) (by omega) (by omega) (by omega)]
  refine g_iconst (v := 4) ik_4 ?_
  refine g_irem (by decide) ?_
  rw [show nI ((q / 32)) - nI ((q / 32)) / 4 * 4 = nI ((q / 32) % 4) from pk_rem (d := 4) (by omega) (by omega) (by omega)]
  refine g_istore_n (nle rfl) ?_
  refine g_iload_n rfl ?_
  refine g_sipush (v := 128) sk_128 ?_
  refine g_idiv (by decide) ?_
  rw [show nI (q) / 128 = nI (q / 128) from pk_div (d := 128) (by omega) (by omega) (by omega)]
  refine g_iconst (v := 5) ik_5 ?_
  refine g_irem (by decide) ?_
  rw [show nI ((q / 128)) - nI ((q / 128)) / 5 * 5 = nI ((q / 128) % 5) from pk_rem (d := 5) (by omega) (by omega) (by omega)]
  refine g_istore (nle rfl) ?_
  refine g_aload_n rfl ?_
  refine g_iload_n rfl ?_
  refine g_callV (as := [_]) mk_X8_isFloor ml_X8_121 im_X8_isFloor se_X8_isFloor rfl rfl ⟨⟨nle rfl, nle rfl⟩, nle rfl, nle rfl⟩ hm.1 rfl rfl rfl (nle rfl) ?_
  refine ct_X8_isFloor hm ?_
  refine kq_s ?_
  refine g_if_eq_b rfl L_X8_turns_176 (fun h_5 => ?_) (fun h_5 => ?_)
  · have hg : gCl (M (m + 1)) (nI (q / 32 % 4)) (nI (q / 128 % 5)) = false := by unfold gCl; rw [show isF (M (m + 1)) (nI (q / 32 % 4)) = false from h_5, Bool.false_and, Bool.and_false]
    refine g_goto rfl L_X8_turns_201 ?_
    refine g_vret rfl (nle rfl) (nle rfl) ?_
    have e0 : tuK 5 q (M (m + 1)) = tu2 q (M (m + 1)) := rfl
    exact qeqv hQ (by rw [e0, show tu2 q (M (m + 1)) = M (m + 1) from if_neg (by rw [hg]; decide), sR_self])
  · have hf := h_5
    refine g_aload_n rfl ?_
    refine g_iload rfl ?_
    refine g_callV (as := [_]) mk_X8_isTeacher ml_X8_124 im_X8_isTeacher se_X8_isTeacher rfl rfl ⟨⟨nle rfl, nle rfl⟩, nle rfl, nle rfl⟩ hm.1 rfl rfl rfl (nle rfl) ?_
    refine ct_X8_isTeacher hm ?_
    refine kq_s ?_
    refine g_if_eq_b rfl L_X8_turns_176 (fun h_6 => ?_) (fun h_6 => ?_)
    · have hg : gCl (M (m + 1)) (nI (q / 32 % 4)) (nI (q / 128 % 5)) = false := by unfold gCl; rw [show isT (M (m + 1)) (nI (q / 128 % 5)) = false from h_6, Bool.and_false, Bool.and_false]
      refine g_goto rfl L_X8_turns_201 ?_
      refine g_vret rfl (nle rfl) (nle rfl) ?_
      have e0 : tuK 5 q (M (m + 1)) = tu2 q (M (m + 1)) := rfl
      exact qeqv hQ (by rw [e0, show tu2 q (M (m + 1)) = M (m + 1) from if_neg (by rw [hg]; decide), sR_self])
    · have ht := h_6
      refine g_aload_n rfl ?_
      refine g_getR (w := (m + 1)) fl_X8_7 rfl hm.1 rfl ?_
      refine g_iconst (v := 2) ik_2 ?_
      refine g_iaload (j := 2) hm.2.1 rfl (nle rfl) (nle rfl) ?_
      refine g_bipush (v := 10) bk_10 ?_
      refine g_icmp_ge rfl L_X8_turns_176 (fun h_7 => ?_) (fun h_7 => ?_)
      · have hg : gCl (M (m + 1)) (nI (q / 32 % 4)) (nI (q / 128 % 5)) = false := by unfold gCl; rw [decide_eq_false (Int32.not_lt.mpr h_7), Bool.false_and]
        refine g_goto rfl L_X8_turns_201 ?_
        refine g_vret rfl (nle rfl) (nle rfl) ?_
        have e0 : tuK 5 q (M (m + 1)) = tu2 q (M (m + 1)) := rfl
        exact qeqv hQ (by rw [e0, show tu2 q (M (m + 1)) = M (m + 1) from if_neg (by rw [hg]; decide), sR_self])
      · have hg : gCl (M (m + 1)) (nI (q / 32 % 4)) (nI (q / 128 % 5)) = true := by unfold gCl; rw [decide_eq_true (Int32.not_le.mp h_7), show isF (M (m + 1)) (nI (q / 32 % 4)) = true from hf, show isT (M (m + 1)) (nI (q / 128 % 5)) = true from ht]; rfl
        refine g_aload_n rfl ?_
        refine g_iload_n rfl ?_
        refine g_iconst (v := 4) ik_4 ?_
        refine g_irem (by decide) ?_
        rw [show nI (q) - nI (q) / 4 * 4 = nI (q % 4) from pk_rem (d := 4) (by omega) (by omega) (by omega)]
        refine g_iconst (v := 1) ik_1 ?_
        refine g_iload_n rfl ?_
        refine g_iconst (v := 4) ik_4 ?_
        refine g_idiv (by decide) ?_
        rw [show nI (q) / 4 = nI (q / 4) from pk_div (d := 4) (by omega) (by omega) (by omega)]
        refine g_iconst (v := 5) ik_5 ?_
        refine g_irem (by decide) ?_
        rw [show nI ((q / 4)) - nI ((q / 4)) / 5 * 5 = nI ((q / 4) % 5) from pk_rem (d := 5) (by omega) (by omega) (by omega)]
        refine g_iadd ?_
        rw [show (1 : Int32) + nI (((q / 4) % 5)) = nI (1 + ((q / 4) % 5)) from nI_add 1 _]
        refine g_iload_n rfl ?_
        refine g_iload rfl ?_
        refine g_iload_n rfl ?_
        refine g_sipush (v := 1024) sk_1024 ?_
        refine g_idiv (by decide) ?_
        rw [show nI (q) / 1024 = nI (q / 1024) from pk_div (d := 1024) (by omega) (by omega) (by omega)]
        refine g_bipush (v := 6) bk_6 ?_
        refine g_irem (by decide) ?_
        rw [show nI ((q / 1024)) - nI ((q / 1024)) / 6 * 6 = nI ((q / 1024) % 6) from pk_rem (d := 6) (by omega) (by omega) (by omega)]
        refine g_iload_n rfl ?_
        refine g_sipush (v := 8192) sk_8192 ?_
        refine g_idiv (by decide) ?_
        rw [show nI (q) / 8192 = nI (q / 8192) from pk_div (d := 8192) (by omega) (by omega) (by omega)]
        refine g_bipush (v := 6) bk_6 ?_
        refine g_irem (by decide) ?_
        rw [show nI ((q / 8192)) - nI ((q / 8192)) / 6 * 6 = nI ((q / 8192) % 6) from pk_rem (d := 6) (by omega) (by omega) (by omega)]
        refine g_callV (as := [_, _, _, _, _, _]) mk_X8_triesClass ml_X8_212 im_X8_triesClass se_X8_triesClass rfl rfl ⟨⟨nle rfl, nle rfl⟩, nle rfl, nle rfl⟩ hm.1 rfl rfl rfl (nle rfl) ?_
        refine m_triesClass hm hI hg ?_
        refine kq_s ?_
        refine g_pop rfl ?_
        refine g_fall rfl L_X8_turns_176 ?_
        refine g_goto rfl L_X8_turns_201 ?_
        refine g_vret rfl (nle rfl) (nle rfl) ?_
        have e0 : tuK 5 q (M (m + 1)) = tu2 q (M (m + 1)) := rfl
        exact qeqv hQ (by rw [e0]; exact congrArg (sR M (m + 1)) (if_pos hg).symm)
set_option maxRecDepth 100000 in
set_option maxHeartbeats 4000000 in
theorem ct_X8_turns_6 {X : Xs} {κ : Kp} {M : Mem} {Q : Rs → Kp → Mem → Prop} {m : Nat} (hm : IsMod κ.2.1 m) {B : Nat} (hI : IR B (M (m + 1))) {q : Nat} (hq : q < 2 ^ 31) (hQ : Q (.inl none) κ (sR M (m + 1) (tuK 6 q (M (m + 1))))) : Ct X m_X8_turns [.ref m, .int (nI 6), .int (nI q)] κ M Q := by
  refine ct_of B_X8_turns_0 pn_X8 rfl (nle rfl) L_X8_turns_0 ?_
  refine g_iload_n rfl ?_
  refine g_if_ne rfl L_X8_turns_52 (fun h_1 => ?_) (fun h_1 => absurd h_1 (by decide))
  refine g_iload_n rfl ?_
  refine g_iconst (v := 1) ik_1 ?_
  refine g_icmp_ne rfl L_X8_turns_87 (fun h_2 => ?_) (fun h_2 => absurd h_2 (by decide))
  refine g_iload_n rfl ?_
  refine g_iconst (v := 1) ik_1 ?_
  refine g_icmp_le rfl L_X8_turns_179 (fun h_3 => absurd h_3 (by decide)) (fun h_3 => ?_)
  refine g_iload_n rfl ?_
  refine g_bipush (v := 6) bk_6 ?_
  refine g_icmp_ge rfl L_X8_turns_179 (fun h_4 => ?_) (fun h_4 => absurd h_4 (by decide))
  refine g_iload_n rfl ?_
  refine g_bipush (v := 6) bk_6 ?_
  refine g_icmp_ne rfl L_X8_turns_201 (fun h_5 => absurd h_5 (by decide)) (fun h_5 => ?_)
  refine g_aload_n rfl ?_
  refine g_getR (w := (m + 1)) fl_X8_7 rfl hm.1 rfl ?_
  refine g_iconst (v := 3) ik_3 ?_
  refine g_iaload (j := 3) hm.2.1 rfl (nle rfl) (nle rfl) ?_
  refine g_bipush (v := 12) bk_12 ?_
  refine g_icmp_ge rfl L_X8_turns_201 (fun h_6 => ?_) (fun h_6 => ?_)
  · have hg : gDa (M (m + 1)) = false := decide_eq_false (Int32.not_lt.mpr h_6)
    refine g_vret rfl (nle rfl) (nle rfl) ?_
    have e0 : tuK 6 q (M (m + 1)) = tu6 (M (m + 1)) := rfl
    exact qeqv hQ (by rw [e0, show tu6 (M (m + 1)) = M (m + 1) from if_neg (by rw [hg]; decide), sR_self])
  · have hg : gDa (M (m + 1)) = true := decide_eq_true (Int32.not_le.mp h_6)
    refine g_aload_n rfl ?_
    refine g_callV (as := []) mk_X8_dancers ml_X8_160 im_X8_dancers se_X8_dancers rfl rfl ⟨⟨nle rfl, nle rfl⟩, nle rfl, nle rfl⟩ hm.1 rfl rfl rfl (nle rfl) ?_
    refine m_dancers hm hI hg ?_
    refine kq_s ?_
    refine g_pop rfl ?_
    refine g_fall rfl L_X8_turns_201 ?_
    refine g_vret rfl (nle rfl) (nle rfl) ?_
    have e0 : tuK 6 q (M (m + 1)) = tu6 (M (m + 1)) := rfl
    exact qeqv hQ (by rw [e0]; exact congrArg (sR M (m + 1)) (if_pos hg).symm)
theorem ct_X8_turns {X : Xs} {κ : Kp} {M : Mem} {Q : Rs → Kp → Mem → Prop} {m : Nat} (hm : IsMod κ.2.1 m) {B : Nat} (hI : IR B (M (m + 1))) {q : Nat} (hq : q < 2 ^ 31) {k : Nat} (hk : k < 7) (hQ : Q (.inl none) κ (sR M (m + 1) (tuK k q (M (m + 1))))) : Ct X m_X8_turns [.ref m, .int (nI k), .int (nI q)] κ M Q := by
  have h : k = 0 ∨ k = 1 ∨ k = 2 ∨ k = 3 ∨ k = 4 ∨ k = 5 ∨ k = 6 := by omega
  rcases h with rfl | rfl | rfl | rfl | rfl | rfl | rfl
  · exact ct_X8_turns_0 hm hI hq hQ
  · exact ct_X8_turns_1 hm hI hq hQ
  · exact ct_X8_turns_2 hm hI hq hQ
  · exact ct_X8_turns_3 hm hI hq hQ
  · exact ct_X8_turns_4 hm hI hq hQ
  · exact ct_X8_turns_5 hm hI hq hQ
  · exact ct_X8_turns_6 hm hI hq hQ
set_option maxRecDepth 100000 in
set_option maxHeartbeats 4000000 in
theorem ct_X8_dancersTurn_7 {X : Xs} {κ : Kp} {M : Mem} {Q : Rs → Kp → Mem → Prop} {m : Nat} (hm : IsMod κ.2.1 m) {B : Nat} (hI : IR B (M (m + 1))) {q : Nat} (hq : q < 2 ^ 31) (hQ : Q (.inl none) κ (sR M (m + 1) (tuK 7 q (M (m + 1))))) : Ct X m_X8_dancersTurn [.ref m, .int (nI 7), .int (nI q)] κ M Q := by
  refine ct_of B_X8_dancersTurn_0 pn_X8 rfl (nle rfl) L_X8_dancersTurn_0 ?_
  refine g_iload_n rfl ?_
  refine g_bipush (v := 12) bk_12 ?_
  refine g_irem (by decide) ?_
  rw [show nI (q) - nI (q) / 12 * 12 = nI (q % 12) from pk_rem (d := 12) (by omega) (by omega) (by omega)]
  refine g_istore_n (nle rfl) ?_
  refine g_iload_n rfl ?_
  refine g_bipush (v := 16) bk_16 ?_
  refine g_idiv (by decide) ?_
  rw [show nI (q) / 16 = nI (q / 16) from pk_div (d := 16) (by omega) (by omega) (by omega)]
  refine g_bipush (v := 10) bk_10 ?_
  refine g_irem (by decide) ?_
  rw [show nI ((q / 16)) - nI ((q / 16)) / 10 * 10 = nI ((q / 16) % 10) from pk_rem (d := 10) (by omega) (by omega) (by omega)]
  refine g_istore (nle rfl) ?_
  refine g_iload_n rfl ?_
  refine g_bipush (v := 9) bk_9 ?_
  refine g_icmp_ge rfl L_X8_dancersTurn_37 (fun h_1 => absurd h_1 (by decide)) (fun h_1 => ?_)
  refine g_aload_n rfl ?_
  refine g_iload_n rfl ?_
  refine g_callV (as := [_]) mk_X8_canPass ml_X8_140 im_X8_canPass se_X8_canPass rfl rfl ⟨⟨nle rfl, nle rfl⟩, nle rfl, nle rfl⟩ hm.1 rfl rfl rfl (nle rfl) ?_
  refine m_canPass hm hI ?_
  refine kq_s ?_
  refine g_if_eq_b rfl L_X8_dancersTurn_168 (fun h_2 => ?_) (fun h_2 => ?_)
  · have hg := h_2
    refine g_vret rfl (nle rfl) (nle rfl) ?_
    have e0 : tuK 7 q (M (m + 1)) = tu7 q (M (m + 1)) := rfl
    exact qeqv hQ (by rw [e0, show tu7 q (M (m + 1)) = M (m + 1) from if_neg (by rw [hg]; decide), sR_self])
  · have hg := h_2
    have hg2 := hg
    unfold cpass at hg2
    rw [Bool.and_eq_true] at hg2
    refine g_aload_n rfl ?_
    refine g_iload_n rfl ?_
    refine g_callV (as := [_]) mk_X8_passes ml_X8_163 im_X8_passes se_X8_passes rfl rfl ⟨⟨nle rfl, nle rfl⟩, nle rfl, nle rfl⟩ hm.1 rfl rfl rfl (nle rfl) ?_
    refine m_passes hm hI hg2.1 ?_
    refine kq_s ?_
    refine g_pop rfl ?_
    refine g_goto rfl L_X8_dancersTurn_168 ?_
    refine g_vret rfl (nle rfl) (nle rfl) ?_
    have e0 : tuK 7 q (M (m + 1)) = tu7 q (M (m + 1)) := rfl
    exact qeqv hQ (by rw [e0]; exact congrArg (sR M (m + 1)) (if_pos hg).symm)
set_option maxRecDepth 100000 in
set_option maxHeartbeats 4000000 in
theorem ct_X8_dancersTurn_8 {X : Xs} {κ : Kp} {M : Mem} {Q : Rs → Kp → Mem → Prop} {m : Nat} (hm : IsMod κ.2.1 m) {B : Nat} (hI : IR B (M (m + 1))) {q : Nat} (hq : q < 2 ^ 31) (hQ : Q (.inl none) κ (sR M (m + 1) (tuK 8 q (M (m + 1))))) : Ct X m_X8_dancersTurn [.ref m, .int (nI 8), .int (nI q)] κ M Q := by
  refine ct_of B_X8_dancersTurn_0 pn_X8 rfl (nle rfl) L_X8_dancersTurn_0 ?_
  refine g_iload_n rfl ?_
  refine g_bipush (v := 12) bk_12 ?_
  refine g_irem (by decide) ?_
  rw [show nI (q) - nI (q) / 12 * 12 = nI (q % 12) from pk_rem (d := 12) (by omega) (by omega) (by omega)]
  refine g_istore_n (nle rfl) ?_
  refine g_iload_n rfl ?_
  refine g_bipush (v := 16) bk_16 ?_
  refine g_idiv (by decide) ?_
  rw [show nI (q) / 16 = nI (q / 16) from pk_div (d := 16) (by omega) (by omega) (by omega)]
  refine g_bipush (v := 10) bk_10 ?_
  refine g_irem (by decide) ?_
  rw [show nI ((q / 16)) - nI ((q / 16)) / 10 * 10 = nI ((q / 16) % 10) from pk_rem (d := 10) (by omega) (by omega) (by omega)]
  refine g_istore (nle rfl) ?_
  refine g_iload_n rfl ?_
  refine g_bipush (v := 9) bk_9 ?_
  refine g_icmp_ge rfl L_X8_dancersTurn_37 (fun h_1 => absurd h_1 (by decide)) (fun h_1 => ?_)
  refine g_aload_n rfl ?_
  refine g_iload_n rfl ?_
  refine g_callV (as := [_]) mk_X8_canPass ml_X8_140 im_X8_canPass se_X8_canPass rfl rfl ⟨⟨nle rfl, nle rfl⟩, nle rfl, nle rfl⟩ hm.1 rfl rfl rfl (nle rfl) ?_
  refine m_canPass hm hI ?_
  refine kq_s ?_
  refine g_if_eq_b rfl L_X8_dancersTurn_168 (fun h_2 => ?_) (fun h_2 => ?_)
  · have hg := h_2
    refine g_vret rfl (nle rfl) (nle rfl) ?_
    have e0 : tuK 8 q (M (m + 1)) = tu7 q (M (m + 1)) := rfl
    exact qeqv hQ (by rw [e0, show tu7 q (M (m + 1)) = M (m + 1) from if_neg (by rw [hg]; decide), sR_self])
  · have hg := h_2
    have hg2 := hg
    unfold cpass at hg2
    rw [Bool.and_eq_true] at hg2
    refine g_aload_n rfl ?_
    refine g_iload_n rfl ?_
    refine g_callV (as := [_]) mk_X8_passes ml_X8_163 im_X8_passes se_X8_passes rfl rfl ⟨⟨nle rfl, nle rfl⟩, nle rfl, nle rfl⟩ hm.1 rfl rfl rfl (nle rfl) ?_
    refine m_passes hm hI hg2.1 ?_
    refine kq_s ?_
    refine g_pop rfl ?_
    refine g_goto rfl L_X8_dancersTurn_168 ?_
    refine g_vret rfl (nle rfl) (nle rfl) ?_
    have e0 : tuK 8 q (M (m + 1)) = tu7 q (M (m + 1)) := rfl
    exact qeqv hQ (by rw [e0]; exact congrArg (sR M (m + 1)) (if_pos hg).symm)
set_option maxRecDepth 100000 in
set_option maxHeartbeats 4000000 in
theorem ct_X8_dancersTurn_9 {X : Xs} {κ : Kp} {M : Mem} {Q : Rs → Kp → Mem → Prop} {m : Nat} (hm : IsMod κ.2.1 m) {B : Nat} (hI : IR B (M (m + 1))) {q : Nat} (hq : q < 2 ^ 31) (hQ : Q (.inl none) κ (sR M (m + 1) (tuK 9 q (M (m + 1))))) : Ct X m_X8_dancersTurn [.ref m, .int (nI 9), .int (nI q)] κ M Q := by
  refine ct_of B_X8_dancersTurn_0 pn_X8 rfl (nle rfl) L_X8_dancersTurn_0 ?_
  refine g_iload_n rfl ?_
  refine g_bipush (v := 12) bk_12 ?_
  refine g_irem (by decide) ?_
  rw [show nI (q) - nI (q) / 12 * 12 = nI (q % 12) from pk_rem (d := 12) (by omega) (by omega) (by omega)]
  refine g_istore_n (nle rfl) ?_
  refine g_iload_n rfl ?_
  refine g_bipush (v := 16) bk_16 ?_
  refine g_idiv (by decide) ?_
  rw [show nI (q) / 16 = nI (q / 16) from pk_div (d := 16) (by omega) (by omega) (by omega)]
  refine g_bipush (v := 10) bk_10 ?_
  refine g_irem (by decide) ?_
  rw [show nI ((q / 16)) - nI ((q / 16)) / 10 * 10 = nI ((q / 16) % 10) from pk_rem (d := 10) (by omega) (by omega) (by omega)]
  refine g_istore (nle rfl) ?_
  refine g_iload_n rfl ?_
  refine g_bipush (v := 9) bk_9 ?_
  refine g_icmp_ge rfl L_X8_dancersTurn_37 (fun h_1 => ?_) (fun h_1 => absurd h_1 (by decide))
  refine g_iload_n rfl ?_
  refine g_bipush (v := 13) bk_13 ?_
  refine g_icmp_ge rfl L_X8_dancersTurn_71 (fun h_2 => absurd h_2 (by decide)) (fun h_2 => ?_)
  refine g_aload_n rfl ?_
  refine g_iload_n rfl ?_
  refine g_callV (as := [_]) mk_X8_isDancer ml_X8_127 im_X8_isDancer se_X8_isDancer rfl rfl ⟨⟨nle rfl, nle rfl⟩, nle rfl, nle rfl⟩ hm.1 rfl rfl rfl (nle rfl) ?_
  refine ct_X8_isDancer hm ?_
  refine kq_s ?_
  refine g_if_eq_b rfl L_X8_dancersTurn_168 (fun h_3 => ?_) (fun h_3 => ?_)
  · have hg : gSe (M (m + 1)) (nI (q % 12)) (nI (q / 16 % 10)) = false := by unfold gSe; rw [show isD (M (m + 1)) (nI (q % 12)) = false from h_3]; rfl
    refine g_vret rfl (nle rfl) (nle rfl) ?_
    have e0 : tuK 9 q (M (m + 1)) = tu9 q (M (m + 1)) := rfl
    exact qeqv hQ (by rw [e0, show tu9 q (M (m + 1)) = M (m + 1) from if_neg (by rw [hg]; decide), sR_self])
  · have hd := h_3
    refine g_aload_n rfl ?_
    refine g_iload rfl ?_
    refine g_callV (as := [_]) mk_X8_isClass ml_X8_130 im_X8_isClass se_X8_isClass rfl rfl ⟨⟨nle rfl, nle rfl⟩, nle rfl, nle rfl⟩ hm.1 rfl rfl rfl (nle rfl) ?_
    refine ct_X8_isClass hm ?_
    refine kq_s ?_
    refine g_if_eq_b rfl L_X8_dancersTurn_168 (fun h_4 => ?_) (fun h_4 => ?_)
    · have hg : gSe (M (m + 1)) (nI (q % 12)) (nI (q / 16 % 10)) = false := by unfold gSe; rw [show isC (M (m + 1)) (nI (q / 16 % 10)) = false from h_4, Bool.and_false]
      refine g_vret rfl (nle rfl) (nle rfl) ?_
      have e0 : tuK 9 q (M (m + 1)) = tu9 q (M (m + 1)) := rfl
      exact qeqv hQ (by rw [e0, show tu9 q (M (m + 1)) = M (m + 1) from if_neg (by rw [hg]; decide), sR_self])
    · have hg : gSe (M (m + 1)) (nI (q % 12)) (nI (q / 16 % 10)) = true := by unfold gSe; rw [show isD (M (m + 1)) (nI (q % 12)) = true from hd, show isC (M (m + 1)) (nI (q / 16 % 10)) = true from h_4]; rfl
      refine g_aload_n rfl ?_
      refine g_iload_n rfl ?_
      refine g_iload rfl ?_
      refine g_callV (as := [_, _]) mk_X8_triesSeat ml_X8_215 im_X8_triesSeat se_X8_triesSeat rfl rfl ⟨⟨nle rfl, nle rfl⟩, nle rfl, nle rfl⟩ hm.1 rfl rfl rfl (nle rfl) ?_
      refine m_triesSeat hm hI hg ?_
      refine kq_s ?_
      refine g_pop rfl ?_
      refine g_goto rfl L_X8_dancersTurn_168 ?_
      refine g_vret rfl (nle rfl) (nle rfl) ?_
      have e0 : tuK 9 q (M (m + 1)) = tu9 q (M (m + 1)) := rfl
      exact qeqv hQ (by rw [e0]; exact congrArg (sR M (m + 1)) (if_pos hg).symm)
set_option maxRecDepth 100000 in
set_option maxHeartbeats 4000000 in
theorem ct_X8_dancersTurn_10 {X : Xs} {κ : Kp} {M : Mem} {Q : Rs → Kp → Mem → Prop} {m : Nat} (hm : IsMod κ.2.1 m) {B : Nat} (hI : IR B (M (m + 1))) {q : Nat} (hq : q < 2 ^ 31) (hQ : Q (.inl none) κ (sR M (m + 1) (tuK 10 q (M (m + 1))))) : Ct X m_X8_dancersTurn [.ref m, .int (nI 10), .int (nI q)] κ M Q := by
  refine ct_of B_X8_dancersTurn_0 pn_X8 rfl (nle rfl) L_X8_dancersTurn_0 ?_
  refine g_iload_n rfl ?_
  refine g_bipush (v := 12) bk_12 ?_
  refine g_irem (by decide) ?_
  rw [show nI (q) - nI (q) / 12 * 12 = nI (q % 12) from pk_rem (d := 12) (by omega) (by omega) (by omega)]
  refine g_istore_n (nle rfl) ?_
  refine g_iload_n rfl ?_
  refine g_bipush (v := 16) bk_16 ?_
  refine g_idiv (by decide) ?_
  rw [show nI (q) / 16 = nI (q / 16) from pk_div (d := 16) (by omega) (by omega) (by omega)]
  refine g_bipush (v := 10) bk_10 ?_
  refine g_irem (by decide) ?_
  rw [show nI ((q / 16)) - nI ((q / 16)) / 10 * 10 = nI ((q / 16) % 10) from pk_rem (d := 10) (by omega) (by omega) (by omega)]
  refine g_istore (nle rfl) ?_
  refine g_iload_n rfl ?_
  refine g_bipush (v := 9) bk_9 ?_
  refine g_icmp_ge rfl L_X8_dancersTurn_37 (fun h_1 => ?_) (fun h_1 => absurd h_1 (by decide))
  refine g_iload_n rfl ?_
  refine g_bipush (v := 13) bk_13 ?_
  refine g_icmp_ge rfl L_X8_dancersTurn_71 (fun h_2 => absurd h_2 (by decide)) (fun h_2 => ?_)
  refine g_aload_n rfl ?_
  refine g_iload_n rfl ?_
  refine g_callV (as := [_]) mk_X8_isDancer ml_X8_127 im_X8_isDancer se_X8_isDancer rfl rfl ⟨⟨nle rfl, nle rfl⟩, nle rfl, nle rfl⟩ hm.1 rfl rfl rfl (nle rfl) ?_
  refine ct_X8_isDancer hm ?_
  refine kq_s ?_
  refine g_if_eq_b rfl L_X8_dancersTurn_168 (fun h_3 => ?_) (fun h_3 => ?_)
  · have hg : gSe (M (m + 1)) (nI (q % 12)) (nI (q / 16 % 10)) = false := by unfold gSe; rw [show isD (M (m + 1)) (nI (q % 12)) = false from h_3]; rfl
    refine g_vret rfl (nle rfl) (nle rfl) ?_
    have e0 : tuK 10 q (M (m + 1)) = tu9 q (M (m + 1)) := rfl
    exact qeqv hQ (by rw [e0, show tu9 q (M (m + 1)) = M (m + 1) from if_neg (by rw [hg]; decide), sR_self])
  · have hd := h_3
    refine g_aload_n rfl ?_
    refine g_iload rfl ?_
    refine g_callV (as := [_]) mk_X8_isClass ml_X8_130 im_X8_isClass se_X8_isClass rfl rfl ⟨⟨nle rfl, nle rfl⟩, nle rfl, nle rfl⟩ hm.1 rfl rfl rfl (nle rfl) ?_
    refine ct_X8_isClass hm ?_
    refine kq_s ?_
    refine g_if_eq_b rfl L_X8_dancersTurn_168 (fun h_4 => ?_) (fun h_4 => ?_)
    · have hg : gSe (M (m + 1)) (nI (q % 12)) (nI (q / 16 % 10)) = false := by unfold gSe; rw [show isC (M (m + 1)) (nI (q / 16 % 10)) = false from h_4, Bool.and_false]
      refine g_vret rfl (nle rfl) (nle rfl) ?_
      have e0 : tuK 10 q (M (m + 1)) = tu9 q (M (m + 1)) := rfl
      exact qeqv hQ (by rw [e0, show tu9 q (M (m + 1)) = M (m + 1) from if_neg (by rw [hg]; decide), sR_self])
    · have hg : gSe (M (m + 1)) (nI (q % 12)) (nI (q / 16 % 10)) = true := by unfold gSe; rw [show isD (M (m + 1)) (nI (q % 12)) = true from hd, show isC (M (m + 1)) (nI (q / 16 % 10)) = true from h_4]; rfl
      refine g_aload_n rfl ?_
      refine g_iload_n rfl ?_
      refine g_iload rfl ?_
      refine g_callV (as := [_, _]) mk_X8_triesSeat ml_X8_215 im_X8_triesSeat se_X8_triesSeat rfl rfl ⟨⟨nle rfl, nle rfl⟩, nle rfl, nle rfl⟩ hm.1 rfl rfl rfl (nle rfl) ?_
      refine m_triesSeat hm hI hg ?_
      refine kq_s ?_
      refine g_pop rfl ?_
      refine g_goto rfl L_X8_dancersTurn_168 ?_
      refine g_vret rfl (nle rfl) (nle rfl) ?_
      have e0 : tuK 10 q (M (m + 1)) = tu9 q (M (m + 1)) := rfl
      exact qeqv hQ (by rw [e0]; exact congrArg (sR M (m + 1)) (if_pos hg).symm)
set_option maxRecDepth 100000 in
set_option maxHeartbeats 4000000 in
theorem ct_X8_dancersTurn_11 {X : Xs} {κ : Kp} {M : Mem} {Q : Rs → Kp → Mem → Prop} {m : Nat} (hm : IsMod κ.2.1 m) {B : Nat} (hI : IR B (M (m + 1))) {q : Nat} (hq : q < 2 ^ 31) (hQ : Q (.inl none) κ (sR M (m + 1) (tuK 11 q (M (m + 1))))) : Ct X m_X8_dancersTurn [.ref m, .int (nI 11), .int (nI q)] κ M Q := by
  refine ct_of B_X8_dancersTurn_0 pn_X8 rfl (nle rfl) L_X8_dancersTurn_0 ?_
  refine g_iload_n rfl ?_
  refine g_bipush (v := 12) bk_12 ?_
  refine g_irem (by decide) ?_
  rw [show nI (q) - nI (q) / 12 * 12 = nI (q % 12) from pk_rem (d := 12) (by omega) (by omega) (by omega)]
  refine g_istore_n (nle rfl) ?_
  refine g_iload_n rfl ?_
  refine g_bipush (v := 16) bk_16 ?_
  refine g_idiv (by decide) ?_
  rw [show nI (q) / 16 = nI (q / 16) from pk_div (d := 16) (by omega) (by omega) (by omega)]
  refine g_bipush (v := 10) bk_10 ?_
  refine g_irem (by decide) ?_
  rw [show nI ((q / 16)) - nI ((q / 16)) / 10 * 10 = nI ((q / 16) % 10) from pk_rem (d := 10) (by omega) (by omega) (by omega)]
  refine g_istore (nle rfl) ?_
  refine g_iload_n rfl ?_
  refine g_bipush (v := 9) bk_9 ?_
  refine g_icmp_ge rfl L_X8_dancersTurn_37 (fun h_1 => ?_) (fun h_1 => absurd h_1 (by decide))
  refine g_iload_n rfl ?_
  refine g_bipush (v := 13) bk_13 ?_
  refine g_icmp_ge rfl L_X8_dancersTurn_71 (fun h_2 => absurd h_2 (by decide)) (fun h_2 => ?_)
  refine g_aload_n rfl ?_
  refine g_iload_n rfl ?_
  refine g_callV (as := [_]) mk_X8_isDancer ml_X8_127 im_X8_isDancer se_X8_isDancer rfl rfl ⟨⟨nle rfl, nle rfl⟩, nle rfl, nle rfl⟩ hm.1 rfl rfl rfl (nle rfl) ?_
  refine ct_X8_isDancer hm ?_
  refine kq_s ?_
  refine g_if_eq_b rfl L_X8_dancersTurn_168 (fun h_3 => ?_) (fun h_3 => ?_)
  · have hg : gSe (M (m + 1)) (nI (q % 12)) (nI (q / 16 % 10)) = false := by unfold gSe; rw [show isD (M (m + 1)) (nI (q % 12)) = false from h_3]; rfl
    refine g_vret rfl (nle rfl) (nle rfl) ?_
    have e0 : tuK 11 q (M (m + 1)) = tu9 q (M (m + 1)) := rfl
    exact qeqv hQ (by rw [e0, show tu9 q (M (m + 1)) = M (m + 1) from if_neg (by rw [hg]; decide), sR_self])
  · have hd := h_3
    refine g_aload_n rfl ?_
    refine g_iload rfl ?_
    refine g_callV (as := [_]) mk_X8_isClass ml_X8_130 im_X8_isClass se_X8_isClass rfl rfl ⟨⟨nle rfl, nle rfl⟩, nle rfl, nle rfl⟩ hm.1 rfl rfl rfl (nle rfl) ?_
    refine ct_X8_isClass hm ?_
    refine kq_s ?_
    refine g_if_eq_b rfl L_X8_dancersTurn_168 (fun h_4 => ?_) (fun h_4 => ?_)
    · have hg : gSe (M (m + 1)) (nI (q % 12)) (nI (q / 16 % 10)) = false := by unfold gSe; rw [show isC (M (m + 1)) (nI (q / 16 % 10)) = false from h_4, Bool.and_false]
      refine g_vret rfl (nle rfl) (nle rfl) ?_
      have e0 : tuK 11 q (M (m + 1)) = tu9 q (M (m + 1)) := rfl
      exact qeqv hQ (by rw [e0, show tu9 q (M (m + 1)) = M (m + 1) from if_neg (by rw [hg]; decide), sR_self])
    · have hg : gSe (M (m + 1)) (nI (q % 12)) (nI (q / 16 % 10)) = true := by unfold gSe; rw [show isD (M (m + 1)) (nI (q % 12)) = true from hd, show isC (M (m + 1)) (nI (q / 16 % 10)) = true from h_4]; rfl
      refine g_aload_n rfl ?_
      refine g_iload_n rfl ?_
      refine g_iload rfl ?_
      refine g_callV (as := [_, _]) mk_X8_triesSeat ml_X8_215 im_X8_triesSeat se_X8_triesSeat rfl rfl ⟨⟨nle rfl, nle rfl⟩, nle rfl, nle rfl⟩ hm.1 rfl rfl rfl (nle rfl) ?_
      refine m_triesSeat hm hI hg ?_
      refine kq_s ?_
      refine g_pop rfl ?_
      refine g_goto rfl L_X8_dancersTurn_168 ?_
      refine g_vret rfl (nle rfl) (nle rfl) ?_
      have e0 : tuK 11 q (M (m + 1)) = tu9 q (M (m + 1)) := rfl
      exact qeqv hQ (by rw [e0]; exact congrArg (sR M (m + 1)) (if_pos hg).symm)
set_option maxRecDepth 100000 in
set_option maxHeartbeats 4000000 in
theorem ct_X8_dancersTurn_12 {X : Xs} {κ : Kp} {M : Mem} {Q : Rs → Kp → Mem → Prop} {m : Nat} (hm : IsMod κ.2.1 m) {B : Nat} (hI : IR B (M (m + 1))) {q : Nat} (hq : q < 2 ^ 31) (hQ : Q (.inl none) κ (sR M (m + 1) (tuK 12 q (M (m + 1))))) : Ct X m_X8_dancersTurn [.ref m, .int (nI 12), .int (nI q)] κ M Q := by
  refine ct_of B_X8_dancersTurn_0 pn_X8 rfl (nle rfl) L_X8_dancersTurn_0 ?_
  refine g_iload_n rfl ?_
  refine g_bipush (v := 12) bk_12 ?_
  refine g_irem (by decide) ?_
  rw [show nI (q) - nI (q) / 12 * 12 = nI (q % 12) from pk_rem (d := 12) (by omega) (by omega) (by omega)]
  refine g_istore_n (nle rfl) ?_
  refine g_iload_n rfl ?_
  refine g_bipush (v := 16) bk_16 ?_
  refine g_idiv (by decide) ?_
  rw [show nI (q) / 16 = nI (q / 16) from pk_div (d := 16) (by omega) (by omega) (by omega)]
  refine g_bipush (v := 10) bk_10 ?_
  refine g_irem (by decide) ?_
  rw [show nI ((q / 16)) - nI ((q / 16)) / 10 * 10 = nI ((q / 16) % 10) from pk_rem (d := 10) (by omega) (by omega) (by omega)]
  refine g_istore (nle rfl) ?_
  refine g_iload_n rfl ?_
  refine g_bipush (v := 9) bk_9 ?_
  refine g_icmp_ge rfl L_X8_dancersTurn_37 (fun h_1 => ?_) (fun h_1 => absurd h_1 (by decide))
  refine g_iload_n rfl ?_
  refine g_bipush (v := 13) bk_13 ?_
  refine g_icmp_ge rfl L_X8_dancersTurn_71 (fun h_2 => absurd h_2 (by decide)) (fun h_2 => ?_)
  refine g_aload_n rfl ?_
  refine g_iload_n rfl ?_
  refine g_callV (as := [_]) mk_X8_isDancer ml_X8_127 im_X8_isDancer se_X8_isDancer rfl rfl ⟨⟨nle rfl, nle rfl⟩, nle rfl, nle rfl⟩ hm.1 rfl rfl rfl (nle rfl) ?_
  refine ct_X8_isDancer hm ?_
  refine kq_s ?_
  refine g_if_eq_b rfl L_X8_dancersTurn_168 (fun h_3 => ?_) (fun h_3 => ?_)
  · have hg : gSe (M (m + 1)) (nI (q % 12)) (nI (q / 16 % 10)) = false := by unfold gSe; rw [show isD (M (m + 1)) (nI (q % 12)) = false from h_3]; rfl
    refine g_vret rfl (nle rfl) (nle rfl) ?_
    have e0 : tuK 12 q (M (m + 1)) = tu9 q (M (m + 1)) := rfl
    exact qeqv hQ (by rw [e0, show tu9 q (M (m + 1)) = M (m + 1) from if_neg (by rw [hg]; decide), sR_self])
  · have hd := h_3
    refine g_aload_n rfl ?_
    refine g_iload rfl ?_
    refine g_callV (as := [_]) mk_X8_isClass ml_X8_130 im_X8_isClass se_X8_isClass rfl rfl ⟨⟨nle rfl, nle rfl⟩, nle rfl, nle rfl⟩ hm.1 rfl rfl rfl (nle rfl) ?_
    refine ct_X8_isClass hm ?_
    refine kq_s ?_
    refine g_if_eq_b rfl L_X8_dancersTurn_168 (fun h_4 => ?_) (fun h_4 => ?_)
    · have hg : gSe (M (m + 1)) (nI (q % 12)) (nI (q / 16 % 10)) = false := by unfold gSe; rw [show isC (M (m + 1)) (nI (q / 16 % 10)) = false from h_4, Bool.and_false]
      refine g_vret rfl (nle rfl) (nle rfl) ?_
      have e0 : tuK 12 q (M (m + 1)) = tu9 q (M (m + 1)) := rfl
      exact qeqv hQ (by rw [e0, show tu9 q (M (m + 1)) = M (m + 1) from if_neg (by rw [hg]; decide), sR_self])
    · have hg : gSe (M (m + 1)) (nI (q % 12)) (nI (q / 16 % 10)) = true := by unfold gSe; rw [show isD (M (m + 1)) (nI (q % 12)) = true from hd, show isC (M (m + 1)) (nI (q / 16 % 10)) = true from h_4]; rfl
      refine g_aload_n rfl ?_
      refine g_iload_n rfl ?_
      refine g_iload rfl ?_
      refine g_callV (as := [_, _]) mk_X8_triesSeat ml_X8_215 im_X8_triesSeat se_X8_triesSeat rfl rfl ⟨⟨nle rfl, nle rfl⟩, nle rfl, nle rfl⟩ hm.1 rfl rfl rfl (nle rfl) ?_
      refine m_triesSeat hm hI hg ?_
      refine kq_s ?_
      refine g_pop rfl ?_
      refine g_goto rfl L_X8_dancersTurn_168 ?_
      refine g_vret rfl (nle rfl) (nle rfl) ?_
      have e0 : tuK 12 q (M (m + 1)) = tu9 q (M (m + 1)) := rfl
      exact qeqv hQ (by rw [e0]; exact congrArg (sR M (m + 1)) (if_pos hg).symm)
set_option maxRecDepth 100000 in
set_option maxHeartbeats 4000000 in
theorem ct_X8_dancersTurn_13 {X : Xs} {κ : Kp} {M : Mem} {Q : Rs → Kp → Mem → Prop} {m : Nat} (hm : IsMod κ.2.1 m) {B : Nat} (hI : IR B (M (m + 1))) {q : Nat} (hq : q < 2 ^ 31) (hQ : Q (.inl none) κ (sR M (m + 1) (tuK 13 q (M (m + 1))))) : Ct X m_X8_dancersTurn [.ref m, .int (nI 13), .int (nI q)] κ M Q := by
  refine ct_of B_X8_dancersTurn_0 pn_X8 rfl (nle rfl) L_X8_dancersTurn_0 ?_
  refine g_iload_n rfl ?_
  refine g_bipush (v := 12) bk_12 ?_
  refine g_irem (by decide) ?_
  rw [show nI (q) - nI (q) / 12 * 12 = nI (q % 12) from pk_rem (d := 12) (by omega) (by omega) (by omega)]
  refine g_istore_n (nle rfl) ?_
  refine g_iload_n rfl ?_
  refine g_bipush (v := 16) bk_16 ?_
  refine g_idiv (by decide) ?_
  rw [show nI (q) / 16 = nI (q / 16) from pk_div (d := 16) (by omega) (by omega) (by omega)]
  refine g_bipush (v := 10) bk_10 ?_
  refine g_irem (by decide) ?_
  rw [show nI ((q / 16)) - nI ((q / 16)) / 10 * 10 = nI ((q / 16) % 10) from pk_rem (d := 10) (by omega) (by omega) (by omega)]
  refine g_istore (nle rfl) ?_
  refine g_iload_n rfl ?_
  refine g_bipush (v := 9) bk_9 ?_
  refine g_icmp_ge rfl L_X8_dancersTurn_37 (fun h_1 => ?_) (fun h_1 => absurd h_1 (by decide))
  refine g_iload_n rfl ?_
  refine g_bipush (v := 13) bk_13 ?_
  refine g_icmp_ge rfl L_X8_dancersTurn_71 (fun h_2 => ?_) (fun h_2 => absurd h_2 (by decide))
  refine g_iload_n rfl ?_
  refine g_bipush (v := 13) bk_13 ?_
  refine g_icmp_le rfl L_X8_dancersTurn_90 (fun h_3 => ?_) (fun h_3 => absurd h_3 (by decide))
  refine g_iload_n rfl ?_
  refine g_sipush (v := 256) sk_256 ?_
  refine g_idiv (by decide) ?_
  rw [show nI (q) / 256 = nI (q / 256) from pk_div (d := 256) (by omega) (by omega) (by omega)]
  refine g_iconst (v := 4) ik_4 ?_
  refine g_irem (by decide) ?_
  rw [show nI ((q / 256)) - nI ((q / 256)) / 4 * 4 = nI ((q / 256) % 4) from pk_rem (d := 4) (by omega) (by omega) (by omega)]
  refine g_if_ne rfl L_X8_dancersTurn_138 (fun h_4 => ?_) (fun h_4 => ?_)
  · have c1 : ¬ q / 256 % 4 = 0 := fun z => h_4 (by rw [z]; rfl)
    refine g_iload_n rfl ?_
    refine g_sipush (v := 1024) sk_1024 ?_
    refine g_idiv (by decide) ?_
    rw [show nI (q) / 1024 = nI (q / 1024) from pk_div (d := 1024) (by omega) (by omega) (by omega)]
    refine g_iconst (v := 4) ik_4 ?_
    refine g_irem (by decide) ?_
    rw [show nI ((q / 1024)) - nI ((q / 1024)) / 4 * 4 = nI ((q / 1024) % 4) from pk_rem (d := 4) (by omega) (by omega) (by omega)]
    refine g_if_ne rfl L_X8_dancersTurn_168 (fun h_5 => ?_) (fun h_5 => ?_)
    · have c2 : ¬ q / 1024 % 4 = 0 := fun z => h_5 (by rw [z]; rfl)
      refine g_vret rfl (nle rfl) (nle rfl) ?_
      have e0 : tuK 13 q (M (m + 1)) = tu13 q (M (m + 1)) := rfl
      exact qeqv hQ (by rw [e0, show tu13 q (M (m + 1)) = M (m + 1) from (if_neg c1).trans (if_neg c2), sR_self])
    · have c2 : q / 1024 % 4 = 0 := (nI_eq (a := q / 1024 % 4) (b := 0) (by omega) (by omega)).mp h_5
      refine g_aload_n rfl ?_
      refine g_iload_n rfl ?_
      refine g_bipush (v := 10) bk_10 ?_
      refine g_irem (by decide) ?_
      rw [show nI (q) - nI (q) / 10 * 10 = nI (q % 10) from pk_rem (d := 10) (by omega) (by omega) (by omega)]
      refine g_callV (as := [_]) mk_X8_isClass ml_X8_130 im_X8_isClass se_X8_isClass rfl rfl ⟨⟨nle rfl, nle rfl⟩, nle rfl, nle rfl⟩ hm.1 rfl rfl rfl (nle rfl) ?_
      refine ct_X8_isClass hm ?_
      refine kq_s ?_
      refine g_if_eq_b rfl L_X8_dancersTurn_168 (fun h_6 => ?_) (fun h_6 => ?_)
      · have hg : isC (M (m + 1)) (nI (q % 10)) = false := h_6
        refine g_vret rfl (nle rfl) (nle rfl) ?_
        have e0 : tuK 13 q (M (m + 1)) = tu13 q (M (m + 1)) := rfl
        have e1 : tu13 q (M (m + 1)) = tu13b q (M (m + 1)) := (if_neg c1).trans (if_pos c2)
        exact qeqv hQ (by rw [e0, e1, show tu13b q (M (m + 1)) = M (m + 1) from if_neg (by rw [hg]; decide), sR_self])
      · have hg : isC (M (m + 1)) (nI (q % 10)) = true := h_6
        refine g_aload_n rfl ?_
        refine g_iload_n rfl ?_
        refine g_bipush (v := 10) bk_10 ?_
        refine g_irem (by decide) ?_
        rw [show nI (q) - nI (q) / 10 * 10 = nI (q % 10) from pk_rem (d := 10) (by omega) (by omega) (by omega)]
        refine g_callV (as := [_]) mk_X8_drops ml_X8_172 im_X8_drops se_X8_drops rfl rfl ⟨⟨nle rfl, nle rfl⟩, nle rfl, nle rfl⟩ hm.1 rfl rfl rfl (nle rfl) ?_
        refine m_drops hm hI hg ?_
        refine kq_s ?_
        refine g_pop rfl ?_
        refine g_fall rfl L_X8_dancersTurn_168 ?_
        refine g_vret rfl (nle rfl) (nle rfl) ?_
        have e0 : tuK 13 q (M (m + 1)) = tu13 q (M (m + 1)) := rfl
        have e1 : tu13 q (M (m + 1)) = tu13b q (M (m + 1)) := (if_neg c1).trans (if_pos c2)
        exact qeqv hQ (by rw [e0, e1]; exact congrArg (sR M (m + 1)) (if_pos hg).symm)
  · have c1 : q / 256 % 4 = 0 := (nI_eq (a := q / 256 % 4) (b := 0) (by omega) (by omega)).mp h_4
    refine g_aload_n rfl ?_
    refine g_iload_n rfl ?_
    refine g_callV (as := [_]) mk_X8_isDancer ml_X8_127 im_X8_isDancer se_X8_isDancer rfl rfl ⟨⟨nle rfl, nle rfl⟩, nle rfl, nle rfl⟩ hm.1 rfl rfl rfl (nle rfl) ?_
    refine ct_X8_isDancer hm ?_
    refine kq_s ?_
    refine g_if_eq_b rfl L_X8_dancersTurn_168 (fun h_7 => ?_) (fun h_7 => ?_)
    · have hg : gLe (M (m + 1)) (nI (q % 12)) (nI (q / 16 % 10)) = false := by unfold gLe; rw [show isD (M (m + 1)) (nI (q % 12)) = false from h_7]; rfl
      refine g_vret rfl (nle rfl) (nle rfl) ?_
      have e0 : tuK 13 q (M (m + 1)) = tu13 q (M (m + 1)) := rfl
      have e1 : tu13 q (M (m + 1)) = tu13a q (M (m + 1)) := if_pos c1
      exact qeqv hQ (by rw [e0, e1, show tu13a q (M (m + 1)) = M (m + 1) from if_neg (by rw [hg]; decide), sR_self])
    · have hd := h_7
      refine g_aload_n rfl ?_
      refine g_iload rfl ?_
      refine g_callV (as := [_]) mk_X8_isClass ml_X8_130 im_X8_isClass se_X8_isClass rfl rfl ⟨⟨nle rfl, nle rfl⟩, nle rfl, nle rfl⟩ hm.1 rfl rfl rfl (nle rfl) ?_
      refine ct_X8_isClass hm ?_
      refine kq_s ?_
      refine g_if_eq_b rfl L_X8_dancersTurn_168 (fun h_8 => ?_) (fun h_8 => ?_)
      · have hg : gLe (M (m + 1)) (nI (q % 12)) (nI (q / 16 % 10)) = false := by unfold gLe; rw [show isC (M (m + 1)) (nI (q / 16 % 10)) = false from h_8, Bool.false_and, Bool.and_false]
        refine g_vret rfl (nle rfl) (nle rfl) ?_
        have e0 : tuK 13 q (M (m + 1)) = tu13 q (M (m + 1)) := rfl
        have e1 : tu13 q (M (m + 1)) = tu13a q (M (m + 1)) := if_pos c1
        exact qeqv hQ (by rw [e0, e1, show tu13a q (M (m + 1)) = M (m + 1) from if_neg (by rw [hg]; decide), sR_self])
      · have hc := h_8
        refine g_aload_n rfl ?_
        refine g_iload_n rfl ?_
        refine g_iload rfl ?_
        refine g_callV (as := [_, _]) mk_X8_hasSeat ml_X8_53 im_X8_hasSeat se_X8_hasSeat rfl rfl ⟨⟨nle rfl, nle rfl⟩, nle rfl, nle rfl⟩ hm.1 rfl rfl rfl (nle rfl) ?_
        refine m_hasSeat hm hI hc ?_
        refine kq_s ?_
        refine g_if_eq_b rfl L_X8_dancersTurn_168 (fun h_9 => ?_) (fun h_9 => ?_)
        · have hg : gLe (M (m + 1)) (nI (q % 12)) (nI (q / 16 % 10)) = false := by unfold gLe; rw [h_9, Bool.and_false, Bool.and_false]
          refine g_vret rfl (nle rfl) (nle rfl) ?_
          have e0 : tuK 13 q (M (m + 1)) = tu13 q (M (m + 1)) := rfl
          have e1 : tu13 q (M (m + 1)) = tu13a q (M (m + 1)) := if_pos c1
          exact qeqv hQ (by rw [e0, e1, show tu13a q (M (m + 1)) = M (m + 1) from if_neg (by rw [hg]; decide), sR_self])
        · have hg : gLe (M (m + 1)) (nI (q % 12)) (nI (q / 16 % 10)) = true := by unfold gLe; rw [h_9, show isD (M (m + 1)) (nI (q % 12)) = true from hd, show isC (M (m + 1)) (nI (q / 16 % 10)) = true from hc]; rfl
          refine g_aload_n rfl ?_
          refine g_iload_n rfl ?_
          refine g_iload rfl ?_
          refine g_callV (as := [_, _]) mk_X8_leaves ml_X8_169 im_X8_leaves se_X8_leaves rfl rfl ⟨⟨nle rfl, nle rfl⟩, nle rfl, nle rfl⟩ hm.1 rfl rfl rfl (nle rfl) ?_
          refine m_leaves hm hI hc ?_
          refine kq_s ?_
          refine g_pop rfl ?_
          refine g_goto rfl L_X8_dancersTurn_168 ?_
          refine g_vret rfl (nle rfl) (nle rfl) ?_
          have e0 : tuK 13 q (M (m + 1)) = tu13 q (M (m + 1)) := rfl
          have e1 : tu13 q (M (m + 1)) = tu13a q (M (m + 1)) := if_pos c1
          exact qeqv hQ (by rw [e0, e1]; exact congrArg (sR M (m + 1)) (if_pos hg).symm)
set_option maxRecDepth 100000 in
set_option maxHeartbeats 4000000 in
theorem ct_X8_dancersTurn_14 {X : Xs} {κ : Kp} {M : Mem} {Q : Rs → Kp → Mem → Prop} {m : Nat} (hm : IsMod κ.2.1 m) {B : Nat} (hI : IR B (M (m + 1))) {q : Nat} (hq : q < 2 ^ 31) (hQ : Q (.inl none) κ (sR M (m + 1) (tuK 14 q (M (m + 1))))) : Ct X m_X8_dancersTurn [.ref m, .int (nI 14), .int (nI q)] κ M Q := by
  refine ct_of B_X8_dancersTurn_0 pn_X8 rfl (nle rfl) L_X8_dancersTurn_0 ?_
  refine g_iload_n rfl ?_
  refine g_bipush (v := 12) bk_12 ?_
  refine g_irem (by decide) ?_
  rw [show nI (q) - nI (q) / 12 * 12 = nI (q % 12) from pk_rem (d := 12) (by omega) (by omega) (by omega)]
  refine g_istore_n (nle rfl) ?_
  refine g_iload_n rfl ?_
  refine g_bipush (v := 16) bk_16 ?_
  refine g_idiv (by decide) ?_
  rw [show nI (q) / 16 = nI (q / 16) from pk_div (d := 16) (by omega) (by omega) (by omega)]
  refine g_bipush (v := 10) bk_10 ?_
  refine g_irem (by decide) ?_
  rw [show nI ((q / 16)) - nI ((q / 16)) / 10 * 10 = nI ((q / 16) % 10) from pk_rem (d := 10) (by omega) (by omega) (by omega)]
  refine g_istore (nle rfl) ?_
  refine g_iload_n rfl ?_
  refine g_bipush (v := 9) bk_9 ?_
  refine g_icmp_ge rfl L_X8_dancersTurn_37 (fun h_1 => ?_) (fun h_1 => absurd h_1 (by decide))
  refine g_iload_n rfl ?_
  refine g_bipush (v := 13) bk_13 ?_
  refine g_icmp_ge rfl L_X8_dancersTurn_71 (fun h_2 => ?_) (fun h_2 => absurd h_2 (by decide))
  refine g_iload_n rfl ?_
  refine g_bipush (v := 13) bk_13 ?_
  refine g_icmp_le rfl L_X8_dancersTurn_90 (fun h_3 => absurd h_3 (by decide)) (fun h_3 => ?_)
  refine g_aload_n rfl ?_
  refine g_iconst (v := 1) ik_1 ?_
  refine g_iload_n rfl ?_
  refine g_iconst (v := 2) ik_2 ?_
  refine g_irem (by decide) ?_
  rw [show nI (q) - nI (q) / 2 * 2 = nI (q % 2) from pk_rem (d := 2) (by omega) (by omega) (by omega)]
  refine g_iadd ?_
  rw [show (1 : Int32) + nI ((q % 2)) = nI (1 + (q % 2)) from nI_add 1 _]
  refine g_callV (as := [_]) mk_X8_weeksGo ml_X8_175 im_X8_weeksGo se_X8_weeksGo rfl rfl ⟨⟨nle rfl, nle rfl⟩, nle rfl, nle rfl⟩ hm.1 rfl rfl rfl (nle rfl) ?_
  refine m_weeksGo hm hI (1 + q % 2) rfl (by omega) (fun u hu eu => ?_)
  refine kq_s ?_
  refine g_pop rfl ?_
  refine g_goto rfl L_X8_dancersTurn_168 ?_
  refine g_vret rfl (nle rfl) (nle rfl) ?_
  have e0 : tuK 14 q (M (m + 1)) = wkC (1 + q % 2) (M (m + 1)) := rfl
  exact qeqv hQ (by rw [e0])
set_option maxRecDepth 100000 in
set_option maxHeartbeats 4000000 in
theorem ct_X8_dancersTurn_15 {X : Xs} {κ : Kp} {M : Mem} {Q : Rs → Kp → Mem → Prop} {m : Nat} (hm : IsMod κ.2.1 m) {B : Nat} (hI : IR B (M (m + 1))) {q : Nat} (hq : q < 2 ^ 31) (hQ : Q (.inl none) κ (sR M (m + 1) (tuK 15 q (M (m + 1))))) : Ct X m_X8_dancersTurn [.ref m, .int (nI 15), .int (nI q)] κ M Q := by
  refine ct_of B_X8_dancersTurn_0 pn_X8 rfl (nle rfl) L_X8_dancersTurn_0 ?_
  refine g_iload_n rfl ?_
  refine g_bipush (v := 12) bk_12 ?_
  refine g_irem (by decide) ?_
  rw [show nI (q) - nI (q) / 12 * 12 = nI (q % 12) from pk_rem (d := 12) (by omega) (by omega) (by omega)]
  refine g_istore_n (nle rfl) ?_
  refine g_iload_n rfl ?_
  refine g_bipush (v := 16) bk_16 ?_
  refine g_idiv (by decide) ?_
  rw [show nI (q) / 16 = nI (q / 16) from pk_div (d := 16) (by omega) (by omega) (by omega)]
  refine g_bipush (v := 10) bk_10 ?_
  refine g_irem (by decide) ?_
  rw [show nI ((q / 16)) - nI ((q / 16)) / 10 * 10 = nI ((q / 16) % 10) from pk_rem (d := 10) (by omega) (by omega) (by omega)]
  refine g_istore (nle rfl) ?_
  refine g_iload_n rfl ?_
  refine g_bipush (v := 9) bk_9 ?_
  refine g_icmp_ge rfl L_X8_dancersTurn_37 (fun h_1 => ?_) (fun h_1 => absurd h_1 (by decide))
  refine g_iload_n rfl ?_
  refine g_bipush (v := 13) bk_13 ?_
  refine g_icmp_ge rfl L_X8_dancersTurn_71 (fun h_2 => ?_) (fun h_2 => absurd h_2 (by decide))
  refine g_iload_n rfl ?_
  refine g_bipush (v := 13) bk_13 ?_
  refine g_icmp_le rfl L_X8_dancersTurn_90 (fun h_3 => absurd h_3 (by decide)) (fun h_3 => ?_)
  refine g_aload_n rfl ?_
  refine g_iconst (v := 1) ik_1 ?_
  refine g_iload_n rfl ?_
  refine g_iconst (v := 2) ik_2 ?_
  refine g_irem (by decide) ?_
  rw [show nI (q) - nI (q) / 2 * 2 = nI (q % 2) from pk_rem (d := 2) (by omega) (by omega) (by omega)]
  refine g_iadd ?_
  rw [show (1 : Int32) + nI ((q % 2)) = nI (1 + (q % 2)) from nI_add 1 _]
  refine g_callV (as := [_]) mk_X8_weeksGo ml_X8_175 im_X8_weeksGo se_X8_weeksGo rfl rfl ⟨⟨nle rfl, nle rfl⟩, nle rfl, nle rfl⟩ hm.1 rfl rfl rfl (nle rfl) ?_
  refine m_weeksGo hm hI (1 + q % 2) rfl (by omega) (fun u hu eu => ?_)
  refine kq_s ?_
  refine g_pop rfl ?_
  refine g_goto rfl L_X8_dancersTurn_168 ?_
  refine g_vret rfl (nle rfl) (nle rfl) ?_
  have e0 : tuK 15 q (M (m + 1)) = wkC (1 + q % 2) (M (m + 1)) := rfl
  exact qeqv hQ (by rw [e0])
theorem ct_X8_dancersTurn {X : Xs} {κ : Kp} {M : Mem} {Q : Rs → Kp → Mem → Prop} {m : Nat} (hm : IsMod κ.2.1 m) {B : Nat} (hI : IR B (M (m + 1))) {q : Nat} (hq : q < 2 ^ 31) {k : Nat} (hk : 7 ≤ k) (hk2 : k < 16) (hQ : Q (.inl none) κ (sR M (m + 1) (tuK k q (M (m + 1))))) : Ct X m_X8_dancersTurn [.ref m, .int (nI k), .int (nI q)] κ M Q := by
  have h : k = 7 ∨ k = 8 ∨ k = 9 ∨ k = 10 ∨ k = 11 ∨ k = 12 ∨ k = 13 ∨ k = 14 ∨ k = 15 := by omega
  rcases h with rfl | rfl | rfl | rfl | rfl | rfl | rfl | rfl | rfl
  · exact ct_X8_dancersTurn_7 hm hI hq hQ
  · exact ct_X8_dancersTurn_8 hm hI hq hQ
  · exact ct_X8_dancersTurn_9 hm hI hq hQ
  · exact ct_X8_dancersTurn_10 hm hI hq hQ
  · exact ct_X8_dancersTurn_11 hm hI hq hQ
  · exact ct_X8_dancersTurn_12 hm hI hq hQ
  · exact ct_X8_dancersTurn_13 hm hI hq hQ
  · exact ct_X8_dancersTurn_14 hm hI hq hQ
  · exact ct_X8_dancersTurn_15 hm hI hq hQ
