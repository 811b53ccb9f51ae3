set_option maxRecDepth 100000 in
set_option maxHeartbeats 4000000 in
theorem ct_X7_tryLeaving {X : Xs} {κ : Kp} {M : Mem} {Q : Rs → Kp → Mem → Prop} {x : Nat} (hx : IsDF κ.2.1 x) {B : Nat} {s : Nat → Int32} (hS : SR B M (x + 41) s) {q : Nat} (hq : q < 2 ^ 31) (hQ : ∀ M', SR B M' (x + 41) (tu13 q s) → FrS M M' (x + 41) → Q (.inl none) κ M') : Ct X m_X7_tryLeaving [.ref x, .int (nI q)] κ M Q := by
  refine ct_of B_X7_tryLeaving_0 pn_X7 rfl (nle rfl) L_X7_tryLeaving_0 ?_
  refine g_iload_n rfl ?_
  refine g_sipush (v := 256) sk_256 ?_
  refine g_idiv (by decide) ?_
  rw [show nI (q) / 256 = nI (q / 256) from pk_div (d := 256) (by omega) (by omega) (by omega)]
  refine g_iconst (v := 4) ik_4 ?_
  refine g_irem (by decide) ?_
  rw [show nI ((q / 256)) - nI ((q / 256)) / 4 * 4 = nI ((q / 256) % 4) from pk_rem (d := 4) (by omega) (by omega) (by omega)]
  refine g_if_ne rfl L_X7_tryLeaving_32 (fun h_1 => ?_) (fun h_1 => ?_)
  · have c1 : ¬ q / 256 % 4 = 0 := fun z => h_1 (by rw [z]; rfl)
    refine g_iload_n rfl ?_
    refine g_sipush (v := 1024) sk_1024 ?_
    refine g_idiv (by decide) ?_
    rw [show nI (q) / 1024 = nI (q / 1024) from pk_div (d := 1024) (by omega) (by omega) (by omega)]
    refine g_iconst (v := 4) ik_4 ?_
    refine g_irem (by decide) ?_
    rw [show nI ((q / 1024)) - nI ((q / 1024)) / 4 * 4 = nI ((q / 1024) % 4) from pk_rem (d := 4) (by omega) (by omega) (by omega)]
    refine g_if_ne rfl L_X7_tryLeaving_54 (fun h_2 => ?_) (fun h_2 => ?_)
    · have c2 : ¬ q / 1024 % 4 = 0 := fun z => h_2 (by rw [z]; rfl)
      refine g_vret rfl (nle rfl) (nle rfl) ?_
      have e : tu13 q s = s := ((if_neg c1).trans (if_neg c2))
      exact hQ M (by rw [e]; exact hS) (FrS.rf M _)
    · have c2 : q / 1024 % 4 = 0 := (nI_eq (a := q / 1024 % 4) (b := 0) (by omega) (by omega)).mp h_2
      refine g_aload_n rfl ?_
      refine g_getR (w := (x + 41)) fl_X7_23 rfl hx.1 rfl ?_
      refine g_iload_n rfl ?_
      refine g_bipush (v := 10) bk_10 ?_
      refine g_irem (by decide) ?_
      rw [show nI (q) - nI (q) / 10 * 10 = nI (q % 10) from pk_rem (d := 10) (by omega) (by omega) (by omega)]
      refine g_callV (as := [_]) mk_X4_dropLesson ml_X7_277 im_X4_dropLesson se_X4_dropLesson rfl rfl ⟨⟨nle rfl, nle rfl⟩, nle rfl, nle rfl⟩ hx.2.2.2.1.s0 rfl rfl rfl (nle rfl) ?_
      refine k_dropLesson hx.2.2.2.1 hS (fun hg => ?_) (fun hg M1 hS1 hF1 => ?_)
      · refine kq_s ?_
        refine g_pop rfl ?_
        refine g_fall rfl L_X7_tryLeaving_54 ?_
        refine g_vret rfl (nle rfl) (nle rfl) ?_
        have e : tu13 q s = s := (((if_neg c1).trans (if_pos c2)) : tu13 q s = tu13b q s).trans (if_neg (by rw [hg]; decide))
        exact hQ M (by rw [e]; exact hS) (FrS.rf M _)
      · refine kq_s ?_
        refine g_pop rfl ?_
        refine g_fall rfl L_X7_tryLeaving_54 ?_
        refine g_vret rfl (nle rfl) (nle rfl) ?_
        have e : tu13 q s = drS s (cN s 2) (tn (nI (q % 10))) := (((if_neg c1).trans (if_pos c2)) : tu13 q s = tu13b q s).trans (if_pos hg)
        exact hQ M1 (by rw [e]; exact hS1) hF1
  · have c1 : q / 256 % 4 = 0 := (nI_eq (a := q / 256 % 4) (b := 0) (by omega) (by omega)).mp h_1
    refine g_aload_n rfl ?_
    refine g_getR (w := (x + 41)) fl_X7_23 rfl hx.1 rfl ?_
    refine g_iload_n rfl ?_
    refine g_bipush (v := 12) bk_12 ?_
    refine g_irem (by decide) ?_
    rw [show nI (q) - nI (q) / 12 * 12 = nI (q % 12) from pk_rem (d := 12) (by omega) (by omega) (by omega)]
    refine g_iload_n rfl ?_
    refine g_bipush (v := 16) bk_16 ?_
    refine g_idiv (by decide) ?_
    rw [show nI (q) / 16 = nI (q / 16) from pk_div (d := 16) (by omega) (by omega) (by omega)]
    refine g_bipush (v := 10) bk_10 ?_
    refine g_irem (by decide) ?_
    rw [show nI ((q / 16)) - nI ((q / 16)) / 10 * 10 = nI ((q / 16) % 10) from pk_rem (d := 10) (by omega) (by omega) (by omega)]
    refine g_callV (as := [_, _]) mk_X4_giveUpSeat ml_X7_296 im_X4_giveUpSeat se_X4_giveUpSeat rfl rfl ⟨⟨nle rfl, nle rfl⟩, nle rfl, nle rfl⟩ hx.2.2.2.1.s0 rfl rfl rfl (nle rfl) ?_
    refine k_giveUpSeat hx.2.2.2.1 hS (fun hg => ?_) (fun hg M1 hS1 hF1 => ?_)
    · refine kq_s ?_
      refine g_pop rfl ?_
      refine g_goto rfl L_X7_tryLeaving_54 ?_
      refine g_vret rfl (nle rfl) (nle rfl) ?_
      have e : tu13 q s = s := ((if_pos c1) : tu13 q s = tu13a q s).trans (if_neg (by rw [hg]; decide))
      exact hQ M (by rw [e]; exact hS) (FrS.rf M _)
    · refine kq_s ?_
      refine g_pop rfl ?_
      refine g_goto rfl L_X7_tryLeaving_54 ?_
      refine g_vret rfl (nle rfl) (nle rfl) ?_
      have e : tu13 q s = leS s (nI (q % 12)) (tn (nI (q / 16 % 10))) := ((if_pos c1) : tu13 q s = tu13a q s).trans (if_pos hg)
      exact hQ M1 (by rw [e]; exact hS1) hF1
theorem tu13_6 {B q : Nat} {s : Nat → Int32} (hI : IR B s) : tu13 q s 6 = s 6 := by
  unfold tu13
  split
  · unfold tu13a
    split
    · next hg => exact (kp_le hI hg).2
    · rfl
  · split
    · unfold tu13b
      split
      · next hg => exact (kp_dr hI hg).2
      · rfl
    · rfl
set_option maxRecDepth 100000 in
set_option maxHeartbeats 4000000 in
theorem ct_X7_tryTurn {X : Xs} {κ : Kp} {M : Mem} {Q : Rs → Kp → Mem → Prop} {x : Nat} (hx : IsDF κ.2.1 x) {B : Nat} {s : Nat → Int32} (hS : SR B M (x + 41) s) {r : Nat} (hr : r < 2 ^ 31) (hQ : ∀ M', SR (B + 2) M' (x + 41) (tuK (r % 16) (r / 16) s) → FrS M M' (x + 41) → ∀ u, u ≤ 240 → tuK (r % 16) (r / 16) s 6 = s 6 + nI u → Q (.inl (some (.int (nI u)))) κ M') : Ct X m_X7_tryTurn [.ref x, .int (nI r)] κ M Q := by
  refine ct_of B_X7_tryTurn_0 pn_X7 rfl (nle rfl) L_X7_tryTurn_0 ?_
  refine g_iload_n rfl ?_
  refine g_bipush (v := 16) bk_16 ?_
  refine g_idiv (by decide) ?_
  rw [show nI (r) / 16 = nI (r / 16) from pk_div (d := 16) (by omega) (by omega) (by omega)]
  refine g_istore_n (nle rfl) ?_
  refine g_iload_n rfl ?_
  refine g_bipush (v := 16) bk_16 ?_
  refine g_irem (by decide) ?_
  rw [show nI (r) - nI (r) / 16 * 16 = nI (r % 16) from pk_rem (d := 16) (by omega) (by omega) (by omega)]
  rcases sw_cases (nI (r % 16)) 0 14 (nle rfl) with ⟨j_9, hj_9, hx_9⟩ | ho_9
  · have hc_9 : j_9 = 0 ∨ j_9 = 1 ∨ j_9 = 2 ∨ j_9 = 3 ∨ j_9 = 4 ∨ j_9 = 5 ∨ j_9 = 6 ∨ j_9 = 7 ∨ j_9 = 8 ∨ j_9 = 9 ∨ j_9 = 10 ∨ j_9 = 11 ∨ j_9 = 12 ∨ j_9 = 13 := by omega
    rcases hc_9 with rfl | rfl | rfl | rfl | rfl | rfl | rfl | rfl | rfl | rfl | rfl | rfl | rfl | rfl
    · replace hx_9 : (nI (r % 16)) = 0 := hx_9.trans (by decide)
      refine g_tabIn (off := 71) (by rw [hx_9]; decide) (by rw [hx_9]; decide) (by rw [hx_9]; decide) rfl L_X7_tryTurn_80 ?_
      have hk : r % 16 = 0 := (nI_eq (a := r % 16) (b := 0) (by omega) (by omega)).mp hx_9
      refine g_aload_n rfl ?_
      refine g_getR (w := (x + 41)) fl_X7_23 rfl hx.1 rfl ?_
      refine g_iconst (v := 1) ik_1 ?_
      refine g_iload_n rfl ?_
      refine g_bipush (v := 9) bk_9 ?_
      refine g_irem (by decide) ?_
      rw [show nI ((r / 16)) - nI ((r / 16)) / 9 * 9 = nI ((r / 16) % 9) from pk_rem (d := 9) (by omega) (by omega) (by omega)]
      refine g_iadd ?_
      rw [show (1 : Int32) + nI (((r / 16) % 9)) = nI (1 + ((r / 16) % 9)) from nI_add 1 _]
      refine g_iload_n rfl ?_
      refine g_bipush (v := 16) bk_16 ?_
      refine g_idiv (by decide) ?_
      rw [show nI ((r / 16)) / 16 = nI ((r / 16) / 16) from pk_div (d := 16) (by omega) (by omega) (by omega)]
      refine g_iconst (v := 5) ik_5 ?_
      refine g_irem (by decide) ?_
      rw [show nI (((r / 16) / 16)) - nI (((r / 16) / 16)) / 5 * 5 = nI (((r / 16) / 16) % 5) from pk_rem (d := 5) (by omega) (by omega) (by omega)]
      refine g_iload_n rfl ?_
      refine g_sipush (v := 128) sk_128 ?_
      refine g_idiv (by decide) ?_
      rw [show nI ((r / 16)) / 128 = nI ((r / 16) / 128) from pk_div (d := 128) (by omega) (by omega) (by omega)]
      refine g_bipush (v := 61) bk_61 ?_
      refine g_irem (by decide) ?_
      rw [show nI (((r / 16) / 128)) - nI (((r / 16) / 128)) / 61 * 61 = nI (((r / 16) / 128) % 61) from pk_rem (d := 61) (by omega) (by omega) (by omega)]
      refine g_iconst (v := 1) ik_1 ?_
      refine g_iload_n rfl ?_
      refine g_sipush (v := 8192) sk_8192 ?_
      refine g_idiv (by decide) ?_
      rw [show nI ((r / 16)) / 8192 = nI ((r / 16) / 8192) from pk_div (d := 8192) (by omega) (by omega) (by omega)]
      refine g_bipush (v := 30) bk_30 ?_
      refine g_irem (by decide) ?_
      rw [show nI (((r / 16) / 8192)) - nI (((r / 16) / 8192)) / 30 * 30 = nI (((r / 16) / 8192) % 30) from pk_rem (d := 30) (by omega) (by omega) (by omega)]
      refine g_iadd ?_
      rw [show (1 : Int32) + nI ((((r / 16) / 8192) % 30)) = nI (1 + (((r / 16) / 8192) % 30)) from nI_add 1 _]
      refine g_callV (as := [_, _, _, _]) mk_X4_addFloor ml_X7_258 im_X4_addFloor se_X4_addFloor rfl rfl ⟨⟨nle rfl, nle rfl⟩, nle rfl, nle rfl⟩ hx.2.2.2.1.s0 rfl rfl rfl (nle rfl) ?_
      refine k_addFloor hx.2.2.2.1 hS (bdq (by omega) (by omega)) (bdq (by omega) (by omega)) (bdq (by omega) (by omega)) (fun hg => ?_) (fun hg n hn en M1 hS1 hF1 => ?_)
      · refine kq_s ?_
        refine g_pop rfl ?_
        refine g_iconst (v := 0) ik_0 ?_
        refine g_iret rfl (nle rfl) (nle rfl) ?_
        have e0 : tuK (r % 16) (r / 16) s = tu0 (r / 16) s := if_pos hk
        have e : tuK (r % 16) (r / 16) s = s := e0.trans (if_neg (by rw [hg]; decide))
        exact hQ M (by rw [e]; exact hS.up (by omega)) (FrS.rf M _) 0 (by omega) (by rw [e]; exact (add_z _).symm)
      · refine kq_s ?_
        refine g_pop rfl ?_
        refine g_iconst (v := 0) ik_0 ?_
        refine g_iret rfl (nle rfl) (nle rfl) ?_
        have e0 : tuK (r % 16) (r / 16) s = tu0 (r / 16) s := if_pos hk
        have e : tuK (r % 16) (r / 16) s = flS s (cN s 0) (nI (1 + r / 16 % 9)) (nI (r / 16 / 16 % 5)) (nI (r / 16 / 128 % 61)) (nI (1 + r / 16 / 8192 % 30)) := e0.trans (if_pos hg)
        have k6 := (kp_fl (a := nI (1 + r / 16 % 9)) (b := nI (r / 16 / 16 % 5)) (c := nI (r / 16 / 128 % 61)) (d := nI (1 + r / 16 / 8192 % 30)) hS.ir hg (bdq (by omega) (by omega)) (bdq (by omega) (by omega)) (bdq (by omega) (by omega))).2
        exact hQ M1 (by rw [e]; exact hS1.up (by omega)) hF1 0 (by omega) (by rw [e, k6]; exact (add_z _).symm)
    · replace hx_9 : (nI (r % 16)) = 1 := hx_9.trans (by decide)
      refine g_tabIn (off := 111) (by rw [hx_9]; decide) (by rw [hx_9]; decide) (by rw [hx_9]; decide) rfl L_X7_tryTurn_120 ?_
      have hk : r % 16 = 1 := (nI_eq (a := r % 16) (b := 1) (by omega) (by omega)).mp hx_9
      refine g_aload_n rfl ?_
      refine g_getR (w := (x + 41)) fl_X7_23 rfl hx.1 rfl ?_
      refine g_iload_n rfl ?_
      refine g_bipush (v := 16) bk_16 ?_
      refine g_irem (by decide) ?_
      rw [show nI ((r / 16)) - nI ((r / 16)) / 16 * 16 = nI ((r / 16) % 16) from pk_rem (d := 16) (by omega) (by omega) (by omega)]
      refine g_iconst (v := 1) ik_1 ?_
      refine g_iload_n rfl ?_
      refine g_bipush (v := 16) bk_16 ?_
      refine g_idiv (by decide) ?_
      rw [show nI ((r / 16)) / 16 = nI ((r / 16) / 16) from pk_div (d := 16) (by omega) (by omega) (by omega)]
      refine g_iconst (v := 5) ik_5 ?_
      refine g_irem (by decide) ?_
      rw [show nI (((r / 16) / 16)) - nI (((r / 16) / 16)) / 5 * 5 = nI (((r / 16) / 16) % 5) from pk_rem (d := 5) (by omega) (by omega) (by omega)]
      refine g_iadd ?_
      rw [show (1 : Int32) + nI ((((r / 16) / 16) % 5)) = nI (1 + (((r / 16) / 16) % 5)) from nI_add 1 _]
      refine g_callV (as := [_, _]) mk_X4_addTeacher ml_X7_262 im_X4_addTeacher se_X4_addTeacher rfl rfl ⟨⟨nle rfl, nle rfl⟩, nle rfl, nle rfl⟩ hx.2.2.2.1.s0 rfl rfl rfl (nle rfl) ?_
      refine k_addTeacher hx.2.2.2.1 hS (fun hg => ?_) (fun hg n hn en M1 hS1 hF1 => ?_)
      · refine kq_s ?_
        refine g_pop rfl ?_
        refine g_iconst (v := 0) ik_0 ?_
        refine g_iret rfl (nle rfl) (nle rfl) ?_
        have e0 : tuK (r % 16) (r / 16) s = tu1 (r / 16) s := (if_neg (by omega)).trans (if_pos hk)
        have e : tuK (r % 16) (r / 16) s = s := e0.trans (if_neg (by rw [hg]; decide))
        exact hQ M (by rw [e]; exact hS.up (by omega)) (FrS.rf M _) 0 (by omega) (by rw [e]; exact (add_z _).symm)
      · refine kq_s ?_
        refine g_pop rfl ?_
        refine g_iconst (v := 0) ik_0 ?_
        refine g_iret rfl (nle rfl) (nle rfl) ?_
        have e0 : tuK (r % 16) (r / 16) s = tu1 (r / 16) s := (if_neg (by omega)).trans (if_pos hk)
        have e : tuK (r % 16) (r / 16) s = teS s (cN s 1) (nI (r / 16 % 16)) (nI (1 + r / 16 / 16 % 5)) := e0.trans (if_pos hg)
        have k6 := (kp_te (a := nI (r / 16 % 16)) (b := nI (1 + r / 16 / 16 % 5)) hS.ir hg).2
        exact hQ M1 (by rw [e]; exact hS1.up (by omega)) hF1 0 (by omega) (by rw [e, k6]; exact (add_z _).symm)
    · replace hx_9 : (nI (r % 16)) = 2 := hx_9.trans (by decide)
      refine g_tabIn (off := 133) (by rw [hx_9]; decide) (by rw [hx_9]; decide) (by rw [hx_9]; decide) rfl L_X7_tryTurn_142 ?_
      have hk : r % 16 = 2 := (nI_eq (a := r % 16) (b := 2) (by omega) (by omega)).mp hx_9
      refine g_aload_n rfl ?_
      refine g_getR (w := (x + 41)) fl_X7_23 rfl hx.1 rfl ?_
      refine g_iload_n rfl ?_
      refine g_iconst (v := 4) ik_4 ?_
      refine g_irem (by decide) ?_
      rw [show nI ((r / 16)) - nI ((r / 16)) / 4 * 4 = nI ((r / 16) % 4) from pk_rem (d := 4) (by omega) (by omega) (by omega)]
      refine g_iconst (v := 1) ik_1 ?_
      refine g_iload_n rfl ?_
      refine g_iconst (v := 4) ik_4 ?_
      refine g_idiv (by decide) ?_
      rw [show nI ((r / 16)) / 4 = nI ((r / 16) / 4) from pk_div (d := 4) (by omega) (by omega) (by omega)]
      refine g_iconst (v := 5) ik_5 ?_
      refine g_irem (by decide) ?_
      rw [show nI (((r / 16) / 4)) - nI (((r / 16) / 4)) / 5 * 5 = nI (((r / 16) / 4) % 5) from pk_rem (d := 5) (by omega) (by omega) (by omega)]
      refine g_iadd ?_
      rw [show (1 : Int32) + nI ((((r / 16) / 4) % 5)) = nI (1 + (((r / 16) / 4) % 5)) from nI_add 1 _]
      refine g_iload_n rfl ?_
      refine g_bipush (v := 32) bk_32 ?_
      refine g_idiv (by decide) ?_
      rw [show nI ((r / 16)) / 32 = nI ((r / 16) / 32) from pk_div (d := 32) (by omega) (by omega) (by omega)]
      refine g_iconst (v := 4) ik_4 ?_
      refine g_irem (by decide) ?_
      rw [show nI (((r / 16) / 32)) - nI (((r / 16) / 32)) / 4 * 4 = nI (((r / 16) / 32) % 4) from pk_rem (d := 4) (by omega) (by omega) (by omega)]
      refine g_iload_n rfl ?_
      refine g_sipush (v := 128) sk_128 ?_
      refine g_idiv (by decide) ?_
      rw [show nI ((r / 16)) / 128 = nI ((r / 16) / 128) from pk_div (d := 128) (by omega) (by omega) (by omega)]
      refine g_iconst (v := 5) ik_5 ?_
      refine g_irem (by decide) ?_
      rw [show nI (((r / 16) / 128)) - nI (((r / 16) / 128)) / 5 * 5 = nI (((r / 16) / 128) % 5) from pk_rem (d := 5) (by omega) (by omega) (by omega)]
      refine g_iload_n rfl ?_
      refine g_sipush (v := 1024) sk_1024 ?_
      refine g_idiv (by decide) ?_
      rw [show nI ((r / 16)) / 1024 = nI ((r / 16) / 1024) from pk_div (d := 1024) (by omega) (by omega) (by omega)]
      refine g_bipush (v := 6) bk_6 ?_
      refine g_irem (by decide) ?_
      rw [show nI (((r / 16) / 1024)) - nI (((r / 16) / 1024)) / 6 * 6 = nI (((r / 16) / 1024) % 6) from pk_rem (d := 6) (by omega) (by omega) (by omega)]
      refine g_iload_n rfl ?_
      refine g_sipush (v := 8192) sk_8192 ?_
      refine g_idiv (by decide) ?_
      rw [show nI ((r / 16)) / 8192 = nI ((r / 16) / 8192) from pk_div (d := 8192) (by omega) (by omega) (by omega)]
      refine g_bipush (v := 6) bk_6 ?_
      refine g_irem (by decide) ?_
      rw [show nI (((r / 16) / 8192)) - nI (((r / 16) / 8192)) / 6 * 6 = nI (((r / 16) / 8192) % 6) from pk_rem (d := 6) (by omega) (by omega) (by omega)]
      refine g_callV (as := [_, _, _, _, _, _]) mk_X4_addLesson ml_X7_270 im_X4_addLesson se_X4_addLesson rfl rfl ⟨⟨nle rfl, nle rfl⟩, nle rfl, nle rfl⟩ hx.2.2.2.1.s0 rfl rfl rfl (nle rfl) ?_
      refine k_addLesson hx.2.2.2.1 hS (bdq (by omega) (by omega)) (fun hg => ?_) (fun hg hw => ?_) (fun hg hw M1 hS1 hF1 => ?_)
      · refine kq_s ?_
        refine g_pop rfl ?_
        refine g_iconst (v := 0) ik_0 ?_
        refine g_iret rfl (nle rfl) (nle rfl) ?_
        have e0 : tuK (r % 16) (r / 16) s = tu2 (r / 16) s := (if_neg (by omega)).trans ((if_neg (by omega)).trans (if_pos (by omega)))
        have e : tuK (r % 16) (r / 16) s = s := e0.trans (if_neg (by rw [hg]; decide))
        exact hQ M (by rw [e]; exact hS.up (by omega)) (FrS.rf M _) 0 (by omega) (by rw [e]; exact (add_z _).symm)
      · refine kq_s ?_
        refine g_pop rfl ?_
        refine g_iconst (v := 0) ik_0 ?_
        refine g_iret rfl (nle rfl) (nle rfl) ?_
        have e0 : tuK (r % 16) (r / 16) s = tu2 (r / 16) s := (if_neg (by omega)).trans ((if_neg (by omega)).trans (if_pos (by omega)))
        have e : tuK (r % 16) (r / 16) s = upd s 9 (s 9 + 1) := e0.trans ((if_pos hg).trans (if_neg hw))
        exact hQ M (by rw [e]; exact (hS.up (by omega)).r9) (FrS.rf M _) 0 (by omega) (by rw [e, upd_ne (by omega)]; exact (add_z _).symm)
      · refine kq_s ?_
        refine g_pop rfl ?_
        refine g_iconst (v := 0) ik_0 ?_
        refine g_iret rfl (nle rfl) (nle rfl) ?_
        have e0 : tuK (r % 16) (r / 16) s = tu2 (r / 16) s := (if_neg (by omega)).trans ((if_neg (by omega)).trans (if_pos (by omega)))
        have e : tuK (r % 16) (r / 16) s = clS s (cN s 2) (nI (r / 16 % 4)) (nI (1 + r / 16 / 4 % 5)) (nI (r / 16 / 32 % 4)) (nI (r / 16 / 128 % 5)) (nI (r / 16 / 1024 % 6)) (nI (r / 16 / 8192 % 6)) := e0.trans ((if_pos hg).trans (if_pos hw))
        have k6 := (kp_cl (st := nI (r / 16 % 4)) (lv := nI (1 + r / 16 / 4 % 5)) (dy := nI (r / 16 / 1024 % 6)) (hr_ := nI (r / 16 / 8192 % 6)) hS.ir hg (bdq (by omega) (by omega))).2
        exact hQ M1 (by rw [e]; exact hS1.up (by omega)) hF1 0 (by omega) (by rw [e, k6]; exact (add_z _).symm)
    · replace hx_9 : (nI (r % 16)) = 3 := hx_9.trans (by decide)
      refine g_tabIn (off := 133) (by rw [hx_9]; decide) (by rw [hx_9]; decide) (by rw [hx_9]; decide) rfl L_X7_tryTurn_142 ?_
      have hk : r % 16 = 3 := (nI_eq (a := r % 16) (b := 3) (by omega) (by omega)).mp hx_9
      refine g_aload_n rfl ?_
      refine g_getR (w := (x + 41)) fl_X7_23 rfl hx.1 rfl ?_
      refine g_iload_n rfl ?_
      refine g_iconst (v := 4) ik_4 ?_
      refine g_irem (by decide) ?_
      rw [show nI ((r / 16)) - nI ((r / 16)) / 4 * 4 = nI ((r / 16) % 4) from pk_rem (d := 4) (by omega) (by omega) (by omega)]
      refine g_iconst (v := 1) ik_1 ?_
      refine g_iload_n rfl ?_
      refine g_iconst (v := 4) ik_4 ?_
      refine g_idiv (by decide) ?_
      rw [show nI ((r / 16)) / 4 = nI ((r / 16) / 4) from pk_div (d := 4) (by omega) (by omega) (by omega)]
      refine g_iconst (v := 5) ik_5 ?_
      refine g_irem (by decide) ?_
      rw [show nI (((r / 16) / 4)) - nI (((r / 16) / 4)) / 5 * 5 = nI (((r / 16) / 4) % 5) from pk_rem (d := 5) (by omega) (by omega) (by omega)]
      refine g_iadd ?_
      rw [show (1 : Int32) + nI ((((r / 16) / 4) % 5)) = nI (1 + (((r / 16) / 4) % 5)) from nI_add 1 _]
      refine g_iload_n rfl ?_
      refine g_bipush (v := 32) bk_32 ?_
      refine g_idiv (by decide) ?_
      rw [show nI ((r / 16)) / 32 = nI ((r / 16) / 32) from pk_div (d := 32) (by omega) (by omega) (by omega)]
      refine g_iconst (v := 4) ik_4 ?_
      refine g_irem (by decide) ?_
      rw [show nI (((r / 16) / 32)) - nI (((r / 16) / 32)) / 4 * 4 = nI (((r / 16) / 32) % 4) from pk_rem (d := 4) (by omega) (by omega) (by omega)]
      refine g_iload_n rfl ?_
      refine g_sipush (v := 128) sk_128 ?_
      refine g_idiv (by decide) ?_
      rw [show nI ((r / 16)) / 128 = nI ((r / 16) / 128) from pk_div (d := 128) (by omega) (by omega) (by omega)]
      refine g_iconst (v := 5) ik_5 ?_
      refine g_irem (by decide) ?_
      rw [show nI (((r / 16) / 128)) - nI (((r / 16) / 128)) / 5 * 5 = nI (((r / 16) / 128) % 5) from pk_rem (d := 5) (by omega) (by omega) (by omega)]
      refine g_iload_n rfl ?_
      refine g_sipush (v := 1024) sk_1024 ?_
      refine g_idiv (by decide) ?_
      rw [show nI ((r / 16)) / 1024 = nI ((r / 16) / 1024) from pk_div (d := 1024) (by omega) (by omega) (by omega)]
      refine g_bipush (v := 6) bk_6 ?_
      refine g_irem (by decide) ?_
      rw [show nI (((r / 16) / 1024)) - nI (((r / 16) / 1024)) / 6 * 6 = nI (((r / 16) / 1024) % 6) from pk_rem (d := 6) (by omega) (by omega) (by omega)]
      refine g_iload_n rfl ?_
      refine g_sipush (v := 8192) sk_8192 ?_
      refine g_idiv (by decide) ?_
      rw [show nI ((r / 16)) / 8192 = nI ((r / 16) / 8192) from pk_div (d := 8192) (by omega) (by omega) (by omega)]
      refine g_bipush (v := 6) bk_6 ?_
      refine g_irem (by decide) ?_
      rw [show nI (((r / 16) / 8192)) - nI (((r / 16) / 8192)) / 6 * 6 = nI (((r / 16) / 8192) % 6) from pk_rem (d := 6) (by omega) (by omega) (by omega)]
      refine g_callV (as := [_, _, _, _, _, _]) mk_X4_addLesson ml_X7_270 im_X4_addLesson se_X4_addLesson rfl rfl ⟨⟨nle rfl, nle rfl⟩, nle rfl, nle rfl⟩ hx.2.2.2.1.s0 rfl rfl rfl (nle rfl) ?_
      refine k_addLesson hx.2.2.2.1 hS (bdq (by omega) (by omega)) (fun hg => ?_) (fun hg hw => ?_) (fun hg hw M1 hS1 hF1 => ?_)
      · refine kq_s ?_
        refine g_pop rfl ?_
        refine g_iconst (v := 0) ik_0 ?_
        refine g_iret rfl (nle rfl) (nle rfl) ?_
        have e0 : tuK (r % 16) (r / 16) s = tu2 (r / 16) s := (if_neg (by omega)).trans ((if_neg (by omega)).trans (if_pos (by omega)))
        have e : tuK (r % 16) (r / 16) s = s := e0.trans (if_neg (by rw [hg]; decide))
        exact hQ M (by rw [e]; exact hS.up (by omega)) (FrS.rf M _) 0 (by omega) (by rw [e]; exact (add_z _).symm)
      · refine kq_s ?_
        refine g_pop rfl ?_
        refine g_iconst (v := 0) ik_0 ?_
        refine g_iret rfl (nle rfl) (nle rfl) ?_
        have e0 : tuK (r % 16) (r / 16) s = tu2 (r / 16) s := (if_neg (by omega)).trans ((if_neg (by omega)).trans (if_pos (by omega)))
        have e : tuK (r % 16) (r / 16) s = upd s 9 (s 9 + 1) := e0.trans ((if_pos hg).trans (if_neg hw))
        exact hQ M (by rw [e]; exact (hS.up (by omega)).r9) (FrS.rf M _) 0 (by omega) (by rw [e, upd_ne (by omega)]; exact (add_z _).symm)
      · refine kq_s ?_
        refine g_pop rfl ?_
        refine g_iconst (v := 0) ik_0 ?_
        refine g_iret rfl (nle rfl) (nle rfl) ?_
        have e0 : tuK (r % 16) (r / 16) s = tu2 (r / 16) s := (if_neg (by omega)).trans ((if_neg (by omega)).trans (if_pos (by omega)))
        have e : tuK (r % 16) (r / 16) s = clS s (cN s 2) (nI (r / 16 % 4)) (nI (1 + r / 16 / 4 % 5)) (nI (r / 16 / 32 % 4)) (nI (r / 16 / 128 % 5)) (nI (r / 16 / 1024 % 6)) (nI (r / 16 / 8192 % 6)) := e0.trans ((if_pos hg).trans (if_pos hw))
        have k6 := (kp_cl (st := nI (r / 16 % 4)) (lv := nI (1 + r / 16 / 4 % 5)) (dy := nI (r / 16 / 1024 % 6)) (hr_ := nI (r / 16 / 8192 % 6)) hS.ir hg (bdq (by omega) (by omega))).2
        exact hQ M1 (by rw [e]; exact hS1.up (by omega)) hF1 0 (by omega) (by rw [e, k6]; exact (add_z _).symm)
    · replace hx_9 : (nI (r % 16)) = 4 := hx_9.trans (by decide)
      refine g_tabIn (off := 133) (by rw [hx_9]; decide) (by rw [hx_9]; decide) (by rw [hx_9]; decide) rfl L_X7_tryTurn_142 ?_
      have hk : r % 16 = 4 := (nI_eq (a := r % 16) (b := 4) (by omega) (by omega)).mp hx_9
      refine g_aload_n rfl ?_
      refine g_getR (w := (x + 41)) fl_X7_23 rfl hx.1 rfl ?_
      refine g_iload_n rfl ?_
      refine g_iconst (v := 4) ik_4 ?_
      refine g_irem (by decide) ?_
      rw [show nI ((r / 16)) - nI ((r / 16)) / 4 * 4 = nI ((r / 16) % 4) from pk_rem (d := 4) (by omega) (by omega) (by omega)]
      refine g_iconst (v := 1) ik_1 ?_
      refine g_iload_n rfl ?_
      refine g_iconst (v := 4) ik_4 ?_
      refine g_idiv (by decide) ?_
      rw [show nI ((r / 16)) / 4 = nI ((r / 16) / 4) from pk_div (d := 4) (by omega) (by omega) (by omega)]
      refine g_iconst (v := 5) ik_5 ?_
      refine g_irem (by decide) ?_
      rw [show nI (((r / 16) / 4)) - nI (((r / 16) / 4)) / 5 * 5 = nI (((r / 16) / 4) % 5) from pk_rem (d := 5) (by omega) (by omega) (by omega)]
      refine g_iadd ?_
      rw [show (1 : Int32) + nI ((((r / 16) / 4) % 5)) = nI (1 + (((r / 16) / 4) % 5)) from nI_add 1 _]
      refine g_iload_n rfl ?_
      refine g_bipush (v := 32) bk_32 ?_
      refine g_idiv (by decide) ?_
      rw [show nI ((r / 16)) / 32 = nI ((r / 16) / 32) from pk_div (d := 32) (by omega) (by omega) (by omega)]
      refine g_iconst (v := 4) ik_4 ?_
      refine g_irem (by decide) ?_
      rw [show nI (((r / 16) / 32)) - nI (((r / 16) / 32)) / 4 * 4 = nI (((r / 16) / 32) % 4) from pk_rem (d := 4) (by omega) (by omega) (by omega)]
      refine g_iload_n rfl ?_
      refine g_sipush (v := 128) sk_128 ?_
      refine g_idiv (by decide) ?_
      rw [show nI ((r / 16)) / 128 = nI ((r / 16) / 128) from pk_div (d := 128) (by omega) (by omega) (by omega)]
      refine g_iconst (v := 5) ik_5 ?_
      refine g_irem (by decide) ?_
      rw [show nI (((r / 16) / 128)) - nI (((r / 16) / 128)) / 5 * 5 = nI (((r / 16) / 128) % 5) from pk_rem (d := 5) (by omega) (by omega) (by omega)]
      refine g_iload_n rfl ?_
      refine g_sipush (v := 1024) sk_1024 ?_
      refine g_idiv (by decide) ?_
      rw [show nI ((r / 16)) / 1024 = nI ((r / 16) / 1024) from pk_div (d := 1024) (by omega) (by omega) (by omega)]
      refine g_bipush (v := 6) bk_6 ?_
      refine g_irem (by decide) ?_
      rw [show nI (((r / 16) / 1024)) - nI (((r / 16) / 1024)) / 6 * 6 = nI (((r / 16) / 1024) % 6) from pk_rem (d := 6) (by omega) (by omega) (by omega)]
      refine g_iload_n rfl ?_
      refine g_sipush (v := 8192) sk_8192 ?_
      refine g_idiv (by decide) ?_
      rw [show nI ((r / 16)) / 8192 = nI ((r / 16) / 8192) from pk_div (d := 8192) (by omega) (by omega) (by omega)]
      refine g_bipush (v := 6) bk_6 ?_
      refine g_irem (by decide) ?_
      rw [show nI (((r / 16) / 8192)) - nI (((r / 16) / 8192)) / 6 * 6 = nI (((r / 16) / 8192) % 6) from pk_rem (d := 6) (by omega) (by omega) (by omega)]
      refine g_callV (as := [_, _, _, _, _, _]) mk_X4_addLesson ml_X7_270 im_X4_addLesson se_X4_addLesson rfl rfl ⟨⟨nle rfl, nle rfl⟩, nle rfl, nle rfl⟩ hx.2.2.2.1.s0 rfl rfl rfl (nle rfl) ?_
      refine k_addLesson hx.2.2.2.1 hS (bdq (by omega) (by omega)) (fun hg => ?_) (fun hg hw => ?_) (fun hg hw M1 hS1 hF1 => ?_)
      · refine kq_s ?_
        refine g_pop rfl ?_
        refine g_iconst (v := 0) ik_0 ?_
        refine g_iret rfl (nle rfl) (nle rfl) ?_
        have e0 : tuK (r % 16) (r / 16) s = tu2 (r / 16) s := (if_neg (by omega)).trans ((if_neg (by omega)).trans (if_pos (by omega)))
        have e : tuK (r % 16) (r / 16) s = s := e0.trans (if_neg (by rw [hg]; decide))
        exact hQ M (by rw [e]; exact hS.up (by omega)) (FrS.rf M _) 0 (by omega) (by rw [e]; exact (add_z _).symm)
      · refine kq_s ?_
        refine g_pop rfl ?_
        refine g_iconst (v := 0) ik_0 ?_
        refine g_iret rfl (nle rfl) (nle rfl) ?_
        have e0 : tuK (r % 16) (r / 16) s = tu2 (r / 16) s := (if_neg (by omega)).trans ((if_neg (by omega)).trans (if_pos (by omega)))
        have e : tuK (r % 16) (r / 16) s = upd s 9 (s 9 + 1) := e0.trans ((if_pos hg).trans (if_neg hw))
        exact hQ M (by rw [e]; exact (hS.up (by omega)).r9) (FrS.rf M _) 0 (by omega) (by rw [e, upd_ne (by omega)]; exact (add_z _).symm)
      · refine kq_s ?_
        refine g_pop rfl ?_
        refine g_iconst (v := 0) ik_0 ?_
        refine g_iret rfl (nle rfl) (nle rfl) ?_
        have e0 : tuK (r % 16) (r / 16) s = tu2 (r / 16) s := (if_neg (by omega)).trans ((if_neg (by omega)).trans (if_pos (by omega)))
        have e : tuK (r % 16) (r / 16) s = clS s (cN s 2) (nI (r / 16 % 4)) (nI (1 + r / 16 / 4 % 5)) (nI (r / 16 / 32 % 4)) (nI (r / 16 / 128 % 5)) (nI (r / 16 / 1024 % 6)) (nI (r / 16 / 8192 % 6)) := e0.trans ((if_pos hg).trans (if_pos hw))
        have k6 := (kp_cl (st := nI (r / 16 % 4)) (lv := nI (1 + r / 16 / 4 % 5)) (dy := nI (r / 16 / 1024 % 6)) (hr_ := nI (r / 16 / 8192 % 6)) hS.ir hg (bdq (by omega) (by omega))).2
        exact hQ M1 (by rw [e]; exact hS1.up (by omega)) hF1 0 (by omega) (by rw [e, k6]; exact (add_z _).symm)
    · replace hx_9 : (nI (r % 16)) = 5 := hx_9.trans (by decide)
      refine g_tabIn (off := 133) (by rw [hx_9]; decide) (by rw [hx_9]; decide) (by rw [hx_9]; decide) rfl L_X7_tryTurn_142 ?_
      have hk : r % 16 = 5 := (nI_eq (a := r % 16) (b := 5) (by omega) (by omega)).mp hx_9
      refine g_aload_n rfl ?_
      refine g_getR (w := (x + 41)) fl_X7_23 rfl hx.1 rfl ?_
      refine g_iload_n rfl ?_
      refine g_iconst (v := 4) ik_4 ?_
      refine g_irem (by decide) ?_
      rw [show nI ((r / 16)) - nI ((r / 16)) / 4 * 4 = nI ((r / 16) % 4) from pk_rem (d := 4) (by omega) (by omega) (by omega)]
      refine g_iconst (v := 1) ik_1 ?_
      refine g_iload_n rfl ?_
      refine g_iconst (v := 4) ik_4 ?_
      refine g_idiv (by decide) ?_
      rw [show nI ((r / 16)) / 4 = nI ((r / 16) / 4) from pk_div (d := 4) (by omega) (by omega) (by omega)]
      refine g_iconst (v := 5) ik_5 ?_
      refine g_irem (by decide) ?_
      rw [show nI (((r / 16) / 4)) - nI (((r / 16) / 4)) / 5 * 5 = nI (((r / 16) / 4) % 5) from pk_rem (d := 5) (by omega) (by omega) (by omega)]
      refine g_iadd ?_
      rw [show (1 : Int32) + nI ((((r / 16) / 4) % 5)) = nI (1 + (((r / 16) / 4) % 5)) from nI_add 1 _]
      refine g_iload_n rfl ?_
      refine g_bipush (v := 32) bk_32 ?_
      refine g_idiv (by decide) ?_
      rw [show nI ((r / 16)) / 32 = nI ((r / 16) / 32) from pk_div (d := 32) (by omega) (by omega) (by omega)]
      refine g_iconst (v := 4) ik_4 ?_
      refine g_irem (by decide) ?_
      rw [show nI (((r / 16) / 32)) - nI (((r / 16) / 32)) / 4 * 4 = nI (((r / 16) / 32) % 4) from pk_rem (d := 4) (by omega) (by omega) (by omega)]
      refine g_iload_n rfl ?_
      refine g_sipush (v := 128) sk_128 ?_
      refine g_idiv (by decide) ?_
      rw [show nI ((r / 16)) / 128 = nI ((r / 16) / 128) from pk_div (d := 128) (by omega) (by omega) (by omega)]
      refine g_iconst (v := 5) ik_5 ?_
      refine g_irem (by decide) ?_
      rw [show nI (((r / 16) / 128)) - nI (((r / 16) / 128)) / 5 * 5 = nI (((r / 16) / 128) % 5) from pk_rem (d := 5) (by omega) (by omega) (by omega)]
      refine g_iload_n rfl ?_
      refine g_sipush (v := 1024) sk_1024 ?_
      refine g_idiv (by decide) ?_
      rw [show nI ((r / 16)) / 1024 = nI ((r / 16) / 1024) from pk_div (d := 1024) (by omega) (by omega) (by omega)]
      refine g_bipush (v := 6) bk_6 ?_
      refine g_irem (by decide) ?_
      rw [show nI (((r / 16) / 1024)) - nI (((r / 16) / 1024)) / 6 * 6 = nI (((r / 16) / 1024) % 6) from pk_rem (d := 6) (by omega) (by omega) (by omega)]
      refine g_iload_n rfl ?_
      refine g_sipush (v := 8192) sk_8192 ?_
      refine g_idiv (by decide) ?_
      rw [show nI ((r / 16)) / 8192 = nI ((r / 16) / 8192) from pk_div (d := 8192) (by omega) (by omega) (by omega)]
      refine g_bipush (v := 6) bk_6 ?_
      refine g_irem (by decide) ?_
      rw [show nI (((r / 16) / 8192)) - nI (((r / 16) / 8192)) / 6 * 6 = nI (((r / 16) / 8192) % 6) from pk_rem (d := 6) (by omega) (by omega) (by omega)]
      refine g_callV (as := [_, _, _, _, _, _]) mk_X4_addLesson ml_X7_270 im_X4_addLesson se_X4_addLesson rfl rfl ⟨⟨nle rfl, nle rfl⟩, nle rfl, nle rfl⟩ hx.2.2.2.1.s0 rfl rfl rfl (nle rfl) ?_
      refine k_addLesson hx.2.2.2.1 hS (bdq (by omega) (by omega)) (fun hg => ?_) (fun hg hw => ?_) (fun hg hw M1 hS1 hF1 => ?_)
      · refine kq_s ?_
        refine g_pop rfl ?_
        refine g_iconst (v := 0) ik_0 ?_
        refine g_iret rfl (nle rfl) (nle rfl) ?_
        have e0 : tuK (r % 16) (r / 16) s = tu2 (r / 16) s := (if_neg (by omega)).trans ((if_neg (by omega)).trans (if_pos (by omega)))
        have e : tuK (r % 16) (r / 16) s = s := e0.trans (if_neg (by rw [hg]; decide))
        exact hQ M (by rw [e]; exact hS.up (by omega)) (FrS.rf M _) 0 (by omega) (by rw [e]; exact (add_z _).symm)
      · refine kq_s ?_
        refine g_pop rfl ?_
        refine g_iconst (v := 0) ik_0 ?_
        refine g_iret rfl (nle rfl) (nle rfl) ?_
        have e0 : tuK (r % 16) (r / 16) s = tu2 (r / 16) s := (if_neg (by omega)).trans ((if_neg (by omega)).trans (if_pos (by omega)))
        have e : tuK (r % 16) (r / 16) s = upd s 9 (s 9 + 1) := e0.trans ((if_pos hg).trans (if_neg hw))
        exact hQ M (by rw [e]; exact (hS.up (by omega)).r9) (FrS.rf M _) 0 (by omega) (by rw [e, upd_ne (by omega)]; exact (add_z _).symm)
      · refine kq_s ?_
        refine g_pop rfl ?_
        refine g_iconst (v := 0) ik_0 ?_
        refine g_iret rfl (nle rfl) (nle rfl) ?_
        have e0 : tuK (r % 16) (r / 16) s = tu2 (r / 16) s := (if_neg (by omega)).trans ((if_neg (by omega)).trans (if_pos (by omega)))
        have e : tuK (r % 16) (r / 16) s = clS s (cN s 2) (nI (r / 16 % 4)) (nI (1 + r / 16 / 4 % 5)) (nI (r / 16 / 32 % 4)) (nI (r / 16 / 128 % 5)) (nI (r / 16 / 1024 % 6)) (nI (r / 16 / 8192 % 6)) := e0.trans ((if_pos hg).trans (if_pos hw))
        have k6 := (kp_cl (st := nI (r / 16 % 4)) (lv := nI (1 + r / 16 / 4 % 5)) (dy := nI (r / 16 / 1024 % 6)) (hr_ := nI (r / 16 / 8192 % 6)) hS.ir hg (bdq (by omega) (by omega))).2
        exact hQ M1 (by rw [e]; exact hS1.up (by omega)) hF1 0 (by omega) (by rw [e, k6]; exact (add_z _).symm)
    · replace hx_9 : (nI (r % 16)) = 6 := hx_9.trans (by decide)
      refine g_tabIn (off := 182) (by rw [hx_9]; decide) (by rw [hx_9]; decide) (by rw [hx_9]; decide) rfl L_X7_tryTurn_191 ?_
      have hk : r % 16 = 6 := (nI_eq (a := r % 16) (b := 6) (by omega) (by omega)).mp hx_9
      refine g_aload_n rfl ?_
      refine g_getR (w := (x + 41)) fl_X7_23 rfl hx.1 rfl ?_
      refine g_callV (as := []) mk_X4_addDancer ml_X7_280 im_X4_addDancer se_X4_addDancer rfl rfl ⟨⟨nle rfl, nle rfl⟩, nle rfl, nle rfl⟩ hx.2.2.2.1.s0 rfl rfl rfl (nle rfl) ?_
      refine k_addDancer hx.2.2.2.1 hS (fun hg => ?_) (fun hg n hn en M1 hS1 hF1 => ?_)
      · refine kq_s ?_
        refine g_pop rfl ?_
        refine g_iconst (v := 0) ik_0 ?_
        refine g_iret rfl (nle rfl) (nle rfl) ?_
        have e0 : tuK (r % 16) (r / 16) s = tu6 s := (if_neg (by omega)).trans ((if_neg (by omega)).trans ((if_neg (by omega)).trans (if_pos hk)))
        have e : tuK (r % 16) (r / 16) s = s := e0.trans (if_neg (by rw [hg]; decide))
        exact hQ M (by rw [e]; exact hS.up (by omega)) (FrS.rf M _) 0 (by omega) (by rw [e]; exact (add_z _).symm)
      · refine kq_s ?_
        refine g_pop rfl ?_
        refine g_iconst (v := 0) ik_0 ?_
        refine g_iret rfl (nle rfl) (nle rfl) ?_
        have e0 : tuK (r % 16) (r / 16) s = tu6 s := (if_neg (by omega)).trans ((if_neg (by omega)).trans ((if_neg (by omega)).trans (if_pos hk)))
        have e : tuK (r % 16) (r / 16) s = daS s (cN s 3) := e0.trans (if_pos hg)
        have k6 := (kp_da hS.ir hg).2
        exact hQ M1 (by rw [e]; exact hS1.up (by omega)) hF1 0 (by omega) (by rw [e, k6]; exact (add_z _).symm)
    · replace hx_9 : (nI (r % 16)) = 7 := hx_9.trans (by decide)
      refine g_tabIn (off := 192) (by rw [hx_9]; decide) (by rw [hx_9]; decide) (by rw [hx_9]; decide) rfl L_X7_tryTurn_201 ?_
      have hk : r % 16 = 7 := (nI_eq (a := r % 16) (b := 7) (by omega) (by omega)).mp hx_9
      refine g_aload_n rfl ?_
      refine g_getR (w := (x + 41)) fl_X7_23 rfl hx.1 rfl ?_
      refine g_iload_n rfl ?_
      refine g_bipush (v := 12) bk_12 ?_
      refine g_irem (by decide) ?_
      rw [show nI ((r / 16)) - nI ((r / 16)) / 12 * 12 = nI ((r / 16) % 12) from pk_rem (d := 12) (by omega) (by omega) (by omega)]
      refine g_callV (as := [_]) mk_X4_givePass ml_X7_286 im_X4_givePass se_X4_givePass rfl rfl ⟨⟨nle rfl, nle rfl⟩, nle rfl, nle rfl⟩ hx.2.2.2.1.s0 rfl rfl rfl (nle rfl) ?_
      refine k_givePass hx.2.2.2.1 hS (fun hg => ?_) (fun hg n hn en M1 hS1 hF1 => ?_)
      · refine kq_s ?_
        refine g_pop rfl ?_
        refine g_iconst (v := 0) ik_0 ?_
        refine g_iret rfl (nle rfl) (nle rfl) ?_
        have e0 : tuK (r % 16) (r / 16) s = tu7 (r / 16) s := (if_neg (by omega)).trans ((if_neg (by omega)).trans ((if_neg (by omega)).trans ((if_neg (by omega)).trans (if_pos (by omega)))))
        have e : tuK (r % 16) (r / 16) s = s := e0.trans (if_neg (by rw [hg]; decide))
        exact hQ M (by rw [e]; exact hS.up (by omega)) (FrS.rf M _) 0 (by omega) (by rw [e]; exact (add_z _).symm)
      · refine kq_s ?_
        refine g_pop rfl ?_
        refine g_iconst (v := 0) ik_0 ?_
        refine g_iret rfl (nle rfl) (nle rfl) ?_
        have e0 : tuK (r % 16) (r / 16) s = tu7 (r / 16) s := (if_neg (by omega)).trans ((if_neg (by omega)).trans ((if_neg (by omega)).trans ((if_neg (by omega)).trans (if_pos (by omega)))))
        have e : tuK (r % 16) (r / 16) s = paS s (tn (nI (r / 16 % 12))) := e0.trans (if_pos hg)
        have k6 := (kp_pa hS.ir hg).2
        exact hQ M1 (by rw [e]; exact hS1.up (by omega)) hF1 0 (by omega) (by rw [e, k6]; exact (add_z _).symm)
    · replace hx_9 : (nI (r % 16)) = 8 := hx_9.trans (by decide)
      refine g_tabIn (off := 192) (by rw [hx_9]; decide) (by rw [hx_9]; decide) (by rw [hx_9]; decide) rfl L_X7_tryTurn_201 ?_
      have hk : r % 16 = 8 := (nI_eq (a := r % 16) (b := 8) (by omega) (by omega)).mp hx_9
      refine g_aload_n rfl ?_
      refine g_getR (w := (x + 41)) fl_X7_23 rfl hx.1 rfl ?_
      refine g_iload_n rfl ?_
      refine g_bipush (v := 12) bk_12 ?_
      refine g_irem (by decide) ?_
      rw [show nI ((r / 16)) - nI ((r / 16)) / 12 * 12 = nI ((r / 16) % 12) from pk_rem (d := 12) (by omega) (by omega) (by omega)]
      refine g_callV (as := [_]) mk_X4_givePass ml_X7_286 im_X4_givePass se_X4_givePass rfl rfl ⟨⟨nle rfl, nle rfl⟩, nle rfl, nle rfl⟩ hx.2.2.2.1.s0 rfl rfl rfl (nle rfl) ?_
      refine k_givePass hx.2.2.2.1 hS (fun hg => ?_) (fun hg n hn en M1 hS1 hF1 => ?_)
      · refine kq_s ?_
        refine g_pop rfl ?_
        refine g_iconst (v := 0) ik_0 ?_
        refine g_iret rfl (nle rfl) (nle rfl) ?_
        have e0 : tuK (r % 16) (r / 16) s = tu7 (r / 16) s := (if_neg (by omega)).trans ((if_neg (by omega)).trans ((if_neg (by omega)).trans ((if_neg (by omega)).trans (if_pos (by omega)))))
        have e : tuK (r % 16) (r / 16) s = s := e0.trans (if_neg (by rw [hg]; decide))
        exact hQ M (by rw [e]; exact hS.up (by omega)) (FrS.rf M _) 0 (by omega) (by rw [e]; exact (add_z _).symm)
      · refine kq_s ?_
        refine g_pop rfl ?_
        refine g_iconst (v := 0) ik_0 ?_
        refine g_iret rfl (nle rfl) (nle rfl) ?_
        have e0 : tuK (r % 16) (r / 16) s = tu7 (r / 16) s := (if_neg (by omega)).trans ((if_neg (by omega)).trans ((if_neg (by omega)).trans ((if_neg (by omega)).trans (if_pos (by omega)))))
        have e : tuK (r % 16) (r / 16) s = paS s (tn (nI (r / 16 % 12))) := e0.trans (if_pos hg)
        have k6 := (kp_pa hS.ir hg).2
        exact hQ M1 (by rw [e]; exact hS1.up (by omega)) hF1 0 (by omega) (by rw [e, k6]; exact (add_z _).symm)
    · replace hx_9 : (nI (r % 16)) = 9 := hx_9.trans (by decide)
      refine g_tabIn (off := 206) (by rw [hx_9]; decide) (by rw [hx_9]; decide) (by rw [hx_9]; decide) rfl L_X7_tryTurn_215 ?_
      have hk : r % 16 = 9 := (nI_eq (a := r % 16) (b := 9) (by omega) (by omega)).mp hx_9
      refine g_aload_n rfl ?_
      refine g_getR (w := (x + 41)) fl_X7_23 rfl hx.1 rfl ?_
      refine g_iload_n rfl ?_
      refine g_bipush (v := 12) bk_12 ?_
      refine g_irem (by decide) ?_
      rw [show nI ((r / 16)) - nI ((r / 16)) / 12 * 12 = nI ((r / 16) % 12) from pk_rem (d := 12) (by omega) (by omega) (by omega)]
      refine g_iload_n rfl ?_
      refine g_bipush (v := 16) bk_16 ?_
      refine g_idiv (by decide) ?_
      rw [show nI ((r / 16)) / 16 = nI ((r / 16) / 16) from pk_div (d := 16) (by omega) (by omega) (by omega)]
      refine g_bipush (v := 10) bk_10 ?_
      refine g_irem (by decide) ?_
      rw [show nI (((r / 16) / 16)) - nI (((r / 16) / 16)) / 10 * 10 = nI (((r / 16) / 16) % 10) from pk_rem (d := 10) (by omega) (by omega) (by omega)]
      refine g_callV (as := [_, _]) mk_X4_takeSeat ml_X7_289 im_X4_takeSeat se_X4_takeSeat rfl rfl ⟨⟨nle rfl, nle rfl⟩, nle rfl, nle rfl⟩ hx.2.2.2.1.s0 rfl rfl rfl (nle rfl) ?_
      refine k_takeSeat hx.2.2.2.1 hS (fun hg => ?_) (fun hg hw => ?_) (fun hg hw M1 hS1 hF1 => ?_)
      · refine kq_s ?_
        refine g_pop rfl ?_
        refine g_iconst (v := 0) ik_0 ?_
        refine g_iret rfl (nle rfl) (nle rfl) ?_
        have e0 : tuK (r % 16) (r / 16) s = tu9 (r / 16) s := (if_neg (by omega)).trans ((if_neg (by omega)).trans ((if_neg (by omega)).trans ((if_neg (by omega)).trans ((if_neg (by omega)).trans (if_pos (by omega))))))
        have e : tuK (r % 16) (r / 16) s = s := e0.trans (if_neg (by rw [hg]; decide))
        exact hQ M (by rw [e]; exact hS.up (by omega)) (FrS.rf M _) 0 (by omega) (by rw [e]; exact (add_z _).symm)
      · refine kq_s ?_
        refine g_pop rfl ?_
        refine g_iconst (v := 0) ik_0 ?_
        refine g_iret rfl (nle rfl) (nle rfl) ?_
        have e0 : tuK (r % 16) (r / 16) s = tu9 (r / 16) s := (if_neg (by omega)).trans ((if_neg (by omega)).trans ((if_neg (by omega)).trans ((if_neg (by omega)).trans ((if_neg (by omega)).trans (if_pos (by omega))))))
        have e : tuK (r % 16) (r / 16) s = upd s 9 (s 9 + 1) := e0.trans ((if_pos hg).trans (if_neg hw))
        exact hQ M (by rw [e]; exact (hS.up (by omega)).r9) (FrS.rf M _) 0 (by omega) (by rw [e, upd_ne (by omega)]; exact (add_z _).symm)
      · refine kq_s ?_
        refine g_pop rfl ?_
        refine g_iconst (v := 0) ik_0 ?_
        refine g_iret rfl (nle rfl) (nle rfl) ?_
        have e0 : tuK (r % 16) (r / 16) s = tu9 (r / 16) s := (if_neg (by omega)).trans ((if_neg (by omega)).trans ((if_neg (by omega)).trans ((if_neg (by omega)).trans ((if_neg (by omega)).trans (if_pos (by omega))))))
        have e : tuK (r % 16) (r / 16) s = enS s (nI (r / 16 % 12)) (tn (nI (r / 16 / 16 % 10))) := e0.trans ((if_pos hg).trans (if_pos hw))
        have k6 := (kp_en hS.ir hg hw).2
        exact hQ M1 (by rw [e]; exact hS1.up (by omega)) hF1 0 (by omega) (by rw [e, k6]; exact (add_z _).symm)
    · replace hx_9 : (nI (r % 16)) = 10 := hx_9.trans (by decide)
      refine g_tabIn (off := 206) (by rw [hx_9]; decide) (by rw [hx_9]; decide) (by rw [hx_9]; decide) rfl L_X7_tryTurn_215 ?_
      have hk : r % 16 = 10 := (nI_eq (a := r % 16) (b := 10) (by omega) (by omega)).mp hx_9
      refine g_aload_n rfl ?_
      refine g_getR (w := (x + 41)) fl_X7_23 rfl hx.1 rfl ?_
      refine g_iload_n rfl ?_
      refine g_bipush (v := 12) bk_12 ?_
      refine g_irem (by decide) ?_
      rw [show nI ((r / 16)) - nI ((r / 16)) / 12 * 12 = nI ((r / 16) % 12) from pk_rem (d := 12) (by omega) (by omega) (by omega)]
      refine g_iload_n rfl ?_
      refine g_bipush (v := 16) bk_16 ?_
      refine g_idiv (by decide) ?_
      rw [show nI ((r / 16)) / 16 = nI ((r / 16) / 16) from pk_div (d := 16) (by omega) (by omega) (by omega)]
      refine g_bipush (v := 10) bk_10 ?_
      refine g_irem (by decide) ?_
      rw [show nI (((r / 16) / 16)) - nI (((r / 16) / 16)) / 10 * 10 = nI (((r / 16) / 16) % 10) from pk_rem (d := 10) (by omega) (by omega) (by omega)]
      refine g_callV (as := [_, _]) mk_X4_takeSeat ml_X7_289 im_X4_takeSeat se_X4_takeSeat rfl rfl ⟨⟨nle rfl, nle rfl⟩, nle rfl, nle rfl⟩ hx.2.2.2.1.s0 rfl rfl rfl (nle rfl) ?_
      refine k_takeSeat hx.2.2.2.1 hS (fun hg => ?_) (fun hg hw => ?_) (fun hg hw M1 hS1 hF1 => ?_)
      · refine kq_s ?_
        refine g_pop rfl ?_
        refine g_iconst (v := 0) ik_0 ?_
        refine g_iret rfl (nle rfl) (nle rfl) ?_
        have e0 : tuK (r % 16) (r / 16) s = tu9 (r / 16) s := (if_neg (by omega)).trans ((if_neg (by omega)).trans ((if_neg (by omega)).trans ((if_neg (by omega)).trans ((if_neg (by omega)).trans (if_pos (by omega))))))
        have e : tuK (r % 16) (r / 16) s = s := e0.trans (if_neg (by rw [hg]; decide))
        exact hQ M (by rw [e]; exact hS.up (by omega)) (FrS.rf M _) 0 (by omega) (by rw [e]; exact (add_z _).symm)
      · refine kq_s ?_
        refine g_pop rfl ?_
        refine g_iconst (v := 0) ik_0 ?_
        refine g_iret rfl (nle rfl) (nle rfl) ?_
        have e0 : tuK (r % 16) (r / 16) s = tu9 (r / 16) s := (if_neg (by omega)).trans ((if_neg (by omega)).trans ((if_neg (by omega)).trans ((if_neg (by omega)).trans ((if_neg (by omega)).trans (if_pos (by omega))))))
        have e : tuK (r % 16) (r / 16) s = upd s 9 (s 9 + 1) := e0.trans ((if_pos hg).trans (if_neg hw))
        exact hQ M (by rw [e]; exact (hS.up (by omega)).r9) (FrS.rf M _) 0 (by omega) (by rw [e, upd_ne (by omega)]; exact (add_z _).symm)
      · refine kq_s ?_
        refine g_pop rfl ?_
        refine g_iconst (v := 0) ik_0 ?_
        refine g_iret rfl (nle rfl) (nle rfl) ?_
        have e0 : tuK (r % 16) (r / 16) s = tu9 (r / 16) s := (if_neg (by omega)).trans ((if_neg (by omega)).trans ((if_neg (by omega)).trans ((if_neg (by omega)).trans ((if_neg (by omega)).trans (if_pos (by omega))))))
        have e : tuK (r % 16) (r / 16) s = enS s (nI (r / 16 % 12)) (tn (nI (r / 16 / 16 % 10))) := e0.trans ((if_pos hg).trans (if_pos hw))
        have k6 := (kp_en hS.ir hg hw).2
        exact hQ M1 (by rw [e]; exact hS1.up (by omega)) hF1 0 (by omega) (by rw [e, k6]; exact (add_z _).symm)
    · replace hx_9 : (nI (r % 16)) = 11 := hx_9.trans (by decide)
      refine g_tabIn (off := 206) (by rw [hx_9]; decide) (by rw [hx_9]; decide) (by rw [hx_9]; decide) rfl L_X7_tryTurn_215 ?_
      have hk : r % 16 = 11 := (nI_eq (a := r % 16) (b := 11) (by omega) (by omega)).mp hx_9
      refine g_aload_n rfl ?_
      refine g_getR (w := (x + 41)) fl_X7_23 rfl hx.1 rfl ?_
      refine g_iload_n rfl ?_
      refine g_bipush (v := 12) bk_12 ?_
      refine g_irem (by decide) ?_
      rw [show nI ((r / 16)) - nI ((r / 16)) / 12 * 12 = nI ((r / 16) % 12) from pk_rem (d := 12) (by omega) (by omega) (by omega)]
      refine g_iload_n rfl ?_
      refine g_bipush (v := 16) bk_16 ?_
      refine g_idiv (by decide) ?_
      rw [show nI ((r / 16)) / 16 = nI ((r / 16) / 16) from pk_div (d := 16) (by omega) (by omega) (by omega)]
      refine g_bipush (v := 10) bk_10 ?_
      refine g_irem (by decide) ?_
      rw [show nI (((r / 16) / 16)) - nI (((r / 16) / 16)) / 10 * 10 = nI (((r / 16) / 16) % 10) from pk_rem (d := 10) (by omega) (by omega) (by omega)]
      refine g_callV (as := [_, _]) mk_X4_takeSeat ml_X7_289 im_X4_takeSeat se_X4_takeSeat rfl rfl ⟨⟨nle rfl, nle rfl⟩, nle rfl, nle rfl⟩ hx.2.2.2.1.s0 rfl rfl rfl (nle rfl) ?_
      refine k_takeSeat hx.2.2.2.1 hS (fun hg => ?_) (fun hg hw => ?_) (fun hg hw M1 hS1 hF1 => ?_)
      · refine kq_s ?_
        refine g_pop rfl ?_
        refine g_iconst (v := 0) ik_0 ?_
        refine g_iret rfl (nle rfl) (nle rfl) ?_
        have e0 : tuK (r % 16) (r / 16) s = tu9 (r / 16) s := (if_neg (by omega)).trans ((if_neg (by omega)).trans ((if_neg (by omega)).trans ((if_neg (by omega)).trans ((if_neg (by omega)).trans (if_pos (by omega))))))
        have e : tuK (r % 16) (r / 16) s = s := e0.trans (if_neg (by rw [hg]; decide))
        exact hQ M (by rw [e]; exact hS.up (by omega)) (FrS.rf M _) 0 (by omega) (by rw [e]; exact (add_z _).symm)
      · refine kq_s ?_
        refine g_pop rfl ?_
        refine g_iconst (v := 0) ik_0 ?_
        refine g_iret rfl (nle rfl) (nle rfl) ?_
        have e0 : tuK (r % 16) (r / 16) s = tu9 (r / 16) s := (if_neg (by omega)).trans ((if_neg (by omega)).trans ((if_neg (by omega)).trans ((if_neg (by omega)).trans ((if_neg (by omega)).trans (if_pos (by omega))))))
        have e : tuK (r % 16) (r / 16) s = upd s 9 (s 9 + 1) := e0.trans ((if_pos hg).trans (if_neg hw))
        exact hQ M (by rw [e]; exact (hS.up (by omega)).r9) (FrS.rf M _) 0 (by omega) (by rw [e, upd_ne (by omega)]; exact (add_z _).symm)
      · refine kq_s ?_
        refine g_pop rfl ?_
        refine g_iconst (v := 0) ik_0 ?_
        refine g_iret rfl (nle rfl) (nle rfl) ?_
        have e0 : tuK (r % 16) (r / 16) s = tu9 (r / 16) s := (if_neg (by omega)).trans ((if_neg (by omega)).trans ((if_neg (by omega)).trans ((if_neg (by omega)).trans ((if_neg (by omega)).trans (if_pos (by omega))))))
        have e : tuK (r % 16) (r / 16) s = enS s (nI (r / 16 % 12)) (tn (nI (r / 16 / 16 % 10))) := e0.trans ((if_pos hg).trans (if_pos hw))
        have k6 := (kp_en hS.ir hg hw).2
        exact hQ M1 (by rw [e]; exact hS1.up (by omega)) hF1 0 (by omega) (by rw [e, k6]; exact (add_z _).symm)
    · replace hx_9 : (nI (r % 16)) = 12 := hx_9.trans (by decide)
      refine g_tabIn (off := 206) (by rw [hx_9]; decide) (by rw [hx_9]; decide) (by rw [hx_9]; decide) rfl L_X7_tryTurn_215 ?_
      have hk : r % 16 = 12 := (nI_eq (a := r % 16) (b := 12) (by omega) (by omega)).mp hx_9
      refine g_aload_n rfl ?_
      refine g_getR (w := (x + 41)) fl_X7_23 rfl hx.1 rfl ?_
      refine g_iload_n rfl ?_
      refine g_bipush (v := 12) bk_12 ?_
      refine g_irem (by decide) ?_
      rw [show nI ((r / 16)) - nI ((r / 16)) / 12 * 12 = nI ((r / 16) % 12) from pk_rem (d := 12) (by omega) (by omega) (by omega)]
      refine g_iload_n rfl ?_
      refine g_bipush (v := 16) bk_16 ?_
      refine g_idiv (by decide) ?_
      rw [show nI ((r / 16)) / 16 = nI ((r / 16) / 16) from pk_div (d := 16) (by omega) (by omega) (by omega)]
      refine g_bipush (v := 10) bk_10 ?_
      refine g_irem (by decide) ?_
      rw [show nI (((r / 16) / 16)) - nI (((r / 16) / 16)) / 10 * 10 = nI (((r / 16) / 16) % 10) from pk_rem (d := 10) (by omega) (by omega) (by omega)]
      refine g_callV (as := [_, _]) mk_X4_takeSeat ml_X7_289 im_X4_takeSeat se_X4_takeSeat rfl rfl ⟨⟨nle rfl, nle rfl⟩, nle rfl, nle rfl⟩ hx.2.2.2.1.s0 rfl rfl rfl (nle rfl) ?_
      refine k_takeSeat hx.2.2.2.1 hS (fun hg => ?_) (fun hg hw => ?_) (fun hg hw M1 hS1 hF1 => ?_)
      · refine kq_s ?_
        refine g_pop rfl ?_
        refine g_iconst (v := 0) ik_0 ?_
        refine g_iret rfl (nle rfl) (nle rfl) ?_
        have e0 : tuK (r % 16) (r / 16) s = tu9 (r / 16) s := (if_neg (by omega)).trans ((if_neg (by omega)).trans ((if_neg (by omega)).trans ((if_neg (by omega)).trans ((if_neg (by omega)).trans (if_pos (by omega))))))
        have e : tuK (r % 16) (r / 16) s = s := e0.trans (if_neg (by rw [hg]; decide))
        exact hQ M (by rw [e]; exact hS.up (by omega)) (FrS.rf M _) 0 (by omega) (by rw [e]; exact (add_z _).symm)
      · refine kq_s ?_
        refine g_pop rfl ?_
        refine g_iconst (v := 0) ik_0 ?_
        refine g_iret rfl (nle rfl) (nle rfl) ?_
        have e0 : tuK (r % 16) (r / 16) s = tu9 (r / 16) s := (if_neg (by omega)).trans ((if_neg (by omega)).trans ((if_neg (by omega)).trans ((if_neg (by omega)).trans ((if_neg (by omega)).trans (if_pos (by omega))))))
        have e : tuK (r % 16) (r / 16) s = upd s 9 (s 9 + 1) := e0.trans ((if_pos hg).trans (if_neg hw))
        exact hQ M (by rw [e]; exact (hS.up (by omega)).r9) (FrS.rf M _) 0 (by omega) (by rw [e, upd_ne (by omega)]; exact (add_z _).symm)
      · refine kq_s ?_
        refine g_pop rfl ?_
        refine g_iconst (v := 0) ik_0 ?_
        refine g_iret rfl (nle rfl) (nle rfl) ?_
        have e0 : tuK (r % 16) (r / 16) s = tu9 (r / 16) s := (if_neg (by omega)).trans ((if_neg (by omega)).trans ((if_neg (by omega)).trans ((if_neg (by omega)).trans ((if_neg (by omega)).trans (if_pos (by omega))))))
        have e : tuK (r % 16) (r / 16) s = enS s (nI (r / 16 % 12)) (tn (nI (r / 16 / 16 % 10))) := e0.trans ((if_pos hg).trans (if_pos hw))
        have k6 := (kp_en hS.ir hg hw).2
        exact hQ M1 (by rw [e]; exact hS1.up (by omega)) hF1 0 (by omega) (by rw [e, k6]; exact (add_z _).symm)
    · replace hx_9 : (nI (r % 16)) = 13 := hx_9.trans (by decide)
      refine g_tabIn (off := 227) (by rw [hx_9]; decide) (by rw [hx_9]; decide) (by rw [hx_9]; decide) rfl L_X7_tryTurn_236 ?_
      have hk : r % 16 = 13 := (nI_eq (a := r % 16) (b := 13) (by omega) (by omega)).mp hx_9
      refine g_aload_n rfl ?_
      refine g_iload_n rfl ?_
      refine g_callV (as := [_]) mk_X7_tryLeaving ml_X7_359 im_X7_tryLeaving se_X7_tryLeaving rfl rfl ⟨⟨nle rfl, nle rfl⟩, nle rfl, nle rfl⟩ hx.1 rfl rfl rfl (nle rfl) ?_
      refine ct_X7_tryLeaving hx hS (by omega) (fun M1 hS1 hF1 => ?_)
      refine kq_n ?_
      refine g_iconst (v := 0) ik_0 ?_
      refine g_iret rfl (nle rfl) (nle rfl) ?_
      have e0 : tuK (r % 16) (r / 16) s = tu13 (r / 16) s := (if_neg (by omega)).trans ((if_neg (by omega)).trans ((if_neg (by omega)).trans ((if_neg (by omega)).trans ((if_neg (by omega)).trans ((if_neg (by omega)).trans (if_pos hk))))))
      have kp := (tu_keep hS.ir (r % 16) (r / 16))
      have k6 : tuK (r % 16) (r / 16) s 6 = s 6 := by rw [e0]; exact tu13_6 hS.ir
      exact hQ M1 (by rw [e0]; exact hS1.up (by omega)) hF1 0 (by omega) (by rw [k6]; exact (add_z _).symm)
  · refine g_tabOut (ho_9.imp (fun h => h) (fun h => h)) rfl L_X7_tryTurn_243 ?_
    have hk : 14 ≤ r % 16 := by
      rcases ho_9 with h | h
      · rw [nI_toInt (by omega)] at h; omega
      · rw [nI_toInt (by omega)] at h; omega
    refine g_aload_n rfl ?_
    refine g_getR (w := (x + 41)) fl_X7_23 rfl hx.1 rfl ?_
    refine g_iconst (v := 1) ik_1 ?_
    refine g_iload_n rfl ?_
    refine g_iconst (v := 2) ik_2 ?_
    refine g_irem (by decide) ?_
    rw [show nI ((r / 16)) - nI ((r / 16)) / 2 * 2 = nI ((r / 16) % 2) from pk_rem (d := 2) (by omega) (by omega) (by omega)]
    refine g_iadd ?_
    rw [show (1 : Int32) + nI (((r / 16) % 2)) = nI (1 + ((r / 16) % 2)) from nI_add 1 _]
    refine g_callV (as := [_]) mk_X4_passWeeks ml_X7_299 im_X4_passWeeks se_X4_passWeeks rfl rfl ⟨⟨nle rfl, nle rfl⟩, nle rfl, nle rfl⟩ hx.2.2.2.1.s0 rfl rfl rfl (nle rfl) ?_
    refine k_passWeeks hx.2.2.2.1 hS (1 + r / 16 % 2) rfl (by omega) (fun u M1 hu eu hS1 hF1 => ?_)
    refine kq_s ?_
    refine g_iret rfl (nle rfl) (nle rfl) ?_
    have e0 : tuK (r % 16) (r / 16) s = wkC (1 + r / 16 % 2) s := (if_neg (by omega)).trans ((if_neg (by omega)).trans ((if_neg (by omega)).trans ((if_neg (by omega)).trans ((if_neg (by omega)).trans ((if_neg (by omega)).trans (if_neg (by omega)))))))
    exact hQ M1 (by rw [e0]; exact hS1.up (by omega)) hF1 u (by omega) (by rw [e0]; exact eu)
