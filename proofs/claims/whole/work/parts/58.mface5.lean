def s17 (s : Nat → Int32) : Nat → Int32 := cpB s 0 17 189
theorem s17_low {s : Nat → Int32} {j : Nat} (hj : j < 3213) : s17 s j = s j := cpB_out (by omega)
def AT (M M' : Mem) (m : Nat) (s : Nat → Int32) : Prop := (∀ j, j < 3213 → M' (m + 1) j = s j) ∧ M' m 0 = 0 ∧ (∀ r, r ≠ m → r ≠ m + 1 → M' r = M r) ∧ (∀ j, j ≠ 0 → M' m j = M m j)
theorem at_fin {M M1 : Mem} {m : Nat} {s f : Nat → Int32} (fH : FrH M M1 m) (hf : ∀ j, 189 ≤ j → f j = s17 s j) : AT M (sR M1 (m + 1) (cpB f 17 0 189)) m s := by
  refine ⟨fun j hj => ?_, ?_, fun r a b => ?_, fun j a => ?_⟩
  · rw [sR_s]
    by_cases h : j < 189
    · have e : cpB f 17 0 189 j = f (189 * 17 + j) := by
        have := cpB_in (s := f) (a := 17) (b := 0) h
        rwa [Nat.mul_zero, Nat.zero_add] at this
      rw [e, hf _ (by omega)]
      have := cpB_in (s := s) (a := 0) (b := 17) h
      rw [Nat.mul_zero, Nat.zero_add] at this
      exact this
    · rw [cpB_out (by omega), hf j (by omega), s17_low hj]
  · rw [sR_o _ _ _ (by omega)]; exact fH.1
  · rw [sR_o _ _ _ b]; exact fH.2.1 r a
  · rw [sR_o _ _ _ (by omega)]; exact fH.2.2 j a
set_option maxRecDepth 100000 in
set_option maxHeartbeats 4000000 in
theorem ct_X8_held {X : Xs} {κ : Kp} {M : Mem} {Q : Rs → Kp → Mem → Prop} {m : Nat} (hm : IsMod κ.2.1 m) {B : Nat} {s : Nat → Int32} (hs : M (m + 1) = s) (hI0 : IR B s) (hY : ∀ M', AT M M' m s → Q (.inl (some (.int (weekH (cN (s17 s) 2) (cN (s17 s) 3) (s17 s))))) κ M') : Ct X m_X8_held [.ref m] κ M Q := by
  refine ct_of B_X8_held_0 pn_X8 rfl (nle rfl) L_X8_held_0 ?_
  refine g_aload_n rfl ?_
  refine g_iconst (v := 0) ik_0 ?_
  refine g_putI pl_X8_25 rfl hm.1 rfl rfl rfl ?_
  have fH := frh M m
  generalize (upM M m 0 0) = M1 at fH ⊢
  have f1 : M1 (m + 1) = s := (fH.2.1 _ (by omega)).trans hs
  have hI1 : IR B (s17 s) := hI0.cg fun j hj => s17_low (by omega)
  refine g_aload_n rfl ?_
  refine g_iconst (v := 0) ik_0 ?_
  refine g_bipush (v := 17) bk_17 ?_
  refine g_callV (as := [_, _]) mk_X8_copies ml_X8_83 im_X8_copies se_X8_copies rfl rfl ⟨⟨nle rfl, nle rfl⟩, nle rfl, nle rfl⟩ hm.1 rfl rfl rfl (nle rfl) ?_
  refine ct_X8_copies hm 0 17 rfl rfl (by omega) (by omega) (by omega) ?_
  rw [f1, show cpB s 0 17 189 = s17 s from rfl]
  refine kq_n ?_
  refine g_aload_n rfl ?_
  refine g_callV (as := []) mk_X8_week ml_X8_76 im_X8_week se_X8_week rfl rfl ⟨⟨nle rfl, nle rfl⟩, nle rfl, nle rfl⟩ hm.1 rfl rfl rfl (nle rfl) ?_
  obtain ⟨nf, nt, nc, nd, hI⟩ := hI1
  refine ct_X8_week hm (by rw [sR_s]; exact hI.c) hI.lc (by rw [sR_s]; exact hI.d) hI.ld ?_
  rw [sR_s, sR_sR]
  refine kq_s ?_
  refine g_istore_n (nle rfl) ?_
  refine g_aload_n rfl ?_
  refine g_bipush (v := 17) bk_17 ?_
  refine g_iconst (v := 0) ik_0 ?_
  refine g_callV (as := [_, _]) mk_X8_copies ml_X8_83 im_X8_copies se_X8_copies rfl rfl ⟨⟨nle rfl, nle rfl⟩, nle rfl, nle rfl⟩ hm.1 rfl rfl rfl (nle rfl) ?_
  refine ct_X8_copies hm 17 0 rfl rfl (by omega) (by omega) (by omega) ?_
  rw [sR_s, sR_sR]
  refine kq_n ?_
  refine g_iload_n rfl ?_
  refine g_iret rfl (nle rfl) (nle rfl) ?_
  exact qeq (hY _ (at_fin fH (fun j hj => hi_week hI.lc hI.ld hj))) (by rw [hI.n2, hI.n3]) rfl
set_option maxRecDepth 100000 in
set_option maxHeartbeats 4000000 in
theorem ct_X8_emptyIn {X : Xs} {κ : Kp} {M : Mem} {Q : Rs → Kp → Mem → Prop} {m : Nat} (hm : IsMod κ.2.1 m) {B : Nat} {s : Nat → Int32} (hs : M (m + 1) = s) (hI0 : IR B s) {v : Int32} (hE : isD s v = false → Q (.inl (some (.int 0))) κ (upM M m 0 1)) (hY : isD s v = true → ∀ d, d < 100 → v = nI d → ∀ M', AT M M' m s → Q (.inl (some (.int (emF (leftF (s17 s) d) 100 0)))) κ M') : Ct X m_X8_emptyIn [.ref m, .int v] κ M Q := by
  refine ct_of B_X8_emptyIn_0 pn_X8 rfl (nle rfl) L_X8_emptyIn_0 ?_
  refine g_aload_n rfl ?_
  refine g_aload_n rfl ?_
  refine g_iload_n rfl ?_
  refine g_callV (as := [_]) mk_X8_isDancer ml_X8_127 im_X8_isDancer se_X8_isDancer rfl rfl ⟨⟨nle rfl, nle rfl⟩, nle rfl, nle rfl⟩ hm.1 rfl rfl rfl (nle rfl) ?_
  refine ct_X8_isDancer hm ?_
  rw [hs]
  refine kq_s ?_
  refine g_if_eq_b rfl L_X8_emptyIn_13 (fun h_1 => ?_) (fun h_1 => ?_)
  · have hq : isD s v = false := h_1
    refine g_iconst (v := 1) ik_1 ?_
    refine g_fall rfl L_X8_emptyIn_14 ?_
    refine g_callV (as := [_]) mk_X8_holds ml_X8_89 im_X8_holds se_X8_holds rfl rfl ⟨⟨nle rfl, nle rfl⟩, nle rfl, nle rfl⟩ hm.1 rfl rfl rfl (nle rfl) ?_
    refine ct_X8_holds hm ?_
    refine kq_s ?_
    refine g_if_ne rfl L_X8_emptyIn_22 (fun h_2 => absurd h_2 (by decide)) (fun h_2 => ?_)
    refine g_iconst (v := 0) ik_0 ?_
    refine g_iret rfl (nle rfl) (nle rfl) ?_
    exact hE hq
  · have hq : isD s v = true := h_1
    obtain ⟨nf, nt, nc, nd, hI⟩ := hI0.cg (s' := s17 s) (fun j hj => s17_low (by omega))
    obtain ⟨d, hd, ed⟩ := hI.xD.mp (show isD (s17 s) v = true by unfold isD; rw [s17_low (by omega)]; exact hq)
    subst ed
    have bn := hI.ld
    have bc := hI.lc
    refine g_iconst (v := 0) ik_0 ?_
    refine g_goto rfl L_X8_emptyIn_14 ?_
    refine g_callV (as := [_]) mk_X8_holds ml_X8_89 im_X8_holds se_X8_holds rfl rfl ⟨⟨nle rfl, nle rfl⟩, nle rfl, nle rfl⟩ hm.1 rfl rfl rfl (nle rfl) ?_
    refine ct_X8_holds hm ?_
    have fH := frh M m
    generalize (upM M m 0 0) = M1 at fH ⊢
    have f1 : M1 (m + 1) = s := (fH.2.1 _ (by omega)).trans hs
    have hI1 : IR B (s17 s) := hI0.cg fun j hj => s17_low (by omega)
    refine kq_s ?_
    refine g_if_ne rfl L_X8_emptyIn_22 (fun h_3 => ?_) (fun h_3 => absurd h_3 (by decide))
    refine g_aload_n rfl ?_
    refine g_iconst (v := 0) ik_0 ?_
    refine g_bipush (v := 17) bk_17 ?_
    refine g_callV (as := [_, _]) mk_X8_copies ml_X8_83 im_X8_copies se_X8_copies rfl rfl ⟨⟨nle rfl, nle rfl⟩, nle rfl, nle rfl⟩ hm.1 rfl rfl rfl (nle rfl) ?_
    refine ct_X8_copies hm 0 17 rfl rfl (by omega) (by omega) (by omega) ?_
    rw [f1, show cpB s 0 17 189 = s17 s from rfl]
    refine kq_n ?_
    refine g_iconst (v := 0) ik_0 ?_
    refine g_istore_n (nle rfl) ?_
    refine g_fall rfl L_X8_emptyIn_31 ?_
    have lf : ∀ n, leftF (s17 s) d n = wkN nc nd n (s17 s) (129 + 5 * d + 2) := fun n => by unfold leftF wkC; rw [hI.n2, hI.n3]
    refine g_mem (M' := sR M1 (m + 1) (wkN nc nd 0 (s17 s))) rfl ?_
    refine g_lo2 (lo' := [(0, some (.ref m)), (1, some (.int (nI d))), (2, some (.int (nI 0)))]) ?_ ⟨rfl, rfl, rfl, trivial⟩
    refine loop_up (P := fun i => emF (leftF (s17 s) d) 100 0 = emF (leftF (s17 s) d) (100 - i) i → G X m_X8_emptyIn B_X8_emptyIn_31 31 [(0, some (.ref m)), (1, some (.int (nI d))), (2, some (.int (nI i)))] [] (0 + (rmOf m_X8_isDancer).cells + (rmOf m_X8_holds).cells + (rmOf m_X8_copies).cells) (0 + (rmOf m_X8_isDancer).slots + (rmOf m_X8_holds).slots + (rmOf m_X8_copies).slots) κ (sR M1 (m + 1) (wkN nc nd i (s17 s))) Q) 100 (fun i hle_i ih_i hem => ?_) 0 (Nat.zero_le _) rfl
    have hI2 := inv_wk hI i
    have hbd := (hI2.da hd).1
    refine g_iload_n rfl ?_
    refine g_bipush (v := 100) bk_100 ?_
    refine g_icmp_ge rfl L_X8_emptyIn_57 (fun h_4 => ?_) (fun h_4 => ?_)
    · have hx_i : i = 100 := by have := (nI_leI (a := 100) (b := i) (by omega) (by omega)).mp h_4; omega
      refine g_aload_n rfl ?_
      refine g_iload_n rfl ?_
      refine g_iconst (v := 2) ik_2 ?_
      refine g_callV (as := [_, _]) mk_X8_ofDancer ml_X8_57 im_X8_ofDancer se_X8_ofDancer rfl rfl ⟨⟨nle rfl, nle rfl⟩, nle rfl, nle rfl⟩ hm.1 rfl rfl rfl (nle rfl) ?_
      refine ct_X8_ofDancer hm d 2 rfl rfl (by omega) ?_
      rw [sR_s]
      refine kq_s ?_
      refine g_istore_n (nle rfl) ?_
      refine g_aload_n rfl ?_
      refine g_bipush (v := 17) bk_17 ?_
      refine g_iconst (v := 0) ik_0 ?_
      refine g_callV (as := [_, _]) mk_X8_copies ml_X8_83 im_X8_copies se_X8_copies rfl rfl ⟨⟨nle rfl, nle rfl⟩, nle rfl, nle rfl⟩ hm.1 rfl rfl rfl (nle rfl) ?_
      refine ct_X8_copies hm 17 0 rfl rfl (by omega) (by omega) (by omega) ?_
      rw [sR_s, sR_sR]
      refine kq_n ?_
      refine g_iload_n rfl ?_
      refine g_if_le rfl L_X8_emptyIn_79 (fun h_5 => ?_) (fun h_5 => ?_)
      · have hz : ¬ 0 < leftF (s17 s) d i := by rw [lf]; exact Int32.not_lt.mpr h_5
        refine g_iload_n rfl ?_
        refine g_fall rfl L_X8_emptyIn_80 ?_
        refine g_iret rfl (nle rfl) (nle rfl) ?_
        exact qeq (hY hq d (by omega) rfl _ (at_fin fH (fun j hj => hi_wk bc bn hj i))) (by rw [hem, em_z hz]) rfl
      · have hpos : 0 < leftF (s17 s) d i := by rw [lf]; exact Int32.not_le.mp h_5
        refine g_iconst (v := -1) ik_m1 ?_
        refine g_goto rfl L_X8_emptyIn_80 ?_
        refine g_iret rfl (nle rfl) (nle rfl) ?_
        exact qeq (hY hq d (by omega) rfl _ (at_fin fH (fun j hj => hi_wk bc bn hj i))) (by rw [hem, hx_i, show 100 - 100 = 0 from rfl]; rw [hx_i] at hpos; exact (if_pos hpos).symm) rfl
    · have hlt_i : i < 100 := by
        rcases Nat.lt_or_ge i 100 with q | q
        · exact q
        · exact absurd ((nI_leI (a := 100) (b := i) (by omega) (by omega)).mpr q) h_4
      refine g_aload_n rfl ?_
      refine g_iload_n rfl ?_
      refine g_iconst (v := 2) ik_2 ?_
      refine g_callV (as := [_, _]) mk_X8_ofDancer ml_X8_57 im_X8_ofDancer se_X8_ofDancer rfl rfl ⟨⟨nle rfl, nle rfl⟩, nle rfl, nle rfl⟩ hm.1 rfl rfl rfl (nle rfl) ?_
      refine ct_X8_ofDancer hm d 2 rfl rfl (by omega) ?_
      rw [sR_s]
      refine kq_s ?_
      refine g_if_le rfl L_X8_emptyIn_57 (fun h_6 => ?_) (fun h_6 => ?_)
      · have hz : ¬ 0 < leftF (s17 s) d i := by rw [lf]; exact Int32.not_lt.mpr h_6
        refine g_aload_n rfl ?_
        refine g_iload_n rfl ?_
        refine g_iconst (v := 2) ik_2 ?_
        refine g_callV (as := [_, _]) mk_X8_ofDancer ml_X8_57 im_X8_ofDancer se_X8_ofDancer rfl rfl ⟨⟨nle rfl, nle rfl⟩, nle rfl, nle rfl⟩ hm.1 rfl rfl rfl (nle rfl) ?_
        refine ct_X8_ofDancer hm d 2 rfl rfl (by omega) ?_
        rw [sR_s]
        refine kq_s ?_
        refine g_istore_n (nle rfl) ?_
        refine g_aload_n rfl ?_
        refine g_bipush (v := 17) bk_17 ?_
        refine g_iconst (v := 0) ik_0 ?_
        refine g_callV (as := [_, _]) mk_X8_copies ml_X8_83 im_X8_copies se_X8_copies rfl rfl ⟨⟨nle rfl, nle rfl⟩, nle rfl, nle rfl⟩ hm.1 rfl rfl rfl (nle rfl) ?_
        refine ct_X8_copies hm 17 0 rfl rfl (by omega) (by omega) (by omega) ?_
        rw [sR_s, sR_sR]
        refine kq_n ?_
        refine g_iload_n rfl ?_
        refine g_if_le rfl L_X8_emptyIn_79 (fun h_7 => ?_) (fun h_7 => ?_)
        · refine g_iload_n rfl ?_
          refine g_fall rfl L_X8_emptyIn_80 ?_
          refine g_iret rfl (nle rfl) (nle rfl) ?_
          exact qeq (hY hq d (by omega) rfl _ (at_fin fH (fun j hj => hi_wk bc bn hj i))) (by rw [hem, em_z hz]) rfl
        · exact absurd (Int32.not_le.mp h_7) (by rw [← lf]; exact hz)
      · have hpos : 0 < leftF (s17 s) d i := by rw [lf]; exact Int32.not_le.mp h_6
        refine g_aload_n rfl ?_
        refine g_callV (as := []) mk_X8_week ml_X8_76 im_X8_week se_X8_week rfl rfl ⟨⟨nle rfl, nle rfl⟩, nle rfl, nle rfl⟩ hm.1 rfl rfl rfl (nle rfl) ?_
        refine ct_X8_week hm (by rw [sR_s]; exact hI2.c) bc (by rw [sR_s]; exact hI2.d) bn ?_
        rw [sR_s, sR_sR]
        refine kq_s ?_
        refine g_pop rfl ?_
        refine g_iinc (v := nI (i + 1)) rfl (nI_inc _) (nle rfl) ?_
        refine g_goto rfl L_X8_emptyIn_31 ?_
        refine g_mem ?_ (g_lo2 (ih_i hlt_i (hem.trans (by rw [show 100 - i = (100 - (i + 1)) + 1 by omega]; exact em_p hpos))) ⟨rfl, rfl, rfl, trivial⟩)
        rfl
set_option maxRecDepth 100000 in
set_option maxHeartbeats 4000000 in
theorem ct_X8_simulate {X : Xs} {κ : Kp} {M : Mem} {Q : Rs → Kp → Mem → Prop} {m : Nat} (hm : IsMod κ.2.1 m) {B : Nat} {s : Nat → Int32} (hs : M (m + 1) = s) (hI0 : IR B s) {seed : Int64} {v : Int32} (hE : inB v 1 100 = false → Q (.inl (some (.int 0))) κ (upM M m 0 1)) (hY : inB v 1 100 = true → ∀ n, 1 ≤ n → n ≤ 100 → v = nI n → ∀ M', AT M M' m s → Q (.inl (some (.int (siV (s17 s) (siS seed n (s17 s)))))) κ M') : Ct X m_X8_simulate [.ref m, .long seed, .int v] κ M Q := by
  refine ct_of B_X8_simulate_0 pn_X8 rfl (nle rfl) L_X8_simulate_0 ?_
  refine g_aload_n rfl ?_
  refine g_iload_n rfl ?_
  refine g_iconst (v := 1) ik_1 ?_
  refine g_bipush (v := 100) bk_100 ?_
  refine g_callS (as := [_, _, _]) mk_X8_in ml_X8_29 sm_X8_in rfl rfl ⟨⟨nle rfl, nle rfl⟩, nle rfl, nle rfl⟩ rfl rfl (nle rfl) ?_
  refine ct_X8_in ?_
  refine kq_s ?_
  refine g_if_eq_b rfl L_X8_simulate_15 (fun h_1 => ?_) (fun h_1 => ?_)
  · have hq := h_1
    refine g_iconst (v := 1) ik_1 ?_
    refine g_fall rfl L_X8_simulate_16 ?_
    refine g_callV (as := [_]) mk_X8_holds ml_X8_89 im_X8_holds se_X8_holds rfl rfl ⟨⟨nle rfl, nle rfl⟩, nle rfl, nle rfl⟩ hm.1 rfl rfl rfl (nle rfl) ?_
    refine ct_X8_holds hm ?_
    refine kq_s ?_
    refine g_if_ne rfl L_X8_simulate_24 (fun h_2 => absurd h_2 (by decide)) (fun h_2 => ?_)
    refine g_iconst (v := 0) ik_0 ?_
    refine g_iret rfl (nle rfl) (nle rfl) ?_
    exact hE hq
  · have hq := h_1
    obtain ⟨n, hn1, hn2, en⟩ := in_rng (lo := 1) (hi := 100) (by omega) (by omega) rfl rfl hq
    subst en
    refine g_iconst (v := 0) ik_0 ?_
    refine g_goto rfl L_X8_simulate_16 ?_
    refine g_callV (as := [_]) mk_X8_holds ml_X8_89 im_X8_holds se_X8_holds rfl rfl ⟨⟨nle rfl, nle rfl⟩, nle rfl, nle rfl⟩ hm.1 rfl rfl rfl (nle rfl) ?_
    refine ct_X8_holds hm ?_
    have fH := frh M m
    generalize (upM M m 0 0) = M1 at fH ⊢
    have f1 : M1 (m + 1) = s := (fH.2.1 _ (by omega)).trans hs
    have hI1 : IR B (s17 s) := hI0.cg fun j hj => s17_low (by omega)
    refine kq_s ?_
    refine g_if_ne rfl L_X8_simulate_24 (fun h_3 => ?_) (fun h_3 => absurd h_3 (by decide))
    refine g_aload_n rfl ?_
    refine g_iconst (v := 0) ik_0 ?_
    refine g_bipush (v := 17) bk_17 ?_
    refine g_callV (as := [_, _]) mk_X8_copies ml_X8_83 im_X8_copies se_X8_copies rfl rfl ⟨⟨nle rfl, nle rfl⟩, nle rfl, nle rfl⟩ hm.1 rfl rfl rfl (nle rfl) ?_
    refine ct_X8_copies hm 0 17 rfl rfl (by omega) (by omega) (by omega) ?_
    rw [f1, show cpB s 0 17 189 = s17 s from rfl]
    refine kq_n ?_
    refine g_aload_n rfl ?_
    refine g_getR (w := (m + 1)) fl_X8_7 rfl hm.1 rfl ?_
    refine g_bipush (v := 6) bk_6 ?_
    refine g_iaload (j := 6) hm.2.1 rfl (nle rfl) (nle rfl) ?_
    rw [sR_s]
    refine g_istore (nle rfl) ?_
    refine g_lload_n rfl ?_
    refine g_lstore (nle rfl) ?_
    refine g_iconst (v := 0) ik_0 ?_
    refine g_istore (nle rfl) ?_
    refine g_fall rfl L_X8_simulate_46 ?_
    refine g_mem (M' := sR M1 (m + 1) (siS seed 0 (s17 s))) rfl ?_
    refine g_lo2 (lo' := [(0, some (.ref m)), (1, some (.long seed)), (3, some (.int (nI n))), (4, some (.int (s17 s 6))), (5, some (.long (sxL seed 0))), (7, some (.int (nI 0)))]) ?_ ⟨rfl, rfl, rfl, rfl, rfl, rfl, trivial⟩
    refine loop_up (P := fun i => G X m_X8_simulate B_X8_simulate_46 46 [(0, some (.ref m)), (1, some (.long seed)), (3, some (.int (nI n))), (4, some (.int (s17 s 6))), (5, some (.long (sxL seed i))), (7, some (.int (nI i)))] [] (0 + (rmOf m_X8_in).cells + (rmOf m_X8_holds).cells + (rmOf m_X8_copies).cells) (0 + (rmOf m_X8_in).slots + (rmOf m_X8_holds).slots + (rmOf m_X8_copies).slots) κ (sR M1 (m + 1) (siS seed i (s17 s))) Q) n (fun i hle_i ih_i => ?_) 0 (Nat.zero_le _)
    have hkp := si_keep (seed := seed) hI1 i
    have hr31 := rN_lt (lcg (sxL seed i))
    refine g_iload rfl ?_
    refine g_iload_n rfl ?_
    refine g_icmp_ge rfl L_X8_simulate_119 (fun h_4 => ?_) (fun h_4 => ?_)
    · have hx_i := (cmp_ge (c := n) rfl (by omega) hle_i).1 h_4
      obtain ⟨nf, nt, nc, nd, hIe⟩ := hkp.1
      refine g_sipush (v := 10000) sk_10000 ?_
      refine g_aload_n rfl ?_
      refine g_getR (w := (m + 1)) fl_X8_7 rfl hm.1 rfl ?_
      refine g_bipush (v := 6) bk_6 ?_
      refine g_iaload (j := 6) hm.2.1 rfl (nle rfl) (nle rfl) ?_
      rw [sR_s]
      refine g_iload rfl ?_
      refine g_isub ?_
      refine g_imul ?_
      refine g_bipush (v := 100) bk_100 ?_
      refine g_aload_n rfl ?_
      refine g_getR (w := (m + 1)) fl_X8_7 rfl hm.1 rfl ?_
      refine g_iconst (v := 2) ik_2 ?_
      refine g_iaload (j := 2) hm.2.1 rfl (nle rfl) (nle rfl) ?_
      rw [sR_s]
      refine g_imul ?_
      refine g_iadd ?_
      refine g_aload_n rfl ?_
      refine g_callV (as := []) mk_X8_seats ml_X8_184 im_X8_seats se_X8_seats rfl rfl ⟨⟨nle rfl, nle rfl⟩, nle rfl, nle rfl⟩ hm.1 rfl rfl rfl (nle rfl) ?_
      refine ct_X8_seats hm (by rw [sR_s]; exact hIe.c) hIe.lc ?_
      rw [sR_s, show sumI nc (fun k => bitsI (siS seed i (s17 s) (39 + 9 * k + 8))) = seatsV (siS seed i (s17 s)) by unfold seatsV; rw [hIe.n2]]
      refine kq_s ?_
      refine g_bipush (v := 100) bk_100 ?_
      refine g_irem (by decide) ?_
      refine g_iadd ?_
      refine g_istore (nle rfl) ?_
      refine g_aload_n rfl ?_
      refine g_bipush (v := 17) bk_17 ?_
      refine g_iconst (v := 0) ik_0 ?_
      refine g_callV (as := [_, _]) mk_X8_copies ml_X8_83 im_X8_copies se_X8_copies rfl rfl ⟨⟨nle rfl, nle rfl⟩, nle rfl, nle rfl⟩ hm.1 rfl rfl rfl (nle rfl) ?_
      refine ct_X8_copies hm 17 0 rfl rfl (by omega) (by omega) (by omega) ?_
      rw [sR_s, sR_sR]
      refine kq_n ?_
      refine g_iload rfl ?_
      refine g_iret rfl (nle rfl) (nle rfl) ?_
      subst hx_i
      exact qeq (hY hq i hn1 hn2 rfl _ (at_fin fH (fun j hj => hkp.2 j hj))) rfl rfl
    · have hlt_i : i < n := (cmp_ge (c := n) rfl (by omega) hle_i).2 h_4
      refine g_lload rfl ?_
      refine g_ldc2 rfl kc_X8_231 ?_
      refine g_lmul ?_
      refine g_ldc2 rfl kc_X8_233 ?_
      refine g_ladd ?_
      refine g_lstore (nle rfl) ?_
      refine g_lload rfl ?_
      refine g_bipush (v := 33) bk_33 ?_
      refine g_lushr ?_
      refine g_l2i ?_
      rw [rr_eq, show sxL seed i * 6364136223846793005 + 1442695040888963407 = lcg (sxL seed i) from rfl]
      refine g_istore (nle rfl) ?_
      refine g_iload rfl ?_
      refine g_bipush (v := 16) bk_16 ?_
      refine g_irem (by decide) ?_
      rw [show nI ((rN (lcg (sxL seed i)))) - nI ((rN (lcg (sxL seed i)))) / 16 * 16 = nI ((rN (lcg (sxL seed i))) % 16) from pk_rem (d := 16) (by omega) (by omega) (by omega)]
      refine g_bipush (v := 7) bk_7 ?_
      refine g_icmp_ge rfl L_X8_simulate_99 (fun h_5 => ?_) (fun h_5 => ?_)
      · have hk7 : 7 ≤ (rN (lcg (sxL seed i))) % 16 := (nI_leI (a := 7) (b := (rN (lcg (sxL seed i))) % 16) (by omega) (by omega)).mp h_5
        refine g_aload_n rfl ?_
        refine g_iload rfl ?_
        refine g_bipush (v := 16) bk_16 ?_
        refine g_irem (by decide) ?_
        rw [show nI ((rN (lcg (sxL seed i)))) - nI ((rN (lcg (sxL seed i)))) / 16 * 16 = nI ((rN (lcg (sxL seed i))) % 16) from pk_rem (d := 16) (by omega) (by omega) (by omega)]
        refine g_iload rfl ?_
        refine g_bipush (v := 16) bk_16 ?_
        refine g_idiv (by decide) ?_
        rw [show nI ((rN (lcg (sxL seed i)))) / 16 = nI ((rN (lcg (sxL seed i))) / 16) from pk_div (d := 16) (by omega) (by omega) (by omega)]
        refine g_callV (as := [_, _]) mk_X8_dancersTurn ml_X8_238 im_X8_dancersTurn se_X8_dancersTurn rfl rfl ⟨⟨nle rfl, nle rfl⟩, nle rfl, nle rfl⟩ hm.1 rfl rfl rfl (nle rfl) ?_
        refine ct_X8_dancersTurn hm (by rw [sR_s]; exact hkp.1) (by omega) hk7 (by omega) ?_
        rw [sR_s, sR_sR]
        refine kq_n ?_
        refine g_fall rfl L_X8_simulate_113 ?_
        refine g_iinc (v := nI (i + 1)) rfl (nI_inc _) (nle rfl) ?_
        refine g_goto rfl L_X8_simulate_46 ?_
        exact g_lo2 (ih_i (by omega)) ⟨rfl, rfl, rfl, rfl, rfl, rfl, trivial⟩
      · have hk7 : (rN (lcg (sxL seed i))) % 16 < 7 := by
          rcases Nat.lt_or_ge ((rN (lcg (sxL seed i))) % 16) 7 with q | q
          · exact q
          · exact absurd ((nI_leI (a := 7) (b := (rN (lcg (sxL seed i))) % 16) (by omega) (by omega)).mpr q) h_5
        refine g_aload_n rfl ?_
        refine g_iload rfl ?_
        refine g_bipush (v := 16) bk_16 ?_
        refine g_irem (by decide) ?_
        rw [show nI ((rN (lcg (sxL seed i)))) - nI ((rN (lcg (sxL seed i)))) / 16 * 16 = nI ((rN (lcg (sxL seed i))) % 16) from pk_rem (d := 16) (by omega) (by omega) (by omega)]
        refine g_iload rfl ?_
        refine g_bipush (v := 16) bk_16 ?_
        refine g_idiv (by decide) ?_
        rw [show nI ((rN (lcg (sxL seed i)))) / 16 = nI ((rN (lcg (sxL seed i))) / 16) from pk_div (d := 16) (by omega) (by omega) (by omega)]
        refine g_callV (as := [_, _]) mk_X8_turns ml_X8_235 im_X8_turns se_X8_turns rfl rfl ⟨⟨nle rfl, nle rfl⟩, nle rfl, nle rfl⟩ hm.1 rfl rfl rfl (nle rfl) ?_
        refine ct_X8_turns hm (by rw [sR_s]; exact hkp.1) (by omega) hk7 ?_
        rw [sR_s, sR_sR]
        refine kq_n ?_
        refine g_goto rfl L_X8_simulate_113 ?_
        refine g_iinc (v := nI (i + 1)) rfl (nI_inc _) (nle rfl) ?_
        refine g_goto rfl L_X8_simulate_46 ?_
        exact g_lo2 (ih_i (by omega)) ⟨rfl, rfl, rfl, rfl, rfl, rfl, trivial⟩
