def AN (M M' : Mem) (m c : Nat) (f : Nat → Int32) : Prop := M' (m + 1) = f ∧ M' m 0 = 0 ∧ M' m 2 = nI c ∧ (∀ r, r ≠ m → r ≠ m + 1 → M' r = M r) ∧ (∀ j, j ≠ 0 → j ≠ 2 → M' m j = M m j)
set_option maxRecDepth 100000 in
set_option maxHeartbeats 4000000 in
theorem ct_X8_undo {X : Xs} {κ : Kp} {M : Mem} {Q : Rs → Kp → Mem → Prop} {m : Nat} (hm : IsMod κ.2.1 m) {s : Nat → Int32} (hs : M (m + 1) = s) {cnt : Nat} (h2 : M m 2 = nI cnt) (hc : cnt ≤ 14) (hE : cnt = 0 → Q (.inl (some (.int 0))) κ (upM M m 0 1)) (hY : 0 < cnt → ∀ M', AN M M' m (cnt - 1) (cpB s cnt 0 189) → Q (.inl (some (.int (nI (cnt - 1))))) κ M') : Ct X m_X8_undo [.ref m] κ M Q := by
  refine ct_of B_X8_undo_0 pn_X8 rfl (nle rfl) L_X8_undo_0 ?_
  refine g_aload_n rfl ?_
  refine g_aload_n rfl ?_
  refine g_getI fl_X8_80 rfl hm.1 rfl ?_
  rw [h2]
  refine g_if_le rfl L_X8_undo_12 (fun h_1 => ?_) (fun h_1 => ?_)
  · have hz : cnt = 0 := by have := (nI_leI (a := cnt) (b := 0) (by omega) (by omega)).mp h_1; omega
    refine g_iconst (v := 1) ik_1 ?_
    refine g_fall rfl L_X8_undo_13 ?_
    refine g_callV (as := [_]) mk_X8_holds ml_X8_89 im_X8_holds se_X8_holds rfl rfl ⟨⟨nle rfl, nle rfl⟩, nle rfl, nle rfl⟩ hm.1 rfl rfl rfl (nle rfl) ?_
    refine ct_X8_holds hm ?_
    refine kq_s ?_
    refine g_if_ne rfl L_X8_undo_21 (fun h_2 => absurd h_2 (by decide)) (fun h_2 => ?_)
    refine g_iconst (v := 0) ik_0 ?_
    refine g_iret rfl (nle rfl) (nle rfl) ?_
    exact hE hz
  · have hz : 0 < cnt := by
      rcases Nat.eq_zero_or_pos cnt with q | q
      · exact absurd ((nI_leI (a := cnt) (b := 0) (by omega) (by omega)).mpr (by omega)) h_1
      · exact q
    refine g_iconst (v := 0) ik_0 ?_
    refine g_goto rfl L_X8_undo_13 ?_
    refine g_callV (as := [_]) mk_X8_holds ml_X8_89 im_X8_holds se_X8_holds rfl rfl ⟨⟨nle rfl, nle rfl⟩, nle rfl, nle rfl⟩ hm.1 rfl rfl rfl (nle rfl) ?_
    refine ct_X8_holds hm ?_
    have fH := frh M m
    generalize (upM M m 0 0) = M1 at fH ⊢
    have f1 : M1 (m + 1) = s := (fH.2.1 _ (by omega)).trans hs
    have k2 : M1 m 2 = nI cnt := (fH.2.2 2 (by omega)).trans h2
    refine kq_s ?_
    refine g_if_ne rfl L_X8_undo_21 (fun h_3 => ?_) (fun h_3 => absurd h_3 (by decide))
    refine g_aload_n rfl ?_
    refine g_aload_n rfl ?_
    refine g_getI fl_X8_80 rfl hm.1 rfl ?_
    rw [k2]
    refine g_iconst (v := 0) ik_0 ?_
    refine g_callV (as := [_, _]) mk_X8_copies ml_X8_83 im_X8_copies se_X8_copies rfl rfl ⟨⟨nle rfl, nle rfl⟩, nle rfl, nle rfl⟩ hm.1 rfl rfl rfl (nle rfl) ?_
    refine ct_X8_copies hm cnt 0 rfl rfl (by omega) (by omega) (by omega) ?_
    rw [f1]
    refine kq_n ?_
    refine g_aload_n rfl ?_
    refine g_dup rfl ?_
    refine g_getI fl_X8_80 rfl hm.1 rfl ?_
    rw [sR_o _ _ _ (by omega), k2, ]
    refine g_iconst (v := 1) ik_1 ?_
    refine g_isub ?_
    refine g_putI pl_X8_80 rfl hm.1 rfl rfl rfl ?_
    refine g_aload_n rfl ?_
    refine g_getI fl_X8_80 rfl hm.1 rfl ?_
    rw [upM_s]
    refine g_iret rfl (nle rfl) (nle rfl) ?_
    have e1 : nI cnt - 1 = nI (cnt - 1) := nI_pr (by omega)
    refine qeq (hY hz _ ⟨?_, ?_, ?_, fun r a b => ?_, fun j a b => ?_⟩) e1 rfl
    · rw [show upM (sR M1 (m + 1) (cpB s cnt 0 189)) m 2 (nI cnt - 1) (m + 1) = sR M1 (m + 1) (cpB s cnt 0 189) (m + 1) by funext j; exact upM_o _ _ _ _ (by omega) j, sR_s]
    · rw [upM_j _ _ _ _ (by omega), sR_o _ _ _ (by omega)]; exact fH.1
    · rw [upM_s, e1]
    · rw [← fH.2.1 r a, ← sR_o M1 (m + 1) (cpB s cnt 0 189) b]; funext j; exact upM_o _ _ _ _ a j
    · rw [upM_j _ _ _ _ b, sR_o _ _ _ (by omega)]; exact fH.2.2 j a
set_option maxRecDepth 100000 in
set_option maxHeartbeats 4000000 in
theorem ct_X8_save {X : Xs} {κ : Kp} {M : Mem} {Q : Rs → Kp → Mem → Prop} {m : Nat} (hm : IsMod κ.2.1 m) {s : Nat → Int32} (hs : M (m + 1) = s) {v : Int32} (hE : inB v 0 1 = false → Q (.inl (some (.int 0))) κ (upM M m 0 1)) (hY : inB v 0 1 = true → ∀ k, k ≤ 1 → v = nI k → ∀ M', (M' (m + 1) = cpB s 0 (15 + k) 189 ∧ M' m 0 = 0 ∧ M' (m + 2) k = 1 ∧ (∀ i, i ≠ k → M' (m + 2) i = M (m + 2) i) ∧ (∀ r, r ≠ m → r ≠ m + 1 → r ≠ m + 2 → M' r = M r) ∧ (∀ j, j ≠ 0 → M' m j = M m j)) → Q (.inl (some (.int (s 4)))) κ M') : Ct X m_X8_save [.ref m, .int v] κ M Q := by
  refine ct_of B_X8_save_0 pn_X8 rfl (nle rfl) L_X8_save_0 ?_
  refine g_aload_n rfl ?_
  refine g_iload_n rfl ?_
  refine g_iconst (v := 0) ik_0 ?_
  refine g_iconst (v := 1) ik_1 ?_
  refine g_callS (as := [_, _, _]) mk_X8_in ml_X8_29 sm_X8_in rfl rfl ⟨⟨nle rfl, nle rfl⟩, nle rfl, nle rfl⟩ rfl rfl (nle rfl) ?_
  refine ct_X8_in ?_
  refine kq_s ?_
  refine g_if_eq_b rfl L_X8_save_14 (fun h_1 => ?_) (fun h_1 => ?_)
  · have hq := h_1
    refine g_iconst (v := 1) ik_1 ?_
    refine g_fall rfl L_X8_save_15 ?_
    refine g_callV (as := [_]) mk_X8_holds ml_X8_89 im_X8_holds se_X8_holds rfl rfl ⟨⟨nle rfl, nle rfl⟩, nle rfl, nle rfl⟩ hm.1 rfl rfl rfl (nle rfl) ?_
    refine ct_X8_holds hm ?_
    refine kq_s ?_
    refine g_if_ne rfl L_X8_save_23 (fun h_2 => absurd h_2 (by decide)) (fun h_2 => ?_)
    refine g_iconst (v := 0) ik_0 ?_
    refine g_iret rfl (nle rfl) (nle rfl) ?_
    exact hE hq
  · have hq := h_1
    obtain ⟨k, hk, ek⟩ := in_lt (n := 1) (by omega) hq
    subst ek
    refine g_iconst (v := 0) ik_0 ?_
    refine g_goto rfl L_X8_save_15 ?_
    refine g_callV (as := [_]) mk_X8_holds ml_X8_89 im_X8_holds se_X8_holds rfl rfl ⟨⟨nle rfl, nle rfl⟩, nle rfl, nle rfl⟩ hm.1 rfl rfl rfl (nle rfl) ?_
    refine ct_X8_holds hm ?_
    have fH := frh M m
    generalize (upM M m 0 0) = M1 at fH ⊢
    have f1 : M1 (m + 1) = s := (fH.2.1 _ (by omega)).trans hs
    refine kq_s ?_
    refine g_if_ne rfl L_X8_save_23 (fun h_3 => ?_) (fun h_3 => absurd h_3 (by decide))
    refine g_aload_n rfl ?_
    refine g_iconst (v := 0) ik_0 ?_
    refine g_bipush (v := 15) bk_15 ?_
    refine g_iload_n rfl ?_
    refine g_iadd ?_
    rw [show (15 : Int32) + nI k = nI (15 + k) from nI_add 15 k]
    refine g_callV (as := [_, _]) mk_X8_copies ml_X8_83 im_X8_copies se_X8_copies rfl rfl ⟨⟨nle rfl, nle rfl⟩, nle rfl, nle rfl⟩ hm.1 rfl rfl rfl (nle rfl) ?_
    refine ct_X8_copies hm 0 (15 + k) rfl rfl (by omega) (by omega) (by omega) ?_
    rw [f1]
    refine kq_n ?_
    refine g_aload_n rfl ?_
    refine g_getR (w := (m + 2)) fl_X8_13 rfl hm.1 rfl ?_
    refine g_iload_n rfl ?_
    refine g_iconst (v := 1) ik_1 ?_
    refine g_iastore (j := k) hm.2.2.1 rfl (by omega) (nle rfl) ?_
    refine g_aload_n rfl ?_
    refine g_getR (w := (m + 1)) fl_X8_7 rfl hm.1 rfl ?_
    refine g_iconst (v := 4) ik_4 ?_
    refine g_iaload (j := 4) hm.2.1 rfl (nle rfl) (nle rfl) ?_
    refine g_iret rfl (nle rfl) (nle rfl) ?_
    refine qeq (hY hq k hk rfl _ ⟨?_, ?_, ?_, fun i a => ?_, fun r a b c => ?_, fun j a => ?_⟩) ?_ rfl
    · rw [show upM (sR M1 (m + 1) (cpB s 0 (15 + k) 189)) (m + 2) k 1 (m + 1) = sR M1 (m + 1) (cpB s 0 (15 + k) 189) (m + 1) by funext j; exact upM_o _ _ _ _ (by omega) j, sR_s]
    · rw [upM_o _ _ _ _ (by omega), sR_o _ _ _ (by omega)]; exact fH.1
    · rw [upM_s]
    · rw [upM_j _ _ _ _ a, sR_o _ _ _ (by omega)]; exact congrFun (fH.2.1 _ (by omega)) i
    · rw [← fH.2.1 r a, ← sR_o M1 (m + 1) (cpB s 0 (15 + k) 189) b]; funext j; exact upM_o _ _ _ _ c j
    · rw [upM_o _ _ _ _ (by omega), sR_o _ _ _ (by omega)]; exact fH.2.2 j a
    · rw [upM_o _ _ _ _ (by omega), sR_s]; exact cpB_out (by omega)
set_option maxRecDepth 100000 in
set_option maxHeartbeats 4000000 in
theorem ct_X8_restore {X : Xs} {κ : Kp} {M : Mem} {Q : Rs → Kp → Mem → Prop} {m : Nat} (hm : IsMod κ.2.1 m) {s : Nat → Int32} (hs : M (m + 1) = s) {v : Int32} {fb : Nat → Bool} (hfb : ∀ k, k < 2 → M (m + 2) k = bI (fb k)) (hE : inB v 0 1 = false → Q (.inl (some (.int 0))) κ (upM M m 0 1)) (hE2 : inB v 0 1 = true → ∀ k, k ≤ 1 → v = nI k → fb k = false → Q (.inl (some (.int 0))) κ (upM M m 0 2)) (hY : inB v 0 1 = true → ∀ k, k ≤ 1 → v = nI k → fb k = true → ∀ M', AN M M' m 0 (cpB s (15 + k) 0 189) → Q (.inl (some (.int (cpB s (15 + k) 0 189 4)))) κ M') : Ct X m_X8_restore [.ref m, .int v] κ M Q := by
  refine ct_of B_X8_restore_0 pn_X8 rfl (nle rfl) L_X8_restore_0 ?_
  refine g_iload_n rfl ?_
  refine g_iconst (v := 0) ik_0 ?_
  refine g_iconst (v := 1) ik_1 ?_
  refine g_callS (as := [_, _, _]) mk_X8_in ml_X8_29 sm_X8_in rfl rfl ⟨⟨nle rfl, nle rfl⟩, nle rfl, nle rfl⟩ rfl rfl (nle rfl) ?_
  refine ct_X8_in ?_
  refine kq_s ?_
  refine g_istore_n (nle rfl) ?_
  refine g_aload_n rfl ?_
  refine g_iload_n rfl ?_
  refine g_if_ne_b rfl L_X8_restore_16 (fun h_1 => ?_) (fun h_1 => ?_)
  · have hq := h_1
    obtain ⟨k, hk, ek⟩ := in_lt (n := 1) (by omega) hq
    subst ek
    refine g_aload_n rfl ?_
    refine g_getR (w := (m + 2)) fl_X8_13 rfl hm.1 rfl ?_
    refine g_iload_n rfl ?_
    refine g_iaload (j := k) hm.2.2.1 rfl (by omega) (nle rfl) ?_
    refine g_if_ne rfl L_X8_restore_29 (fun h_2 => ?_) (fun h_2 => ?_)
    · have hf : fb k = true := by
        cases z : fb k with
        | true => rfl
        | false => rw [hfb k (by omega), z] at h_2; exact absurd rfl h_2
      refine g_iconst (v := 0) ik_0 ?_
      refine g_fall rfl L_X8_restore_30 ?_
      refine g_callV (as := [_]) mk_X8_holds ml_X8_89 im_X8_holds se_X8_holds rfl rfl ⟨⟨nle rfl, nle rfl⟩, nle rfl, nle rfl⟩ hm.1 rfl rfl rfl (nle rfl) ?_
      refine ct_X8_holds hm ?_
      have fH := frh M m
      generalize (upM M m 0 0) = M1 at fH ⊢
      have f1 : M1 (m + 1) = s := (fH.2.1 _ (by omega)).trans hs
      refine kq_s ?_
      refine g_if_ne rfl L_X8_restore_38 (fun h_3 => ?_) (fun h_3 => absurd h_3 (by decide))
      refine g_aload_n rfl ?_
      refine g_bipush (v := 15) bk_15 ?_
      refine g_iload_n rfl ?_
      refine g_iadd ?_
      rw [show (15 : Int32) + nI k = nI (15 + k) from nI_add 15 k]
      refine g_iconst (v := 0) ik_0 ?_
      refine g_callV (as := [_, _]) mk_X8_copies ml_X8_83 im_X8_copies se_X8_copies rfl rfl ⟨⟨nle rfl, nle rfl⟩, nle rfl, nle rfl⟩ hm.1 rfl rfl rfl (nle rfl) ?_
      refine ct_X8_copies hm (15 + k) 0 rfl rfl (by omega) (by omega) (by omega) ?_
      rw [f1]
      refine kq_n ?_
      refine g_aload_n rfl ?_
      refine g_iconst (v := 0) ik_0 ?_
      refine g_putI pl_X8_80 rfl hm.1 rfl rfl rfl ?_
      refine g_aload_n rfl ?_
      refine g_getR (w := (m + 1)) fl_X8_7 rfl hm.1 rfl ?_
      refine g_iconst (v := 4) ik_4 ?_
      refine g_iaload (j := 4) hm.2.1 rfl (nle rfl) (nle rfl) ?_
      refine g_iret rfl (nle rfl) (nle rfl) ?_
      refine qeq (hY hq k hk rfl hf _ ⟨?_, ?_, ?_, fun r a b => ?_, fun j a b => ?_⟩) ?_ rfl
      · rw [show upM (sR M1 (m + 1) (cpB s (15 + k) 0 189)) m 2 0 (m + 1) = sR M1 (m + 1) (cpB s (15 + k) 0 189) (m + 1) by funext j; exact upM_o _ _ _ _ (by omega) j, sR_s]
      · rw [upM_j _ _ _ _ (by omega), sR_o _ _ _ (by omega)]; exact fH.1
      · rw [upM_s]; rfl
      · rw [← fH.2.1 r a, ← sR_o M1 (m + 1) (cpB s (15 + k) 0 189) b]; funext j; exact upM_o _ _ _ _ a j
      · rw [upM_j _ _ _ _ b, sR_o _ _ _ (by omega)]; exact fH.2.2 j a
      · rw [upM_o _ _ _ _ (by omega), sR_s]
    · have hf : fb k = false := by
        cases z : fb k with
        | false => rfl
        | true => rw [hfb k (by omega), z] at h_2; exact absurd h_2 (by decide)
      refine g_iconst (v := 2) ik_2 ?_
      refine g_goto rfl L_X8_restore_30 ?_
      refine g_callV (as := [_]) mk_X8_holds ml_X8_89 im_X8_holds se_X8_holds rfl rfl ⟨⟨nle rfl, nle rfl⟩, nle rfl, nle rfl⟩ hm.1 rfl rfl rfl (nle rfl) ?_
      refine ct_X8_holds hm ?_
      refine kq_s ?_
      refine g_if_ne rfl L_X8_restore_38 (fun h_4 => absurd h_4 (by decide)) (fun h_4 => ?_)
      refine g_iconst (v := 0) ik_0 ?_
      refine g_iret rfl (nle rfl) (nle rfl) ?_
      exact hE2 hq k hk rfl hf
  · have hq := h_1
    refine g_iconst (v := 1) ik_1 ?_
    refine g_goto rfl L_X8_restore_30 ?_
    refine g_callV (as := [_]) mk_X8_holds ml_X8_89 im_X8_holds se_X8_holds rfl rfl ⟨⟨nle rfl, nle rfl⟩, nle rfl, nle rfl⟩ hm.1 rfl rfl rfl (nle rfl) ?_
    refine ct_X8_holds hm ?_
    refine kq_s ?_
    refine g_if_ne rfl L_X8_restore_38 (fun h_5 => absurd h_5 (by decide)) (fun h_5 => ?_)
    refine g_iconst (v := 0) ik_0 ?_
    refine g_iret rfl (nle rfl) (nle rfl) ?_
    exact hE hq
