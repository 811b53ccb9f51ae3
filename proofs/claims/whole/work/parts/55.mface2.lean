/-! ===== remembering, in the reference ===== -/
def bk (s : Nat → Int32) (i : Nat) : Nat → Int32 := fun j => s (189 * i + j)
def shS (s : Nat → Int32) : Nat → (Nat → Int32)
  | 0 => s
  | n + 1 => cpB (shS s n) (n + 2) (n + 1) 189
def rmS (cnt : Nat) (s : Nat → Int32) : Nat → Int32 := if cnt < 14 then cpB s 0 (cnt + 1) 189 else cpB (shS s 13) 0 14 189
theorem cpB_in {s : Nat → Int32} {a b j : Nat} (hj : j < 189) : cpB s a b 189 (189 * b + j) = s (189 * a + j) := by
  unfold cpB
  rw [if_pos (by omega)]
  congr 1
  omega
theorem cpB_out {s : Nat → Int32} {a b j : Nat} (hj : j < 189 * b ∨ 189 * b + 189 ≤ j) : cpB s a b 189 j = s j := if_neg (by omega)
theorem shS_val (s : Nat → Int32) : ∀ n, n ≤ 13 → ∀ i j, j < 189 → shS s n (189 * i + j) = if 1 ≤ i ∧ i ≤ n then s (189 * (i + 1) + j) else s (189 * i + j)
  | 0, _, i, j, _ => (if_neg (by omega)).symm
  | n + 1, hn, i, j, hj => by
    have ih := shS_val s n (by omega)
    show cpB (shS s n) (n + 2) (n + 1) 189 (189 * i + j) = _
    by_cases e : i = n + 1
    · subst e
      rw [cpB_in hj, ih (n + 2) j hj, if_neg (by omega), if_pos (by omega)]
    · rw [cpB_out (by omega), ih i j hj]
      by_cases h : 1 ≤ i ∧ i ≤ n
      · rw [if_pos h, if_pos (by omega)]
      · rw [if_neg h, if_neg (by omega)]
theorem rm_low {cnt : Nat} {s : Nat → Int32} {j : Nat} (hj : j < 189) : rmS cnt s j = s j := by
  unfold rmS
  split
  · exact cpB_out (by omega)
  · rw [cpB_out (by omega)]
    have h := shS_val s 13 (by omega) 0 j hj
    rw [if_neg (by omega)] at h
    rwa [Nat.mul_zero, Nat.zero_add] at h
theorem rm_high {cnt : Nat} (hc : cnt ≤ 14) {s : Nat → Int32} {i j : Nat} (hi : 15 ≤ i) (hj : j < 189) : rmS cnt s (189 * i + j) = s (189 * i + j) := by
  unfold rmS
  split
  · exact cpB_out (by omega)
  · rw [cpB_out (by omega), shS_val s 13 (by omega) i j hj, if_neg (by omega)]
theorem rm_blk {cnt : Nat} (hc : cnt ≤ 14) {s : Nat → Int32} {i j : Nat} (hi : i < remC cnt) (hj : j < 189) : bk (rmS cnt s) (i + 1) j = remB cnt s (fun i => bk s (i + 1)) i j := by
  unfold remC at hi
  unfold bk rmS remB
  by_cases h : cnt < 14
  · rw [if_pos h] at hi
    simp only [if_pos h]
    by_cases e : i = cnt
    · subst e
      rw [cpB_in hj, if_pos rfl, Nat.mul_zero, Nat.zero_add]
    · rw [cpB_out (by omega), if_neg e]
  · rw [if_neg h] at hi
    simp only [if_neg h]
    by_cases e : i = 13
    · subst e
      rw [if_pos rfl, cpB_in (b := 14) hj]
      have := shS_val s 13 (by omega) 0 j hj
      rw [if_neg (by omega)] at this
      rw [this, Nat.mul_zero, Nat.zero_add]
    · rw [if_neg e, cpB_out (by omega), shS_val s 13 (by omega) (i + 1) j hj, if_pos (by omega)]
theorem IR.cg {B : Nat} {s s' : Nat → Int32} (h : IR B s) (e : ∀ j, j < 189 → s' j = s j) : IR B s' := by
  obtain ⟨nf, nt, nc, nd, h1⟩ := h
  exact ⟨nf, nt, nc, nd, h1.cg e⟩
set_option maxRecDepth 100000 in
set_option maxHeartbeats 4000000 in
theorem ct_X8_remember_lt {X : Xs} {κ : Kp} {M : Mem} {Q : Rs → Kp → Mem → Prop} {m : Nat} (hm : IsMod κ.2.1 m) {cnt : Nat} (h2 : M m 2 = nI cnt) (hc : cnt < 14) (hQ : Q (.inl none) κ (sR (upM M m 2 (nI (cnt + 1))) (m + 1) (cpB (M (m + 1)) 0 (cnt + 1) 189))) : Ct X m_X8_remember [.ref m] κ M Q := by
  refine ct_of B_X8_remember_0 pn_X8 rfl (nle rfl) L_X8_remember_0 ?_
  refine g_iconst (v := 1) ik_1 ?_
  refine g_istore_n (nle rfl) ?_
  refine g_fall rfl L_X8_remember_2 ?_
  refine g_iload_n rfl ?_
  refine g_bipush (v := 14) bk_14 ?_
  refine g_icmp_ge rfl L_X8_remember_31 (fun h_1 => absurd h_1 (by decide)) (fun h_1 => ?_)
  refine g_aload_n rfl ?_
  refine g_getI fl_X8_80 rfl hm.1 rfl ?_
  simp (disch := omega) only [upM_s, upM_j, h2, nI_1]
  refine g_bipush (v := 14) bk_14 ?_
  refine g_icmp_ne rfl L_X8_remember_31 (fun h_2 => ?_) (fun h_2 => ?_)
  · refine g_aload_n rfl ?_
    refine g_dup rfl ?_
    refine g_getI fl_X8_80 rfl hm.1 rfl ?_
    simp (disch := omega) only [upM_s, upM_j, h2, nI_1]
    refine g_aload_n rfl ?_
    refine g_getI fl_X8_80 rfl hm.1 rfl ?_
    simp (disch := omega) only [upM_s, upM_j, h2, nI_1]
    refine g_bipush (v := 14) bk_14 ?_
    refine g_icmp_ge rfl L_X8_remember_49 (fun h_3 => absurd ((nI_leI (a := 14) (b := cnt) (by omega) (by omega)).mp h_3) (by omega)) (fun h_3 => ?_)
    refine g_iconst (v := 1) ik_1 ?_
    refine g_goto rfl L_X8_remember_50 ?_
    refine g_iadd ?_
    refine g_putI pl_X8_80 rfl hm.1 rfl rfl rfl ?_
    refine g_aload_n rfl ?_
    refine g_iconst (v := 0) ik_0 ?_
    refine g_aload_n rfl ?_
    refine g_getI fl_X8_80 rfl hm.1 rfl ?_
    simp (disch := omega) only [upM_s, upM_j, h2, nI_1]
    refine g_callV (as := [_, _]) mk_X8_copies ml_X8_83 im_X8_copies se_X8_copies rfl rfl ⟨⟨nle rfl, nle rfl⟩, nle rfl, nle rfl⟩ hm.1 rfl rfl rfl (nle rfl) ?_
    refine ct_X8_copies hm 0 (cnt + 1) rfl rfl (by omega) (by omega) (by omega) ?_
    refine kq_n ?_
    refine g_vret rfl (nle rfl) (nle rfl) ?_
    exact qeqv hQ (by rw [show upM M m 2 (nI (cnt + 1)) (m + 1) = M (m + 1) by funext j; exact upM_o _ _ _ _ (by omega) j])
  · exact absurd ((nI_eq (a := cnt) (b := 14) (by omega) (by omega)).mp h_2) (by omega)
set_option maxRecDepth 100000 in
set_option maxHeartbeats 4000000 in
theorem ct_X8_remember_full {X : Xs} {κ : Kp} {M : Mem} {Q : Rs → Kp → Mem → Prop} {m : Nat} (hm : IsMod κ.2.1 m) (h2 : M m 2 = nI 14) (hQ : Q (.inl none) κ (sR M (m + 1) (cpB (shS (M (m + 1)) 13) 0 14 189))) : Ct X m_X8_remember [.ref m] κ M Q := by
  refine ct_of B_X8_remember_0 pn_X8 rfl (nle rfl) L_X8_remember_0 ?_
  refine g_iconst (v := 1) ik_1 ?_
  refine g_istore_n (nle rfl) ?_
  refine g_fall rfl L_X8_remember_2 ?_
  refine g_mem (M' := sR M (m + 1) (shS (M (m + 1)) (1 - 1))) (sR_self _ _).symm ?_
  refine g_lo2 (lo' := [(0, some (.ref m)), (1, some (.int (nI 1)))]) ?_ ⟨rfl, rfl, trivial⟩
  refine loop_up (P := fun k => 1 ≤ k → G X m_X8_remember B_X8_remember_2 2 [(0, some (.ref m)), (1, some (.int (nI k)))] [] 0 0 κ (sR M (m + 1) (shS (M (m + 1)) (k - 1))) Q) 14 (fun k hle_k ih_k hpre_k => ?_) 1 (by decide) (Nat.le_refl _)
  refine g_iload_n rfl ?_
  refine g_bipush (v := 14) bk_14 ?_
  refine g_icmp_ge rfl L_X8_remember_31 (fun h_1 => ?_) (fun h_1 => ?_)
  · have hx_k := ((cmp_ge (c := 14) (rfl : (14 : Int32) = nI 14) (nle rfl) hle_k).1 h_1).symm
    subst hx_k
    refine g_aload_n rfl ?_
    refine g_dup rfl ?_
    refine g_getI fl_X8_80 rfl hm.1 rfl ?_
    first | rw [sR_o _ _ _ (by omega), h2] | simp (disch := omega) only [upM_s]
    refine g_aload_n rfl ?_
    refine g_getI fl_X8_80 rfl hm.1 rfl ?_
    first | rw [sR_o _ _ _ (by omega), h2] | simp (disch := omega) only [upM_s]
    refine g_bipush (v := 14) bk_14 ?_
    refine g_icmp_ge rfl L_X8_remember_49 (fun h_2 => ?_) (fun h_2 => absurd h_2 (by decide))
    refine g_iconst (v := 0) ik_0 ?_
    refine g_fall rfl L_X8_remember_50 ?_
    refine g_iadd ?_
    rw [show nI 14 + (0 : Int32) = nI (14 + 0) from nI_add _ 0]
    refine g_putI pl_X8_80 rfl hm.1 rfl rfl rfl ?_
    refine g_aload_n rfl ?_
    refine g_iconst (v := 0) ik_0 ?_
    refine g_aload_n rfl ?_
    refine g_getI fl_X8_80 rfl hm.1 rfl ?_
    first | rw [sR_o _ _ _ (by omega), h2] | simp (disch := omega) only [upM_s]
    refine g_callV (as := [_, _]) mk_X8_copies ml_X8_83 im_X8_copies se_X8_copies rfl rfl ⟨⟨nle rfl, nle rfl⟩, nle rfl, nle rfl⟩ hm.1 rfl rfl rfl (nle rfl) ?_
    refine ct_X8_copies hm 0 14 rfl rfl (by omega) (by omega) (by omega) ?_
    refine kq_n ?_
    refine g_vret rfl (nle rfl) (nle rfl) ?_
    refine qeqv hQ ?_
    rw [show upM (sR M (m + 1) (shS (M (m + 1)) (14 - 1))) m 2 (nI (14 + 0)) = sR M (m + 1) (shS (M (m + 1)) 13) by
      funext r j
      by_cases e : r = m ∧ j = 2
      · rw [e.1, e.2, upM_s, sR_o _ _ _ (by omega), h2]
      · unfold upM; rw [if_neg e]]
    rw [sR_s, sR_sR]
  · have hlt_k : k < 14 := (cmp_ge (c := 14) (rfl : (14 : Int32) = nI 14) (nle rfl) hle_k).2 h_1
    refine g_aload_n rfl ?_
    refine g_getI fl_X8_80 rfl hm.1 rfl ?_
    first | rw [sR_o _ _ _ (by omega), h2] | simp (disch := omega) only [upM_s]
    refine g_bipush (v := 14) bk_14 ?_
    refine g_icmp_ne rfl L_X8_remember_31 (fun h_3 => absurd rfl h_3) (fun h_3 => ?_)
    refine g_aload_n rfl ?_
    refine g_iload_n rfl ?_
    refine g_iconst (v := 1) ik_1 ?_
    refine g_iadd ?_
    rw [show nI k + (1 : Int32) = nI (k + 1) from nI_add _ 1]
    refine g_iload_n rfl ?_
    refine g_callV (as := [_, _]) mk_X8_copies ml_X8_83 im_X8_copies se_X8_copies rfl rfl ⟨⟨nle rfl, nle rfl⟩, nle rfl, nle rfl⟩ hm.1 rfl rfl rfl (nle rfl) ?_
    refine ct_X8_copies hm (k + 1) k rfl rfl (by omega) (by omega) (by omega) ?_
    refine kq_n ?_
    refine g_iinc (v := nI (k + 1)) rfl (nI_inc _) (nle rfl) ?_
    refine g_goto rfl L_X8_remember_2 ?_
    refine g_mem ?_ (g_lo2 (ih_k hlt_k (by omega)) ⟨rfl, rfl, trivial⟩)
    rw [sR_sR, sR_s]
    obtain ⟨z, rfl⟩ : ∃ z, k = z + 1 := ⟨k - 1, by omega⟩
    rfl
theorem m_remember {X : Xs} {κ : Kp} {M : Mem} {Q : Rs → Kp → Mem → Prop} {m : Nat} (hm : IsMod κ.2.1 m) {cnt : Nat} (h2 : M m 2 = nI cnt) (hc : cnt ≤ 14) (hQ : ∀ M', M' (m + 1) = rmS cnt (M (m + 1)) → M' m 2 = nI (remC cnt) → (∀ r, r ≠ m → r ≠ m + 1 → M' r = M r) → (∀ j, j ≠ 2 → M' m j = M m j) → Q (.inl none) κ M') : Ct X m_X8_remember [.ref m] κ M Q := by
  by_cases h : cnt < 14
  · refine ct_X8_remember_lt hm h2 h (hQ _ ?_ ?_ ?_ ?_)
    · rw [sR_s]; unfold rmS; rw [if_pos h]
    · rw [sR_o _ _ _ (by omega), upM_s]; unfold remC; rw [if_pos h]
    · intro r a b
      rw [sR_o _ _ _ b]
      funext j
      exact upM_o _ _ _ _ a j
    · intro j a
      rw [sR_o _ _ _ (by omega)]
      exact upM_j _ _ _ _ a _
  · have e : cnt = 14 := by omega
    subst e
    refine ct_X8_remember_full hm h2 (hQ _ ?_ ?_ ?_ ?_)
    · rw [sR_s]; rfl
    · rw [sR_o _ _ _ (by omega)]; exact h2
    · intro r a b
      exact sR_o _ _ _ b
    · intro j a
      rw [sR_o _ _ _ (by omega)]
