def cpS4 (M : Mem) (o o2 nf nt nc nd : Nat) : Mem := (cpA (cpA (cpA (cpA M (o + 2) (o2 + 2) nf 4) (o + 7) (o2 + 7) nt 2) (o + 13) (o2 + 13) nc 9) (o + 24) (o2 + 24) nd 4)
set_option maxRecDepth 100000 in
set_option maxHeartbeats 4000000 in
theorem ct_X4_copyRowsFrom {X : Xs} {κ : Kp} {M : Mem} {Q : Rs → Kp → Mem → Prop} {o : Nat} (ho : IsStu κ.2.1 o) {o2 : Nat} (ho2 : IsStu κ.2.1 o2) (hd : o + 37 ≤ o2 ∨ o2 + 37 ≤ o) {nf nt nc nd : Nat} (h5 : M o 5 = nI nf) (h6 : M o 6 = nI nt) (h7 : M o 7 = nI nc) (h8 : M o 8 = nI nd) (bf : nf ≤ 4) (bt : nt ≤ 5) (bc : nc ≤ 10) (bn : nd ≤ 12) (hQ : Q (.inl none) κ (cpS4 M o o2 nf nt nc nd)) : Ct X m_X4_copyRowsFrom [.ref o, .ref o2] κ M Q := by
  refine ct_of B_X4_copyRowsFrom_0 pn_X4 rfl (nle rfl) L_X4_copyRowsFrom_0 ?_
  refine g_iconst (v := 0) ik_0 ?_
  refine g_istore_n (nle rfl) ?_
  refine g_fall rfl L_X4_copyRowsFrom_2 ?_
  refine g_mem (M' := cpA M (o + 2) (o2 + 2) 0 4) (cpA_0 _ _ _ _).symm ?_
  refine g_lo2 (lo' := [(0, some (.ref o)), (1, some (.ref o2)), (2, some (.int (nI 0)))]) ?_ ⟨rfl, rfl, rfl, trivial⟩
  refine loop_up (P := fun f => G X m_X4_copyRowsFrom B_X4_copyRowsFrom_2 2 [(0, some (.ref o)), (1, some (.ref o2)), (2, some (.int (nI f)))] [] 0 0 κ (cpA M (o + 2) (o2 + 2) f 4) Q) nf (fun f hle_f ih_f => ?_) 0 (Nat.zero_le _)
  refine g_iload_n rfl ?_
  refine g_aload_n rfl ?_
  refine g_getI fl_X4_46 rfl ho.s0 rfl ?_
  simp (disch := omega) only [cpA_o, h5, h6, h7, h8]
  refine g_icmp_ge rfl L_X4_copyRowsFrom_31 (fun h_1 => ?_) (fun h_1 => ?_)
  · have hx_f := ((cmp_ge (c := nf) rfl (by omega) hle_f).1 h_1).symm
    subst hx_f
    refine g_iconst (v := 0) ik_0 ?_
    refine g_istore_n (nle rfl) ?_
    refine g_fall rfl L_X4_copyRowsFrom_33 ?_
    refine g_mem (M' := cpA (cpA M (o + 2) (o2 + 2) nf 4) (o + 7) (o2 + 7) 0 2) (cpA_0 _ _ _ _).symm ?_
    refine g_lo2 (lo' := [(0, some (.ref o)), (1, some (.ref o2)), (2, some (.int (nI 0)))]) ?_ ⟨rfl, rfl, rfl, trivial⟩
    refine loop_up (P := fun t => G X m_X4_copyRowsFrom B_X4_copyRowsFrom_33 33 [(0, some (.ref o)), (1, some (.ref o2)), (2, some (.int (nI t)))] [] 0 0 κ (cpA (cpA M (o + 2) (o2 + 2) nf 4) (o + 7) (o2 + 7) t 2) Q) nt (fun t hle_t ih_t => ?_) 0 (Nat.zero_le _)
    refine g_iload_n rfl ?_
    refine g_aload_n rfl ?_
    refine g_getI fl_X4_50 rfl ho.s0 rfl ?_
    simp (disch := omega) only [cpA_o, h5, h6, h7, h8]
    refine g_icmp_ge rfl L_X4_copyRowsFrom_62 (fun h_2 => ?_) (fun h_2 => ?_)
    · have hx_t := ((cmp_ge (c := nt) rfl (by omega) hle_t).1 h_2).symm
      subst hx_t
      refine g_iconst (v := 0) ik_0 ?_
      refine g_istore_n (nle rfl) ?_
      refine g_fall rfl L_X4_copyRowsFrom_64 ?_
      refine g_mem (M' := cpA (cpA (cpA M (o + 2) (o2 + 2) nf 4) (o + 7) (o2 + 7) nt 2) (o + 13) (o2 + 13) 0 9) (cpA_0 _ _ _ _).symm ?_
      refine g_lo2 (lo' := [(0, some (.ref o)), (1, some (.ref o2)), (2, some (.int (nI 0)))]) ?_ ⟨rfl, rfl, rfl, trivial⟩
      refine loop_up (P := fun k => G X m_X4_copyRowsFrom B_X4_copyRowsFrom_64 64 [(0, some (.ref o)), (1, some (.ref o2)), (2, some (.int (nI k)))] [] 0 0 κ (cpA (cpA (cpA M (o + 2) (o2 + 2) nf 4) (o + 7) (o2 + 7) nt 2) (o + 13) (o2 + 13) k 9) Q) nc (fun k hle_k ih_k => ?_) 0 (Nat.zero_le _)
      refine g_iload_n rfl ?_
      refine g_aload_n rfl ?_
      refine g_getI fl_X4_53 rfl ho.s0 rfl ?_
      simp (disch := omega) only [cpA_o, h5, h6, h7, h8]
      refine g_icmp_ge rfl L_X4_copyRowsFrom_93 (fun h_3 => ?_) (fun h_3 => ?_)
      · have hx_k := ((cmp_ge (c := nc) rfl (by omega) hle_k).1 h_3).symm
        subst hx_k
        refine g_iconst (v := 0) ik_0 ?_
        refine g_istore_n (nle rfl) ?_
        refine g_fall rfl L_X4_copyRowsFrom_95 ?_
        refine g_mem (M' := cpA (cpA (cpA (cpA M (o + 2) (o2 + 2) nf 4) (o + 7) (o2 + 7) nt 2) (o + 13) (o2 + 13) nc 9) (o + 24) (o2 + 24) 0 4) (cpA_0 _ _ _ _).symm ?_
        refine g_lo2 (lo' := [(0, some (.ref o)), (1, some (.ref o2)), (2, some (.int (nI 0)))]) ?_ ⟨rfl, rfl, rfl, trivial⟩
        refine loop_up (P := fun d => G X m_X4_copyRowsFrom B_X4_copyRowsFrom_95 95 [(0, some (.ref o)), (1, some (.ref o2)), (2, some (.int (nI d)))] [] 0 0 κ (cpA (cpA (cpA (cpA M (o + 2) (o2 + 2) nf 4) (o + 7) (o2 + 7) nt 2) (o + 13) (o2 + 13) nc 9) (o + 24) (o2 + 24) d 4) Q) nd (fun d hle_d ih_d => ?_) 0 (Nat.zero_le _)
        refine g_iload_n rfl ?_
        refine g_aload_n rfl ?_
        refine g_getI fl_X4_56 rfl ho.s0 rfl ?_
        simp (disch := omega) only [cpA_o, h5, h6, h7, h8]
        refine g_icmp_ge rfl L_X4_copyRowsFrom_124 (fun h_4 => ?_) (fun h_4 => ?_)
        · have hx_d := ((cmp_ge (c := nd) rfl (by omega) hle_d).1 h_4).symm
          subst hx_d
          refine g_vret rfl (nle rfl) (nle rfl) ?_
          exact hQ
        · have hlt_d : d < nd := (cmp_ge (c := nd) rfl (by omega) hle_d).2 h_4
          refine g_aload_n rfl ?_
          refine g_getR (w := (o + 23)) fl_X4_34 rfl ho.s0 rfl ?_
          refine g_iload_n rfl ?_
          refine g_aaload (j := d) (w := (o + 24 + d)) ho.da (nle rfl) rfl (by omega) (nle rfl) (rcs_get (by omega)) ?_
          refine g_aload_n rfl ?_
          refine g_getR (w := (o2 + 23)) fl_X4_34 rfl ho2.s0 rfl ?_
          refine g_iload_n rfl ?_
          refine g_aaload (j := d) (w := (o2 + 24 + d)) ho2.da (nle rfl) rfl (by omega) (nle rfl) (rcs_get (by omega)) ?_
          refine g_callV (as := [_]) mk_X0_copyFrom ml_X4_88 im_X0_copyFrom se_X0_copyFrom rfl rfl ⟨⟨nle rfl, nle rfl⟩, nle rfl, nle rfl⟩ (ho.di (by omega)) rfl rfl rfl (nle rfl) ?_
          refine ct_X0_copyFrom (ho.di (by omega)) (ho2.di (by omega)) (by omega) ?_
          refine kq_n ?_
          refine g_iinc (v := nI (d + 1)) rfl (nI_inc _) (nle rfl) ?_
          refine g_goto rfl L_X4_copyRowsFrom_95 ?_
          refine g_mem ?_ (g_lo2 (ih_d hlt_d) ⟨rfl, rfl, rfl, trivial⟩)
          exact cpA_s (by omega)
      · have hlt_k : k < nc := (cmp_ge (c := nc) rfl (by omega) hle_k).2 h_3
        refine g_aload_n rfl ?_
        refine g_getR (w := (o + 12)) fl_X4_27 rfl ho.s0 rfl ?_
        refine g_iload_n rfl ?_
        refine g_aaload (j := k) (w := (o + 13 + k)) ho.la (nle rfl) rfl (by omega) (nle rfl) (rcs_get (by omega)) ?_
        refine g_aload_n rfl ?_
        refine g_getR (w := (o2 + 12)) fl_X4_27 rfl ho2.s0 rfl ?_
        refine g_iload_n rfl ?_
        refine g_aaload (j := k) (w := (o2 + 13 + k)) ho2.la (nle rfl) rfl (by omega) (nle rfl) (rcs_get (by omega)) ?_
        refine g_callV (as := [_]) mk_X3_copyFrom ml_X4_85 im_X3_copyFrom se_X3_copyFrom rfl rfl ⟨⟨nle rfl, nle rfl⟩, nle rfl, nle rfl⟩ (ho.li (by omega)) rfl rfl rfl (nle rfl) ?_
        refine ct_X3_copyFrom (ho.li (by omega)) (ho2.li (by omega)) (by omega) ?_
        refine kq_n ?_
        refine g_iinc (v := nI (k + 1)) rfl (nI_inc _) (nle rfl) ?_
        refine g_goto rfl L_X4_copyRowsFrom_64 ?_
        refine g_mem ?_ (g_lo2 (ih_k hlt_k) ⟨rfl, rfl, rfl, trivial⟩)
        exact cpA_s (by omega)
    · have hlt_t : t < nt := (cmp_ge (c := nt) rfl (by omega) hle_t).2 h_2
      refine g_aload_n rfl ?_
      refine g_getR (w := (o + 6)) fl_X4_20 rfl ho.s0 rfl ?_
      refine g_iload_n rfl ?_
      refine g_aaload (j := t) (w := (o + 7 + t)) ho.ta (nle rfl) rfl (by omega) (nle rfl) (rcs_get (by omega)) ?_
      refine g_aload_n rfl ?_
      refine g_getR (w := (o2 + 6)) fl_X4_20 rfl ho2.s0 rfl ?_
      refine g_iload_n rfl ?_
      refine g_aaload (j := t) (w := (o2 + 7 + t)) ho2.ta (nle rfl) rfl (by omega) (nle rfl) (rcs_get (by omega)) ?_
      refine g_callV (as := [_]) mk_X5_copyFrom ml_X4_82 im_X5_copyFrom se_X5_copyFrom rfl rfl ⟨⟨nle rfl, nle rfl⟩, nle rfl, nle rfl⟩ (ho.ti (by omega)) rfl rfl rfl (nle rfl) ?_
      refine ct_X5_copyFrom (ho.ti (by omega)) (ho2.ti (by omega)) (by omega) ?_
      refine kq_n ?_
      refine g_iinc (v := nI (t + 1)) rfl (nI_inc _) (nle rfl) ?_
      refine g_goto rfl L_X4_copyRowsFrom_33 ?_
      refine g_mem ?_ (g_lo2 (ih_t hlt_t) ⟨rfl, rfl, rfl, trivial⟩)
      exact cpA_s (by omega)
  · have hlt_f : f < nf := (cmp_ge (c := nf) rfl (by omega) hle_f).2 h_1
    refine g_aload_n rfl ?_
    refine g_getR (w := (o + 1)) fl_X4_11 rfl ho.s0 rfl ?_
    refine g_iload_n rfl ?_
    refine g_aaload (j := f) (w := (o + 2 + f)) ho.fa (nle rfl) rfl (by omega) (nle rfl) (rcs_get (by omega)) ?_
    refine g_aload_n rfl ?_
    refine g_getR (w := (o2 + 1)) fl_X4_11 rfl ho2.s0 rfl ?_
    refine g_iload_n rfl ?_
    refine g_aaload (j := f) (w := (o2 + 2 + f)) ho2.fa (nle rfl) rfl (by omega) (nle rfl) (rcs_get (by omega)) ?_
    refine g_callV (as := [_]) mk_X1_copyFrom ml_X4_78 im_X1_copyFrom se_X1_copyFrom rfl rfl ⟨⟨nle rfl, nle rfl⟩, nle rfl, nle rfl⟩ (ho.fi (by omega)) rfl rfl rfl (nle rfl) ?_
    refine ct_X1_copyFrom (ho.fi (by omega)) (ho2.fi (by omega)) (by omega) ?_
    refine kq_n ?_
    refine g_iinc (v := nI (f + 1)) rfl (nI_inc _) (nle rfl) ?_
    refine g_goto rfl L_X4_copyRowsFrom_2 ?_
    refine g_mem ?_ (g_lo2 (ih_f hlt_f) ⟨rfl, rfl, rfl, trivial⟩)
    exact cpA_s (by omega)
set_option maxRecDepth 100000 in
set_option maxHeartbeats 4000000 in
theorem ct_X4_copyFrom {X : Xs} {κ : Kp} {M : Mem} {Q : Rs → Kp → Mem → Prop} {o : Nat} (ho : IsStu κ.2.1 o) {o2 : Nat} (ho2 : IsStu κ.2.1 o2) (hd : o + 37 ≤ o2 ∨ o2 + 37 ≤ o) {B nf nt nc nd : Nat} {s : Nat → Int32} (hr : RepS M o2 nf nt nc nd s) (hI : Inv B nf nt nc nd s) (hQ : ∀ M', RepS M' o nf nt nc nd s → M' o 12 = M o2 12 → (∀ r, r < o ∨ o + 37 ≤ r → M' r = M r) → Q (.inl none) κ M') : Ct X m_X4_copyFrom [.ref o, .ref o2] κ M Q := by
  refine ct_of B_X4_copyFrom_0 pn_X4 rfl (nle rfl) L_X4_copyFrom_0 ?_
  have bf := hI.lf
  have bt := hI.lt
  have bc := hI.lc
  have bn := hI.ld
  refine g_aload_n rfl ?_
  refine g_aload_n rfl ?_
  refine g_getI fl_X4_46 rfl ho2.s0 rfl ?_
  refine g_putI pl_X4_46 rfl ho.s0 rfl rfl rfl ?_
  refine g_aload_n rfl ?_
  refine g_aload_n rfl ?_
  refine g_getI fl_X4_50 rfl ho2.s0 rfl ?_
  refine g_putI pl_X4_50 rfl ho.s0 rfl rfl rfl ?_
  refine g_aload_n rfl ?_
  refine g_aload_n rfl ?_
  refine g_getI fl_X4_53 rfl ho2.s0 rfl ?_
  refine g_putI pl_X4_53 rfl ho.s0 rfl rfl rfl ?_
  refine g_aload_n rfl ?_
  refine g_aload_n rfl ?_
  refine g_getI fl_X4_56 rfl ho2.s0 rfl ?_
  refine g_putI pl_X4_56 rfl ho.s0 rfl rfl rfl ?_
  refine g_aload_n rfl ?_
  refine g_aload_n rfl ?_
  refine g_getI fl_X4_59 rfl ho2.s0 rfl ?_
  refine g_putI pl_X4_59 rfl ho.s0 rfl rfl rfl ?_
  refine g_aload_n rfl ?_
  refine g_aload_n rfl ?_
  refine g_getI fl_X4_62 rfl ho2.s0 rfl ?_
  refine g_putI pl_X4_62 rfl ho.s0 rfl rfl rfl ?_
  refine g_aload_n rfl ?_
  refine g_aload_n rfl ?_
  refine g_getI fl_X4_65 rfl ho2.s0 rfl ?_
  refine g_putI pl_X4_65 rfl ho.s0 rfl rfl rfl ?_
  refine g_aload_n rfl ?_
  refine g_aload_n rfl ?_
  refine g_getI fl_X4_68 rfl ho2.s0 rfl ?_
  refine g_putI pl_X4_68 rfl ho.s0 rfl rfl rfl ?_
  refine g_aload_n rfl ?_
  refine g_aload_n rfl ?_
  refine g_getI fl_X4_71 rfl ho2.s0 rfl ?_
  refine g_putI pl_X4_71 rfl ho.s0 rfl rfl rfl ?_
  refine g_aload_n rfl ?_
  refine g_getR (w := (o + 36)) fl_X4_39 rfl ho.s0 rfl ?_
  refine g_iconst (v := 0) ik_0 ?_
  refine g_aload_n rfl ?_
  refine g_getR (w := (o2 + 36)) fl_X4_39 rfl ho2.s0 rfl ?_
  refine g_iconst (v := 0) ik_0 ?_
  refine g_iaload (j := 0) ho2.se rfl (nle rfl) (nle rfl) ?_
  refine g_iastore (j := 0) ho.se rfl (nle rfl) (nle rfl) ?_
  refine g_aload_n rfl ?_
  refine g_getR (w := (o + 36)) fl_X4_39 rfl ho.s0 rfl ?_
  refine g_iconst (v := 1) ik_1 ?_
  refine g_aload_n rfl ?_
  refine g_getR (w := (o2 + 36)) fl_X4_39 rfl ho2.s0 rfl ?_
  refine g_iconst (v := 1) ik_1 ?_
  refine g_iaload (j := 1) ho2.se rfl (nle rfl) (nle rfl) ?_
  refine g_iastore (j := 1) ho.se rfl (nle rfl) (nle rfl) ?_
  refine g_aload_n rfl ?_
  refine g_aload_n rfl ?_
  refine g_callV (as := [_]) mk_X4_copyRowsFrom ml_X4_74 im_X4_copyRowsFrom se_X4_copyRowsFrom rfl rfl ⟨⟨nle rfl, nle rfl⟩, nle rfl, nle rfl⟩ ho.s0 rfl rfl rfl (nle rfl) ?_
  refine ct_X4_copyRowsFrom ho ho2 hd (by simp (disch := omega) only [upM_s, upM_o, upM_j]; exact hr.c5 hI) (by simp (disch := omega) only [upM_s, upM_o, upM_j]; exact hr.c6 hI) (by simp (disch := omega) only [upM_s, upM_o, upM_j]; exact hr.c7 hI) (by simp (disch := omega) only [upM_s, upM_o, upM_j]; exact hr.c8 hI) hI.lf hI.lt hI.lc hI.ld ?_
  refine kq_n ?_
  refine g_vret rfl (nle rfl) (nle rfl) ?_
  refine hQ _ ?_ ?_ ?_
  · clear hQ
    obtain ⟨⟨a1, a2, a3, a4, a5, a6, a7, a8, a9, a10⟩, hf, ht, hk, hd2⟩ := hr
    refine ⟨?_, fun f hf' => ?_, fun t ht' => ?_, fun k hk' => ?_, fun d hd' => ?_⟩
    · simp (disch := omega) only [cpS4, cpA_o, upM_s, upM_o, upM_j, a1, a2, a3, a4, a5, a6, a7, a8, a9, a10, and_self]
    · obtain ⟨k0, k1, k2, k3⟩ := hf f (by omega)
      simp (disch := omega) only [cpS4, cpA_a, cpA_o, upM_o]
      exact ⟨k0, k1, k2, k3⟩
    · obtain ⟨k0, k1⟩ := ht t (by omega)
      simp (disch := omega) only [cpS4, cpA_a, cpA_o, upM_o]
      exact ⟨k0, k1⟩
    · obtain ⟨k0, k1, k2, k3, k4, k5, k6, k7, k8⟩ := hk k (by omega)
      simp (disch := omega) only [cpS4, cpA_a, cpA_o, upM_o]
      exact ⟨k0, k1, k2, k3, k4, k5, k6, k7, k8⟩
    · obtain ⟨k0, k1, k2, k3⟩ := hd2 d (by omega)
      simp (disch := omega) only [cpS4, cpA_a, cpA_o, upM_o]
      exact ⟨k0, k1, k2, k3⟩
  · clear hQ
    simp (disch := omega) only [cpS4, cpA_o, upM_s, upM_o, upM_j]
  · clear hQ
    intro r hr'
    funext j
    simp (disch := omega) only [cpS4, cpA_o, upM_o]
theorem drS_o {s : Nat → Int32} {n k j : Nat} (h2 : j ≠ 2) (h10 : j ≠ 10) (h : j < 39 + 9 * k ∨ 39 + 9 * (n - 1) ≤ j) : drS s n k j = s j := by
  show (if _ then _ else _) = _
  rw [if_neg (by omega), upd_ne (by omega), upd_ne (by omega)]
theorem drS_2 {s : Nat → Int32} {n k : Nat} : drS s n k 2 = nI (n - 1) := by
  show (if _ then _ else _) = _
  rw [if_neg (by omega), upd_same]
theorem drS_10 {s : Nat → Int32} {n k : Nat} : drS s n k 10 = s 10 + s (39 + 9 * k + 7) := by
  show (if _ then _ else _) = _
  rw [if_neg (by omega), upd_ne (by omega), upd_same]
theorem drS_k {s : Nat → Int32} {n k k' i : Nat} (h1 : k' < n - 1) (h2 : i < 9) (h3 : k ≤ k') : drS s n k (39 + 9 * k' + i) = s (39 + 9 * (k' + 1) + i) := by
  show (if _ then _ else _) = _
  rw [if_pos (by omega), upd_ne (by omega), upd_ne (by omega)]
  congr 1
  omega
theorem rep_dr {B nf nt nc nd : Nat} {s : Nat → Int32} {M : Mem} {o k : Nat} (hr : RepS M o nf nt nc nd s) (hI : Inv B nf nt nc nd s) (hk0 : k < nc) : RepS (cpA (upM (upM M o 13 (M o 13 + M (o + 13 + k) 8)) o 7 (nI (nc - 1))) (o + 13 + k) (o + 13 + k + 1) (nc - 1 - k) 9) o nf nt (nc - 1) nd (drS s nc k) := by
  have bf := hI.lf
  have bt := hI.lt
  have bc := hI.lc
  have bn := hI.ld
  obtain ⟨⟨a1, a2, a3, a4, a5, a6, a7, a8, a9, a10⟩, hf, ht, hk, hd⟩ := hr
  obtain ⟨k0, k1, k2, k3, k4, k5, k6, k7, k8⟩ := hk k hk0
  refine ⟨?_, fun f hf' => ?_, fun t ht' => ?_, fun k' hk' => ?_, fun d hd' => ?_⟩
  · simp (disch := omega) only [cpA_o, upM_s, upM_o, upM_j, drS_2, drS_10, drS_o, a1, a2, a3, a4, a5, a6, a7, a8, a9, a10, k8, and_self]
  · simp (disch := omega) only [cpA_o, upM_o, drS_o]; exact hf f hf'
  · simp (disch := omega) only [cpA_o, upM_o, drS_o]; exact ht t ht'
  · by_cases q : k' < k
    · simp (disch := omega) only [cpA_o, upM_o, drS_o]; exact hk k' (by omega)
    · simp (disch := omega) only [drS_k]
      rw [show o + 13 + k' = o + 13 + k + (k' - k) by omega]
      simp (disch := omega) only [cpA_a, upM_o]
      rw [show o + 13 + k + 1 + (k' - k) = o + 13 + (k' + 1) by omega]
      exact hk (k' + 1) (by omega)
  · simp (disch := omega) only [cpA_o, upM_o, drS_o]; exact hd d hd'
set_option maxRecDepth 100000 in
set_option maxHeartbeats 4000000 in
theorem ct_X4_dropLesson {X : Xs} {κ : Kp} {M : Mem} {Q : Rs → Kp → Mem → Prop} {o : Nat} (ho : IsStu κ.2.1 o) {B nf nt nc nd : Nat} {s : Nat → Int32} (hr : RepS M o nf nt nc nd s) (hI : Inv B nf nt nc nd s) {kI : Int32} (hN : ¬ isX kI nc → Q (.inl (some (.int (-1)))) κ M) (hD : ∀ k : Nat, k < nc → kI = nI k → ∀ M', RepS M' o nf nt (nc - 1) nd (drS s nc k) → FrS M M' o → Q (.inl (some (.int (bitsI (s (39 + 9 * k + 8)))))) κ M') : Ct X m_X4_dropLesson [.ref o, .int kI] κ M Q := by
  refine ct_of B_X4_dropLesson_0 pn_X4 rfl (nle rfl) L_X4_dropLesson_0 ?_
  have bf := hI.lf
  have bt := hI.lt
  have bc := hI.lc
  have bn := hI.ld
  refine g_aload_n rfl ?_
  refine g_iload_n rfl ?_
  refine g_callV (as := [_]) mk_X4_hasLesson ml_X4_95 im_X4_hasLesson se_X4_hasLesson rfl rfl ⟨⟨nle rfl, nle rfl⟩, nle rfl, nle rfl⟩ ho.s0 rfl rfl rfl (nle rfl) ?_
  refine ct_X4_hasLesson ho ?_
  refine kq_s ?_
  refine g_if_ne_b rfl L_X4_dropLesson_10 (fun h_1 => ?_) (fun h_1 => ?_)
  · rw [hr.c7 hI] at h_1
    obtain ⟨k, hk, ek⟩ := hasB_of (by omega) h_1
    subst ek
    refine g_aload_n rfl ?_
    refine g_getR (w := (o + 12)) fl_X4_27 rfl ho.s0 rfl ?_
    refine g_iload_n rfl ?_
    refine g_aaload (j := k) (w := (o + 13 + k)) ho.la (nle rfl) rfl (by omega) (nle rfl) (rcs_get (by omega)) ?_
    refine g_callV (as := []) mk_X3_countSeats ml_X4_166 im_X3_countSeats se_X3_countSeats rfl rfl ⟨⟨nle rfl, nle rfl⟩, nle rfl, nle rfl⟩ (ho.li (by omega)) rfl rfl rfl (nle rfl) ?_
    refine ct_X3_countSeats (ho.li (by omega)) ?_
    refine kq_s ?_
    rw [(hr.2.2.2.1 k hk).2.2.2.2.2.2.1, bc_bd (hI.cl hk).2.2.2]
    refine g_istore_n (nle rfl) ?_
    refine g_aload_n rfl ?_
    refine g_dup rfl ?_
    refine g_getI fl_X4_71 rfl ho.s0 rfl ?_
    refine g_aload_n rfl ?_
    refine g_getR (w := (o + 12)) fl_X4_27 rfl ho.s0 rfl ?_
    refine g_iload_n rfl ?_
    refine g_aaload (j := k) (w := (o + 13 + k)) ho.la (nle rfl) rfl (by omega) (nle rfl) (rcs_get (by omega)) ?_
    refine g_getI fl_X4_163 rfl (ho.li (by omega)) rfl ?_
    refine g_iadd ?_
    refine g_putI pl_X4_71 rfl ho.s0 rfl rfl rfl ?_
    refine g_aload_n rfl ?_
    refine g_dup rfl ?_
    refine g_getI fl_X4_53 rfl ho.s0 rfl ?_
    simp (disch := omega) only [upM_s, upM_o, upM_j, hr.c7 hI, nI_1, cpA_o]
    refine g_iconst (v := 1) ik_1 ?_
    refine g_isub ?_
    refine g_putI pl_X4_53 rfl ho.s0 rfl rfl rfl ?_
    refine g_iload_n rfl ?_
    refine g_istore_n (nle rfl) ?_
    refine g_fall rfl L_X4_dropLesson_50 ?_
    refine g_mem (M' := cpA (upM (upM M o 13 (M o 13 + M (o + 13 + k) 8)) o 7 (nI (nc - 1))) (o + 13 + k) (o + 13 + k + 1) 0 9) (by rw [cpA_0, nI_pr (show 1 ≤ nc by omega)]) ?_
    refine g_lo2 (lo' := [(0, some (.ref o)), (1, some (.int (nI k))), (2, some (.int (bitsI (s (39 + 9 * k + 8))))), (3, some (.int (nI (k + 0))))]) ?_ ⟨rfl, rfl, rfl, rfl, trivial⟩
    refine loop_up (P := fun e => G X m_X4_dropLesson B_X4_dropLesson_50 50 [(0, some (.ref o)), (1, some (.int (nI k))), (2, some (.int (bitsI (s (39 + 9 * k + 8))))), (3, some (.int (nI (k + e))))] [] 0 0 κ (cpA (upM (upM M o 13 (M o 13 + M (o + 13 + k) 8)) o 7 (nI (nc - 1))) (o + 13 + k) (o + 13 + k + 1) e 9) Q) (nc - 1 - k) (fun e hle_e ih_e => ?_) 0 (Nat.zero_le _)
    refine g_iload_n rfl ?_
    refine g_aload_n rfl ?_
    refine g_getI fl_X4_53 rfl ho.s0 rfl ?_
    simp (disch := omega) only [upM_s, upM_o, upM_j, hr.c7 hI, nI_1, cpA_o]
    refine g_icmp_ge rfl L_X4_dropLesson_81 (fun h_2 => ?_) (fun h_2 => ?_)
    · have hx_e : e = nc - 1 - k := by have := (nI_leI (a := nc - 1) (b := k + e) (by omega) (by omega)).mp h_2; omega
      subst hx_e
      refine g_iload_n rfl ?_
      refine g_iret rfl (nle rfl) (nle rfl) ?_
      refine hD k hk rfl _ (rep_dr hr hI hk) ?_
      exact ⟨fun r hr' => by funext j; simp (disch := omega) only [cpA_o, upM_o], by simp (disch := omega) only [cpA_o, upM_s, upM_o, upM_j]⟩
    · have hlt_e : e < nc - 1 - k := by
        rcases Nat.lt_or_ge e (nc - 1 - k) with q | q
        · exact q
        · exact absurd ((nI_leI (a := nc - 1) (b := k + e) (by omega) (by omega)).mpr (by omega)) h_2
      refine g_aload_n rfl ?_
      refine g_getR (w := (o + 12)) fl_X4_27 rfl ho.s0 rfl ?_
      refine g_iload_n rfl ?_
      refine g_aaload (j := (k + e)) (w := (o + 13 + (k + e))) ho.la (nle rfl) (by simp only [nI, Int32.ofNat_add, Int32.ofNat_mul] <;> rfl) (by omega) (nle rfl) (rcs_get (by omega)) ?_
      refine g_aload_n rfl ?_
      refine g_getR (w := (o + 12)) fl_X4_27 rfl ho.s0 rfl ?_
      refine g_iload_n rfl ?_
      refine g_iconst (v := 1) ik_1 ?_
      refine g_iadd ?_
      refine g_aaload (j := ((k + e) + 1)) (w := (o + 13 + ((k + e) + 1))) ho.la (nle rfl) (by simp only [nI, Int32.ofNat_add, Int32.ofNat_mul] <;> rfl) (by omega) (nle rfl) (rcs_get (by omega)) ?_
      refine g_callV (as := [_]) mk_X3_copyFrom ml_X4_85 im_X3_copyFrom se_X3_copyFrom rfl rfl ⟨⟨nle rfl, nle rfl⟩, nle rfl, nle rfl⟩ (ho.li (by omega)) rfl rfl rfl (nle rfl) ?_
      refine ct_X3_copyFrom (ho.li (by omega)) (ho.li (by omega)) (by omega) ?_
      refine kq_n ?_
      refine g_iinc (v := nI ((k + e) + 1)) rfl (nI_inc _) (nle rfl) ?_
      refine g_goto rfl L_X4_dropLesson_50 ?_
      refine g_mem ?_ (g_lo2 (ih_e hlt_e) ⟨rfl, rfl, rfl, rfl, trivial⟩)
      have q := cpA_s (M := (upM (upM M o 13 (M o 13 + M (o + 13 + k) 8)) o 7 (nI (nc - 1)))) (a := o + 13 + k) (a2 := o + 13 + k + 1) (k := e) (w := 9) (by omega)
      rw [show o + 13 + (k + e + 1) = o + 13 + k + 1 + e by omega, show o + 13 + (k + e) = o + 13 + k + e by omega]
      exact q
  · rw [hr.c7 hI] at h_1
    have hno := has_no (by omega) h_1
    refine g_iconst (v := -1) ik_m1 ?_
    refine g_iret rfl (nle rfl) (nle rfl) ?_
    exact hN hno
