theorem ho_o {s : Nat → Int32} {k j : Nat} (h7 : j ≠ 7) (h6 : j ≠ 39 + 9 * k + 6) : holdS s k j = s j := by
  unfold holdS
  simp (disch := omega) only [upd_ne]
theorem ho_7 {s : Nat → Int32} {k : Nat} : holdS s k 7 = s 7 + 1 := by
  unfold holdS
  simp (disch := omega) only [upd_ne, upd_same]
theorem ho_6 {s : Nat → Int32} {k : Nat} : holdS s k (39 + 9 * k + 6) = s (39 + 9 * k + 6) + 1 := by
  unfold holdS
  simp (disch := omega) only [upd_ne, upd_same]
theorem dn_77 {w : Int32} {k : Nat} {s : Nat → Int32} (hk : k < 10) (n : Nat) : dnN w k n s (39 + 9 * k + 7) = s (39 + 9 * k + 7) + cntW w n := by
  have := dn_7 (w := w) (k := k) (s := s) n
  rw [if_pos hk] at this
  exact this
theorem dnc_lv {s : Nat → Int32} {k d nd : Nat} (hk : k < 10) : dnN (comI s k nd) k nd (holdS s k) (129 + 5 * d) = s (129 + 5 * d) := by
  rw [dn_lv hk, ho_o (by omega) (by omega)]
theorem dnc_4 {s : Nat → Int32} {k d nd : Nat} (hk : k < 10) : dnN (comI s k nd) k nd (holdS s k) (129 + 5 * d + 4) = s (129 + 5 * d + 4) := by
  rw [dn_4 hk, ho_o (by omega) (by omega)]
theorem dnc_2 {s : Nat → Int32} {k d nd : Nat} (hk : k < 10) (hnd : nd ≤ 12) (hd : d < nd) : dnN (comI s k nd) k nd (holdS s k) (129 + 5 * d + 2) = if comB s k d = true then s (129 + 5 * d + 2) - 1 else s (129 + 5 * d + 2) := by
  rw [dn_2 hk, com_bit hnd hd, ho_o (by omega) (by omega)]
  simp only [hd, true_and]
theorem dnc_1 {s : Nat → Int32} {k d nd : Nat} (hk : k < 10) (hnd : nd ≤ 12) (hd : d < nd) : dnN (comI s k nd) k nd (holdS s k) (129 + 5 * d + 1) = if comB s k d = true then s (129 + 5 * d + 1) + stpI s k d else s (129 + 5 * d + 1) := by
  rw [dn_1 hk, com_bit hnd hd, ho_o (by omega) (by omega)]
  unfold stpI
  rw [ho_o (by omega) (by omega), ho_o (by omega) (by omega)]
  simp only [hd, true_and]
theorem step_6n {s : Nat → Int32} {k nd : Nat} (h : bitsI (comI s k nd) < s 11) : stepC nd s k 6 - s 6 = 0 := by
  unfold stepC
  rw [if_pos h, upd_ne (by omega)]
  grind
theorem step_6y {B nf nt nc nd : Nat} {s : Nat → Int32} {k : Nat} (hI : Inv B nf nt nc nd s) (h : ¬ bitsI (comI s k nd) < s 11) : stepC nd s k 6 - s 6 = bitsI (comI s k nd) := by
  unfold stepC
  rw [if_neg h, dn_6, cnt_com hI, ho_o (by omega) (by omega)]
  grind
theorem com_or {B nf nt nc nd : Nat} {s : Nat → Int32} {M : Mem} {o k : Nat} (hr : RepS M o nf nt nc nd s) (hI : Inv B nf nt nc nd s) (hk : k < nc) : orI nd (fun j => if (bitS (M (o + 13 + k) 6) (nI j) && decide (0 < M (o + 24 + j) 2)) = true then (1 : Int32) <<< (nI j &&& 31) else 0) = comI s k nd := by
  unfold comI
  apply orI_congr
  intro j hj
  rw [(hr.2.2.2.1 k hk).2.2.2.2.2.2.1, (hr.2.2.2.2 j hj).2.2.1]
theorem com_at {B nf nt nc nd : Nat} {s : Nat → Int32} {M : Mem} {o k d : Nat} (hr : RepS M o nf nt nc nd s) (hI : Inv B nf nt nc nd s) (hk : k < nc) (hd : d < nd) : (bitS (M (o + 13 + k) 6) (nI d) && decide (0 < M (o + 24 + d) 2)) = bitS (comI s k nd) (nI d) := by
  rw [com_bit hI.ld hd]
  unfold comB
  rw [(hr.2.2.2.1 k hk).2.2.2.2.2.2.1, (hr.2.2.2.2 d hd).2.2.1]
theorem bd_com {s : Nat → Int32} {k nd : Nat} (hn : nd ≤ 12) : bd 0 4095 (comI s k nd) := by
  rw [bd12]
  intro i h1 h2
  rw [comI_bt hn h2, decide_eq_false (by omega)]
  rfl
theorem rep_hold {B nf nt nc nd : Nat} {s : Nat → Int32} {M : Mem} {o k : Nat} (hr : RepS M o nf nt nc nd s) (hI : Inv B nf nt nc nd s) (hk0 : k < nc) : RepS (upM (upM (upM (dnA M (o + 24) nd (M (o + 13 + k) 1) (M (o + 13 + k) 6)) o 10 (M o 10 + 1)) (o + 13 + k) 7 (M (o + 13 + k) 7 + 1)) (o + 13 + k) 8 (M (o + 13 + k) 8 + bitsI (comI s k nd))) o nf nt nc nd (dnN (comI s k nd) k nd (holdS s k)) := by
  have bf := hI.lf
  have bt := hI.lt
  have bc := hI.lc
  have bn := hI.ld
  have hcm := cnt_com (k := k) hI
  obtain ⟨⟨a1, a2, a3, a4, a5, a6, a7, a8, a9, a10⟩, hf, ht, hk, hd⟩ := hr
  refine ⟨?_, fun f hf' => ?_, fun t ht' => ?_, fun k' hk' => ?_, fun d hd' => ?_⟩
  · simp (disch := omega) only [dnA_o, upM_s, upM_o, upM_j, dn_o, ho_7, ho_o, a1, a2, a3, a4, a5, a6, a7, a8, a9, a10, and_self]
  · simp (disch := omega) only [dnA_o, upM_o, dn_o, ho_o]; exact hf f hf'
  · simp (disch := omega) only [dnA_o, upM_o, dn_o, ho_o]; exact ht t ht'
  · by_cases q : k' = k
    · subst q
      obtain ⟨k0, k1, k2, k3, k4, k5, k6, k7, k8⟩ := hk k' hk0
      simp (disch := omega) only [dnA_o, upM_s, upM_j, upM_o, dn_77, dn_o, ho_6, ho_o, hcm]
      exact ⟨k0, k1, k2, k3, k4, k5, k6, by rw [k7], by rw [k8]⟩
    · simp (disch := omega) only [dnA_o, upM_o, dn_o, ho_o]; exact hk k' hk'
  · obtain ⟨d0, d1, d2, d3⟩ := hd d hd'
    obtain ⟨k0, k1, k2, k3, k4, k5, k6, k7, k8⟩ := hk k hk0
    simp (disch := omega) only [upM_o, dnA_a, dnc_lv, dnc_4, dnc_2, dnc_1]
    have hcb : (bitS (M (o + 13 + k) 6) (nI d) && decide (0 < M (o + 24 + d) 2)) = comB s k d := by
      unfold comB
      rw [k6, d2]
    rw [hcb]
    cases hb : comB s k d with
    | false => exact ⟨d0, d1, d2, d3⟩
    | true =>
      simp only [if_true]
      refine ⟨d0, ?_, ?_, d3⟩
      · show danceR (M (o + 24 + d)) (M (o + 13 + k) 1) 1 = _
        unfold danceR stpI
        rw [upd_same, d0, d1, k1]
        by_cases z : s (39 + 9 * k + 1) < s (129 + 5 * d)
        · rw [if_neg (Int32.not_le.mpr z), if_pos z]
        · rw [if_pos (Int32.not_lt.mp z), if_neg z]
      · show danceR (M (o + 24 + d)) (M (o + 13 + k) 1) 2 = _
        unfold danceR
        rw [upd_ne (by omega), upd_same, d2]
set_option maxRecDepth 100000 in
set_option maxHeartbeats 4000000 in
theorem ct_X4_holdLesson {X : Xs} {κ : Kp} {M : Mem} {Q : Rs → Kp → Mem → Prop} {o : Nat} (ho : IsStu κ.2.1 o) {B nf nt nc nd : Nat} {s : Nat → Int32} (hr : RepS M o nf nt nc nd s) (hI : Inv B nf nt nc nd s) (k : Nat) (hk : k < nc) (hQ : ∀ M', RepS M' o nf nt nc nd (stepC nd s k) → FrS M M' o → Q (.inl (some (.int (stepC nd s k 6 - s 6)))) κ M') : Ct X m_X4_holdLesson [.ref o, .ref (o + 13 + k)] κ M Q := by
  refine ct_of B_X4_holdLesson_0 pn_X4 rfl (nle rfl) L_X4_holdLesson_0 ?_
  have bf := hI.lf
  have bt := hI.lt
  have bc := hI.lc
  have bn := hI.ld
  refine g_aload_n rfl ?_
  refine g_aload_n rfl ?_
  refine g_callV (as := [_]) mk_X4_comersOf ml_X4_224 im_X4_comersOf se_X4_comersOf rfl rfl ⟨⟨nle rfl, nle rfl⟩, nle rfl, nle rfl⟩ ho.s0 rfl rfl rfl (nle rfl) ?_
  refine ct_X4_comersOf ho (hr.c8 hI) bn (ho.li (by omega)) ?_
  rw [com_or hr hI hk]
  refine kq_s ?_
  refine g_istore_n (nle rfl) ?_
  refine g_iload_n rfl ?_
  refine g_callS (as := [_]) mk_J6_bitCount_0f7a4 ml_X4_227 sm_J6_bitCount_0f7a4 rfl rfl ⟨⟨nle rfl, nle rfl⟩, nle rfl, nle rfl⟩ rfl rfl (nle rfl) ?_
  refine ct_J6_bitCount_0f7a4 ?_
  rw [bc_bd (bd_com bn)]
  refine kq_s ?_
  refine g_istore_n (nle rfl) ?_
  refine g_iload_n rfl ?_
  refine g_aload_n rfl ?_
  refine g_getR (w := (o + 36)) fl_X4_39 rfl ho.s0 rfl ?_
  refine g_iconst (v := 0) ik_0 ?_
  refine g_iaload (j := 0) ho.se rfl (nle rfl) (nle rfl) ?_
  rw [hr.1.2.2.2.2.2.2.2.2.1]
  refine g_icmp_ge rfl L_X4_holdLesson_33 (fun h_1 => ?_) (fun h_1 => ?_)
  · have hge : ¬ bitsI (comI s k nd) < s 11 := Int32.not_lt.mpr h_1
    refine g_iconst (v := 0) ik_0 ?_
    refine g_istore (nle rfl) ?_
    refine g_fall rfl L_X4_holdLesson_36 ?_
    refine g_mem (M' := dnA M (o + 24) 0 (M (o + 13 + k) 1) (M (o + 13 + k) 6)) (dnA_0 _ _ _ _).symm ?_
    refine g_lo2 (lo' := [(0, some (.ref o)), (1, some (.ref (o + 13 + k))), (2, some (.int (comI s k nd))), (3, some (.int (bitsI (comI s k nd)))), (4, some (.int (nI 0)))]) ?_ ⟨rfl, rfl, rfl, rfl, rfl, trivial⟩
    refine loop_up (P := fun d => G X m_X4_holdLesson B_X4_holdLesson_36 36 [(0, some (.ref o)), (1, some (.ref (o + 13 + k))), (2, some (.int (comI s k nd))), (3, some (.int (bitsI (comI s k nd)))), (4, some (.int (nI d)))] [] 0 0 κ (dnA M (o + 24) d (M (o + 13 + k) 1) (M (o + 13 + k) 6)) Q) nd (fun d hle_d ih_d => ?_) 0 (Nat.zero_le _)
    refine g_iload rfl ?_
    refine g_aload_n rfl ?_
    refine g_getI fl_X4_56 rfl ho.s0 rfl ?_
    simp (disch := omega) only [upM_s, upM_o, upM_j, hr.c8 hI, nI_1, dnA_o]
    refine g_icmp_ge rfl L_X4_holdLesson_75 (fun h_2 => ?_) (fun h_2 => ?_)
    · have hx_d := ((cmp_ge (c := nd) rfl (by omega) hle_d).1 h_2).symm
      subst hx_d
      refine g_aload_n rfl ?_
      refine g_dup rfl ?_
      refine g_getI fl_X4_62 rfl ho.s0 rfl ?_
      refine g_iconst (v := 1) ik_1 ?_
      refine g_iadd ?_
      refine g_putI pl_X4_62 rfl ho.s0 rfl rfl rfl ?_
      refine g_aload_n rfl ?_
      refine g_dup rfl ?_
      refine g_getI fl_X4_160 rfl (ho.li (by omega)) rfl ?_
      refine g_iconst (v := 1) ik_1 ?_
      refine g_iadd ?_
      refine g_putI pl_X4_160 rfl (ho.li (by omega)) rfl rfl rfl ?_
      refine g_aload_n rfl ?_
      refine g_dup rfl ?_
      refine g_getI fl_X4_163 rfl (ho.li (by omega)) rfl ?_
      refine g_iload_n rfl ?_
      refine g_iadd ?_
      refine g_putI pl_X4_163 rfl (ho.li (by omega)) rfl rfl rfl ?_
      refine g_iload_n rfl ?_
      refine g_iret rfl (nle rfl) (nle rfl) ?_
      have e : stepC nd s k = dnN (comI s k nd) k nd (holdS s k) := if_neg hge
      refine qeq (hQ _ ?_ ?_) (step_6y hI hge).symm rfl
      · rw [e]
        clear hQ
        have q := rep_hold hr hI hk
        simp (disch := omega) only [upM_s, upM_o, upM_j, dnA_o]
        exact q
      · clear hQ
        exact ⟨fun r hr' => by funext j; simp (disch := omega) only [dnA_o, upM_o], by simp (disch := omega) only [dnA_o, upM_s, upM_o, upM_j]⟩
    · have hlt_d : d < nd := (cmp_ge (c := nd) rfl (by omega) hle_d).2 h_2
      refine g_iload_n rfl ?_
      refine g_iload rfl ?_
      refine g_ishr ?_
      refine g_iconst (v := 1) ik_1 ?_
      refine g_iand ?_
      refine g_iconst (v := 1) ik_1 ?_
      refine g_icmp_ne rfl L_X4_holdLesson_69 (fun h_3 => ?_) (fun h_3 => ?_)
      · have hb : (bitS (M (o + 13 + k) 6) (nI d) && decide (0 < M (o + 24 + d) 2)) = false := (com_at hr hI hk hlt_d).trans (decide_eq_false h_3)
        refine g_iinc (v := nI (d + 1)) rfl (nI_inc _) (nle rfl) ?_
        refine g_goto rfl L_X4_holdLesson_36 ?_
        refine g_mem ?_ (g_lo2 (ih_d hlt_d) ⟨rfl, rfl, rfl, rfl, rfl, trivial⟩)
        exact dnA_n hb
      · have hb : (bitS (M (o + 13 + k) 6) (nI d) && decide (0 < M (o + 24 + d) 2)) = true := (com_at hr hI hk hlt_d).trans (decide_eq_true h_3)
        refine g_aload_n rfl ?_
        refine g_getR (w := (o + 23)) fl_X4_34 rfl ho.s0 rfl ?_
        refine g_iload rfl ?_
        refine g_aaload (j := d) (w := (o + 24 + d)) ho.da (nle rfl) rfl (by omega) (nle rfl) (rcs_get (by omega)) ?_
        refine g_aload_n rfl ?_
        refine g_getI fl_X4_144 rfl (ho.li (by omega)) rfl ?_
        simp (disch := omega) only [dnA_o]
        refine g_callV (as := [_]) mk_X0_dance ml_X4_232 im_X0_dance se_X0_dance rfl rfl ⟨⟨nle rfl, nle rfl⟩, nle rfl, nle rfl⟩ (ho.di (by omega)) rfl rfl rfl (nle rfl) ?_
        refine ct_X0_dance (ho.di (by omega)) ?_
        refine kq_n ?_
        refine g_fall rfl L_X4_holdLesson_69 ?_
        refine g_iinc (v := nI (d + 1)) rfl (nI_inc _) (nle rfl) ?_
        refine g_goto rfl L_X4_holdLesson_36 ?_
        refine g_mem ?_ (g_lo2 (ih_d hlt_d) ⟨rfl, rfl, rfl, rfl, rfl, trivial⟩)
        exact dnA_y hb
  · have hlt : bitsI (comI s k nd) < s 11 := Int32.not_le.mp h_1
    refine g_aload_n rfl ?_
    refine g_dup rfl ?_
    refine g_getI fl_X4_65 rfl ho.s0 rfl ?_
    refine g_iconst (v := 1) ik_1 ?_
    refine g_iadd ?_
    refine g_putI pl_X4_65 rfl ho.s0 rfl rfl rfl ?_
    refine g_iconst (v := 0) ik_0 ?_
    refine g_iret rfl (nle rfl) (nle rfl) ?_
    have e : stepC nd s k = upd s 8 (s 8 + 1) := if_pos hlt
    refine qeq (hQ _ ?_ ?_) (step_6n hlt).symm rfl
    · rw [e]
      clear hQ
      obtain ⟨⟨a1, a2, a3, a4, a5, a6, a7, a8, a9, a10⟩, hf, ht, hk, hd⟩ := hr
      refine ⟨?_, fun f hf' => ?_, fun t ht' => ?_, fun k hk' => ?_, fun d hd' => ?_⟩
      · simp (disch := omega) only [upM_s, upM_o, upM_j, upd_ne, upd_same, nI_1, a1, a2, a3, a4, a5, a6, a7, a8, a9, a10, and_self]
      · simp (disch := omega) only [upM_s, upM_o, upM_j, upd_ne, upd_same]; exact hf f (by omega)
      · simp (disch := omega) only [upM_s, upM_o, upM_j, upd_ne, upd_same]; exact ht t (by omega)
      · simp (disch := omega) only [upM_s, upM_o, upM_j, upd_ne, upd_same]; exact hk k (by omega)
      · simp (disch := omega) only [upM_s, upM_o, upM_j, upd_ne, upd_same]; exact hd d (by omega)
    · clear hQ
      exact ⟨fun r hr' => by funext j; simp (disch := omega) only [upM_o], by simp (disch := omega) only [upM_s, upM_o, upM_j]⟩
