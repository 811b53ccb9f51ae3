def hasB (f n : Int32) : Bool := decide (0 ≤ f) && decide (f < n)
theorem hasB_of {v : Int32} {n : Nat} (hn : n < 100000) (h : hasB v (nI n) = true) : ∃ k, k < n ∧ v = nI k := by
  unfold hasB at h
  rw [Bool.and_eq_true] at h
  obtain ⟨k, hk, rfl⟩ := nI_of (x := v) (Int32.not_lt.mpr (of_decide_eq_true h.1))
  exact ⟨k, (nI_ltI hk (by omega)).mp (of_decide_eq_true h.2), rfl⟩
theorem hasB_yes {n k : Nat} (hn : n < 100000) (hk : k < n) : hasB (nI k) (nI n) = true := by
  unfold hasB
  rw [Bool.and_eq_true]
  exact ⟨decide_eq_true ((nI_leI (a := 0) (b := k) (by omega) (by omega)).mpr (Nat.zero_le _)), decide_eq_true ((nI_ltI (by omega) (by omega)).mpr hk)⟩
theorem hasB_in {v : Int32} {n : Nat} (hn : n < 100000) : hasB v (nI n) = inB v 0 (nI n - 1) := by
  cases h : inB v 0 (nI n - 1) with
  | true =>
    obtain ⟨k, hk, rfl⟩ := nI_lt_of hn h
    exact hasB_yes hn hk
  | false =>
    cases h2 : hasB v (nI n) with
    | false => rfl
    | true =>
      obtain ⟨k, hk, rfl⟩ := hasB_of hn h2
      rw [inB_yes hn hk] at h
      exact h
def tn (v : Int32) : Nat := v.toNatClampNeg
theorem tn_nI {n : Nat} (h : n < 2 ^ 31) : tn (nI n) = n := nI_clamp h
set_option maxRecDepth 100000 in
set_option maxHeartbeats 4000000 in
theorem ct_X4_hasFloor {X : Xs} {κ : Kp} {M : Mem} {Q : Rs → Kp → Mem → Prop} {o : Nat} (ho : IsStu κ.2.1 o) {f : Int32} (hQ : Q (.inl (some (.int (bI (hasB f (M o 5)))))) κ M) : Ct X m_X4_hasFloor [.ref o, .int f] κ M Q := by
  refine ct_of B_X4_hasFloor_0 pn_X4 rfl (nle rfl) L_X4_hasFloor_0 ?_
  refine g_iload_n rfl ?_
  refine g_if_lt rfl L_X4_hasFloor_16 (fun h_1 => ?_) (fun h_1 => ?_)
  · refine g_iconst (v := 0) ik_0 ?_
    refine g_fall rfl L_X4_hasFloor_17 ?_
    refine g_zret rfl rfl (nle rfl) (nle rfl) ?_
    exact qeq hQ (by clear hQ; simp_all [bI, hasB, i32le, -Int32.not_lt]) rfl
  · refine g_iload_n rfl ?_
    refine g_aload_n rfl ?_
    refine g_getI fl_X4_46 rfl ho.s0 rfl ?_
    refine g_icmp_ge rfl L_X4_hasFloor_16 (fun h_2 => ?_) (fun h_2 => ?_)
    · refine g_iconst (v := 0) ik_0 ?_
      refine g_fall rfl L_X4_hasFloor_17 ?_
      refine g_zret rfl rfl (nle rfl) (nle rfl) ?_
      exact qeq hQ (by clear hQ; simp_all [bI, hasB, i32le, -Int32.not_lt]) rfl
    · refine g_iconst (v := 1) ik_1 ?_
      refine g_goto rfl L_X4_hasFloor_17 ?_
      refine g_zret rfl rfl (nle rfl) (nle rfl) ?_
      exact qeq hQ (by clear hQ; simp_all [bI, hasB, i32le, -Int32.not_lt]) rfl
set_option maxRecDepth 100000 in
set_option maxHeartbeats 4000000 in
theorem ct_X4_hasTeacher {X : Xs} {κ : Kp} {M : Mem} {Q : Rs → Kp → Mem → Prop} {o : Nat} (ho : IsStu κ.2.1 o) {f : Int32} (hQ : Q (.inl (some (.int (bI (hasB f (M o 6)))))) κ M) : Ct X m_X4_hasTeacher [.ref o, .int f] κ M Q := by
  refine ct_of B_X4_hasTeacher_0 pn_X4 rfl (nle rfl) L_X4_hasTeacher_0 ?_
  refine g_iload_n rfl ?_
  refine g_if_lt rfl L_X4_hasTeacher_16 (fun h_1 => ?_) (fun h_1 => ?_)
  · refine g_iconst (v := 0) ik_0 ?_
    refine g_fall rfl L_X4_hasTeacher_17 ?_
    refine g_zret rfl rfl (nle rfl) (nle rfl) ?_
    exact qeq hQ (by clear hQ; simp_all [bI, hasB, i32le, -Int32.not_lt]) rfl
  · refine g_iload_n rfl ?_
    refine g_aload_n rfl ?_
    refine g_getI fl_X4_50 rfl ho.s0 rfl ?_
    refine g_icmp_ge rfl L_X4_hasTeacher_16 (fun h_2 => ?_) (fun h_2 => ?_)
    · refine g_iconst (v := 0) ik_0 ?_
      refine g_fall rfl L_X4_hasTeacher_17 ?_
      refine g_zret rfl rfl (nle rfl) (nle rfl) ?_
      exact qeq hQ (by clear hQ; simp_all [bI, hasB, i32le, -Int32.not_lt]) rfl
    · refine g_iconst (v := 1) ik_1 ?_
      refine g_goto rfl L_X4_hasTeacher_17 ?_
      refine g_zret rfl rfl (nle rfl) (nle rfl) ?_
      exact qeq hQ (by clear hQ; simp_all [bI, hasB, i32le, -Int32.not_lt]) rfl
set_option maxRecDepth 100000 in
set_option maxHeartbeats 4000000 in
theorem ct_X4_hasLesson {X : Xs} {κ : Kp} {M : Mem} {Q : Rs → Kp → Mem → Prop} {o : Nat} (ho : IsStu κ.2.1 o) {f : Int32} (hQ : Q (.inl (some (.int (bI (hasB f (M o 7)))))) κ M) : Ct X m_X4_hasLesson [.ref o, .int f] κ M Q := by
  refine ct_of B_X4_hasLesson_0 pn_X4 rfl (nle rfl) L_X4_hasLesson_0 ?_
  refine g_iload_n rfl ?_
  refine g_if_lt rfl L_X4_hasLesson_16 (fun h_1 => ?_) (fun h_1 => ?_)
  · refine g_iconst (v := 0) ik_0 ?_
    refine g_fall rfl L_X4_hasLesson_17 ?_
    refine g_zret rfl rfl (nle rfl) (nle rfl) ?_
    exact qeq hQ (by clear hQ; simp_all [bI, hasB, i32le, -Int32.not_lt]) rfl
  · refine g_iload_n rfl ?_
    refine g_aload_n rfl ?_
    refine g_getI fl_X4_53 rfl ho.s0 rfl ?_
    refine g_icmp_ge rfl L_X4_hasLesson_16 (fun h_2 => ?_) (fun h_2 => ?_)
    · refine g_iconst (v := 0) ik_0 ?_
      refine g_fall rfl L_X4_hasLesson_17 ?_
      refine g_zret rfl rfl (nle rfl) (nle rfl) ?_
      exact qeq hQ (by clear hQ; simp_all [bI, hasB, i32le, -Int32.not_lt]) rfl
    · refine g_iconst (v := 1) ik_1 ?_
      refine g_goto rfl L_X4_hasLesson_17 ?_
      refine g_zret rfl rfl (nle rfl) (nle rfl) ?_
      exact qeq hQ (by clear hQ; simp_all [bI, hasB, i32le, -Int32.not_lt]) rfl
set_option maxRecDepth 100000 in
set_option maxHeartbeats 4000000 in
theorem ct_X4_hasDancer {X : Xs} {κ : Kp} {M : Mem} {Q : Rs → Kp → Mem → Prop} {o : Nat} (ho : IsStu κ.2.1 o) {f : Int32} (hQ : Q (.inl (some (.int (bI (hasB f (M o 8)))))) κ M) : Ct X m_X4_hasDancer [.ref o, .int f] κ M Q := by
  refine ct_of B_X4_hasDancer_0 pn_X4 rfl (nle rfl) L_X4_hasDancer_0 ?_
  refine g_iload_n rfl ?_
  refine g_if_lt rfl L_X4_hasDancer_16 (fun h_1 => ?_) (fun h_1 => ?_)
  · refine g_iconst (v := 0) ik_0 ?_
    refine g_fall rfl L_X4_hasDancer_17 ?_
    refine g_zret rfl rfl (nle rfl) (nle rfl) ?_
    exact qeq hQ (by clear hQ; simp_all [bI, hasB, i32le, -Int32.not_lt]) rfl
  · refine g_iload_n rfl ?_
    refine g_aload_n rfl ?_
    refine g_getI fl_X4_56 rfl ho.s0 rfl ?_
    refine g_icmp_ge rfl L_X4_hasDancer_16 (fun h_2 => ?_) (fun h_2 => ?_)
    · refine g_iconst (v := 0) ik_0 ?_
      refine g_fall rfl L_X4_hasDancer_17 ?_
      refine g_zret rfl rfl (nle rfl) (nle rfl) ?_
      exact qeq hQ (by clear hQ; simp_all [bI, hasB, i32le, -Int32.not_lt]) rfl
    · refine g_iconst (v := 1) ik_1 ?_
      refine g_goto rfl L_X4_hasDancer_17 ?_
      refine g_zret rfl rfl (nle rfl) (nle rfl) ?_
      exact qeq hQ (by clear hQ; simp_all [bI, hasB, i32le, -Int32.not_lt]) rfl
set_option maxRecDepth 100000 in
set_option maxHeartbeats 4000000 in
theorem ct_X4_hasSeat {X : Xs} {κ : Kp} {M : Mem} {Q : Rs → Kp → Mem → Prop} {o : Nat} (ho : IsStu κ.2.1 o) {nc : Nat} (h7 : M o 7 = nI nc) (hnc : nc ≤ 10) {dI kI : Int32} (hQ : Q (.inl (some (.int (bI (hasB dI (M o 8) && (hasB kI (M o 7) && bitS (M (o + 13 + tn kI) 6) dI)))))) κ M) : Ct X m_X4_hasSeat [.ref o, .int dI, .int kI] κ M Q := by
  refine ct_of B_X4_hasSeat_0 pn_X4 rfl (nle rfl) L_X4_hasSeat_0 ?_
  refine g_aload_n rfl ?_
  refine g_iload_n rfl ?_
  refine g_callV (as := [_]) mk_X4_hasDancer ml_X4_91 im_X4_hasDancer se_X4_hasDancer rfl rfl ⟨⟨nle rfl, nle rfl⟩, nle rfl, nle rfl⟩ ho.s0 rfl rfl rfl (nle rfl) ?_
  refine ct_X4_hasDancer ho ?_
  refine kq_s ?_
  refine g_if_eq_b rfl L_X4_hasSeat_33 (fun h_1 => ?_) (fun h_1 => ?_)
  · refine g_iconst (v := 0) ik_0 ?_
    refine g_fall rfl L_X4_hasSeat_34 ?_
    refine g_zret rfl rfl (nle rfl) (nle rfl) ?_
    exact qeq hQ (by clear hQ; simp_all [bI]) rfl
  · refine g_aload_n rfl ?_
    refine g_iload_n rfl ?_
    refine g_callV (as := [_]) mk_X4_hasLesson ml_X4_95 im_X4_hasLesson se_X4_hasLesson rfl rfl ⟨⟨nle rfl, nle rfl⟩, nle rfl, nle rfl⟩ ho.s0 rfl rfl rfl (nle rfl) ?_
    refine ct_X4_hasLesson ho ?_
    refine kq_s ?_
    refine g_if_eq_b rfl L_X4_hasSeat_33 (fun h_2 => ?_) (fun h_2 => ?_)
    · refine g_iconst (v := 0) ik_0 ?_
      refine g_fall rfl L_X4_hasSeat_34 ?_
      refine g_zret rfl rfl (nle rfl) (nle rfl) ?_
      exact qeq hQ (by clear hQ; simp_all [bI]) rfl
    · obtain ⟨k, hk, rfl⟩ := hasB_of (n := nc) (by omega) (h7 ▸ h_2)
      rw [tn_nI (by omega)] at hQ
      refine g_aload_n rfl ?_
      refine g_getR (w := (o + 12)) fl_X4_27 rfl ho.s0 rfl ?_
      refine g_iload_n rfl ?_
      refine g_aaload (j := k) (w := (o + 13 + k)) ho.la (nle rfl) rfl (by omega) (nle rfl) (rcs_get (by omega)) ?_
      refine g_iload_n rfl ?_
      refine g_callV (as := [_]) mk_X3_seatsDancer ml_X4_98 im_X3_seatsDancer se_X3_seatsDancer rfl rfl ⟨⟨nle rfl, nle rfl⟩, nle rfl, nle rfl⟩ (ho.li (by omega)) rfl rfl rfl (nle rfl) ?_
      refine ct_X3_seatsDancer (ho.li (by omega)) ?_
      refine kq_s ?_
      refine g_if_eq_b rfl L_X4_hasSeat_33 (fun h_3 => ?_) (fun h_3 => ?_)
      · refine g_iconst (v := 0) ik_0 ?_
        refine g_fall rfl L_X4_hasSeat_34 ?_
        refine g_zret rfl rfl (nle rfl) (nle rfl) ?_
        exact qeq hQ (by clear hQ; simp_all [bI]) rfl
      · refine g_iconst (v := 1) ik_1 ?_
        refine g_goto rfl L_X4_hasSeat_34 ?_
        refine g_zret rfl rfl (nle rfl) (nle rfl) ?_
        exact qeq hQ (by clear hQ; simp_all [bI]) rfl
set_option maxRecDepth 100000 in
set_option maxHeartbeats 4000000 in
theorem ct_X4_mayHavePass {X : Xs} {κ : Kp} {M : Mem} {Q : Rs → Kp → Mem → Prop} {o : Nat} (ho : IsStu κ.2.1 o) {nd : Nat} (h8 : M o 8 = nI nd) (hnd : nd ≤ 12) {dI : Int32} (hQ : Q (.inl (some (.int (bI (hasB dI (M o 8) && decide (M (o + 24 + tn dI) 2 < 90)))))) κ M) : Ct X m_X4_mayHavePass [.ref o, .int dI] κ M Q := by
  refine ct_of B_X4_mayHavePass_0 pn_X4 rfl (nle rfl) L_X4_mayHavePass_0 ?_
  refine g_aload_n rfl ?_
  refine g_iload_n rfl ?_
  refine g_callV (as := [_]) mk_X4_hasDancer ml_X4_91 im_X4_hasDancer se_X4_hasDancer rfl rfl ⟨⟨nle rfl, nle rfl⟩, nle rfl, nle rfl⟩ ho.s0 rfl rfl rfl (nle rfl) ?_
  refine ct_X4_hasDancer ho ?_
  refine kq_s ?_
  refine g_if_eq_b rfl L_X4_mayHavePass_26 (fun h_1 => ?_) (fun h_1 => ?_)
  · refine g_iconst (v := 0) ik_0 ?_
    refine g_fall rfl L_X4_mayHavePass_27 ?_
    refine g_zret rfl rfl (nle rfl) (nle rfl) ?_
    exact qeq hQ (by clear hQ; simp_all [bI, i32le, -Int32.not_lt]) rfl
  · obtain ⟨d, hd, rfl⟩ := hasB_of (n := nd) (by omega) (h8 ▸ h_1)
    rw [tn_nI (by omega)] at hQ
    refine g_aload_n rfl ?_
    refine g_getR (w := (o + 23)) fl_X4_34 rfl ho.s0 rfl ?_
    refine g_iload_n rfl ?_
    refine g_aaload (j := d) (w := (o + 24 + d)) ho.da (nle rfl) rfl (by omega) (nle rfl) (rcs_get (by omega)) ?_
    refine g_getI fl_X4_101 rfl (ho.di (by omega)) rfl ?_
    refine g_bipush (v := 90) bk_90 ?_
    refine g_icmp_ge rfl L_X4_mayHavePass_26 (fun h_2 => ?_) (fun h_2 => ?_)
    · refine g_iconst (v := 0) ik_0 ?_
      refine g_fall rfl L_X4_mayHavePass_27 ?_
      refine g_zret rfl rfl (nle rfl) (nle rfl) ?_
      exact qeq hQ (by clear hQ; simp_all [bI, i32le, -Int32.not_lt]) rfl
    · refine g_iconst (v := 1) ik_1 ?_
      refine g_goto rfl L_X4_mayHavePass_27 ?_
      refine g_zret rfl rfl (nle rfl) (nle rfl) ?_
      exact qeq hQ (by clear hQ; simp_all [bI, i32le, -Int32.not_lt]) rfl
set_option maxRecDepth 100000 in
set_option maxHeartbeats 4000000 in
theorem ct_X4_roomIn {X : Xs} {κ : Kp} {M : Mem} {Q : Rs → Kp → Mem → Prop} {o : Nat} (ho : IsStu κ.2.1 o) {r : Nat} (hr : κ.2.1 r = some lesSh) (f : Nat) (hf : M r 2 = nI f) (hf2 : f < 4) (hQ : Q (.inl (some (.int (tkI (M (o + 2 + f) 3) (M (o + 2 + f) 2) (M r 0))))) κ M) : Ct X m_X4_roomIn [.ref o, .ref r] κ M Q := by
  refine ct_of B_X4_roomIn_0 pn_X4 rfl (nle rfl) L_X4_roomIn_0 ?_
  refine g_aload_n rfl ?_
  refine g_getR (w := (o + 1)) fl_X4_11 rfl ho.s0 rfl ?_
  refine g_aload_n rfl ?_
  refine g_getI fl_X4_145 rfl hr rfl ?_
  rw [hf]
  refine g_aaload (j := f) (w := (o + 2 + f)) ho.fa (nle rfl) rfl (by omega) (nle rfl) (rcs_get (by omega)) ?_
  refine g_aload_n rfl ?_
  refine g_getI fl_X4_141 rfl hr rfl ?_
  refine g_callV (as := [_]) mk_X1_roomFor ml_X4_210 im_X1_roomFor se_X1_roomFor rfl rfl ⟨⟨nle rfl, nle rfl⟩, nle rfl, nle rfl⟩ (ho.fi (by omega)) rfl rfl rfl (nle rfl) ?_
  refine ct_X1_roomFor (ho.fi (by omega)) ?_
  refine kq_s ?_
  refine g_iret rfl (nle rfl) (nle rfl) ?_
  exact hQ
set_option maxRecDepth 100000 in
set_option maxHeartbeats 4000000 in
theorem ct_X4_isFloorInUse {X : Xs} {κ : Kp} {M : Mem} {Q : Rs → Kp → Mem → Prop} {o : Nat} (ho : IsStu κ.2.1 o) {nc : Nat} (h7 : M o 7 = nI nc) (hnc : nc ≤ 10) {f day hour : Int32} (hQ : Q (.inl (some (.int (bI (anyB nc (fun k => decide (M (o + 13 + k) 2 = f) && (decide (M (o + 13 + k) 4 = day) && decide (M (o + 13 + k) 5 = hour)))))))) κ M) : Ct X m_X4_isFloorInUse [.ref o, .int f, .int day, .int hour] κ M Q := by
  refine ct_of B_X4_isFloorInUse_0 pn_X4 rfl (nle rfl) L_X4_isFloorInUse_0 ?_
  refine g_iconst (v := 0) ik_0 ?_
  refine g_istore (nle rfl) ?_
  refine g_fall rfl L_X4_isFloorInUse_3 ?_
  refine g_lo2 (lo' := [(0, some (.ref o)), (1, some (.int f)), (2, some (.int day)), (3, some (.int hour)), (4, some (.int (nI 0)))]) ?_ ⟨rfl, rfl, rfl, rfl, rfl, trivial⟩
  refine loop_up (P := fun k => anyB k (fun k => decide (M (o + 13 + k) 2 = f) && (decide (M (o + 13 + k) 4 = day) && decide (M (o + 13 + k) 5 = hour))) = false → G X m_X4_isFloorInUse B_X4_isFloorInUse_3 3 [(0, some (.ref o)), (1, some (.int f)), (2, some (.int day)), (3, some (.int hour)), (4, some (.int (nI k)))] [] 0 0 κ M Q) nc (fun k hle_k ih_k hpre_k => ?_) 0 (Nat.zero_le _) rfl
  refine g_iload rfl ?_
  refine g_aload_n rfl ?_
  refine g_getI fl_X4_53 rfl ho.s0 rfl ?_
  refine g_icmp_ge rfl L_X4_isFloorInUse_49 (fun h_1 => ?_) (fun h_1 => ?_)
  · have hx_k := ((cmp_ge (c := nc) h7 (by omega) hle_k).1 h_1).symm
    subst hx_k
    refine g_iconst (v := 0) ik_0 ?_
    refine g_zret rfl rfl (nle rfl) (nle rfl) ?_
    exact qeq hQ (by clear hQ; simp_all [bI]) rfl
  · have hlt_k : k < nc := (cmp_ge (c := nc) h7 (by omega) hle_k).2 h_1
    refine g_aload_n rfl ?_
    refine g_getR (w := (o + 12)) fl_X4_27 rfl ho.s0 rfl ?_
    refine g_iload rfl ?_
    refine g_aaload (j := k) (w := (o + 13 + k)) ho.la (nle rfl) rfl (by omega) (nle rfl) (rcs_get (by omega)) ?_
    refine g_getI fl_X4_145 rfl (ho.li (by omega)) rfl ?_
    refine g_iload_n rfl ?_
    refine g_icmp_ne rfl L_X4_isFloorInUse_43 (fun h_2 => ?_) (fun h_2 => ?_)
    · refine g_iinc (v := nI (k + 1)) rfl (nI_inc _) (nle rfl) ?_
      refine g_goto rfl L_X4_isFloorInUse_3 ?_
      exact g_lo2 (ih_k hlt_k (by clear hQ ih_k; simp_all [anyB])) ⟨rfl, rfl, rfl, rfl, rfl, trivial⟩
    · refine g_aload_n rfl ?_
      refine g_getR (w := (o + 12)) fl_X4_27 rfl ho.s0 rfl ?_
      refine g_iload rfl ?_
      refine g_aaload (j := k) (w := (o + 13 + k)) ho.la (nle rfl) rfl (by omega) (nle rfl) (rcs_get (by omega)) ?_
      refine g_iload_n rfl ?_
      refine g_iload_n rfl ?_
      refine g_callV (as := [_, _]) mk_X3_isAt ml_X4_200 im_X3_isAt se_X3_isAt rfl rfl ⟨⟨nle rfl, nle rfl⟩, nle rfl, nle rfl⟩ (ho.li (by omega)) rfl rfl rfl (nle rfl) ?_
      refine ct_X3_isAt (ho.li (by omega)) ?_
      refine kq_s ?_
      refine g_if_eq_b rfl L_X4_isFloorInUse_43 (fun h_3 => ?_) (fun h_3 => ?_)
      · refine g_iinc (v := nI (k + 1)) rfl (nI_inc _) (nle rfl) ?_
        refine g_goto rfl L_X4_isFloorInUse_3 ?_
        exact g_lo2 (ih_k hlt_k (by clear hQ ih_k; simp_all [anyB])) ⟨rfl, rfl, rfl, rfl, rfl, trivial⟩
      · refine g_iconst (v := 1) ik_1 ?_
        refine g_zret rfl rfl (nle rfl) (nle rfl) ?_
        have q := anyB_true (P := fun k => decide (M (o + 13 + k) 2 = f) && (decide (M (o + 13 + k) 4 = day) && decide (M (o + 13 + k) 5 = hour))) hlt_k (by clear hQ ih_k hpre_k; simp_all)
        exact qeq hQ (by rw [q]; rfl) rfl
set_option maxRecDepth 100000 in
set_option maxHeartbeats 4000000 in
theorem ct_X4_isTeacherInUse {X : Xs} {κ : Kp} {M : Mem} {Q : Rs → Kp → Mem → Prop} {o : Nat} (ho : IsStu κ.2.1 o) {nc : Nat} (h7 : M o 7 = nI nc) (hnc : nc ≤ 10) {f day hour : Int32} (hQ : Q (.inl (some (.int (bI (anyB nc (fun k => decide (M (o + 13 + k) 3 = f) && (decide (M (o + 13 + k) 4 = day) && decide (M (o + 13 + k) 5 = hour)))))))) κ M) : Ct X m_X4_isTeacherInUse [.ref o, .int f, .int day, .int hour] κ M Q := by
  refine ct_of B_X4_isTeacherInUse_0 pn_X4 rfl (nle rfl) L_X4_isTeacherInUse_0 ?_
  refine g_iconst (v := 0) ik_0 ?_
  refine g_istore (nle rfl) ?_
  refine g_fall rfl L_X4_isTeacherInUse_3 ?_
  refine g_lo2 (lo' := [(0, some (.ref o)), (1, some (.int f)), (2, some (.int day)), (3, some (.int hour)), (4, some (.int (nI 0)))]) ?_ ⟨rfl, rfl, rfl, rfl, rfl, trivial⟩
  refine loop_up (P := fun k => anyB k (fun k => decide (M (o + 13 + k) 3 = f) && (decide (M (o + 13 + k) 4 = day) && decide (M (o + 13 + k) 5 = hour))) = false → G X m_X4_isTeacherInUse B_X4_isTeacherInUse_3 3 [(0, some (.ref o)), (1, some (.int f)), (2, some (.int day)), (3, some (.int hour)), (4, some (.int (nI k)))] [] 0 0 κ M Q) nc (fun k hle_k ih_k hpre_k => ?_) 0 (Nat.zero_le _) rfl
  refine g_iload rfl ?_
  refine g_aload_n rfl ?_
  refine g_getI fl_X4_53 rfl ho.s0 rfl ?_
  refine g_icmp_ge rfl L_X4_isTeacherInUse_49 (fun h_1 => ?_) (fun h_1 => ?_)
  · have hx_k := ((cmp_ge (c := nc) h7 (by omega) hle_k).1 h_1).symm
    subst hx_k
    refine g_iconst (v := 0) ik_0 ?_
    refine g_zret rfl rfl (nle rfl) (nle rfl) ?_
    exact qeq hQ (by clear hQ; simp_all [bI]) rfl
  · have hlt_k : k < nc := (cmp_ge (c := nc) h7 (by omega) hle_k).2 h_1
    refine g_aload_n rfl ?_
    refine g_getR (w := (o + 12)) fl_X4_27 rfl ho.s0 rfl ?_
    refine g_iload rfl ?_
    refine g_aaload (j := k) (w := (o + 13 + k)) ho.la (nle rfl) rfl (by omega) (nle rfl) (rcs_get (by omega)) ?_
    refine g_getI fl_X4_148 rfl (ho.li (by omega)) rfl ?_
    refine g_iload_n rfl ?_
    refine g_icmp_ne rfl L_X4_isTeacherInUse_43 (fun h_2 => ?_) (fun h_2 => ?_)
    · refine g_iinc (v := nI (k + 1)) rfl (nI_inc _) (nle rfl) ?_
      refine g_goto rfl L_X4_isTeacherInUse_3 ?_
      exact g_lo2 (ih_k hlt_k (by clear hQ ih_k; simp_all [anyB])) ⟨rfl, rfl, rfl, rfl, rfl, trivial⟩
    · refine g_aload_n rfl ?_
      refine g_getR (w := (o + 12)) fl_X4_27 rfl ho.s0 rfl ?_
      refine g_iload rfl ?_
      refine g_aaload (j := k) (w := (o + 13 + k)) ho.la (nle rfl) rfl (by omega) (nle rfl) (rcs_get (by omega)) ?_
      refine g_iload_n rfl ?_
      refine g_iload_n rfl ?_
      refine g_callV (as := [_, _]) mk_X3_isAt ml_X4_200 im_X3_isAt se_X3_isAt rfl rfl ⟨⟨nle rfl, nle rfl⟩, nle rfl, nle rfl⟩ (ho.li (by omega)) rfl rfl rfl (nle rfl) ?_
      refine ct_X3_isAt (ho.li (by omega)) ?_
      refine kq_s ?_
      refine g_if_eq_b rfl L_X4_isTeacherInUse_43 (fun h_3 => ?_) (fun h_3 => ?_)
      · refine g_iinc (v := nI (k + 1)) rfl (nI_inc _) (nle rfl) ?_
        refine g_goto rfl L_X4_isTeacherInUse_3 ?_
        exact g_lo2 (ih_k hlt_k (by clear hQ ih_k; simp_all [anyB])) ⟨rfl, rfl, rfl, rfl, rfl, trivial⟩
      · refine g_iconst (v := 1) ik_1 ?_
        refine g_zret rfl rfl (nle rfl) (nle rfl) ?_
        have q := anyB_true (P := fun k => decide (M (o + 13 + k) 3 = f) && (decide (M (o + 13 + k) 4 = day) && decide (M (o + 13 + k) 5 = hour))) hlt_k (by clear hQ ih_k hpre_k; simp_all)
        exact qeq hQ (by rw [q]; rfl) rfl
set_option maxRecDepth 100000 in
set_option maxHeartbeats 4000000 in
theorem ct_X4_isDancerSeatedAt {X : Xs} {κ : Kp} {M : Mem} {Q : Rs → Kp → Mem → Prop} {o : Nat} (ho : IsStu κ.2.1 o) {nc : Nat} (h7 : M o 7 = nI nc) (hnc : nc ≤ 10) {f day hour : Int32} (hQ : Q (.inl (some (.int (bI (anyB nc (fun k => bitS (M (o + 13 + k) 6) f && (decide (M (o + 13 + k) 4 = day) && decide (M (o + 13 + k) 5 = hour)))))))) κ M) : Ct X m_X4_isDancerSeatedAt [.ref o, .int f, .int day, .int hour] κ M Q := by
  refine ct_of B_X4_isDancerSeatedAt_0 pn_X4 rfl (nle rfl) L_X4_isDancerSeatedAt_0 ?_
  refine g_iconst (v := 0) ik_0 ?_
  refine g_istore (nle rfl) ?_
  refine g_fall rfl L_X4_isDancerSeatedAt_3 ?_
  refine g_lo2 (lo' := [(0, some (.ref o)), (1, some (.int f)), (2, some (.int day)), (3, some (.int hour)), (4, some (.int (nI 0)))]) ?_ ⟨rfl, rfl, rfl, rfl, rfl, trivial⟩
  refine loop_up (P := fun k => anyB k (fun k => bitS (M (o + 13 + k) 6) f && (decide (M (o + 13 + k) 4 = day) && decide (M (o + 13 + k) 5 = hour))) = false → G X m_X4_isDancerSeatedAt B_X4_isDancerSeatedAt_3 3 [(0, some (.ref o)), (1, some (.int f)), (2, some (.int day)), (3, some (.int hour)), (4, some (.int (nI k)))] [] 0 0 κ M Q) nc (fun k hle_k ih_k hpre_k => ?_) 0 (Nat.zero_le _) rfl
  refine g_iload rfl ?_
  refine g_aload_n rfl ?_
  refine g_getI fl_X4_53 rfl ho.s0 rfl ?_
  refine g_icmp_ge rfl L_X4_isDancerSeatedAt_49 (fun h_1 => ?_) (fun h_1 => ?_)
  · have hx_k := ((cmp_ge (c := nc) h7 (by omega) hle_k).1 h_1).symm
    subst hx_k
    refine g_iconst (v := 0) ik_0 ?_
    refine g_zret rfl rfl (nle rfl) (nle rfl) ?_
    exact qeq hQ (by clear hQ; simp_all [bI]) rfl
  · have hlt_k : k < nc := (cmp_ge (c := nc) h7 (by omega) hle_k).2 h_1
    refine g_aload_n rfl ?_
    refine g_getR (w := (o + 12)) fl_X4_27 rfl ho.s0 rfl ?_
    refine g_iload rfl ?_
    refine g_aaload (j := k) (w := (o + 13 + k)) ho.la (nle rfl) rfl (by omega) (nle rfl) (rcs_get (by omega)) ?_
    refine g_iload_n rfl ?_
    refine g_callV (as := [_]) mk_X3_seatsDancer ml_X4_98 im_X3_seatsDancer se_X3_seatsDancer rfl rfl ⟨⟨nle rfl, nle rfl⟩, nle rfl, nle rfl⟩ (ho.li (by omega)) rfl rfl rfl (nle rfl) ?_
    refine ct_X3_seatsDancer (ho.li (by omega)) ?_
    refine kq_s ?_
    refine g_if_eq_b rfl L_X4_isDancerSeatedAt_43 (fun h_2 => ?_) (fun h_2 => ?_)
    · refine g_iinc (v := nI (k + 1)) rfl (nI_inc _) (nle rfl) ?_
      refine g_goto rfl L_X4_isDancerSeatedAt_3 ?_
      exact g_lo2 (ih_k hlt_k (by clear hQ ih_k; simp_all [anyB])) ⟨rfl, rfl, rfl, rfl, rfl, trivial⟩
    · refine g_aload_n rfl ?_
      refine g_getR (w := (o + 12)) fl_X4_27 rfl ho.s0 rfl ?_
      refine g_iload rfl ?_
      refine g_aaload (j := k) (w := (o + 13 + k)) ho.la (nle rfl) rfl (by omega) (nle rfl) (rcs_get (by omega)) ?_
      refine g_iload_n rfl ?_
      refine g_iload_n rfl ?_
      refine g_callV (as := [_, _]) mk_X3_isAt ml_X4_200 im_X3_isAt se_X3_isAt rfl rfl ⟨⟨nle rfl, nle rfl⟩, nle rfl, nle rfl⟩ (ho.li (by omega)) rfl rfl rfl (nle rfl) ?_
      refine ct_X3_isAt (ho.li (by omega)) ?_
      refine kq_s ?_
      refine g_if_eq_b rfl L_X4_isDancerSeatedAt_43 (fun h_3 => ?_) (fun h_3 => ?_)
      · refine g_iinc (v := nI (k + 1)) rfl (nI_inc _) (nle rfl) ?_
        refine g_goto rfl L_X4_isDancerSeatedAt_3 ?_
        exact g_lo2 (ih_k hlt_k (by clear hQ ih_k; simp_all [anyB])) ⟨rfl, rfl, rfl, rfl, rfl, trivial⟩
      · refine g_iconst (v := 1) ik_1 ?_
        refine g_zret rfl rfl (nle rfl) (nle rfl) ?_
        have q := anyB_true (P := fun k => bitS (M (o + 13 + k) 6) f && (decide (M (o + 13 + k) 4 = day) && decide (M (o + 13 + k) 5 = hour))) hlt_k (by clear hQ ih_k hpre_k; simp_all)
        exact qeq hQ (by rw [q]; rfl) rfl
set_option maxRecDepth 100000 in
set_option maxHeartbeats 4000000 in
theorem ct_X4_countSeats {X : Xs} {κ : Kp} {M : Mem} {Q : Rs → Kp → Mem → Prop} {o : Nat} (ho : IsStu κ.2.1 o) {nc : Nat} (h7 : M o 7 = nI nc) (hnc : nc ≤ 10) (hQ : Q (.inl (some (.int (sumI nc (fun k => bcI (M (o + 13 + k) 6)))))) κ M) : Ct X m_X4_countSeats [.ref o] κ M Q := by
  refine ct_of B_X4_countSeats_0 pn_X4 rfl (nle rfl) L_X4_countSeats_0 ?_
  refine g_iconst (v := 0) ik_0 ?_
  refine g_istore_n (nle rfl) ?_
  refine g_iconst (v := 0) ik_0 ?_
  refine g_istore_n (nle rfl) ?_
  refine g_fall rfl L_X4_countSeats_4 ?_
  refine g_lo2 (lo' := [(0, some (.ref o)), (1, some (.int (sumI 0 (fun k => bcI (M (o + 13 + k) 6))))), (2, some (.int (nI 0)))]) ?_ ⟨rfl, rfl, rfl, trivial⟩
  refine loop_up (P := fun k => G X m_X4_countSeats B_X4_countSeats_4 4 [(0, some (.ref o)), (1, some (.int (sumI k (fun k => bcI (M (o + 13 + k) 6))))), (2, some (.int (nI k)))] [] 0 0 κ M Q) nc (fun k hle_k ih_k => ?_) 0 (Nat.zero_le _)
  refine g_iload_n rfl ?_
  refine g_aload_n rfl ?_
  refine g_getI fl_X4_53 rfl ho.s0 rfl ?_
  refine g_icmp_ge rfl L_X4_countSeats_30 (fun h_1 => ?_) (fun h_1 => ?_)
  · have hx_k := ((cmp_ge (c := nc) h7 (by omega) hle_k).1 h_1).symm
    subst hx_k
    refine g_iload_n rfl ?_
    refine g_iret rfl (nle rfl) (nle rfl) ?_
    exact hQ
  · have hlt_k : k < nc := (cmp_ge (c := nc) h7 (by omega) hle_k).2 h_1
    refine g_iload_n rfl ?_
    refine g_aload_n rfl ?_
    refine g_getR (w := (o + 12)) fl_X4_27 rfl ho.s0 rfl ?_
    refine g_iload_n rfl ?_
    refine g_aaload (j := k) (w := (o + 13 + k)) ho.la (nle rfl) rfl (by omega) (nle rfl) (rcs_get (by omega)) ?_
    refine g_callV (as := []) mk_X3_countSeats ml_X4_166 im_X3_countSeats se_X3_countSeats rfl rfl ⟨⟨nle rfl, nle rfl⟩, nle rfl, nle rfl⟩ (ho.li (by omega)) rfl rfl rfl (nle rfl) ?_
    refine ct_X3_countSeats (ho.li (by omega)) ?_
    refine kq_s ?_
    refine g_iadd ?_
    refine g_istore_n (nle rfl) ?_
    refine g_iinc (v := nI (k + 1)) rfl (nI_inc _) (nle rfl) ?_
    refine g_goto rfl L_X4_countSeats_4 ?_
    exact g_lo2 (ih_k hlt_k) ⟨rfl, rfl, rfl, trivial⟩
set_option maxRecDepth 100000 in
set_option maxHeartbeats 4000000 in
theorem ct_X4_countPasses {X : Xs} {κ : Kp} {M : Mem} {Q : Rs → Kp → Mem → Prop} {o : Nat} (ho : IsStu κ.2.1 o) {nd : Nat} (h8 : M o 8 = nI nd) (hnd : nd ≤ 12) (hQ : Q (.inl (some (.int (sumI nd (fun k => M (o + 24 + k) 3))))) κ M) : Ct X m_X4_countPasses [.ref o] κ M Q := by
  refine ct_of B_X4_countPasses_0 pn_X4 rfl (nle rfl) L_X4_countPasses_0 ?_
  refine g_iconst (v := 0) ik_0 ?_
  refine g_istore_n (nle rfl) ?_
  refine g_iconst (v := 0) ik_0 ?_
  refine g_istore_n (nle rfl) ?_
  refine g_fall rfl L_X4_countPasses_4 ?_
  refine g_lo2 (lo' := [(0, some (.ref o)), (1, some (.int (sumI 0 (fun k => M (o + 24 + k) 3)))), (2, some (.int (nI 0)))]) ?_ ⟨rfl, rfl, rfl, trivial⟩
  refine loop_up (P := fun k => G X m_X4_countPasses B_X4_countPasses_4 4 [(0, some (.ref o)), (1, some (.int (sumI k (fun k => M (o + 24 + k) 3)))), (2, some (.int (nI k)))] [] 0 0 κ M Q) nd (fun k hle_k ih_k => ?_) 0 (Nat.zero_le _)
  refine g_iload_n rfl ?_
  refine g_aload_n rfl ?_
  refine g_getI fl_X4_56 rfl ho.s0 rfl ?_
  refine g_icmp_ge rfl L_X4_countPasses_30 (fun h_1 => ?_) (fun h_1 => ?_)
  · have hx_k := ((cmp_ge (c := nd) h8 (by omega) hle_k).1 h_1).symm
    subst hx_k
    refine g_iload_n rfl ?_
    refine g_iret rfl (nle rfl) (nle rfl) ?_
    exact hQ
  · have hlt_k : k < nd := (cmp_ge (c := nd) h8 (by omega) hle_k).2 h_1
    refine g_iload_n rfl ?_
    refine g_aload_n rfl ?_
    refine g_getR (w := (o + 23)) fl_X4_34 rfl ho.s0 rfl ?_
    refine g_iload_n rfl ?_
    refine g_aaload (j := k) (w := (o + 24 + k)) ho.da (nle rfl) rfl (by omega) (nle rfl) (rcs_get (by omega)) ?_
    refine g_getI fl_X4_128 rfl (ho.di (by omega)) rfl ?_
    refine g_iadd ?_
    refine g_istore_n (nle rfl) ?_
    refine g_iinc (v := nI (k + 1)) rfl (nI_inc _) (nle rfl) ?_
    refine g_goto rfl L_X4_countPasses_4 ?_
    exact g_lo2 (ih_k hlt_k) ⟨rfl, rfl, rfl, trivial⟩
set_option maxRecDepth 100000 in
set_option maxHeartbeats 4000000 in
theorem ct_X4_countLeft {X : Xs} {κ : Kp} {M : Mem} {Q : Rs → Kp → Mem → Prop} {o : Nat} (ho : IsStu κ.2.1 o) {nd : Nat} (h8 : M o 8 = nI nd) (hnd : nd ≤ 12) (hQ : Q (.inl (some (.int (sumI nd (fun k => M (o + 24 + k) 2))))) κ M) : Ct X m_X4_countLeft [.ref o] κ M Q := by
  refine ct_of B_X4_countLeft_0 pn_X4 rfl (nle rfl) L_X4_countLeft_0 ?_
  refine g_iconst (v := 0) ik_0 ?_
  refine g_istore_n (nle rfl) ?_
  refine g_iconst (v := 0) ik_0 ?_
  refine g_istore_n (nle rfl) ?_
  refine g_fall rfl L_X4_countLeft_4 ?_
  refine g_lo2 (lo' := [(0, some (.ref o)), (1, some (.int (sumI 0 (fun k => M (o + 24 + k) 2)))), (2, some (.int (nI 0)))]) ?_ ⟨rfl, rfl, rfl, trivial⟩
  refine loop_up (P := fun k => G X m_X4_countLeft B_X4_countLeft_4 4 [(0, some (.ref o)), (1, some (.int (sumI k (fun k => M (o + 24 + k) 2)))), (2, some (.int (nI k)))] [] 0 0 κ M Q) nd (fun k hle_k ih_k => ?_) 0 (Nat.zero_le _)
  refine g_iload_n rfl ?_
  refine g_aload_n rfl ?_
  refine g_getI fl_X4_56 rfl ho.s0 rfl ?_
  refine g_icmp_ge rfl L_X4_countLeft_30 (fun h_1 => ?_) (fun h_1 => ?_)
  · have hx_k := ((cmp_ge (c := nd) h8 (by omega) hle_k).1 h_1).symm
    subst hx_k
    refine g_iload_n rfl ?_
    refine g_iret rfl (nle rfl) (nle rfl) ?_
    exact hQ
  · have hlt_k : k < nd := (cmp_ge (c := nd) h8 (by omega) hle_k).2 h_1
    refine g_iload_n rfl ?_
    refine g_aload_n rfl ?_
    refine g_getR (w := (o + 23)) fl_X4_34 rfl ho.s0 rfl ?_
    refine g_iload_n rfl ?_
    refine g_aaload (j := k) (w := (o + 24 + k)) ho.da (nle rfl) rfl (by omega) (nle rfl) (rcs_get (by omega)) ?_
    refine g_getI fl_X4_101 rfl (ho.di (by omega)) rfl ?_
    refine g_iadd ?_
    refine g_istore_n (nle rfl) ?_
    refine g_iinc (v := nI (k + 1)) rfl (nI_inc _) (nle rfl) ?_
    refine g_goto rfl L_X4_countLeft_4 ?_
    exact g_lo2 (ih_k hlt_k) ⟨rfl, rfl, rfl, trivial⟩
set_option maxRecDepth 100000 in
set_option maxHeartbeats 4000000 in
theorem ct_X4_countUsesByDancers {X : Xs} {κ : Kp} {M : Mem} {Q : Rs → Kp → Mem → Prop} {o : Nat} (ho : IsStu κ.2.1 o) {nd : Nat} (h8 : M o 8 = nI nd) (hnd : nd ≤ 12) (hQ : Q (.inl (some (.int (sumI nd (fun k => 10 * M (o + 24 + k) 3 - M (o + 24 + k) 2))))) κ M) : Ct X m_X4_countUsesByDancers [.ref o] κ M Q := by
  refine ct_of B_X4_countUsesByDancers_0 pn_X4 rfl (nle rfl) L_X4_countUsesByDancers_0 ?_
  refine g_iconst (v := 0) ik_0 ?_
  refine g_istore_n (nle rfl) ?_
  refine g_iconst (v := 0) ik_0 ?_
  refine g_istore_n (nle rfl) ?_
  refine g_fall rfl L_X4_countUsesByDancers_4 ?_
  refine g_lo2 (lo' := [(0, some (.ref o)), (1, some (.int (sumI 0 (fun k => 10 * M (o + 24 + k) 3 - M (o + 24 + k) 2)))), (2, some (.int (nI 0)))]) ?_ ⟨rfl, rfl, rfl, trivial⟩
  refine loop_up (P := fun k => G X m_X4_countUsesByDancers B_X4_countUsesByDancers_4 4 [(0, some (.ref o)), (1, some (.int (sumI k (fun k => 10 * M (o + 24 + k) 3 - M (o + 24 + k) 2)))), (2, some (.int (nI k)))] [] 0 0 κ M Q) nd (fun k hle_k ih_k => ?_) 0 (Nat.zero_le _)
  refine g_iload_n rfl ?_
  refine g_aload_n rfl ?_
  refine g_getI fl_X4_56 rfl ho.s0 rfl ?_
  refine g_icmp_ge rfl L_X4_countUsesByDancers_30 (fun h_1 => ?_) (fun h_1 => ?_)
  · have hx_k := ((cmp_ge (c := nd) h8 (by omega) hle_k).1 h_1).symm
    subst hx_k
    refine g_iload_n rfl ?_
    refine g_iret rfl (nle rfl) (nle rfl) ?_
    exact hQ
  · have hlt_k : k < nd := (cmp_ge (c := nd) h8 (by omega) hle_k).2 h_1
    refine g_iload_n rfl ?_
    refine g_aload_n rfl ?_
    refine g_getR (w := (o + 23)) fl_X4_34 rfl ho.s0 rfl ?_
    refine g_iload_n rfl ?_
    refine g_aaload (j := k) (w := (o + 24 + k)) ho.da (nle rfl) rfl (by omega) (nle rfl) (rcs_get (by omega)) ?_
    refine g_callV (as := []) mk_X0_usesSoFar ml_X4_235 im_X0_usesSoFar se_X0_usesSoFar rfl rfl ⟨⟨nle rfl, nle rfl⟩, nle rfl, nle rfl⟩ (ho.di (by omega)) rfl rfl rfl (nle rfl) ?_
    refine ct_X0_usesSoFar (ho.di (by omega)) ?_
    refine kq_s ?_
    refine g_iadd ?_
    refine g_istore_n (nle rfl) ?_
    refine g_iinc (v := nI (k + 1)) rfl (nI_inc _) (nle rfl) ?_
    refine g_goto rfl L_X4_countUsesByDancers_4 ?_
    exact g_lo2 (ih_k hlt_k) ⟨rfl, rfl, rfl, trivial⟩
set_option maxRecDepth 100000 in
set_option maxHeartbeats 4000000 in
theorem ct_X4_countSeatsOfDancer {X : Xs} {κ : Kp} {M : Mem} {Q : Rs → Kp → Mem → Prop} {o : Nat} (ho : IsStu κ.2.1 o) {nc : Nat} (h7 : M o 7 = nI nc) (hnc : nc ≤ 10) {d : Int32} (hQ : Q (.inl (some (.int (sumI nc (fun k => if bitS (M (o + 13 + k) 6) d = true then 1 else 0))))) κ M) : Ct X m_X4_countSeatsOfDancer [.ref o, .int d] κ M Q := by
  refine ct_of B_X4_countSeatsOfDancer_0 pn_X4 rfl (nle rfl) L_X4_countSeatsOfDancer_0 ?_
  refine g_iconst (v := 0) ik_0 ?_
  refine g_istore_n (nle rfl) ?_
  refine g_iconst (v := 0) ik_0 ?_
  refine g_istore_n (nle rfl) ?_
  refine g_fall rfl L_X4_countSeatsOfDancer_4 ?_
  refine g_lo2 (lo' := [(0, some (.ref o)), (1, some (.int d)), (2, some (.int (sumI 0 (fun k => if bitS (M (o + 13 + k) 6) d = true then 1 else 0)))), (3, some (.int (nI 0)))]) ?_ ⟨rfl, rfl, rfl, rfl, trivial⟩
  refine loop_up (P := fun k => G X m_X4_countSeatsOfDancer B_X4_countSeatsOfDancer_4 4 [(0, some (.ref o)), (1, some (.int d)), (2, some (.int (sumI k (fun k => if bitS (M (o + 13 + k) 6) d = true then 1 else 0)))), (3, some (.int (nI k)))] [] 0 0 κ M Q) nc (fun k hle_k ih_k => ?_) 0 (Nat.zero_le _)
  refine g_iload_n rfl ?_
  refine g_aload_n rfl ?_
  refine g_getI fl_X4_53 rfl ho.s0 rfl ?_
  refine g_icmp_ge rfl L_X4_countSeatsOfDancer_34 (fun h_1 => ?_) (fun h_1 => ?_)
  · have hx_k := ((cmp_ge (c := nc) h7 (by omega) hle_k).1 h_1).symm
    subst hx_k
    refine g_iload_n rfl ?_
    refine g_iret rfl (nle rfl) (nle rfl) ?_
    exact hQ
  · have hlt_k : k < nc := (cmp_ge (c := nc) h7 (by omega) hle_k).2 h_1
    refine g_aload_n rfl ?_
    refine g_getR (w := (o + 12)) fl_X4_27 rfl ho.s0 rfl ?_
    refine g_iload_n rfl ?_
    refine g_aaload (j := k) (w := (o + 13 + k)) ho.la (nle rfl) rfl (by omega) (nle rfl) (rcs_get (by omega)) ?_
    refine g_iload_n rfl ?_
    refine g_callV (as := [_]) mk_X3_seatsDancer ml_X4_98 im_X3_seatsDancer se_X3_seatsDancer rfl rfl ⟨⟨nle rfl, nle rfl⟩, nle rfl, nle rfl⟩ (ho.li (by omega)) rfl rfl rfl (nle rfl) ?_
    refine ct_X3_seatsDancer (ho.li (by omega)) ?_
    refine kq_s ?_
    refine g_if_eq_b rfl L_X4_countSeatsOfDancer_28 (fun h_2 => ?_) (fun h_2 => ?_)
    · refine g_iinc (v := nI (k + 1)) rfl (nI_inc _) (nle rfl) ?_
      refine g_goto rfl L_X4_countSeatsOfDancer_4 ?_
      refine g_lo2 (ih_k hlt_k) ⟨rfl, rfl, ?_, rfl, trivial⟩
      clear hQ ih_k
      show some (Value.int _) = some (Value.int _)
      simp_all [sumI]
    · refine g_iinc rfl rfl (nle rfl) ?_
      refine g_fall rfl L_X4_countSeatsOfDancer_28 ?_
      refine g_iinc (v := nI (k + 1)) rfl (nI_inc _) (nle rfl) ?_
      refine g_goto rfl L_X4_countSeatsOfDancer_4 ?_
      refine g_lo2 (ih_k hlt_k) ⟨rfl, rfl, ?_, rfl, trivial⟩
      clear hQ ih_k
      show some (Value.int _) = some (Value.int _)
      simp_all [sumI]
set_option maxRecDepth 100000 in
set_option maxHeartbeats 4000000 in
theorem ct_X4_countLessonsOnFloor {X : Xs} {κ : Kp} {M : Mem} {Q : Rs → Kp → Mem → Prop} {o : Nat} (ho : IsStu κ.2.1 o) {nc : Nat} (h7 : M o 7 = nI nc) (hnc : nc ≤ 10) {f : Int32} (hQ : Q (.inl (some (.int (sumI nc (fun k => if M (o + 13 + k) 2 = f then 1 else 0))))) κ M) : Ct X m_X4_countLessonsOnFloor [.ref o, .int f] κ M Q := by
  refine ct_of B_X4_countLessonsOnFloor_0 pn_X4 rfl (nle rfl) L_X4_countLessonsOnFloor_0 ?_
  refine g_iconst (v := 0) ik_0 ?_
  refine g_istore_n (nle rfl) ?_
  refine g_iconst (v := 0) ik_0 ?_
  refine g_istore_n (nle rfl) ?_
  refine g_fall rfl L_X4_countLessonsOnFloor_4 ?_
  refine g_lo2 (lo' := [(0, some (.ref o)), (1, some (.int f)), (2, some (.int (sumI 0 (fun k => if M (o + 13 + k) 2 = f then 1 else 0)))), (3, some (.int (nI 0)))]) ?_ ⟨rfl, rfl, rfl, rfl, trivial⟩
  refine loop_up (P := fun k => G X m_X4_countLessonsOnFloor B_X4_countLessonsOnFloor_4 4 [(0, some (.ref o)), (1, some (.int f)), (2, some (.int (sumI k (fun k => if M (o + 13 + k) 2 = f then 1 else 0)))), (3, some (.int (nI k)))] [] 0 0 κ M Q) nc (fun k hle_k ih_k => ?_) 0 (Nat.zero_le _)
  refine g_iload_n rfl ?_
  refine g_aload_n rfl ?_
  refine g_getI fl_X4_53 rfl ho.s0 rfl ?_
  refine g_icmp_ge rfl L_X4_countLessonsOnFloor_34 (fun h_1 => ?_) (fun h_1 => ?_)
  · have hx_k := ((cmp_ge (c := nc) h7 (by omega) hle_k).1 h_1).symm
    subst hx_k
    refine g_iload_n rfl ?_
    refine g_iret rfl (nle rfl) (nle rfl) ?_
    exact hQ
  · have hlt_k : k < nc := (cmp_ge (c := nc) h7 (by omega) hle_k).2 h_1
    refine g_aload_n rfl ?_
    refine g_getR (w := (o + 12)) fl_X4_27 rfl ho.s0 rfl ?_
    refine g_iload_n rfl ?_
    refine g_aaload (j := k) (w := (o + 13 + k)) ho.la (nle rfl) rfl (by omega) (nle rfl) (rcs_get (by omega)) ?_
    refine g_getI fl_X4_145 rfl (ho.li (by omega)) rfl ?_
    refine g_iload_n rfl ?_
    refine g_icmp_ne rfl L_X4_countLessonsOnFloor_28 (fun h_2 => ?_) (fun h_2 => ?_)
    · refine g_iinc (v := nI (k + 1)) rfl (nI_inc _) (nle rfl) ?_
      refine g_goto rfl L_X4_countLessonsOnFloor_4 ?_
      refine g_lo2 (ih_k hlt_k) ⟨rfl, rfl, ?_, rfl, trivial⟩
      clear hQ ih_k
      show some (Value.int _) = some (Value.int _)
      simp_all [sumI]
    · refine g_iinc rfl rfl (nle rfl) ?_
      refine g_fall rfl L_X4_countLessonsOnFloor_28 ?_
      refine g_iinc (v := nI (k + 1)) rfl (nI_inc _) (nle rfl) ?_
      refine g_goto rfl L_X4_countLessonsOnFloor_4 ?_
      refine g_lo2 (ih_k hlt_k) ⟨rfl, rfl, ?_, rfl, trivial⟩
      clear hQ ih_k
      show some (Value.int _) = some (Value.int _)
      simp_all [sumI]
set_option maxRecDepth 100000 in
set_option maxHeartbeats 4000000 in
theorem ct_X4_countLessonsOfTeacher {X : Xs} {κ : Kp} {M : Mem} {Q : Rs → Kp → Mem → Prop} {o : Nat} (ho : IsStu κ.2.1 o) {nc : Nat} (h7 : M o 7 = nI nc) (hnc : nc ≤ 10) {f : Int32} (hQ : Q (.inl (some (.int (sumI nc (fun k => if M (o + 13 + k) 3 = f then 1 else 0))))) κ M) : Ct X m_X4_countLessonsOfTeacher [.ref o, .int f] κ M Q := by
  refine ct_of B_X4_countLessonsOfTeacher_0 pn_X4 rfl (nle rfl) L_X4_countLessonsOfTeacher_0 ?_
  refine g_iconst (v := 0) ik_0 ?_
  refine g_istore_n (nle rfl) ?_
  refine g_iconst (v := 0) ik_0 ?_
  refine g_istore_n (nle rfl) ?_
  refine g_fall rfl L_X4_countLessonsOfTeacher_4 ?_
  refine g_lo2 (lo' := [(0, some (.ref o)), (1, some (.int f)), (2, some (.int (sumI 0 (fun k => if M (o + 13 + k) 3 = f then 1 else 0)))), (3, some (.int (nI 0)))]) ?_ ⟨rfl, rfl, rfl, rfl, trivial⟩
  refine loop_up (P := fun k => G X m_X4_countLessonsOfTeacher B_X4_countLessonsOfTeacher_4 4 [(0, some (.ref o)), (1, some (.int f)), (2, some (.int (sumI k (fun k => if M (o + 13 + k) 3 = f then 1 else 0)))), (3, some (.int (nI k)))] [] 0 0 κ M Q) nc (fun k hle_k ih_k => ?_) 0 (Nat.zero_le _)
  refine g_iload_n rfl ?_
  refine g_aload_n rfl ?_
  refine g_getI fl_X4_53 rfl ho.s0 rfl ?_
  refine g_icmp_ge rfl L_X4_countLessonsOfTeacher_34 (fun h_1 => ?_) (fun h_1 => ?_)
  · have hx_k := ((cmp_ge (c := nc) h7 (by omega) hle_k).1 h_1).symm
    subst hx_k
    refine g_iload_n rfl ?_
    refine g_iret rfl (nle rfl) (nle rfl) ?_
    exact hQ
  · have hlt_k : k < nc := (cmp_ge (c := nc) h7 (by omega) hle_k).2 h_1
    refine g_aload_n rfl ?_
    refine g_getR (w := (o + 12)) fl_X4_27 rfl ho.s0 rfl ?_
    refine g_iload_n rfl ?_
    refine g_aaload (j := k) (w := (o + 13 + k)) ho.la (nle rfl) rfl (by omega) (nle rfl) (rcs_get (by omega)) ?_
    refine g_getI fl_X4_148 rfl (ho.li (by omega)) rfl ?_
    refine g_iload_n rfl ?_
    refine g_icmp_ne rfl L_X4_countLessonsOfTeacher_28 (fun h_2 => ?_) (fun h_2 => ?_)
    · refine g_iinc (v := nI (k + 1)) rfl (nI_inc _) (nle rfl) ?_
      refine g_goto rfl L_X4_countLessonsOfTeacher_4 ?_
      refine g_lo2 (ih_k hlt_k) ⟨rfl, rfl, ?_, rfl, trivial⟩
      clear hQ ih_k
      show some (Value.int _) = some (Value.int _)
      simp_all [sumI]
    · refine g_iinc rfl rfl (nle rfl) ?_
      refine g_fall rfl L_X4_countLessonsOfTeacher_28 ?_
      refine g_iinc (v := nI (k + 1)) rfl (nI_inc _) (nle rfl) ?_
      refine g_goto rfl L_X4_countLessonsOfTeacher_4 ?_
      refine g_lo2 (ih_k hlt_k) ⟨rfl, rfl, ?_, rfl, trivial⟩
      clear hQ ih_k
      show some (Value.int _) = some (Value.int _)
      simp_all [sumI]
set_option maxRecDepth 100000 in
set_option maxHeartbeats 4000000 in
theorem ct_X4_countDaysOfTeacher {X : Xs} {κ : Kp} {M : Mem} {Q : Rs → Kp → Mem → Prop} {o : Nat} (ho : IsStu κ.2.1 o) {nc : Nat} (h7 : M o 7 = nI nc) (hnc : nc ≤ 10) {f : Int32} (hQ : Q (.inl (some (.int (bcI (orI nc (fun k => if M (o + 13 + k) 3 = f then 1 <<< (M (o + 13 + k) 4 &&& 31) else 0)))))) κ M) : Ct X m_X4_countDaysOfTeacher [.ref o, .int f] κ M Q := by
  refine ct_of B_X4_countDaysOfTeacher_0 pn_X4 rfl (nle rfl) L_X4_countDaysOfTeacher_0 ?_
  refine g_iconst (v := 0) ik_0 ?_
  refine g_istore_n (nle rfl) ?_
  refine g_iconst (v := 0) ik_0 ?_
  refine g_istore_n (nle rfl) ?_
  refine g_fall rfl L_X4_countDaysOfTeacher_4 ?_
  refine g_lo2 (lo' := [(0, some (.ref o)), (1, some (.int f)), (2, some (.int (orI 0 (fun k => if M (o + 13 + k) 3 = f then 1 <<< (M (o + 13 + k) 4 &&& 31) else 0)))), (3, some (.int (nI 0)))]) ?_ ⟨rfl, rfl, rfl, rfl, trivial⟩
  refine loop_up (P := fun k => G X m_X4_countDaysOfTeacher B_X4_countDaysOfTeacher_4 4 [(0, some (.ref o)), (1, some (.int f)), (2, some (.int (orI k (fun k => if M (o + 13 + k) 3 = f then 1 <<< (M (o + 13 + k) 4 &&& 31) else 0)))), (3, some (.int (nI k)))] [] 0 0 κ M Q) nc (fun k hle_k ih_k => ?_) 0 (Nat.zero_le _)
  refine g_iload_n rfl ?_
  refine g_aload_n rfl ?_
  refine g_getI fl_X4_53 rfl ho.s0 rfl ?_
  refine g_icmp_ge rfl L_X4_countDaysOfTeacher_45 (fun h_1 => ?_) (fun h_1 => ?_)
  · have hx_k := ((cmp_ge (c := nc) h7 (by omega) hle_k).1 h_1).symm
    subst hx_k
    refine g_iload_n rfl ?_
    refine g_callS (as := [_]) mk_J6_bitCount_0f7a4 ml_X4_227 sm_J6_bitCount_0f7a4 rfl rfl ⟨⟨nle rfl, nle rfl⟩, nle rfl, nle rfl⟩ rfl rfl (nle rfl) ?_
    refine ct_J6_bitCount_0f7a4 ?_
    refine kq_s ?_
    refine g_iret rfl (nle rfl) (nle rfl) ?_
    exact hQ
  · have hlt_k : k < nc := (cmp_ge (c := nc) h7 (by omega) hle_k).2 h_1
    refine g_aload_n rfl ?_
    refine g_getR (w := (o + 12)) fl_X4_27 rfl ho.s0 rfl ?_
    refine g_iload_n rfl ?_
    refine g_aaload (j := k) (w := (o + 13 + k)) ho.la (nle rfl) rfl (by omega) (nle rfl) (rcs_get (by omega)) ?_
    refine g_getI fl_X4_148 rfl (ho.li (by omega)) rfl ?_
    refine g_iload_n rfl ?_
    refine g_icmp_ne rfl L_X4_countDaysOfTeacher_39 (fun h_2 => ?_) (fun h_2 => ?_)
    · refine g_iinc (v := nI (k + 1)) rfl (nI_inc _) (nle rfl) ?_
      refine g_goto rfl L_X4_countDaysOfTeacher_4 ?_
      refine g_lo2 (ih_k hlt_k) ⟨rfl, rfl, ?_, rfl, trivial⟩
      clear hQ ih_k
      show some (Value.int _) = some (Value.int _)
      simp_all [orI]
    · refine g_iload_n rfl ?_
      refine g_iconst (v := 1) ik_1 ?_
      refine g_aload_n rfl ?_
      refine g_getR (w := (o + 12)) fl_X4_27 rfl ho.s0 rfl ?_
      refine g_iload_n rfl ?_
      refine g_aaload (j := k) (w := (o + 13 + k)) ho.la (nle rfl) rfl (by omega) (nle rfl) (rcs_get (by omega)) ?_
      refine g_getI fl_X4_151 rfl (ho.li (by omega)) rfl ?_
      refine g_ishl ?_
      refine g_ior ?_
      refine g_istore_n (nle rfl) ?_
      refine g_fall rfl L_X4_countDaysOfTeacher_39 ?_
      refine g_iinc (v := nI (k + 1)) rfl (nI_inc _) (nle rfl) ?_
      refine g_goto rfl L_X4_countDaysOfTeacher_4 ?_
      refine g_lo2 (ih_k hlt_k) ⟨rfl, rfl, ?_, rfl, trivial⟩
      clear hQ ih_k
      show some (Value.int _) = some (Value.int _)
      simp_all [orI]
set_option maxRecDepth 100000 in
set_option maxHeartbeats 4000000 in
theorem ct_X4_countUsesByLessons {X : Xs} {κ : Kp} {M : Mem} {Q : Rs → Kp → Mem → Prop} {o : Nat} (ho : IsStu κ.2.1 o) {nc : Nat} (h7 : M o 7 = nI nc) (hnc : nc ≤ 10) (hQ : Q (.inl (some (.int (M o 13 + sumI nc (fun k => M (o + 13 + k) 8))))) κ M) : Ct X m_X4_countUsesByLessons [.ref o] κ M Q := by
  refine ct_of B_X4_countUsesByLessons_0 pn_X4 rfl (nle rfl) L_X4_countUsesByLessons_0 ?_
  refine g_aload_n rfl ?_
  refine g_getI fl_X4_71 rfl ho.s0 rfl ?_
  refine g_istore_n (nle rfl) ?_
  refine g_iconst (v := 0) ik_0 ?_
  refine g_istore_n (nle rfl) ?_
  refine g_fall rfl L_X4_countUsesByLessons_7 ?_
  refine g_lo2 (lo' := [(0, some (.ref o)), (1, some (.int (M o 13 + sumI 0 (fun k => M (o + 13 + k) 8)))), (2, some (.int (nI 0)))]) ?_ ⟨rfl, by show some (Value.int _) = some (Value.int _); simp [sumI], rfl, trivial⟩
  refine loop_up (P := fun k => G X m_X4_countUsesByLessons B_X4_countUsesByLessons_7 7 [(0, some (.ref o)), (1, some (.int (M o 13 + sumI k (fun k => M (o + 13 + k) 8)))), (2, some (.int (nI k)))] [] 0 0 κ M Q) nc (fun k hle_k ih_k => ?_) 0 (Nat.zero_le _)
  refine g_iload_n rfl ?_
  refine g_aload_n rfl ?_
  refine g_getI fl_X4_53 rfl ho.s0 rfl ?_
  refine g_icmp_ge rfl L_X4_countUsesByLessons_33 (fun h_1 => ?_) (fun h_1 => ?_)
  · have hx_k := ((cmp_ge (c := nc) h7 (by omega) hle_k).1 h_1).symm
    subst hx_k
    refine g_iload_n rfl ?_
    refine g_iret rfl (nle rfl) (nle rfl) ?_
    exact hQ
  · have hlt_k : k < nc := (cmp_ge (c := nc) h7 (by omega) hle_k).2 h_1
    refine g_iload_n rfl ?_
    refine g_aload_n rfl ?_
    refine g_getR (w := (o + 12)) fl_X4_27 rfl ho.s0 rfl ?_
    refine g_iload_n rfl ?_
    refine g_aaload (j := k) (w := (o + 13 + k)) ho.la (nle rfl) rfl (by omega) (nle rfl) (rcs_get (by omega)) ?_
    refine g_getI fl_X4_163 rfl (ho.li (by omega)) rfl ?_
    refine g_iadd ?_
    refine g_istore_n (nle rfl) ?_
    refine g_iinc (v := nI (k + 1)) rfl (nI_inc _) (nle rfl) ?_
    refine g_goto rfl L_X4_countUsesByLessons_7 ?_
    refine g_lo2 (ih_k hlt_k) ⟨rfl, ?_, rfl, trivial⟩
    clear hQ ih_k
    show some (Value.int _) = some (Value.int _)
    simp [sumI, Int32.add_assoc]
set_option maxRecDepth 100000 in
set_option maxHeartbeats 4000000 in
theorem ct_X4_comersOf {X : Xs} {κ : Kp} {M : Mem} {Q : Rs → Kp → Mem → Prop} {o : Nat} (ho : IsStu κ.2.1 o) {nd : Nat} (h8 : M o 8 = nI nd) (hnd : nd ≤ 12) {r : Nat} (hr : κ.2.1 r = some lesSh) (hQ : Q (.inl (some (.int (orI nd (fun k => if (bitS (M r 6) (nI k) && decide (0 < M (o + 24 + k) 2)) = true then 1 <<< (nI k &&& 31) else 0))))) κ M) : Ct X m_X4_comersOf [.ref o, .ref r] κ M Q := by
  refine ct_of B_X4_comersOf_0 pn_X4 rfl (nle rfl) L_X4_comersOf_0 ?_
  refine g_iconst (v := 0) ik_0 ?_
  refine g_istore_n (nle rfl) ?_
  refine g_iconst (v := 0) ik_0 ?_
  refine g_istore_n (nle rfl) ?_
  refine g_fall rfl L_X4_comersOf_4 ?_
  refine g_lo2 (lo' := [(0, some (.ref o)), (1, some (.ref r)), (2, some (.int (orI 0 (fun k => if (bitS (M r 6) (nI k) && decide (0 < M (o + 24 + k) 2)) = true then 1 <<< (nI k &&& 31) else 0)))), (3, some (.int (nI 0)))]) ?_ ⟨rfl, rfl, rfl, rfl, trivial⟩
  refine loop_up (P := fun k => G X m_X4_comersOf B_X4_comersOf_4 4 [(0, some (.ref o)), (1, some (.ref r)), (2, some (.int (orI k (fun k => if (bitS (M r 6) (nI k) && decide (0 < M (o + 24 + k) 2)) = true then 1 <<< (nI k &&& 31) else 0)))), (3, some (.int (nI k)))] [] 0 0 κ M Q) nd (fun k hle_k ih_k => ?_) 0 (Nat.zero_le _)
  refine g_iload_n rfl ?_
  refine g_aload_n rfl ?_
  refine g_getI fl_X4_56 rfl ho.s0 rfl ?_
  refine g_icmp_ge rfl L_X4_comersOf_44 (fun h_1 => ?_) (fun h_1 => ?_)
  · have hx_k := ((cmp_ge (c := nd) h8 (by omega) hle_k).1 h_1).symm
    subst hx_k
    refine g_iload_n rfl ?_
    refine g_iret rfl (nle rfl) (nle rfl) ?_
    exact hQ
  · have hlt_k : k < nd := (cmp_ge (c := nd) h8 (by omega) hle_k).2 h_1
    refine g_aload_n rfl ?_
    refine g_iload_n rfl ?_
    refine g_callV (as := [_]) mk_X3_seatsDancer ml_X4_98 im_X3_seatsDancer se_X3_seatsDancer rfl rfl ⟨⟨nle rfl, nle rfl⟩, nle rfl, nle rfl⟩ hr rfl rfl rfl (nle rfl) ?_
    refine ct_X3_seatsDancer hr ?_
    refine kq_s ?_
    refine g_if_eq_b rfl L_X4_comersOf_38 (fun h_2 => ?_) (fun h_2 => ?_)
    · refine g_iinc (v := nI (k + 1)) rfl (nI_inc _) (nle rfl) ?_
      refine g_goto rfl L_X4_comersOf_4 ?_
      refine g_lo2 (ih_k hlt_k) ⟨rfl, rfl, ?_, rfl, trivial⟩
      clear hQ ih_k
      show some (Value.int _) = some (Value.int _)
      simp_all [orI, i32le, -Int32.not_lt]
    · refine g_aload_n rfl ?_
      refine g_getR (w := (o + 23)) fl_X4_34 rfl ho.s0 rfl ?_
      refine g_iload_n rfl ?_
      refine g_aaload (j := k) (w := (o + 24 + k)) ho.da (nle rfl) rfl (by omega) (nle rfl) (rcs_get (by omega)) ?_
      refine g_getI fl_X4_101 rfl (ho.di (by omega)) rfl ?_
      refine g_if_le rfl L_X4_comersOf_38 (fun h_3 => ?_) (fun h_3 => ?_)
      · refine g_iinc (v := nI (k + 1)) rfl (nI_inc _) (nle rfl) ?_
        refine g_goto rfl L_X4_comersOf_4 ?_
        refine g_lo2 (ih_k hlt_k) ⟨rfl, rfl, ?_, rfl, trivial⟩
        clear hQ ih_k
        show some (Value.int _) = some (Value.int _)
        simp_all [orI, i32le, -Int32.not_lt]
      · refine g_iload_n rfl ?_
        refine g_iconst (v := 1) ik_1 ?_
        refine g_iload_n rfl ?_
        refine g_ishl ?_
        refine g_ior ?_
        refine g_istore_n (nle rfl) ?_
        refine g_fall rfl L_X4_comersOf_38 ?_
        refine g_iinc (v := nI (k + 1)) rfl (nI_inc _) (nle rfl) ?_
        refine g_goto rfl L_X4_comersOf_4 ?_
        refine g_lo2 (ih_k hlt_k) ⟨rfl, rfl, ?_, rfl, trivial⟩
        clear hQ ih_k
        show some (Value.int _) = some (Value.int _)
        simp_all [orI, i32le, -Int32.not_lt]
def whyC (M : Mem) (o nc : Nat) (style level : Int32) (f t : Nat) (day hour : Int32) : Int32 :=
  if anyB nc (fun k => decide (M (o + 13 + k) 2 = nI f) && (decide (M (o + 13 + k) 4 = day) && decide (M (o + 13 + k) 5 = hour))) = true then 1
  else if anyB nc (fun k => decide (M (o + 13 + k) 3 = nI t) && (decide (M (o + 13 + k) 4 = day) && decide (M (o + 13 + k) 5 = hour))) = true then 2
  else if (bitS (M (o + 7 + t) 0) style && decide (level ≤ M (o + 7 + t) 1)) = false then 3
  else if sprOK (M (o + 2 + f) 0) style level = false then 4
  else if barOK (M (o + 2 + f) 2) style level = false then 5
  else if mirOK (M (o + 2 + f) 1) style level = false then 6 else 0
def whyD (M : Mem) (o nc d k f : Nat) : Int32 :=
  if bitS (M (o + 13 + k) 6) (nI d) = true then 1
  else if M (o + 24 + d) 0 + 1 < M (o + 13 + k) 1 then 2
  else if anyB nc (fun e => bitS (M (o + 13 + e) 6) (nI d) && (decide (M (o + 13 + e) 4 = M (o + 13 + k) 4) && decide (M (o + 13 + e) 5 = M (o + 13 + k) 5))) = true then 3
  else if bcI (M (o + 13 + k) 6) < tkI (M (o + 2 + f) 3) (M (o + 2 + f) 2) (M (o + 13 + k) 0) then 0 else 4
set_option maxRecDepth 100000 in
set_option maxHeartbeats 4000000 in
theorem ct_X4_reasonAgainstLesson {X : Xs} {κ : Kp} {M : Mem} {Q : Rs → Kp → Mem → Prop} {o : Nat} (ho : IsStu κ.2.1 o) {nc : Nat} (h7 : M o 7 = nI nc) (hnc : nc ≤ 10) {style level fI tI day hour : Int32} (f t : Nat) (hfI : fI = nI f) (htI : tI = nI t) (hf : f < 4) (ht : t < 5) (hQ : Q (.inl (some (.int (whyC M o nc style level f t day hour)))) κ M) : Ct X m_X4_reasonAgainstLesson [.ref o, .int style, .int level, .int fI, .int tI, .int day, .int hour] κ M Q := by
  refine ct_of B_X4_reasonAgainstLesson_0 pn_X4 rfl (nle rfl) L_X4_reasonAgainstLesson_0 ?_
  subst hfI
  subst htI
  refine g_aload_n rfl ?_
  refine g_iload_n rfl ?_
  refine g_iload rfl ?_
  refine g_iload rfl ?_
  refine g_callV (as := [_, _, _]) mk_X4_isFloorInUse ml_X4_181 im_X4_isFloorInUse se_X4_isFloorInUse rfl rfl ⟨⟨nle rfl, nle rfl⟩, nle rfl, nle rfl⟩ ho.s0 rfl rfl rfl (nle rfl) ?_
  refine ct_X4_isFloorInUse ho h7 hnc ?_
  refine kq_s ?_
  refine g_if_eq_b rfl L_X4_reasonAgainstLesson_14 (fun h_1 => ?_) (fun h_1 => ?_)
  · refine g_aload_n rfl ?_
    refine g_iload rfl ?_
    refine g_iload rfl ?_
    refine g_iload rfl ?_
    refine g_callV (as := [_, _, _]) mk_X4_isTeacherInUse ml_X4_185 im_X4_isTeacherInUse se_X4_isTeacherInUse rfl rfl ⟨⟨nle rfl, nle rfl⟩, nle rfl, nle rfl⟩ ho.s0 rfl rfl rfl (nle rfl) ?_
    refine ct_X4_isTeacherInUse ho h7 hnc ?_
    refine kq_s ?_
    refine g_if_eq_b rfl L_X4_reasonAgainstLesson_29 (fun h_2 => ?_) (fun h_2 => ?_)
    · refine g_aload_n rfl ?_
      refine g_getR (w := (o + 6)) fl_X4_20 rfl ho.s0 rfl ?_
      refine g_iload rfl ?_
      refine g_aaload (j := t) (w := (o + 7 + t)) ho.ta (nle rfl) rfl (by omega) (nle rfl) (rcs_get (by omega)) ?_
      refine g_iload_n rfl ?_
      refine g_iload_n rfl ?_
      refine g_callV (as := [_, _]) mk_X5_teaches ml_X4_188 im_X5_teaches se_X5_teaches rfl rfl ⟨⟨nle rfl, nle rfl⟩, nle rfl, nle rfl⟩ (ho.ti (by omega)) rfl rfl rfl (nle rfl) ?_
      refine ct_X5_teaches (ho.ti (by omega)) ?_
      refine kq_s ?_
      refine g_if_ne_b rfl L_X4_reasonAgainstLesson_46 (fun h_3 => ?_) (fun h_3 => ?_)
      · refine g_aload_n rfl ?_
        refine g_getR (w := (o + 1)) fl_X4_11 rfl ho.s0 rfl ?_
        refine g_iload_n rfl ?_
        refine g_aaload (j := f) (w := (o + 2 + f)) ho.fa (nle rfl) rfl (by omega) (nle rfl) (rcs_get (by omega)) ?_
        refine g_iload_n rfl ?_
        refine g_iload_n rfl ?_
        refine g_callV (as := [_, _]) mk_X1_hasSpringFor ml_X4_191 im_X1_hasSpringFor se_X1_hasSpringFor rfl rfl ⟨⟨nle rfl, nle rfl⟩, nle rfl, nle rfl⟩ (ho.fi (by omega)) rfl rfl rfl (nle rfl) ?_
        refine ct_X1_hasSpringFor (ho.fi (by omega)) ?_
        refine kq_s ?_
        refine g_if_ne_b rfl L_X4_reasonAgainstLesson_62 (fun h_4 => ?_) (fun h_4 => ?_)
        · refine g_aload_n rfl ?_
          refine g_getR (w := (o + 1)) fl_X4_11 rfl ho.s0 rfl ?_
          refine g_iload_n rfl ?_
          refine g_aaload (j := f) (w := (o + 2 + f)) ho.fa (nle rfl) rfl (by omega) (nle rfl) (rcs_get (by omega)) ?_
          refine g_iload_n rfl ?_
          refine g_iload_n rfl ?_
          refine g_callV (as := [_, _]) mk_X1_hasBarreFor ml_X4_194 im_X1_hasBarreFor se_X1_hasBarreFor rfl rfl ⟨⟨nle rfl, nle rfl⟩, nle rfl, nle rfl⟩ (ho.fi (by omega)) rfl rfl rfl (nle rfl) ?_
          refine ct_X1_hasBarreFor (ho.fi (by omega)) ?_
          refine kq_s ?_
          refine g_if_ne_b rfl L_X4_reasonAgainstLesson_78 (fun h_5 => ?_) (fun h_5 => ?_)
          · refine g_aload_n rfl ?_
            refine g_getR (w := (o + 1)) fl_X4_11 rfl ho.s0 rfl ?_
            refine g_iload_n rfl ?_
            refine g_aaload (j := f) (w := (o + 2 + f)) ho.fa (nle rfl) rfl (by omega) (nle rfl) (rcs_get (by omega)) ?_
            refine g_iload_n rfl ?_
            refine g_iload_n rfl ?_
            refine g_callV (as := [_, _]) mk_X1_hasMirrorsFor ml_X4_197 im_X1_hasMirrorsFor se_X1_hasMirrorsFor rfl rfl ⟨⟨nle rfl, nle rfl⟩, nle rfl, nle rfl⟩ (ho.fi (by omega)) rfl rfl rfl (nle rfl) ?_
            refine ct_X1_hasMirrorsFor (ho.fi (by omega)) ?_
            refine kq_s ?_
            refine g_if_eq_b rfl L_X4_reasonAgainstLesson_96 (fun h_6 => ?_) (fun h_6 => ?_)
            · refine g_bipush (v := 6) bk_6 ?_
              refine g_fall rfl L_X4_reasonAgainstLesson_98 ?_
              refine g_iret rfl (nle rfl) (nle rfl) ?_
              exact qeq hQ (by clear hQ; simp_all [whyC]) rfl
            · refine g_iconst (v := 0) ik_0 ?_
              refine g_goto rfl L_X4_reasonAgainstLesson_98 ?_
              refine g_iret rfl (nle rfl) (nle rfl) ?_
              exact qeq hQ (by clear hQ; simp_all [whyC]) rfl
          · refine g_iconst (v := 5) ik_5 ?_
            refine g_iret rfl (nle rfl) (nle rfl) ?_
            exact qeq hQ (by clear hQ; simp_all [whyC]) rfl
        · refine g_iconst (v := 4) ik_4 ?_
          refine g_iret rfl (nle rfl) (nle rfl) ?_
          exact qeq hQ (by clear hQ; simp_all [whyC]) rfl
      · refine g_iconst (v := 3) ik_3 ?_
        refine g_iret rfl (nle rfl) (nle rfl) ?_
        exact qeq hQ (by clear hQ; simp_all [whyC]) rfl
    · refine g_iconst (v := 2) ik_2 ?_
      refine g_iret rfl (nle rfl) (nle rfl) ?_
      exact qeq hQ (by clear hQ; simp_all [whyC]) rfl
  · refine g_iconst (v := 1) ik_1 ?_
    refine g_iret rfl (nle rfl) (nle rfl) ?_
    exact qeq hQ (by clear hQ; simp_all [whyC]) rfl
set_option maxRecDepth 100000 in
set_option maxHeartbeats 4000000 in
theorem ct_X4_reasonAgainstSeat {X : Xs} {κ : Kp} {M : Mem} {Q : Rs → Kp → Mem → Prop} {o : Nat} (ho : IsStu κ.2.1 o) {nc : Nat} (h7 : M o 7 = nI nc) (hnc : nc ≤ 10) {dI kI : Int32} (d k f : Nat) (hd : dI = nI d) (hk : kI = nI k) (hd2 : d < 12) (hk2 : k < 10) (hf : M (o + 13 + k) 2 = nI f) (hf2 : f < 4) (hQ : Q (.inl (some (.int (whyD M o nc d k f)))) κ M) : Ct X m_X4_reasonAgainstSeat [.ref o, .int dI, .int kI] κ M Q := by
  refine ct_of B_X4_reasonAgainstSeat_0 pn_X4 rfl (nle rfl) L_X4_reasonAgainstSeat_0 ?_
  subst hd
  subst hk
  refine g_aload_n rfl ?_
  refine g_getR (w := (o + 12)) fl_X4_27 rfl ho.s0 rfl ?_
  refine g_iload_n rfl ?_
  refine g_aaload (j := k) (w := (o + 13 + k)) ho.la (nle rfl) rfl (by omega) (nle rfl) (rcs_get (by omega)) ?_
  refine g_astore_n (nle rfl) ?_
  refine g_aload_n rfl ?_
  refine g_iload_n rfl ?_
  refine g_callV (as := [_]) mk_X3_seatsDancer ml_X4_98 im_X3_seatsDancer se_X3_seatsDancer rfl rfl ⟨⟨nle rfl, nle rfl⟩, nle rfl, nle rfl⟩ (ho.li (by omega)) rfl rfl rfl (nle rfl) ?_
  refine ct_X3_seatsDancer (ho.li (by omega)) ?_
  refine kq_s ?_
  refine g_if_eq_b rfl L_X4_reasonAgainstSeat_17 (fun h_1 => ?_) (fun h_1 => ?_)
  · refine g_aload_n rfl ?_
    refine g_getI fl_X4_144 rfl (ho.li (by omega)) rfl ?_
    refine g_aload_n rfl ?_
    refine g_getR (w := (o + 23)) fl_X4_34 rfl ho.s0 rfl ?_
    refine g_iload_n rfl ?_
    refine g_aaload (j := d) (w := (o + 24 + d)) ho.da (nle rfl) rfl (by omega) (nle rfl) (rcs_get (by omega)) ?_
    refine g_getI fl_X4_122 rfl (ho.di (by omega)) rfl ?_
    refine g_iconst (v := 1) ik_1 ?_
    refine g_iadd ?_
    refine g_icmp_le rfl L_X4_reasonAgainstSeat_37 (fun h_2 => ?_) (fun h_2 => ?_)
    · refine g_aload_n rfl ?_
      refine g_iload_n rfl ?_
      refine g_aload_n rfl ?_
      refine g_getI fl_X4_151 rfl (ho.li (by omega)) rfl ?_
      refine g_aload_n rfl ?_
      refine g_getI fl_X4_154 rfl (ho.li (by omega)) rfl ?_
      refine g_callV (as := [_, _, _]) mk_X4_isDancerSeatedAt ml_X4_203 im_X4_isDancerSeatedAt se_X4_isDancerSeatedAt rfl rfl ⟨⟨nle rfl, nle rfl⟩, nle rfl, nle rfl⟩ ho.s0 rfl rfl rfl (nle rfl) ?_
      refine ct_X4_isDancerSeatedAt ho h7 hnc ?_
      refine kq_s ?_
      refine g_if_eq_b rfl L_X4_reasonAgainstSeat_55 (fun h_3 => ?_) (fun h_3 => ?_)
      · refine g_aload_n rfl ?_
        refine g_callV (as := []) mk_X3_countSeats ml_X4_166 im_X3_countSeats se_X3_countSeats rfl rfl ⟨⟨nle rfl, nle rfl⟩, nle rfl, nle rfl⟩ (ho.li (by omega)) rfl rfl rfl (nle rfl) ?_
        refine ct_X3_countSeats (ho.li (by omega)) ?_
        refine kq_s ?_
        refine g_aload_n rfl ?_
        refine g_aload_n rfl ?_
        refine g_callV (as := [_]) mk_X4_roomIn ml_X4_206 im_X4_roomIn se_X4_roomIn rfl rfl ⟨⟨nle rfl, nle rfl⟩, nle rfl, nle rfl⟩ ho.s0 rfl rfl rfl (nle rfl) ?_
        refine ct_X4_roomIn ho (ho.li (by omega)) f hf (by omega) ?_
        refine kq_s ?_
        refine g_icmp_ge rfl L_X4_reasonAgainstSeat_71 (fun h_4 => ?_) (fun h_4 => ?_)
        · refine g_iconst (v := 4) ik_4 ?_
          refine g_fall rfl L_X4_reasonAgainstSeat_72 ?_
          refine g_iret rfl (nle rfl) (nle rfl) ?_
          exact qeq hQ (by clear hQ; simp_all [whyD, i32le, -Int32.not_lt]) rfl
        · refine g_iconst (v := 0) ik_0 ?_
          refine g_goto rfl L_X4_reasonAgainstSeat_72 ?_
          refine g_iret rfl (nle rfl) (nle rfl) ?_
          exact qeq hQ (by clear hQ; simp_all [whyD, i32le, -Int32.not_lt]) rfl
      · refine g_iconst (v := 3) ik_3 ?_
        refine g_iret rfl (nle rfl) (nle rfl) ?_
        exact qeq hQ (by clear hQ; simp_all [whyD, i32le, -Int32.not_lt]) rfl
    · refine g_iconst (v := 2) ik_2 ?_
      refine g_iret rfl (nle rfl) (nle rfl) ?_
      exact qeq hQ (by clear hQ; simp_all [whyD, i32le, -Int32.not_lt]) rfl
  · refine g_iconst (v := 1) ik_1 ?_
    refine g_iret rfl (nle rfl) (nle rfl) ?_
    exact qeq hQ (by clear hQ; simp_all [whyD, i32le, -Int32.not_lt]) rfl
