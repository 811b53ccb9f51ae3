theorem week_6 {nc nd : Nat} {s : Nat → Int32} : clsN nd nc (upd s 4 (s 4 + 1)) 6 - upd s 4 (s 4 + 1) 6 = weekS nc nd s 6 - s 6 := by
  unfold weekS
  rw [ri_l (by omega), upd_ne (show 6 ≠ 4 by omega)]
theorem t_r3 (a c b : Int32) : a - c + (b - a) = b - c := t_ring a b c
theorem rep_4 {B nf nt nc nd : Nat} {s : Nat → Int32} {M : Mem} {o : Nat} (hr : RepS M o nf nt nc nd s) (hI : Inv B nf nt nc nd s) : RepS (upM M o 9 (M o 9 + 1)) o nf nt nc nd (upd s 4 (s 4 + 1)) := by
  have bf := hI.lf
  have bt := hI.lt
  have bc := hI.lc
  have bn := hI.ld
  obtain ⟨⟨a1, a2, a3, a4, a5, a6, a7, a8, a9, a10⟩, hf, ht, hk, hd⟩ := hr
  refine ⟨?_, fun f hf' => ?_, fun t ht' => ?_, fun k' hk' => ?_, fun d hd' => ?_⟩
  · simp (disch := omega) only [upM_s, upM_o, upM_j, upd_ne, upd_same, a1, a2, a3, a4, a5, a6, a7, a8, a9, a10, and_self]
  · simp (disch := omega) only [upM_o, upd_ne]; exact hf f hf'
  · simp (disch := omega) only [upM_o, upd_ne]; exact ht t ht'
  · simp (disch := omega) only [upM_o, upd_ne]; exact hk k' hk'
  · simp (disch := omega) only [upM_o, upd_ne]; exact hd d hd'
theorem rep_ri {B nf nt nc nd : Nat} {s : Nat → Int32} {M : Mem} {o : Nat} (hr : RepS M o nf nt nc nd s) (hI : Inv B nf nt nc nd s) : RepS (rsA M (o + 24) nd (s 12)) o nf nt nc nd (riseN nd s) := by
  have bf := hI.lf
  have bt := hI.lt
  have bc := hI.lc
  have bn := hI.ld
  obtain ⟨⟨a1, a2, a3, a4, a5, a6, a7, a8, a9, a10⟩, hf, ht, hk, hd⟩ := hr
  refine ⟨?_, fun f hf' => ?_, fun t ht' => ?_, fun k' hk' => ?_, fun d hd' => ?_⟩
  · simp (disch := omega) only [rsA_o, ri_l, a1, a2, a3, a4, a5, a6, a7, a8, a9, a10, and_self]
  · simp (disch := omega) only [rsA_o, ri_l]; exact hf f hf'
  · simp (disch := omega) only [rsA_o, ri_l]; exact ht t ht'
  · simp (disch := omega) only [rsA_o, ri_l]; exact hk k' hk'
  · obtain ⟨d0, d1, d2, d3⟩ := hd d hd'
    obtain ⟨r1, r2⟩ := (ri_01 (d := d) (s := s) nd).1 hd'
    simp (disch := omega) only [rsA_a, ri_2]
    unfold riseR
    rw [d0, d1]
    by_cases hc : risC s d
    · obtain ⟨q1, q2⟩ := r1 hc
      unfold risC at hc
      rw [q1, q2, if_pos hc]
      simp (disch := omega) only [upd_ne, upd_same, d2, d3, and_self]
    · obtain ⟨q1, q2⟩ := r2 hc
      unfold risC at hc
      rw [q1, q2, if_neg hc]
      exact ⟨d0, d1, d2, d3⟩
set_option maxRecDepth 100000 in
set_option maxHeartbeats 4000000 in
theorem ct_X4_passWeek {X : Xs} {κ : Kp} {M : Mem} {Q : Rs → Kp → Mem → Prop} {o : Nat} (ho : IsStu κ.2.1 o) {B nf nt nc nd : Nat} {s : Nat → Int32} (hr : RepS M o nf nt nc nd s) (hI : Inv B nf nt nc nd s)  (hQ : ∀ M', RepS M' o nf nt nc nd (weekS nc nd s) → FrS M M' o → Q (.inl (some (.int (weekS nc nd s 6 - s 6)))) κ M') : Ct X m_X4_passWeek [.ref o] κ M Q := by
  refine ct_of B_X4_passWeek_0 pn_X4 rfl (nle rfl) L_X4_passWeek_0 ?_
  have bf := hI.lf
  have bt := hI.lt
  have bc := hI.lc
  have bn := hI.ld
  refine g_aload_n rfl ?_
  refine g_dup rfl ?_
  refine g_getI fl_X4_59 rfl ho.s0 rfl ?_
  refine g_iconst (v := 1) ik_1 ?_
  refine g_iadd ?_
  refine g_putI pl_X4_59 rfl ho.s0 rfl rfl rfl ?_
  refine g_iconst (v := 0) ik_0 ?_
  refine g_istore_n (nle rfl) ?_
  refine g_iconst (v := 0) ik_0 ?_
  refine g_istore_n (nle rfl) ?_
  refine g_fall rfl L_X4_passWeek_14 ?_
  have hrep0 := rep_4 hr hI
  have hfr0 : FrS M (upM M o 9 (M o 9 + 1)) o := ⟨fun r hr' => by funext j; simp (disch := omega) only [upM_o], by simp (disch := omega) only [upM_j]⟩
  have hI0 := inv_lo (i := 4) (x := s 4 + 1) (Or.inl rfl) hI
  refine g_lo2 (lo' := [(0, some (.ref o)), (1, some (.int (clsN nd 0 (upd s 4 (s 4 + 1)) 6 - (upd s 4 (s 4 + 1)) 6))), (2, some (.int (nI 0)))]) ?_ ⟨rfl, by show some (Value.int _) = some (Value.int _); rw [show clsN nd 0 (upd s 4 (s 4 + 1)) 6 - (upd s 4 (s 4 + 1)) 6 = 0 from Int32.sub_self _], rfl, trivial⟩
  refine loop_up (P := fun k => ∀ M2 : Mem, RepS M2 o nf nt nc nd (clsN nd k (upd s 4 (s 4 + 1))) → FrS M M2 o → G X m_X4_passWeek B_X4_passWeek_14 14 [(0, some (.ref o)), (1, some (.int (clsN nd k (upd s 4 (s 4 + 1)) 6 - (upd s 4 (s 4 + 1)) 6))), (2, some (.int (nI k)))] [] 0 0 κ M2 Q) nc (fun k hle_k ih_k M2 hr2 hF2 => ?_) 0 (Nat.zero_le _) _ hrep0 hfr0
  have hI2 := invW_c hI0 k hle_k
  refine g_iload_n rfl ?_
  refine g_aload_n rfl ?_
  refine g_getI fl_X4_53 rfl ho.s0 rfl ?_
  simp (disch := omega) only [upM_s, upM_o, upM_j, hr2.c7 hI2.1, nI_1]
  refine g_icmp_ge rfl L_X4_passWeek_41 (fun h_1 => ?_) (fun h_1 => ?_)
  · have hx_k := ((cmp_ge (c := nc) rfl (by omega) hle_k).1 h_1).symm
    subst hx_k
    refine g_iconst (v := 0) ik_0 ?_
    refine g_istore_n (nle rfl) ?_
    refine g_fall rfl L_X4_passWeek_43 ?_
    refine g_mem (M' := rsA M2 (o + 24) 0 (clsN nd nc (upd s 4 (s 4 + 1)) 12)) (rsA_0 _ _ _).symm ?_
    refine g_lo2 (lo' := [(0, some (.ref o)), (1, some (.int (clsN nd nc (upd s 4 (s 4 + 1)) 6 - (upd s 4 (s 4 + 1)) 6))), (2, some (.int (nI 0)))]) ?_ ⟨rfl, rfl, rfl, trivial⟩
    refine loop_up (P := fun d => G X m_X4_passWeek B_X4_passWeek_43 43 [(0, some (.ref o)), (1, some (.int (clsN nd nc (upd s 4 (s 4 + 1)) 6 - (upd s 4 (s 4 + 1)) 6))), (2, some (.int (nI d)))] [] 0 0 κ (rsA M2 (o + 24) d (clsN nd nc (upd s 4 (s 4 + 1)) 12)) Q) nd (fun d hle_d ih_d => ?_) 0 (Nat.zero_le _)
    refine g_iload_n rfl ?_
    refine g_aload_n rfl ?_
    refine g_getI fl_X4_56 rfl ho.s0 rfl ?_
    simp (disch := omega) only [upM_s, upM_o, upM_j, hr2.c8 hI2.1, nI_1, rsA_o]
    refine g_icmp_ge rfl L_X4_passWeek_72 (fun h_2 => ?_) (fun h_2 => ?_)
    · have hx_d := ((cmp_ge (c := nd) rfl (by omega) hle_d).1 h_2).symm
      subst hx_d
      refine g_iload_n rfl ?_
      refine g_iret rfl (nle rfl) (nle rfl) ?_
      refine qeq (hQ _ (rep_ri hr2 hI2.1) ?_) week_6 rfl
      exact hF2.tr ⟨fun r hr' => by funext j; simp (disch := omega) only [rsA_o], by simp (disch := omega) only [rsA_o]⟩
    · have hlt_d : d < nd := (cmp_ge (c := nd) rfl (by omega) hle_d).2 h_2
      refine g_aload_n rfl ?_
      refine g_getR (w := (o + 23)) fl_X4_34 rfl ho.s0 rfl ?_
      refine g_iload_n rfl ?_
      refine g_aaload (j := d) (w := (o + 24 + d)) ho.da (nle rfl) rfl (by omega) (nle rfl) (rcs_get (by omega)) ?_
      refine g_aload_n rfl ?_
      refine g_getR (w := (o + 36)) fl_X4_39 rfl ho.s0 rfl ?_
      refine g_iconst (v := 1) ik_1 ?_
      refine g_iaload (j := 1) ho.se rfl (nle rfl) (nle rfl) ?_
      simp (disch := omega) only [rsA_o]
      rw [hr2.1.2.2.2.2.2.2.2.2.2]
      refine g_callV (as := [_]) mk_X0_riseWith ml_X4_220 im_X0_riseWith se_X0_riseWith rfl rfl ⟨⟨nle rfl, nle rfl⟩, nle rfl, nle rfl⟩ (ho.di (by omega)) rfl rfl rfl (nle rfl) ?_
      refine ct_X0_riseWith (ho.di (by omega)) ?_
      refine kq_n ?_
      refine g_iinc (v := nI (d + 1)) rfl (nI_inc _) (nle rfl) ?_
      refine g_goto rfl L_X4_passWeek_43 ?_
      refine g_mem ?_ (g_lo2 (ih_d hlt_d) ⟨rfl, rfl, rfl, trivial⟩)
      exact rsA_s
  · have hlt_k : k < nc := (cmp_ge (c := nc) rfl (by omega) hle_k).2 h_1
    refine g_iload_n rfl ?_
    refine g_aload_n rfl ?_
    refine g_aload_n rfl ?_
    refine g_getR (w := (o + 12)) fl_X4_27 rfl ho.s0 rfl ?_
    refine g_iload_n rfl ?_
    refine g_aaload (j := k) (w := (o + 13 + k)) ho.la (nle rfl) rfl (by omega) (nle rfl) (rcs_get (by omega)) ?_
    refine g_callV (as := [_]) mk_X4_holdLesson ml_X4_217 im_X4_holdLesson se_X4_holdLesson rfl rfl ⟨⟨nle rfl, nle rfl⟩, nle rfl, nle rfl⟩ ho.s0 rfl rfl rfl (nle rfl) ?_
    refine ct_X4_holdLesson ho hr2 hI2.1 k (by omega) (fun M3 hr3 hF3 => ?_)
    refine kq_s ?_
    refine g_iadd ?_
    refine g_istore_n (nle rfl) ?_
    refine g_iinc (v := nI (k + 1)) rfl (nI_inc _) (nle rfl) ?_
    refine g_goto rfl L_X4_passWeek_14 ?_
    refine g_lo2 (ih_k hlt_k M3 hr3 (hF2.tr hF3)) ⟨rfl, ?_, rfl, trivial⟩
    show some (Value.int _) = some (Value.int _)
    rw [t_ring]
    rfl
set_option maxRecDepth 100000 in
set_option maxHeartbeats 4000000 in
theorem ct_X4_passWeeks {X : Xs} {κ : Kp} {M : Mem} {Q : Rs → Kp → Mem → Prop} {o : Nat} (ho : IsStu κ.2.1 o) {B nf nt nc nd : Nat} {s : Nat → Int32} (hr : RepS M o nf nt nc nd s) (hI : Inv B nf nt nc nd s) {nI_ : Int32} (n : Nat) (hn : nI_ = nI n) (hn2 : n < 100000) (hQ : ∀ M', RepS M' o nf nt nc nd (wkN nc nd n s) → FrS M M' o → Q (.inl (some (.int (wkN nc nd n s 6 - s 6)))) κ M') : Ct X m_X4_passWeeks [.ref o, .int nI_] κ M Q := by
  refine ct_of B_X4_passWeeks_0 pn_X4 rfl (nle rfl) L_X4_passWeeks_0 ?_
  have bf := hI.lf
  have bt := hI.lt
  have bc := hI.lc
  have bn := hI.ld
  subst hn
  refine g_iconst (v := 0) ik_0 ?_
  refine g_istore_n (nle rfl) ?_
  refine g_iconst (v := 0) ik_0 ?_
  refine g_istore_n (nle rfl) ?_
  refine g_fall rfl L_X4_passWeeks_4 ?_
  refine g_lo2 (lo' := [(0, some (.ref o)), (1, some (.int (nI n))), (2, some (.int (wkN nc nd 0 s 6 - s 6))), (3, some (.int (nI 0)))]) ?_ ⟨rfl, rfl, by show some (Value.int _) = some (Value.int _); rw [show wkN nc nd 0 s 6 - s 6 = 0 from Int32.sub_self _], rfl, trivial⟩
  refine loop_up (P := fun k => ∀ M2 : Mem, RepS M2 o nf nt nc nd (wkN nc nd k s) → FrS M M2 o → G X m_X4_passWeeks B_X4_passWeeks_4 4 [(0, some (.ref o)), (1, some (.int (nI n))), (2, some (.int (wkN nc nd k s 6 - s 6))), (3, some (.int (nI k)))] [] 0 0 κ M2 Q) n (fun k hle_k ih_k M2 hr2 hF2 => ?_) 0 (Nat.zero_le _) _ hr (FrS.rf M o)
  have hI2 := inv_wk hI k
  refine g_iload_n rfl ?_
  refine g_iload_n rfl ?_
  refine g_icmp_ge rfl L_X4_passWeeks_22 (fun h_1 => ?_) (fun h_1 => ?_)
  · have hx_k := ((cmp_ge (c := n) rfl (by omega) hle_k).1 h_1).symm
    subst hx_k
    refine g_iload_n rfl ?_
    refine g_iret rfl (nle rfl) (nle rfl) ?_
    exact hQ M2 hr2 hF2
  · have hlt_k : k < n := (cmp_ge (c := n) rfl (by omega) hle_k).2 h_1
    refine g_iload_n rfl ?_
    refine g_aload_n rfl ?_
    refine g_callV (as := []) mk_X4_passWeek ml_X4_214 im_X4_passWeek se_X4_passWeek rfl rfl ⟨⟨nle rfl, nle rfl⟩, nle rfl, nle rfl⟩ ho.s0 rfl rfl rfl (nle rfl) ?_
    refine ct_X4_passWeek ho hr2 hI2 (fun M3 hr3 hF3 => ?_)
    refine kq_s ?_
    refine g_iadd ?_
    refine g_istore_n (nle rfl) ?_
    refine g_iinc (v := nI (k + 1)) rfl (nI_inc _) (nle rfl) ?_
    refine g_goto rfl L_X4_passWeeks_4 ?_
    refine g_lo2 (ih_k hlt_k M3 hr3 (hF2.tr hF3)) ⟨rfl, rfl, ?_, rfl, trivial⟩
    show some (Value.int _) = some (Value.int _)
    rw [t_ring]
    rfl
def rmI (s : Nat → Int32) (style : Int32) (f : Nat) : Int32 := tkI (s (13 + 4 * f + 3)) (s (13 + 4 * f + 2)) style
def bfC (s : Nat → Int32) (nc : Nat) (style level : Int32) (t : Nat) (day hour : Int32) : Nat → Int32 × Int32
  | 0 => (-1, 0)
  | f + 1 => if (bfC s nc style level t day hour f).2 < rmI s style f ∧ whyI s nc style level f t day hour = 0 then (nI f, rmI s style f) else bfC s nc style level t day hour f
theorem bfC_n {s : Nat → Int32} {nc : Nat} {style level : Int32} {t : Nat} {day hour : Int32} {f : Nat} (h : ¬ ((bfC s nc style level t day hour f).2 < rmI s style f ∧ whyI s nc style level f t day hour = 0)) : bfC s nc style level t day hour (f + 1) = bfC s nc style level t day hour f := if_neg h
theorem bfC_y {s : Nat → Int32} {nc : Nat} {style level : Int32} {t : Nat} {day hour : Int32} {f : Nat} (h : (bfC s nc style level t day hour f).2 < rmI s style f ∧ whyI s nc style level f t day hour = 0) : bfC s nc style level t day hour (f + 1) = (nI f, rmI s style f) := if_pos h
set_option maxRecDepth 100000 in
set_option maxHeartbeats 4000000 in
theorem ct_X4_roomiestFloor {X : Xs} {κ : Kp} {M : Mem} {Q : Rs → Kp → Mem → Prop} {o : Nat} (ho : IsStu κ.2.1 o) {B nf nt nc nd : Nat} {s : Nat → Int32} (hr : RepS M o nf nt nc nd s) (hI : Inv B nf nt nc nd s) {style level tI day hour : Int32} (t : Nat) (htI : tI = nI t) (ht : t < nt) (hQ : Q (.inl (some (.int ((bfC s nc style level t day hour nf).1)))) κ M) : Ct X m_X4_roomiestFloor [.ref o, .int style, .int level, .int tI, .int day, .int hour] κ M Q := by
  refine ct_of B_X4_roomiestFloor_0 pn_X4 rfl (nle rfl) L_X4_roomiestFloor_0 ?_
  have bf := hI.lf
  have bt := hI.lt
  have bc := hI.lc
  have bn := hI.ld
  subst htI
  refine g_iconst (v := -1) ik_m1 ?_
  refine g_istore (nle rfl) ?_
  refine g_iconst (v := 0) ik_0 ?_
  refine g_istore (nle rfl) ?_
  refine g_iconst (v := 0) ik_0 ?_
  refine g_istore (nle rfl) ?_
  refine g_fall rfl L_X4_roomiestFloor_9 ?_
  refine g_lo2 (lo' := [(0, some (.ref o)), (1, some (.int style)), (2, some (.int level)), (3, some (.int (nI t))), (4, some (.int day)), (5, some (.int hour)), (6, some (.int (bfC s nc style level t day hour 0).1)), (7, some (.int (bfC s nc style level t day hour 0).2)), (8, some (.int (nI 0)))]) ?_ ⟨rfl, rfl, rfl, rfl, rfl, rfl, rfl, rfl, rfl, trivial⟩
  refine loop_up (P := fun f => G X m_X4_roomiestFloor B_X4_roomiestFloor_9 9 [(0, some (.ref o)), (1, some (.int style)), (2, some (.int level)), (3, some (.int (nI t))), (4, some (.int day)), (5, some (.int hour)), (6, some (.int (bfC s nc style level t day hour f).1)), (7, some (.int (bfC s nc style level t day hour f).2)), (8, some (.int (nI f)))] [] 0 0 κ M Q) nf (fun f hle_f ih_f => ?_) 0 (Nat.zero_le _)
  refine g_iload rfl ?_
  refine g_aload_n rfl ?_
  refine g_getI fl_X4_46 rfl ho.s0 rfl ?_
  simp (disch := omega) only [upM_s, upM_o, upM_j, hr.c5 hI, nI_1]
  refine g_icmp_ge rfl L_X4_roomiestFloor_68 (fun h_1 => ?_) (fun h_1 => ?_)
  · have hx_f := ((cmp_ge (c := nf) rfl (by omega) hle_f).1 h_1).symm
    subst hx_f
    refine g_iload rfl ?_
    refine g_iret rfl (nle rfl) (nle rfl) ?_
    exact hQ
  · have hlt_f : f < nf := (cmp_ge (c := nf) rfl (by omega) hle_f).2 h_1
    refine g_aload_n rfl ?_
    refine g_getR (w := (o + 1)) fl_X4_11 rfl ho.s0 rfl ?_
    refine g_iload rfl ?_
    refine g_aaload (j := f) (w := (o + 2 + f)) ho.fa (nle rfl) rfl (by omega) (nle rfl) (rcs_get (by omega)) ?_
    refine g_iload_n rfl ?_
    refine g_callV (as := [_]) mk_X1_roomFor ml_X4_210 im_X1_roomFor se_X1_roomFor rfl rfl ⟨⟨nle rfl, nle rfl⟩, nle rfl, nle rfl⟩ (ho.fi (by omega)) rfl rfl rfl (nle rfl) ?_
    refine ct_X1_roomFor (ho.fi (by omega)) ?_
    rw [(hr.2.1 f (by omega)).2.2.1, (hr.2.1 f (by omega)).2.2.2]
    refine kq_s ?_
    refine g_istore (nle rfl) ?_
    refine g_iload rfl ?_
    refine g_iload rfl ?_
    refine g_icmp_le rfl L_X4_roomiestFloor_62 (fun h_2 => ?_) (fun h_2 => ?_)
    · have hb1 : ¬ (bfC s nc style level t day hour f).2 < rmI s style f := Int32.not_lt.mpr h_2
      refine g_iinc (v := nI (f + 1)) rfl (nI_inc _) (nle rfl) ?_
      refine g_goto rfl L_X4_roomiestFloor_9 ?_
      have q := bfC_n (s := s) (nc := nc) (style := style) (level := level) (t := t) (day := day) (hour := hour) (f := f) (fun z => hb1 z.1)
      have ih2 := ih_f hlt_f
      rw [q] at ih2
      exact g_lo2 ih2 ⟨rfl, rfl, rfl, rfl, rfl, rfl, rfl, rfl, rfl, trivial⟩
    · have hb1 : (bfC s nc style level t day hour f).2 < rmI s style f := Int32.not_le.mp h_2
      refine g_aload_n rfl ?_
      refine g_iload_n rfl ?_
      refine g_iload_n rfl ?_
      refine g_iload rfl ?_
      refine g_iload_n rfl ?_
      refine g_iload rfl ?_
      refine g_iload rfl ?_
      refine g_callV (as := [_, _, _, _, _, _]) mk_X4_reasonAgainstLesson ml_X4_137 im_X4_reasonAgainstLesson se_X4_reasonAgainstLesson rfl rfl ⟨⟨nle rfl, nle rfl⟩, nle rfl, nle rfl⟩ ho.s0 rfl rfl rfl (nle rfl) ?_
      refine ct_X4_reasonAgainstLesson ho (hr.c7 hI) bc f t rfl rfl (by omega) (by omega) ?_
      rw [why_eq hr (by omega) ht]
      refine kq_s ?_
      refine g_if_ne rfl L_X4_roomiestFloor_62 (fun h_3 => ?_) (fun h_3 => ?_)
      · refine g_iinc (v := nI (f + 1)) rfl (nI_inc _) (nle rfl) ?_
        refine g_goto rfl L_X4_roomiestFloor_9 ?_
        have q := bfC_n (s := s) (nc := nc) (style := style) (level := level) (t := t) (day := day) (hour := hour) (f := f) (fun z => h_3 z.2)
        have ih2 := ih_f hlt_f
        rw [q] at ih2
        exact g_lo2 ih2 ⟨rfl, rfl, rfl, rfl, rfl, rfl, rfl, rfl, rfl, trivial⟩
      · have hb2 := h_3
        refine g_iload rfl ?_
        refine g_istore (nle rfl) ?_
        refine g_iload rfl ?_
        refine g_istore (nle rfl) ?_
        refine g_fall rfl L_X4_roomiestFloor_62 ?_
        refine g_iinc (v := nI (f + 1)) rfl (nI_inc _) (nle rfl) ?_
        refine g_goto rfl L_X4_roomiestFloor_9 ?_
        have q := bfC_y (level := level) (f := f) ⟨hb1, hb2⟩
        have ih2 := ih_f hlt_f
        rw [q] at ih2
        exact g_lo2 ih2 ⟨rfl, rfl, rfl, rfl, rfl, rfl, rfl, rfl, rfl, trivial⟩
