/-! ===== p34: what holds ===== -/
theorem spr0 {sp : Int32} {st lv : Nat} (h : sprOK sp (nI st) (nI lv) = true) (e : st = 0) : ¬ sp < 4 := by
  subst e
  exact Int32.not_lt.mpr (of_decide_eq_true h)
theorem spr1 {sp : Int32} {st lv : Nat} (h : sprOK sp (nI st) (nI lv) = true) (e : st = 1) : ¬ 5 < sp := by
  subst e
  exact Int32.not_lt.mpr (of_decide_eq_true h)
theorem spr2 {sp : Int32} {st lv : Nat} (h : sprOK sp (nI st) (nI lv) = true) (e : st = 2) : ¬ sp < 3 + nI lv := by
  subst e
  exact Int32.not_lt.mpr (of_decide_eq_true h)
theorem bar0 {ba : Int32} {st lv : Nat} (h : barOK ba (nI st) (nI lv) = true) (e : st = 0) : ¬ ba < 2 * nI lv + 4 := by
  subst e
  exact Int32.not_lt.mpr (of_decide_eq_true h)
theorem mir0 {mi : Int32} {st lv : Nat} (h : mirOK mi (nI st) (nI lv) = true) (e : st = 0) : ¬ mi < nI lv / 2 := by
  subst e
  exact Int32.not_lt.mpr (of_decide_eq_true h)
theorem mir1 {mi : Int32} {st lv : Nat} (h : mirOK mi (nI st) (nI lv) = true) (e : st = 1) : ¬ mi ≤ 0 := by
  subst e
  have h1 : (1 : Int32) ≤ mi := of_decide_eq_true h
  exact fun h2 => absurd (Int32.le_trans h1 h2) (by decide)
set_option maxRecDepth 100000 in
set_option maxHeartbeats 4000000 in
theorem hol_741 {X : Xs} {κ : Kp} {M : Mem} {Q : Rs → Kp → Mem → Prop} {o B nf nt nc nd cnt : Nat} {s : Nat → Int32} {blk : Nat → Nat → Int32} (hx : IsDF κ.2.1 o) (hI : Inv B nf nt nc nd s) (hL : LqK B nf nt nc nd s) (hB : B < 1000000) (hO : OB B M o s cnt blk) (hQ : ∀ M', OB B M' o s cnt blk → Q (.inl (some (.int 1))) κ M') : G X m_L_holds B_L_holds_741 741 [(0, some (.ref o)), (2, some (.int 1)), (3, some (.int (nI nc))), (4, some (.int (nI nc)))] [] 1 6 κ M Q := by
  have bf := hI.lf
  have bt' := hI.lt
  have bc := hI.lc
  have bn := hI.ld
  have hS := hO.1
  refine g_iload_n rfl ?_
  refine g_if_eq rfl L_L_holds_775 (fun h_1 => absurd h_1 (by decide)) (fun h_1 => ?_)
  refine g_iload_n rfl ?_
  refine g_aload_n rfl ?_
  refine g_iconst (v := 2) ik_2 ?_
  refine g_callV (as := [_]) mk_X7_about ml_L_13 im_X7_about se_X7_about rfl rfl ⟨⟨nle rfl, nle rfl⟩, nle rfl, nle rfl⟩ hx.1 rfl rfl rfl (nle rfl) ?_
  refine l_about hx hS (w := 2) (v := nI nc) (by decide) hI.c ?_
  refine kq_s ?_
  refine g_icmp_ne rfl L_L_holds_775 (fun h_2 => (h_2 rfl).elim) (fun h_2 => ?_)
  refine g_iload rfl ?_
  refine g_aload_n rfl ?_
  refine g_iconst (v := 2) ik_2 ?_
  refine g_callV (as := [_]) mk_X7_about ml_L_13 im_X7_about se_X7_about rfl rfl ⟨⟨nle rfl, nle rfl⟩, nle rfl, nle rfl⟩ hx.1 rfl rfl rfl (nle rfl) ?_
  refine l_about hx hS (w := 2) (v := nI nc) (by decide) hI.c ?_
  refine kq_s ?_
  refine g_icmp_ne rfl L_L_holds_775 (fun h_3 => (h_3 rfl).elim) (fun h_3 => ?_)
  refine g_aload_n rfl ?_
  refine g_callV (as := []) mk_X7_errorPosition ml_L_90 im_X7_errorPosition se_X7_errorPosition rfl rfl ⟨⟨nle rfl, nle rfl⟩, nle rfl, nle rfl⟩ hx.1 rfl rfl rfl (nle rfl) ?_
  refine l_errorPosition hx hO (fun M' hO' => ?_)
  refine kq_s ?_
  refine g_if_ne rfl L_L_holds_775 (fun h_4 => absurd h_4 (by decide)) (fun h_4 => ?_)
  refine g_iconst (v := 1) ik_1 ?_
  refine g_goto rfl L_L_holds_776 ?_
  refine g_zret rfl rfl (nle rfl) (nle rfl) ?_
  exact hQ M' hO'
set_option maxRecDepth 100000 in
set_option maxHeartbeats 4000000 in
theorem hol_608 {X : Xs} {κ : Kp} {M : Mem} {Q : Rs → Kp → Mem → Prop} {o B nf nt nc nd cnt : Nat} {s : Nat → Int32} {blk : Nat → Nat → Int32} (hx : IsDF κ.2.1 o) (hI : Inv B nf nt nc nd s) (hL : LqK B nf nt nc nd s) (hB : B < 1000000) (hO : OB B M o s cnt blk) (hQ : ∀ M', OB B M' o s cnt blk → Q (.inl (some (.int 1))) κ M') : G X m_L_holds B_L_holds_608 608 [(0, some (.ref o)), (2, some (.int 1)), (3, some (.int (nI nc))), (4, some (.int (nI nc)))] [] 1 6 κ M Q := by
  have bf := hI.lf
  have bt' := hI.lt
  have bc := hI.lc
  have bn := hI.ld
  have hS := hO.1
  refine g_iconst (v := 0) ik_0 ?_
  refine g_istore (nle rfl) ?_
  refine g_fall rfl L_L_holds_611 ?_
  refine g_lo2 (lo' := [(0, some (.ref o)), (2, some (.int 1)), (3, some (.int (nI nc))), (4, some (.int (nI nc))), (5, some (.int (nI 0)))]) ?_ ⟨rfl, rfl, rfl, rfl, rfl, trivial⟩
  refine loop_up (P := fun k => ∀ M2, OB B M2 o s cnt blk → G X m_L_holds B_L_holds_611 611 [(0, some (.ref o)), (2, some (.int 1)), (3, some (.int (nI nc))), (4, some (.int (nI nc))), (5, some (.int (nI k)))] [] 1 6 κ M2 Q) nd (fun k hle_k ih_k M2 hO => ?_) 0 (Nat.zero_le _) _ hO
  have hS := hO.1
  refine g_iload rfl ?_
  refine g_aload_n rfl ?_
  refine g_iconst (v := 3) ik_3 ?_
  refine g_callV (as := [_]) mk_X7_about ml_L_13 im_X7_about se_X7_about rfl rfl ⟨⟨nle rfl, nle rfl⟩, nle rfl, nle rfl⟩ hx.1 rfl rfl rfl (nle rfl) ?_
  refine l_about hx hS (w := 3) (v := nI nd) (by decide) hI.d ?_
  refine kq_s ?_
  refine g_icmp_ge rfl L_L_holds_741 (fun h_1 => ?_) (fun h_1 => ?_)
  · have hx_k := ((cmp_ge (c := nd) rfl (by omega) hle_k).1 h_1).symm
    subst hx_k
    exact g_lo2 (hol_741 hx hI hL hB hO hQ) ⟨rfl, rfl, rfl, rfl, trivial⟩
  · have hlt_k : k < nd := (cmp_ge (c := nd) rfl (by omega) hle_k).2 h_1
    obtain ⟨⟨l, _, l2, el⟩, eu⟩ := hI.da hlt_k
    obtain ⟨v, v1, v2, ev⟩ := hL.2.2.2.2.2.2 k hlt_k
    refine g_iload_n rfl ?_
    refine g_if_eq rfl L_L_holds_733 (fun h_2 => absurd h_2 (by decide)) (fun h_2 => ?_)
    refine g_aload_n rfl ?_
    refine g_iload rfl ?_
    refine g_iconst (v := 0) ik_0 ?_
    refine g_callV (as := [_, _]) mk_X7_dancerOf ml_L_23 im_X7_dancerOf se_X7_dancerOf rfl rfl ⟨⟨nle rfl, nle rfl⟩, nle rfl, nle rfl⟩ hx.1 rfl rfl rfl (nle rfl) ?_
    refine l_dancerOf hx hS hI (k := k) (w := 0) (v := nI v) (by omega) (by decide) ev ?_
    refine kq_s ?_
    refine g_iconst (v := 1) ik_1 ?_
    refine g_icmp_lt rfl L_L_holds_733 (fun h_3 => absurd ((nI_ltI (a := v) (b := 1) (by omega) (by omega)).mp h_3) (by omega)) (fun h_3 => ?_)
    refine g_aload_n rfl ?_
    refine g_iload rfl ?_
    refine g_iconst (v := 0) ik_0 ?_
    refine g_callV (as := [_, _]) mk_X7_dancerOf ml_L_23 im_X7_dancerOf se_X7_dancerOf rfl rfl ⟨⟨nle rfl, nle rfl⟩, nle rfl, nle rfl⟩ hx.1 rfl rfl rfl (nle rfl) ?_
    refine l_dancerOf hx hS hI (k := k) (w := 0) (v := nI v) (by omega) (by decide) ev ?_
    refine kq_s ?_
    refine g_iconst (v := 5) ik_5 ?_
    refine g_icmp_gt rfl L_L_holds_733 (fun h_4 => absurd ((nI_ltI (a := 5) (b := v) (by omega) (by omega)).mp h_4) (by omega)) (fun h_4 => ?_)
    refine g_aload_n rfl ?_
    refine g_iload rfl ?_
    refine g_iconst (v := 2) ik_2 ?_
    refine g_callV (as := [_, _]) mk_X7_dancerOf ml_L_23 im_X7_dancerOf se_X7_dancerOf rfl rfl ⟨⟨nle rfl, nle rfl⟩, nle rfl, nle rfl⟩ hx.1 rfl rfl rfl (nle rfl) ?_
    refine l_dancerOf hx hS hI (k := k) (w := 2) (v := nI l) (by omega) (by decide) el ?_
    refine kq_s ?_
    refine g_if_lt rfl L_L_holds_733 (fun h_5 => absurd ((nI_ltI (a := l) (b := 0) (by omega) (by omega)).mp h_5) (by omega)) (fun h_5 => ?_)
    refine g_aload_n rfl ?_
    refine g_iload rfl ?_
    refine g_iconst (v := 2) ik_2 ?_
    refine g_callV (as := [_, _]) mk_X7_dancerOf ml_L_23 im_X7_dancerOf se_X7_dancerOf rfl rfl ⟨⟨nle rfl, nle rfl⟩, nle rfl, nle rfl⟩ hx.1 rfl rfl rfl (nle rfl) ?_
    refine l_dancerOf hx hS hI (k := k) (w := 2) (v := nI l) (by omega) (by decide) el ?_
    refine kq_s ?_
    refine g_bipush (v := 100) bk_100 ?_
    refine g_icmp_ge rfl L_L_holds_733 (fun h_6 => absurd ((nI_leI (a := 100) (b := l) (by omega) (by omega)).mp h_6) (by omega)) (fun h_6 => ?_)
    refine g_bipush (v := 10) bk_10 ?_
    refine g_aload_n rfl ?_
    refine g_iload rfl ?_
    refine g_iconst (v := 4) ik_4 ?_
    refine g_callV (as := [_, _]) mk_X7_dancerOf ml_L_23 im_X7_dancerOf se_X7_dancerOf rfl rfl ⟨⟨nle rfl, nle rfl⟩, nle rfl, nle rfl⟩ hx.1 rfl rfl rfl (nle rfl) ?_
    refine l_dancerOf hx hS hI (k := k) (w := 4) (v := s (129 + 5 * k + 4)) (by omega) (by decide) rfl ?_
    refine kq_s ?_
    refine g_imul ?_
    refine g_aload_n rfl ?_
    refine g_iload rfl ?_
    refine g_iconst (v := 2) ik_2 ?_
    refine g_callV (as := [_, _]) mk_X7_dancerOf ml_L_23 im_X7_dancerOf se_X7_dancerOf rfl rfl ⟨⟨nle rfl, nle rfl⟩, nle rfl, nle rfl⟩ hx.1 rfl rfl rfl (nle rfl) ?_
    refine l_dancerOf hx hS hI (k := k) (w := 2) (v := nI l) (by omega) (by decide) el ?_
    refine kq_s ?_
    refine g_aload_n rfl ?_
    refine g_iload rfl ?_
    refine g_iconst (v := 3) ik_3 ?_
    refine g_callV (as := [_, _]) mk_X7_dancerOf ml_L_23 im_X7_dancerOf se_X7_dancerOf rfl rfl ⟨⟨nle rfl, nle rfl⟩, nle rfl, nle rfl⟩ hx.1 rfl rfl rfl (nle rfl) ?_
    refine l_dancerOf hx hS hI (k := k) (w := 3) (v := s (129 + 5 * k + 3)) (by omega) (by decide) rfl ?_
    refine kq_s ?_
    refine g_iadd ?_
    refine g_icmp_ne rfl L_L_holds_733 (fun h_7 => (h_7 (by rw [eu, el]; grind)).elim) (fun h_7 => ?_)
    refine g_aload_n rfl ?_
    refine g_iload rfl ?_
    refine g_callV (as := [_]) mk_X7_emptyIn ml_L_87 im_X7_emptyIn se_X7_emptyIn rfl rfl ⟨⟨nle rfl, nle rfl⟩, nle rfl, nle rfl⟩ hx.1 rfl rfl rfl (nle rfl) ?_
    refine l_emptyIn hx hI hO (d := k) hlt_k (fun M' hO => ?_)
    have hS := hO.1
    refine kq_s ?_
    refine g_if_ne rfl L_L_holds_710 (fun h_8 => ?_) (fun h_8 => ?_)
    · have q_703 := h_8
      refine g_iconst (v := 0) ik_0 ?_
      refine g_fall rfl L_L_holds_711 ?_
      refine g_aload_n rfl ?_
      refine g_iload rfl ?_
      refine g_iconst (v := 2) ik_2 ?_
      refine g_callV (as := [_, _]) mk_X7_dancerOf ml_L_23 im_X7_dancerOf se_X7_dancerOf rfl rfl ⟨⟨nle rfl, nle rfl⟩, nle rfl, nle rfl⟩ hx.1 rfl rfl rfl (nle rfl) ?_
      refine l_dancerOf hx hS hI (k := k) (w := 2) (v := nI l) (by omega) (by decide) el ?_
      refine kq_s ?_
      refine g_if_ne rfl L_L_holds_725 (fun h_9 => ?_) (fun h_9 => (q_703 ((s_empty hI hlt_k).mpr (el.trans h_9))).elim)
      refine g_iconst (v := 0) ik_0 ?_
      refine g_fall rfl L_L_holds_726 ?_
      refine g_icmp_ne rfl L_L_holds_733 (fun h_10 => absurd h_10 (by decide)) (fun h_10 => ?_)
      refine g_iconst (v := 1) ik_1 ?_
      refine g_goto rfl L_L_holds_734 ?_
      refine g_istore_n (nle rfl) ?_
      refine g_iinc (v := nI (k + 1)) rfl (nI_inc _) (nle rfl) ?_
      refine g_goto rfl L_L_holds_611 ?_
      exact g_lo2 (ih_k hlt_k _ hO) ⟨rfl, rfl, rfl, rfl, rfl, trivial⟩
    · have q_703 := h_8
      refine g_iconst (v := 1) ik_1 ?_
      refine g_goto rfl L_L_holds_711 ?_
      refine g_aload_n rfl ?_
      refine g_iload rfl ?_
      refine g_iconst (v := 2) ik_2 ?_
      refine g_callV (as := [_, _]) mk_X7_dancerOf ml_L_23 im_X7_dancerOf se_X7_dancerOf rfl rfl ⟨⟨nle rfl, nle rfl⟩, nle rfl, nle rfl⟩ hx.1 rfl rfl rfl (nle rfl) ?_
      refine l_dancerOf hx hS hI (k := k) (w := 2) (v := nI l) (by omega) (by decide) el ?_
      refine kq_s ?_
      refine g_if_ne rfl L_L_holds_725 (fun h_11 => (h_11 (el.symm.trans ((s_empty hI hlt_k).mp q_703))).elim) (fun h_11 => ?_)
      refine g_iconst (v := 1) ik_1 ?_
      refine g_goto rfl L_L_holds_726 ?_
      refine g_icmp_ne rfl L_L_holds_733 (fun h_12 => absurd h_12 (by decide)) (fun h_12 => ?_)
      refine g_iconst (v := 1) ik_1 ?_
      refine g_goto rfl L_L_holds_734 ?_
      refine g_istore_n (nle rfl) ?_
      refine g_iinc (v := nI (k + 1)) rfl (nI_inc _) (nle rfl) ?_
      refine g_goto rfl L_L_holds_611 ?_
      exact g_lo2 (ih_k hlt_k _ hO) ⟨rfl, rfl, rfl, rfl, rfl, trivial⟩
set_option maxRecDepth 100000 in
set_option maxHeartbeats 4000000 in
theorem hol_550 {X : Xs} {κ : Kp} {M : Mem} {Q : Rs → Kp → Mem → Prop} {o B nf nt nc nd cnt : Nat} {s : Nat → Int32} {blk : Nat → Nat → Int32} (hx : IsDF κ.2.1 o) (hI : Inv B nf nt nc nd s) (hL : LqK B nf nt nc nd s) (hB : B < 1000000) (hO : OB B M o s cnt blk) (hQ : ∀ M', OB B M' o s cnt blk → Q (.inl (some (.int 1))) κ M') : G X m_L_holds B_L_holds_550 550 [(0, some (.ref o)), (2, some (.int 1)), (3, some (.int (nI nc))), (4, some (.int 0))] [] 1 6 κ M Q := by
  have bf := hI.lf
  have bt' := hI.lt
  have bc := hI.lc
  have bn := hI.ld
  have hS := hO.1
  refine g_iconst (v := 0) ik_0 ?_
  refine g_istore (nle rfl) ?_
  refine g_fall rfl L_L_holds_553 ?_
  refine g_lo2 (lo' := [(0, some (.ref o)), (2, some (.int 1)), (3, some (.int (nI nc))), (4, some (.int (sumI 0 (fun t => clsV s 3 (nI t))))), (5, some (.int (nI 0)))]) ?_ ⟨rfl, rfl, rfl, rfl, rfl, trivial⟩
  refine loop_up (P := fun k => G X m_L_holds B_L_holds_553 553 [(0, some (.ref o)), (2, some (.int 1)), (3, some (.int (nI nc))), (4, some (.int (sumI k (fun t => clsV s 3 (nI t))))), (5, some (.int (nI k)))] [] 1 6 κ M Q) nt (fun k hle_k ih_k => ?_) 0 (Nat.zero_le _)
  refine g_iload rfl ?_
  refine g_aload_n rfl ?_
  refine g_iconst (v := 1) ik_1 ?_
  refine g_callV (as := [_]) mk_X7_about ml_L_13 im_X7_about se_X7_about rfl rfl ⟨⟨nle rfl, nle rfl⟩, nle rfl, nle rfl⟩ hx.1 rfl rfl rfl (nle rfl) ?_
  refine l_about hx hS (w := 1) (v := nI nt) (by decide) hI.t ?_
  refine kq_s ?_
  refine g_icmp_ge rfl L_L_holds_608 (fun h_1 => ?_) (fun h_1 => ?_)
  · have hx_k := ((cmp_ge (c := nt) rfl (by omega) hle_k).1 h_1).symm
    subst hx_k
    rw [s_taught hI hL]
    exact g_lo2 (hol_608 hx hI hL hB hO hQ) ⟨rfl, rfl, rfl, rfl, trivial⟩
  · have hlt_k : k < nt := (cmp_ge (c := nt) rfl (by omega) hle_k).2 h_1
    refine g_iload rfl ?_
    refine g_aload_n rfl ?_
    refine g_iload rfl ?_
    refine g_iconst (v := 2) ik_2 ?_
    refine g_callV (as := [_, _]) mk_X7_teacherOf ml_L_29 im_X7_teacherOf se_X7_teacherOf rfl rfl ⟨⟨nle rfl, nle rfl⟩, nle rfl, nle rfl⟩ hx.1 rfl rfl rfl (nle rfl) ?_
    refine l_teacherOf hx hS hI (k := k) (w := 2) (v := clsV s 3 (nI k)) (by omega) (by decide) rfl ?_
    refine kq_s ?_
    refine g_iadd ?_
    refine g_istore (nle rfl) ?_
    refine g_iload_n rfl ?_
    refine g_if_eq rfl L_L_holds_600 (fun h_2 => absurd h_2 (by decide)) (fun h_2 => ?_)
    refine g_aload_n rfl ?_
    refine g_iload rfl ?_
    refine g_iconst (v := 3) ik_3 ?_
    refine g_callV (as := [_, _]) mk_X7_teacherOf ml_L_29 im_X7_teacherOf se_X7_teacherOf rfl rfl ⟨⟨nle rfl, nle rfl⟩, nle rfl, nle rfl⟩ hx.1 rfl rfl rfl (nle rfl) ?_
    refine l_teacherOf hx hS hI (k := k) (w := 3) (v := dayV s k) (by omega) (by decide) rfl ?_
    refine kq_s ?_
    refine g_aload_n rfl ?_
    refine g_iload rfl ?_
    refine g_iconst (v := 2) ik_2 ?_
    refine g_callV (as := [_, _]) mk_X7_teacherOf ml_L_29 im_X7_teacherOf se_X7_teacherOf rfl rfl ⟨⟨nle rfl, nle rfl⟩, nle rfl, nle rfl⟩ hx.1 rfl rfl rfl (nle rfl) ?_
    refine l_teacherOf hx hS hI (k := k) (w := 2) (v := clsV s 3 (nI k)) (by omega) (by decide) rfl ?_
    refine kq_s ?_
    refine g_icmp_gt rfl L_L_holds_600 (fun h_3 => absurd (s_days hI k) (Int32.not_le.mpr h_3)) (fun h_3 => ?_)
    refine g_iconst (v := 1) ik_1 ?_
    refine g_goto rfl L_L_holds_601 ?_
    refine g_istore_n (nle rfl) ?_
    refine g_iinc (v := nI (k + 1)) rfl (nI_inc _) (nle rfl) ?_
    refine g_goto rfl L_L_holds_553 ?_
    exact g_lo2 (ih_k hlt_k) ⟨rfl, rfl, rfl, rfl, rfl, trivial⟩
set_option maxRecDepth 100000 in
set_option maxHeartbeats 4000000 in
theorem hol_486 {X : Xs} {κ : Kp} {M : Mem} {Q : Rs → Kp → Mem → Prop} {o B nf nt nc nd cnt : Nat} {s : Nat → Int32} {blk : Nat → Nat → Int32} (hx : IsDF κ.2.1 o) (hI : Inv B nf nt nc nd s) (hL : LqK B nf nt nc nd s) (hB : B < 1000000) (hO : OB B M o s cnt blk) (hQ : ∀ M', OB B M' o s cnt blk → Q (.inl (some (.int 1))) κ M') : G X m_L_holds B_L_holds_486 486 [(0, some (.ref o)), (2, some (.int 1))] [] 1 6 κ M Q := by
  have bf := hI.lf
  have bt' := hI.lt
  have bc := hI.lc
  have bn := hI.ld
  have hS := hO.1
  refine g_iconst (v := 0) ik_0 ?_
  refine g_istore_n (nle rfl) ?_
  refine g_iconst (v := 0) ik_0 ?_
  refine g_istore (nle rfl) ?_
  refine g_iconst (v := 0) ik_0 ?_
  refine g_istore (nle rfl) ?_
  refine g_fall rfl L_L_holds_494 ?_
  refine g_lo2 (lo' := [(0, some (.ref o)), (2, some (.int 1)), (3, some (.int (sumI 0 (fun f => clsV s 2 (nI f))))), (4, some (.int 0)), (5, some (.int (nI 0)))]) ?_ ⟨rfl, rfl, rfl, rfl, rfl, trivial⟩
  refine loop_up (P := fun k => G X m_L_holds B_L_holds_494 494 [(0, some (.ref o)), (2, some (.int 1)), (3, some (.int (sumI k (fun f => clsV s 2 (nI f))))), (4, some (.int 0)), (5, some (.int (nI k)))] [] 1 6 κ M Q) nf (fun k hle_k ih_k => ?_) 0 (Nat.zero_le _)
  refine g_iload rfl ?_
  refine g_aload_n rfl ?_
  refine g_iconst (v := 0) ik_0 ?_
  refine g_callV (as := [_]) mk_X7_about ml_L_13 im_X7_about se_X7_about rfl rfl ⟨⟨nle rfl, nle rfl⟩, nle rfl, nle rfl⟩ hx.1 rfl rfl rfl (nle rfl) ?_
  refine l_about hx hS (w := 0) (v := nI nf) (by decide) hI.f ?_
  refine kq_s ?_
  refine g_icmp_ge rfl L_L_holds_550 (fun h_1 => ?_) (fun h_1 => ?_)
  · have hx_k := ((cmp_ge (c := nf) rfl (by omega) hle_k).1 h_1).symm
    subst hx_k
    rw [s_hours hI hL]
    exact g_lo2 (hol_550 hx hI hL hB hO hQ) ⟨rfl, rfl, rfl, rfl, trivial⟩
  · have hlt_k : k < nf := (cmp_ge (c := nf) rfl (by omega) hle_k).2 h_1
    refine g_iload_n rfl ?_
    refine g_aload_n rfl ?_
    refine g_iload rfl ?_
    refine g_iconst (v := 4) ik_4 ?_
    refine g_callV (as := [_, _]) mk_X7_floorOf ml_L_26 im_X7_floorOf se_X7_floorOf rfl rfl ⟨⟨nle rfl, nle rfl⟩, nle rfl, nle rfl⟩ hx.1 rfl rfl rfl (nle rfl) ?_
    refine l_floorOf hx hS hI (k := k) (w := 4) (v := clsV s 2 (nI k)) (by omega) (by decide) rfl ?_
    refine kq_s ?_
    refine g_iadd ?_
    refine g_istore_n (nle rfl) ?_
    refine g_iload_n rfl ?_
    refine g_if_eq rfl L_L_holds_542 (fun h_2 => absurd h_2 (by decide)) (fun h_2 => ?_)
    refine g_aload_n rfl ?_
    refine g_iload rfl ?_
    refine g_iconst (v := 4) ik_4 ?_
    refine g_callV (as := [_, _]) mk_X7_floorOf ml_L_26 im_X7_floorOf se_X7_floorOf rfl rfl ⟨⟨nle rfl, nle rfl⟩, nle rfl, nle rfl⟩ hx.1 rfl rfl rfl (nle rfl) ?_
    refine l_floorOf hx hS hI (k := k) (w := 4) (v := clsV s 2 (nI k)) (by omega) (by decide) rfl ?_
    refine kq_s ?_
    refine g_aload_n rfl ?_
    refine g_iload rfl ?_
    refine g_iconst (v := 5) ik_5 ?_
    refine g_callV (as := [_, _]) mk_X7_floorOf ml_L_26 im_X7_floorOf se_X7_floorOf rfl rfl ⟨⟨nle rfl, nle rfl⟩, nle rfl, nle rfl⟩ hx.1 rfl rfl rfl (nle rfl) ?_
    refine l_floorOf hx hS hI (k := k) (w := 5) (v := 36 - clsV s 2 (nI k)) (by omega) (by decide) rfl ?_
    refine kq_s ?_
    refine g_iadd ?_
    refine g_bipush (v := 36) bk_36 ?_
    refine g_icmp_ne rfl L_L_holds_542 (fun h_3 => (h_3 (by grind)).elim) (fun h_3 => ?_)
    refine g_iconst (v := 1) ik_1 ?_
    refine g_goto rfl L_L_holds_543 ?_
    refine g_istore_n (nle rfl) ?_
    refine g_iinc (v := nI (k + 1)) rfl (nI_inc _) (nle rfl) ?_
    refine g_goto rfl L_L_holds_494 ?_
    exact g_lo2 (ih_k hlt_k) ⟨rfl, rfl, rfl, rfl, rfl, trivial⟩
set_option maxRecDepth 100000 in
set_option maxHeartbeats 4000000 in
theorem hol_133 {X : Xs} {κ : Kp} {M : Mem} {Q : Rs → Kp → Mem → Prop} {o B nf nt nc nd cnt : Nat} {s : Nat → Int32} {blk : Nat → Nat → Int32} (hx : IsDF κ.2.1 o) (hI : Inv B nf nt nc nd s) (hL : LqK B nf nt nc nd s) (hB : B < 1000000) (hO : OB B M o s cnt blk) (hQ : ∀ M', OB B M' o s cnt blk → Q (.inl (some (.int 1))) κ M') : G X m_L_holds B_L_holds_133 133 [(0, some (.ref o)), (2, some (.int 1)), (3, some (.int 0))] [] 1 6 κ M Q := by
  have bf := hI.lf
  have bt' := hI.lt
  have bc := hI.lc
  have bn := hI.ld
  have hS := hO.1
  refine g_lo2 (lo' := [(0, some (.ref o)), (2, some (.int 1)), (3, some (.int (nI 0)))]) ?_ ⟨rfl, rfl, rfl, trivial⟩
  refine loop_up (P := fun k => G X m_L_holds B_L_holds_133 133 [(0, some (.ref o)), (2, some (.int 1)), (3, some (.int (nI k)))] [] 1 6 κ M Q) nc (fun k hle_k ih_k => ?_) 0 (Nat.zero_le _)
  refine g_iload_n rfl ?_
  refine g_aload_n rfl ?_
  refine g_iconst (v := 2) ik_2 ?_
  refine g_callV (as := [_]) mk_X7_about ml_L_13 im_X7_about se_X7_about rfl rfl ⟨⟨nle rfl, nle rfl⟩, nle rfl, nle rfl⟩ hx.1 rfl rfl rfl (nle rfl) ?_
  refine l_about hx hS (w := 2) (v := nI nc) (by decide) hI.c ?_
  refine kq_s ?_
  refine g_icmp_ge rfl L_L_holds_486 (fun h_1 => ?_) (fun h_1 => ?_)
  · have hx_k := ((cmp_ge (c := nc) rfl (by omega) hle_k).1 h_1).symm
    subst hx_k
    exact g_lo2 (hol_486 hx hI hL hB hO hQ) ⟨rfl, rfl, trivial⟩
  · have hlt_k : k < nc := (cmp_ge (c := nc) rfl (by omega) hle_k).2 h_1
    obtain ⟨f, t, a1, a2, e2, e3, ⟨st, _, st2, est⟩, ⟨lv, lv1, lv2, elv⟩, y1, y2, y3, y4, y5⟩ := hL.2.1 k hlt_k
    rw [est] at y1 y3 y4 y5
    rw [elv] at y2 y3 y4 y5
    have yS := (hL.2.2.1 k hlt_k).2
    have yP := fun e he => hL.2.2.2.1 k e hlt_k he
    have yW : s (39 + 9 * k + 6) ≤ s 4 := by
      obtain ⟨w, w1, w2, w3⟩ := hL.2.2.2.2.1
      obtain ⟨z, z1, z2⟩ := w3 k hlt_k
      rw [w2, z2]
      exact (nI_leI (by omega) (by omega)).mpr z1
    refine g_aload_n rfl ?_
    refine g_iload_n rfl ?_
    refine g_iconst (v := 0) ik_0 ?_
    refine g_callV (as := [_, _]) mk_X7_classOf ml_L_19 im_X7_classOf se_X7_classOf rfl rfl ⟨⟨nle rfl, nle rfl⟩, nle rfl, nle rfl⟩ hx.1 rfl rfl rfl (nle rfl) ?_
    refine l_classOf hx hS hI (k := k) (w := 0) (v := nI st) (by omega) (by decide) est ?_
    refine kq_s ?_
    refine g_istore (nle rfl) ?_
    refine g_aload_n rfl ?_
    refine g_iload_n rfl ?_
    refine g_iconst (v := 1) ik_1 ?_
    refine g_callV (as := [_, _]) mk_X7_classOf ml_L_19 im_X7_classOf se_X7_classOf rfl rfl ⟨⟨nle rfl, nle rfl⟩, nle rfl, nle rfl⟩ hx.1 rfl rfl rfl (nle rfl) ?_
    refine l_classOf hx hS hI (k := k) (w := 1) (v := nI lv) (by omega) (by decide) elv ?_
    refine kq_s ?_
    refine g_istore (nle rfl) ?_
    refine g_aload_n rfl ?_
    refine g_iload_n rfl ?_
    refine g_iconst (v := 2) ik_2 ?_
    refine g_callV (as := [_, _]) mk_X7_classOf ml_L_19 im_X7_classOf se_X7_classOf rfl rfl ⟨⟨nle rfl, nle rfl⟩, nle rfl, nle rfl⟩ hx.1 rfl rfl rfl (nle rfl) ?_
    refine l_classOf hx hS hI (k := k) (w := 2) (v := nI f) (by omega) (by decide) e2 ?_
    refine kq_s ?_
    refine g_istore (nle rfl) ?_
    refine g_aload_n rfl ?_
    refine g_iload_n rfl ?_
    refine g_iconst (v := 3) ik_3 ?_
    refine g_callV (as := [_, _]) mk_X7_classOf ml_L_19 im_X7_classOf se_X7_classOf rfl rfl ⟨⟨nle rfl, nle rfl⟩, nle rfl, nle rfl⟩ hx.1 rfl rfl rfl (nle rfl) ?_
    refine l_classOf hx hS hI (k := k) (w := 3) (v := nI t) (by omega) (by decide) e3 ?_
    refine kq_s ?_
    refine g_istore (nle rfl) ?_
    refine g_iconst (v := 0) ik_0 ?_
    refine g_istore (nle rfl) ?_
    refine g_fall rfl L_L_holds_177 ?_
    refine g_lo2 (lo' := [(0, some (.ref o)), (2, some (.int 1)), (3, some (.int (nI k))), (4, some (.int (nI st))), (5, some (.int (nI lv))), (6, some (.int (nI f))), (7, some (.int (nI t))), (8, some (.int (nI 0)))]) ?_ ⟨rfl, rfl, rfl, rfl, rfl, rfl, rfl, rfl, trivial⟩
    refine loop_up (P := fun e => G X m_L_holds B_L_holds_177 177 [(0, some (.ref o)), (2, some (.int 1)), (3, some (.int (nI k))), (4, some (.int (nI st))), (5, some (.int (nI lv))), (6, some (.int (nI f))), (7, some (.int (nI t))), (8, some (.int (nI e)))] [] 1 6 κ M Q) k (fun e hle_e ih_e => ?_) 0 (Nat.zero_le _)
    refine g_iload rfl ?_
    refine g_iload_n rfl ?_
    refine g_icmp_ge rfl L_L_holds_267 (fun h_2 => ?_) (fun h_2 => ?_)
    · have hx_e := ((cmp_ge (c := k) rfl (by omega) hle_e).1 h_2)
      subst hx_e
      refine g_aload_n rfl ?_
      refine g_iload rfl ?_
      refine g_iconst (v := 0) ik_0 ?_
      refine g_callV (as := [_, _]) mk_X7_floorOf ml_L_26 im_X7_floorOf se_X7_floorOf rfl rfl ⟨⟨nle rfl, nle rfl⟩, nle rfl, nle rfl⟩ hx.1 rfl rfl rfl (nle rfl) ?_
      refine l_floorOf hx hS hI (k := f) (w := 0) (v := s (13 + 4 * f)) (by omega) (by decide) rfl ?_
      refine kq_s ?_
      refine g_istore (nle rfl) ?_
      refine g_join (isJ := B_L_holds_335) (pcJ := 335) (1) ?_ (fun hj_276 => ?_)
      · refine g_istore (nle rfl) ?_
        refine g_iload_n rfl ?_
        refine g_if_eq rfl L_L_holds_478 (fun h_3 => absurd h_3 (by decide)) (fun h_3 => ?_)
        refine g_aload_n rfl ?_
        refine g_iload rfl ?_
        refine g_iconst (v := 0) ik_0 ?_
        refine g_callV (as := [_, _]) mk_X7_teacherOf ml_L_29 im_X7_teacherOf se_X7_teacherOf rfl rfl ⟨⟨nle rfl, nle rfl⟩, nle rfl, nle rfl⟩ hx.1 rfl rfl rfl (nle rfl) ?_
        refine l_teacherOf hx hS hI (k := t) (w := 0) (v := s (29 + 2 * t)) (by omega) (by decide) rfl ?_
        refine kq_s ?_
        refine g_iload rfl ?_
        refine g_ishr ?_
        refine g_iconst (v := 1) ik_1 ?_
        refine g_iand ?_
        refine g_iconst (v := 1) ik_1 ?_
        refine g_icmp_ne rfl L_L_holds_478 (fun h_4 => (h_4 (of_decide_eq_true y1)).elim) (fun h_4 => ?_)
        refine g_aload_n rfl ?_
        refine g_iload rfl ?_
        refine g_iconst (v := 1) ik_1 ?_
        refine g_callV (as := [_, _]) mk_X7_teacherOf ml_L_29 im_X7_teacherOf se_X7_teacherOf rfl rfl ⟨⟨nle rfl, nle rfl⟩, nle rfl, nle rfl⟩ hx.1 rfl rfl rfl (nle rfl) ?_
        refine l_teacherOf hx hS hI (k := t) (w := 1) (v := s (29 + 2 * t + 1)) (by omega) (by decide) rfl ?_
        refine kq_s ?_
        refine g_iload rfl ?_
        refine g_icmp_lt rfl L_L_holds_478 (fun h_5 => absurd y2 (Int32.not_le.mpr h_5)) (fun h_5 => ?_)
        refine g_iload rfl ?_
        refine g_if_eq rfl L_L_holds_478 (fun h_6 => absurd h_6 (by decide)) (fun h_6 => ?_)
        refine g_iload rfl ?_
        refine g_if_gt rfl L_L_holds_409 (fun h_7 => ?_) (fun h_7 => ?_)
        · have q_376 : 0 < st := (nI_ltI (a := 0) (b := st) (by omega) (by omega)).mp h_7
          refine g_iload rfl ?_
          refine g_iconst (v := 1) ik_1 ?_
          refine g_icmp_ne rfl L_L_holds_425 (fun h_8 => ?_) (fun h_8 => ?_)
          · have q_412 : ¬ st = 1 := fun e => h_8 ((nI_eq (a := st) (b := 1) (by omega) (by omega)).mpr e)
            refine g_aload_n rfl ?_
            refine g_iload_n rfl ?_
            refine g_bipush (v := 6) bk_6 ?_
            refine g_callV (as := [_, _]) mk_X7_classOf ml_L_19 im_X7_classOf se_X7_classOf rfl rfl ⟨⟨nle rfl, nle rfl⟩, nle rfl, nle rfl⟩ hx.1 rfl rfl rfl (nle rfl) ?_
            refine l_classOf hx hS hI (k := e) (w := 6) (v := tkV s e) (by omega) (by decide) rfl ?_
            refine kq_s ?_
            refine g_aload_n rfl ?_
            refine g_iload rfl ?_
            refine g_iconst (v := 3) ik_3 ?_
            refine g_callV (as := [_, _]) mk_X7_floorOf ml_L_26 im_X7_floorOf se_X7_floorOf rfl rfl ⟨⟨nle rfl, nle rfl⟩, nle rfl, nle rfl⟩ hx.1 rfl rfl rfl (nle rfl) ?_
            refine l_floorOf hx hS hI (k := f) (w := 3) (v := s (13 + 4 * f + 3)) (by omega) (by decide) rfl ?_
            refine kq_s ?_
            refine g_icmp_gt rfl L_L_holds_478 (fun h_9 => absurd (s_room hI a1 e2) (Int32.not_le.mpr h_9)) (fun h_9 => ?_)
            refine g_aload_n rfl ?_
            refine g_iload_n rfl ?_
            refine g_bipush (v := 7) bk_7 ?_
            refine g_callV (as := [_, _]) mk_X7_classOf ml_L_19 im_X7_classOf se_X7_classOf rfl rfl ⟨⟨nle rfl, nle rfl⟩, nle rfl, nle rfl⟩ hx.1 rfl rfl rfl (nle rfl) ?_
            refine l_classOf hx hS hI (k := e) (w := 7) (v := bitsI (s (39 + 9 * e + 8))) (by omega) (by decide) rfl ?_
            refine kq_s ?_
            refine g_aload_n rfl ?_
            refine g_iload_n rfl ?_
            refine g_bipush (v := 6) bk_6 ?_
            refine g_callV (as := [_, _]) mk_X7_classOf ml_L_19 im_X7_classOf se_X7_classOf rfl rfl ⟨⟨nle rfl, nle rfl⟩, nle rfl, nle rfl⟩ hx.1 rfl rfl rfl (nle rfl) ?_
            refine l_classOf hx hS hI (k := e) (w := 6) (v := tkV s e) (by omega) (by decide) rfl ?_
            refine kq_s ?_
            refine g_icmp_gt rfl L_L_holds_478 (fun h_10 => absurd yS (Int32.not_le.mpr h_10)) (fun h_10 => ?_)
            refine g_aload_n rfl ?_
            refine g_iload_n rfl ?_
            refine g_bipush (v := 8) bk_8 ?_
            refine g_callV (as := [_, _]) mk_X7_classOf ml_L_19 im_X7_classOf se_X7_classOf rfl rfl ⟨⟨nle rfl, nle rfl⟩, nle rfl, nle rfl⟩ hx.1 rfl rfl rfl (nle rfl) ?_
            refine l_classOf hx hS hI (k := e) (w := 8) (v := s (39 + 9 * e + 6)) (by omega) (by decide) rfl ?_
            refine kq_s ?_
            refine g_aload_n rfl ?_
            refine g_iconst (v := 4) ik_4 ?_
            refine g_callV (as := [_]) mk_X7_about ml_L_13 im_X7_about se_X7_about rfl rfl ⟨⟨nle rfl, nle rfl⟩, nle rfl, nle rfl⟩ hx.1 rfl rfl rfl (nle rfl) ?_
            refine l_about hx hS (w := 4) (v := s 4) (by decide) rfl ?_
            refine kq_s ?_
            refine g_icmp_gt rfl L_L_holds_478 (fun h_11 => absurd yW (Int32.not_le.mpr h_11)) (fun h_11 => ?_)
            refine g_iconst (v := 1) ik_1 ?_
            refine g_goto rfl L_L_holds_479 ?_
            refine g_istore_n (nle rfl) ?_
            refine g_iinc (v := nI (e + 1)) rfl (nI_inc _) (nle rfl) ?_
            refine g_goto rfl L_L_holds_133 ?_
            exact g_lo2 (ih_k hlt_k) ⟨rfl, rfl, rfl, trivial⟩
          · have q_412 : st = 1 := (nI_eq (a := st) (b := 1) (by omega) (by omega)).mp h_8
            refine g_aload_n rfl ?_
            refine g_iload rfl ?_
            refine g_iconst (v := 1) ik_1 ?_
            refine g_callV (as := [_, _]) mk_X7_floorOf ml_L_26 im_X7_floorOf se_X7_floorOf rfl rfl ⟨⟨nle rfl, nle rfl⟩, nle rfl, nle rfl⟩ hx.1 rfl rfl rfl (nle rfl) ?_
            refine l_floorOf hx hS hI (k := f) (w := 1) (v := s (13 + 4 * f + 1)) (by omega) (by decide) rfl ?_
            refine kq_s ?_
            refine g_if_le rfl L_L_holds_478 (fun h_12 => absurd h_12 (mir1 y5 q_412)) (fun h_12 => ?_)
            refine g_fall rfl L_L_holds_425 ?_
            refine g_aload_n rfl ?_
            refine g_iload_n rfl ?_
            refine g_bipush (v := 6) bk_6 ?_
            refine g_callV (as := [_, _]) mk_X7_classOf ml_L_19 im_X7_classOf se_X7_classOf rfl rfl ⟨⟨nle rfl, nle rfl⟩, nle rfl, nle rfl⟩ hx.1 rfl rfl rfl (nle rfl) ?_
            refine l_classOf hx hS hI (k := e) (w := 6) (v := tkV s e) (by omega) (by decide) rfl ?_
            refine kq_s ?_
            refine g_aload_n rfl ?_
            refine g_iload rfl ?_
            refine g_iconst (v := 3) ik_3 ?_
            refine g_callV (as := [_, _]) mk_X7_floorOf ml_L_26 im_X7_floorOf se_X7_floorOf rfl rfl ⟨⟨nle rfl, nle rfl⟩, nle rfl, nle rfl⟩ hx.1 rfl rfl rfl (nle rfl) ?_
            refine l_floorOf hx hS hI (k := f) (w := 3) (v := s (13 + 4 * f + 3)) (by omega) (by decide) rfl ?_
            refine kq_s ?_
            refine g_icmp_gt rfl L_L_holds_478 (fun h_13 => absurd (s_room hI a1 e2) (Int32.not_le.mpr h_13)) (fun h_13 => ?_)
            refine g_aload_n rfl ?_
            refine g_iload_n rfl ?_
            refine g_bipush (v := 7) bk_7 ?_
            refine g_callV (as := [_, _]) mk_X7_classOf ml_L_19 im_X7_classOf se_X7_classOf rfl rfl ⟨⟨nle rfl, nle rfl⟩, nle rfl, nle rfl⟩ hx.1 rfl rfl rfl (nle rfl) ?_
            refine l_classOf hx hS hI (k := e) (w := 7) (v := bitsI (s (39 + 9 * e + 8))) (by omega) (by decide) rfl ?_
            refine kq_s ?_
            refine g_aload_n rfl ?_
            refine g_iload_n rfl ?_
            refine g_bipush (v := 6) bk_6 ?_
            refine g_callV (as := [_, _]) mk_X7_classOf ml_L_19 im_X7_classOf se_X7_classOf rfl rfl ⟨⟨nle rfl, nle rfl⟩, nle rfl, nle rfl⟩ hx.1 rfl rfl rfl (nle rfl) ?_
            refine l_classOf hx hS hI (k := e) (w := 6) (v := tkV s e) (by omega) (by decide) rfl ?_
            refine kq_s ?_
            refine g_icmp_gt rfl L_L_holds_478 (fun h_14 => absurd yS (Int32.not_le.mpr h_14)) (fun h_14 => ?_)
            refine g_aload_n rfl ?_
            refine g_iload_n rfl ?_
            refine g_bipush (v := 8) bk_8 ?_
            refine g_callV (as := [_, _]) mk_X7_classOf ml_L_19 im_X7_classOf se_X7_classOf rfl rfl ⟨⟨nle rfl, nle rfl⟩, nle rfl, nle rfl⟩ hx.1 rfl rfl rfl (nle rfl) ?_
            refine l_classOf hx hS hI (k := e) (w := 8) (v := s (39 + 9 * e + 6)) (by omega) (by decide) rfl ?_
            refine kq_s ?_
            refine g_aload_n rfl ?_
            refine g_iconst (v := 4) ik_4 ?_
            refine g_callV (as := [_]) mk_X7_about ml_L_13 im_X7_about se_X7_about rfl rfl ⟨⟨nle rfl, nle rfl⟩, nle rfl, nle rfl⟩ hx.1 rfl rfl rfl (nle rfl) ?_
            refine l_about hx hS (w := 4) (v := s 4) (by decide) rfl ?_
            refine kq_s ?_
            refine g_icmp_gt rfl L_L_holds_478 (fun h_15 => absurd yW (Int32.not_le.mpr h_15)) (fun h_15 => ?_)
            refine g_iconst (v := 1) ik_1 ?_
            refine g_goto rfl L_L_holds_479 ?_
            refine g_istore_n (nle rfl) ?_
            refine g_iinc (v := nI (e + 1)) rfl (nI_inc _) (nle rfl) ?_
            refine g_goto rfl L_L_holds_133 ?_
            exact g_lo2 (ih_k hlt_k) ⟨rfl, rfl, rfl, trivial⟩
        · have q_376 : st ≤ 0 := Nat.not_lt.mp (fun e => h_7 ((nI_ltI (a := 0) (b := st) (by omega) (by omega)).mpr e))
          refine g_aload_n rfl ?_
          refine g_iload rfl ?_
          refine g_iconst (v := 2) ik_2 ?_
          refine g_callV (as := [_, _]) mk_X7_floorOf ml_L_26 im_X7_floorOf se_X7_floorOf rfl rfl ⟨⟨nle rfl, nle rfl⟩, nle rfl, nle rfl⟩ hx.1 rfl rfl rfl (nle rfl) ?_
          refine l_floorOf hx hS hI (k := f) (w := 2) (v := s (13 + 4 * f + 2)) (by omega) (by decide) rfl ?_
          refine kq_s ?_
          refine g_iconst (v := 2) ik_2 ?_
          refine g_iload rfl ?_
          refine g_imul ?_
          refine g_iconst (v := 4) ik_4 ?_
          refine g_iadd ?_
          refine g_icmp_lt rfl L_L_holds_478 (fun h_16 => absurd h_16 (bar0 y4 (by omega))) (fun h_16 => ?_)
          refine g_aload_n rfl ?_
          refine g_iload rfl ?_
          refine g_iconst (v := 1) ik_1 ?_
          refine g_callV (as := [_, _]) mk_X7_floorOf ml_L_26 im_X7_floorOf se_X7_floorOf rfl rfl ⟨⟨nle rfl, nle rfl⟩, nle rfl, nle rfl⟩ hx.1 rfl rfl rfl (nle rfl) ?_
          refine l_floorOf hx hS hI (k := f) (w := 1) (v := s (13 + 4 * f + 1)) (by omega) (by decide) rfl ?_
          refine kq_s ?_
          refine g_iload rfl ?_
          refine g_iconst (v := 2) ik_2 ?_
          refine g_idiv (by decide) ?_
          refine g_icmp_lt rfl L_L_holds_478 (fun h_17 => absurd h_17 (mir0 y5 (by omega))) (fun h_17 => ?_)
          refine g_fall rfl L_L_holds_409 ?_
          refine g_iload rfl ?_
          refine g_iconst (v := 1) ik_1 ?_
          refine g_icmp_ne rfl L_L_holds_425 (fun h_18 => ?_) (fun h_18 => ?_)
          · have q_412 : ¬ st = 1 := fun e => h_18 ((nI_eq (a := st) (b := 1) (by omega) (by omega)).mpr e)
            refine g_aload_n rfl ?_
            refine g_iload_n rfl ?_
            refine g_bipush (v := 6) bk_6 ?_
            refine g_callV (as := [_, _]) mk_X7_classOf ml_L_19 im_X7_classOf se_X7_classOf rfl rfl ⟨⟨nle rfl, nle rfl⟩, nle rfl, nle rfl⟩ hx.1 rfl rfl rfl (nle rfl) ?_
            refine l_classOf hx hS hI (k := e) (w := 6) (v := tkV s e) (by omega) (by decide) rfl ?_
            refine kq_s ?_
            refine g_aload_n rfl ?_
            refine g_iload rfl ?_
            refine g_iconst (v := 3) ik_3 ?_
            refine g_callV (as := [_, _]) mk_X7_floorOf ml_L_26 im_X7_floorOf se_X7_floorOf rfl rfl ⟨⟨nle rfl, nle rfl⟩, nle rfl, nle rfl⟩ hx.1 rfl rfl rfl (nle rfl) ?_
            refine l_floorOf hx hS hI (k := f) (w := 3) (v := s (13 + 4 * f + 3)) (by omega) (by decide) rfl ?_
            refine kq_s ?_
            refine g_icmp_gt rfl L_L_holds_478 (fun h_19 => absurd (s_room hI a1 e2) (Int32.not_le.mpr h_19)) (fun h_19 => ?_)
            refine g_aload_n rfl ?_
            refine g_iload_n rfl ?_
            refine g_bipush (v := 7) bk_7 ?_
            refine g_callV (as := [_, _]) mk_X7_classOf ml_L_19 im_X7_classOf se_X7_classOf rfl rfl ⟨⟨nle rfl, nle rfl⟩, nle rfl, nle rfl⟩ hx.1 rfl rfl rfl (nle rfl) ?_
            refine l_classOf hx hS hI (k := e) (w := 7) (v := bitsI (s (39 + 9 * e + 8))) (by omega) (by decide) rfl ?_
            refine kq_s ?_
            refine g_aload_n rfl ?_
            refine g_iload_n rfl ?_
            refine g_bipush (v := 6) bk_6 ?_
            refine g_callV (as := [_, _]) mk_X7_classOf ml_L_19 im_X7_classOf se_X7_classOf rfl rfl ⟨⟨nle rfl, nle rfl⟩, nle rfl, nle rfl⟩ hx.1 rfl rfl rfl (nle rfl) ?_
            refine l_classOf hx hS hI (k := e) (w := 6) (v := tkV s e) (by omega) (by decide) rfl ?_
            refine kq_s ?_
            refine g_icmp_gt rfl L_L_holds_478 (fun h_20 => absurd yS (Int32.not_le.mpr h_20)) (fun h_20 => ?_)
            refine g_aload_n rfl ?_
            refine g_iload_n rfl ?_
            refine g_bipush (v := 8) bk_8 ?_
            refine g_callV (as := [_, _]) mk_X7_classOf ml_L_19 im_X7_classOf se_X7_classOf rfl rfl ⟨⟨nle rfl, nle rfl⟩, nle rfl, nle rfl⟩ hx.1 rfl rfl rfl (nle rfl) ?_
            refine l_classOf hx hS hI (k := e) (w := 8) (v := s (39 + 9 * e + 6)) (by omega) (by decide) rfl ?_
            refine kq_s ?_
            refine g_aload_n rfl ?_
            refine g_iconst (v := 4) ik_4 ?_
            refine g_callV (as := [_]) mk_X7_about ml_L_13 im_X7_about se_X7_about rfl rfl ⟨⟨nle rfl, nle rfl⟩, nle rfl, nle rfl⟩ hx.1 rfl rfl rfl (nle rfl) ?_
            refine l_about hx hS (w := 4) (v := s 4) (by decide) rfl ?_
            refine kq_s ?_
            refine g_icmp_gt rfl L_L_holds_478 (fun h_21 => absurd yW (Int32.not_le.mpr h_21)) (fun h_21 => ?_)
            refine g_iconst (v := 1) ik_1 ?_
            refine g_goto rfl L_L_holds_479 ?_
            refine g_istore_n (nle rfl) ?_
            refine g_iinc (v := nI (e + 1)) rfl (nI_inc _) (nle rfl) ?_
            refine g_goto rfl L_L_holds_133 ?_
            exact g_lo2 (ih_k hlt_k) ⟨rfl, rfl, rfl, trivial⟩
          · have q_412 : st = 1 := (nI_eq (a := st) (b := 1) (by omega) (by omega)).mp h_18
            refine g_aload_n rfl ?_
            refine g_iload rfl ?_
            refine g_iconst (v := 1) ik_1 ?_
            refine g_callV (as := [_, _]) mk_X7_floorOf ml_L_26 im_X7_floorOf se_X7_floorOf rfl rfl ⟨⟨nle rfl, nle rfl⟩, nle rfl, nle rfl⟩ hx.1 rfl rfl rfl (nle rfl) ?_
            refine l_floorOf hx hS hI (k := f) (w := 1) (v := s (13 + 4 * f + 1)) (by omega) (by decide) rfl ?_
            refine kq_s ?_
            refine g_if_le rfl L_L_holds_478 (fun h_22 => absurd h_22 (mir1 y5 q_412)) (fun h_22 => ?_)
            refine g_fall rfl L_L_holds_425 ?_
            refine g_aload_n rfl ?_
            refine g_iload_n rfl ?_
            refine g_bipush (v := 6) bk_6 ?_
            refine g_callV (as := [_, _]) mk_X7_classOf ml_L_19 im_X7_classOf se_X7_classOf rfl rfl ⟨⟨nle rfl, nle rfl⟩, nle rfl, nle rfl⟩ hx.1 rfl rfl rfl (nle rfl) ?_
            refine l_classOf hx hS hI (k := e) (w := 6) (v := tkV s e) (by omega) (by decide) rfl ?_
            refine kq_s ?_
            refine g_aload_n rfl ?_
            refine g_iload rfl ?_
            refine g_iconst (v := 3) ik_3 ?_
            refine g_callV (as := [_, _]) mk_X7_floorOf ml_L_26 im_X7_floorOf se_X7_floorOf rfl rfl ⟨⟨nle rfl, nle rfl⟩, nle rfl, nle rfl⟩ hx.1 rfl rfl rfl (nle rfl) ?_
            refine l_floorOf hx hS hI (k := f) (w := 3) (v := s (13 + 4 * f + 3)) (by omega) (by decide) rfl ?_
            refine kq_s ?_
            refine g_icmp_gt rfl L_L_holds_478 (fun h_23 => absurd (s_room hI a1 e2) (Int32.not_le.mpr h_23)) (fun h_23 => ?_)
            refine g_aload_n rfl ?_
            refine g_iload_n rfl ?_
            refine g_bipush (v := 7) bk_7 ?_
            refine g_callV (as := [_, _]) mk_X7_classOf ml_L_19 im_X7_classOf se_X7_classOf rfl rfl ⟨⟨nle rfl, nle rfl⟩, nle rfl, nle rfl⟩ hx.1 rfl rfl rfl (nle rfl) ?_
            refine l_classOf hx hS hI (k := e) (w := 7) (v := bitsI (s (39 + 9 * e + 8))) (by omega) (by decide) rfl ?_
            refine kq_s ?_
            refine g_aload_n rfl ?_
            refine g_iload_n rfl ?_
            refine g_bipush (v := 6) bk_6 ?_
            refine g_callV (as := [_, _]) mk_X7_classOf ml_L_19 im_X7_classOf se_X7_classOf rfl rfl ⟨⟨nle rfl, nle rfl⟩, nle rfl, nle rfl⟩ hx.1 rfl rfl rfl (nle rfl) ?_
            refine l_classOf hx hS hI (k := e) (w := 6) (v := tkV s e) (by omega) (by decide) rfl ?_
            refine kq_s ?_
            refine g_icmp_gt rfl L_L_holds_478 (fun h_24 => absurd yS (Int32.not_le.mpr h_24)) (fun h_24 => ?_)
            refine g_aload_n rfl ?_
            refine g_iload_n rfl ?_
            refine g_bipush (v := 8) bk_8 ?_
            refine g_callV (as := [_, _]) mk_X7_classOf ml_L_19 im_X7_classOf se_X7_classOf rfl rfl ⟨⟨nle rfl, nle rfl⟩, nle rfl, nle rfl⟩ hx.1 rfl rfl rfl (nle rfl) ?_
            refine l_classOf hx hS hI (k := e) (w := 8) (v := s (39 + 9 * e + 6)) (by omega) (by decide) rfl ?_
            refine kq_s ?_
            refine g_aload_n rfl ?_
            refine g_iconst (v := 4) ik_4 ?_
            refine g_callV (as := [_]) mk_X7_about ml_L_13 im_X7_about se_X7_about rfl rfl ⟨⟨nle rfl, nle rfl⟩, nle rfl, nle rfl⟩ hx.1 rfl rfl rfl (nle rfl) ?_
            refine l_about hx hS (w := 4) (v := s 4) (by decide) rfl ?_
            refine kq_s ?_
            refine g_icmp_gt rfl L_L_holds_478 (fun h_25 => absurd yW (Int32.not_le.mpr h_25)) (fun h_25 => ?_)
            refine g_iconst (v := 1) ik_1 ?_
            refine g_goto rfl L_L_holds_479 ?_
            refine g_istore_n (nle rfl) ?_
            refine g_iinc (v := nI (e + 1)) rfl (nI_inc _) (nle rfl) ?_
            refine g_goto rfl L_L_holds_133 ?_
            exact g_lo2 (ih_k hlt_k) ⟨rfl, rfl, rfl, trivial⟩
      · refine g_iload rfl ?_
        refine g_if_ne rfl L_L_holds_295 (fun h_26 => ?_) (fun h_26 => ?_)
        · have q_278 : ¬ st = 0 := fun e => h_26 ((nI_eq (a := st) (b := 0) (by omega) (by omega)).mpr e)
          refine g_iload rfl ?_
          refine g_iconst (v := 1) ik_1 ?_
          refine g_icmp_ne rfl L_L_holds_315 (fun h_27 => ?_) (fun h_27 => ?_)
          · have q_298 : ¬ st = 1 := fun e => h_27 ((nI_eq (a := st) (b := 1) (by omega) (by omega)).mpr e)
            refine g_iload rfl ?_
            refine g_iconst (v := 3) ik_3 ?_
            refine g_icmp_eq rfl L_L_holds_330 (fun h_28 => ?_) (fun h_28 => ?_)
            · have q_318 : st = 3 := (nI_eq (a := st) (b := 3) (by omega) (by omega)).mp h_28
              refine g_iconst (v := 1) ik_1 ?_
              refine g_goto rfl L_L_holds_335 ?_
              exact hj_276 _ (rfl)
            · have q_318 : ¬ st = 3 := fun e => h_28 ((nI_eq (a := st) (b := 3) (by omega) (by omega)).mpr e)
              refine g_iload rfl ?_
              refine g_iconst (v := 3) ik_3 ?_
              refine g_iload rfl ?_
              refine g_iadd ?_
              refine g_icmp_lt rfl L_L_holds_334 (fun h_29 => absurd h_29 (spr2 y3 (by omega))) (fun h_29 => ?_)
              refine g_fall rfl L_L_holds_330 ?_
              refine g_iconst (v := 1) ik_1 ?_
              refine g_goto rfl L_L_holds_335 ?_
              exact hj_276 _ (rfl)
          · have q_298 : st = 1 := (nI_eq (a := st) (b := 1) (by omega) (by omega)).mp h_27
            refine g_iload rfl ?_
            refine g_iconst (v := 5) ik_5 ?_
            refine g_icmp_gt rfl L_L_holds_311 (fun h_30 => absurd h_30 (spr1 y3 q_298)) (fun h_30 => ?_)
            refine g_iconst (v := 1) ik_1 ?_
            refine g_goto rfl L_L_holds_335 ?_
            exact hj_276 _ (rfl)
        · have q_278 : st = 0 := (nI_eq (a := st) (b := 0) (by omega) (by omega)).mp h_26
          refine g_iload rfl ?_
          refine g_iconst (v := 4) ik_4 ?_
          refine g_icmp_lt rfl L_L_holds_291 (fun h_31 => absurd h_31 (spr0 y3 q_278)) (fun h_31 => ?_)
          refine g_iconst (v := 1) ik_1 ?_
          refine g_goto rfl L_L_holds_335 ?_
          exact hj_276 _ (rfl)
    · have hlt_e : e < k := (cmp_ge (c := k) rfl (by omega) hle_e).2 h_2
      refine g_aload_n rfl ?_
      refine g_iload rfl ?_
      refine g_iconst (v := 4) ik_4 ?_
      refine g_callV (as := [_, _]) mk_X7_classOf ml_L_19 im_X7_classOf se_X7_classOf rfl rfl ⟨⟨nle rfl, nle rfl⟩, nle rfl, nle rfl⟩ hx.1 rfl rfl rfl (nle rfl) ?_
      refine l_classOf hx hS hI (k := e) (w := 4) (v := s (39 + 9 * e + 4)) (by omega) (by decide) rfl ?_
      refine kq_s ?_
      refine g_aload_n rfl ?_
      refine g_iload_n rfl ?_
      refine g_iconst (v := 4) ik_4 ?_
      refine g_callV (as := [_, _]) mk_X7_classOf ml_L_19 im_X7_classOf se_X7_classOf rfl rfl ⟨⟨nle rfl, nle rfl⟩, nle rfl, nle rfl⟩ hx.1 rfl rfl rfl (nle rfl) ?_
      refine l_classOf hx hS hI (k := k) (w := 4) (v := s (39 + 9 * k + 4)) (by omega) (by decide) rfl ?_
      refine kq_s ?_
      refine g_icmp_ne rfl L_L_holds_219 (fun h_32 => ?_) (fun h_32 => ?_)
      · refine g_iconst (v := 0) ik_0 ?_
        refine g_fall rfl L_L_holds_220 ?_
        refine g_istore (nle rfl) ?_
        refine g_iload_n rfl ?_
        refine g_if_eq rfl L_L_holds_259 (fun h_33 => absurd h_33 (by decide)) (fun h_33 => ?_)
        refine g_iload rfl ?_
        refine g_if_eq rfl L_L_holds_255 (fun h_34 => ?_) (fun h_34 => absurd h_34 (by decide))
        refine g_iconst (v := 1) ik_1 ?_
        refine g_goto rfl L_L_holds_260 ?_
        refine g_istore_n (nle rfl) ?_
        refine g_iinc (v := nI (e + 1)) rfl (nI_inc _) (nle rfl) ?_
        refine g_goto rfl L_L_holds_177 ?_
        exact g_lo2 (ih_e hlt_e) ⟨rfl, rfl, rfl, rfl, rfl, rfl, rfl, rfl, trivial⟩
      · have q_196 := h_32
        refine g_aload_n rfl ?_
        refine g_iload rfl ?_
        refine g_iconst (v := 5) ik_5 ?_
        refine g_callV (as := [_, _]) mk_X7_classOf ml_L_19 im_X7_classOf se_X7_classOf rfl rfl ⟨⟨nle rfl, nle rfl⟩, nle rfl, nle rfl⟩ hx.1 rfl rfl rfl (nle rfl) ?_
        refine l_classOf hx hS hI (k := e) (w := 5) (v := s (39 + 9 * e + 5)) (by omega) (by decide) rfl ?_
        refine kq_s ?_
        refine g_aload_n rfl ?_
        refine g_iload_n rfl ?_
        refine g_iconst (v := 5) ik_5 ?_
        refine g_callV (as := [_, _]) mk_X7_classOf ml_L_19 im_X7_classOf se_X7_classOf rfl rfl ⟨⟨nle rfl, nle rfl⟩, nle rfl, nle rfl⟩ hx.1 rfl rfl rfl (nle rfl) ?_
        refine l_classOf hx hS hI (k := k) (w := 5) (v := s (39 + 9 * k + 5)) (by omega) (by decide) rfl ?_
        refine kq_s ?_
        refine g_icmp_ne rfl L_L_holds_219 (fun h_35 => ?_) (fun h_35 => ?_)
        · refine g_iconst (v := 0) ik_0 ?_
          refine g_fall rfl L_L_holds_220 ?_
          refine g_istore (nle rfl) ?_
          refine g_iload_n rfl ?_
          refine g_if_eq rfl L_L_holds_259 (fun h_36 => absurd h_36 (by decide)) (fun h_36 => ?_)
          refine g_iload rfl ?_
          refine g_if_eq rfl L_L_holds_255 (fun h_37 => ?_) (fun h_37 => absurd h_37 (by decide))
          refine g_iconst (v := 1) ik_1 ?_
          refine g_goto rfl L_L_holds_260 ?_
          refine g_istore_n (nle rfl) ?_
          refine g_iinc (v := nI (e + 1)) rfl (nI_inc _) (nle rfl) ?_
          refine g_goto rfl L_L_holds_177 ?_
          exact g_lo2 (ih_e hlt_e) ⟨rfl, rfl, rfl, rfl, rfl, rfl, rfl, rfl, trivial⟩
        · have hP := yP e hlt_e ⟨q_196, h_35⟩
          refine g_iconst (v := 1) ik_1 ?_
          refine g_goto rfl L_L_holds_220 ?_
          refine g_istore (nle rfl) ?_
          refine g_iload_n rfl ?_
          refine g_if_eq rfl L_L_holds_259 (fun h_38 => absurd h_38 (by decide)) (fun h_38 => ?_)
          refine g_iload rfl ?_
          refine g_if_eq rfl L_L_holds_255 (fun h_39 => absurd h_39 (by decide)) (fun h_39 => ?_)
          refine g_aload_n rfl ?_
          refine g_iload rfl ?_
          refine g_iconst (v := 2) ik_2 ?_
          refine g_callV (as := [_, _]) mk_X7_classOf ml_L_19 im_X7_classOf se_X7_classOf rfl rfl ⟨⟨nle rfl, nle rfl⟩, nle rfl, nle rfl⟩ hx.1 rfl rfl rfl (nle rfl) ?_
          refine l_classOf hx hS hI (k := e) (w := 2) (v := s (39 + 9 * e + 2)) (by omega) (by decide) rfl ?_
          refine kq_s ?_
          refine g_iload rfl ?_
          refine g_icmp_eq rfl L_L_holds_259 (fun h_40 => (hP.1 (h_40.trans e2.symm)).elim) (fun h_40 => ?_)
          refine g_aload_n rfl ?_
          refine g_iload rfl ?_
          refine g_iconst (v := 3) ik_3 ?_
          refine g_callV (as := [_, _]) mk_X7_classOf ml_L_19 im_X7_classOf se_X7_classOf rfl rfl ⟨⟨nle rfl, nle rfl⟩, nle rfl, nle rfl⟩ hx.1 rfl rfl rfl (nle rfl) ?_
          refine l_classOf hx hS hI (k := e) (w := 3) (v := s (39 + 9 * e + 3)) (by omega) (by decide) rfl ?_
          refine kq_s ?_
          refine g_iload rfl ?_
          refine g_icmp_eq rfl L_L_holds_259 (fun h_41 => (hP.2 (h_41.trans e3.symm)).elim) (fun h_41 => ?_)
          refine g_fall rfl L_L_holds_255 ?_
          refine g_iconst (v := 1) ik_1 ?_
          refine g_goto rfl L_L_holds_260 ?_
          refine g_istore_n (nle rfl) ?_
          refine g_iinc (v := nI (e + 1)) rfl (nI_inc _) (nle rfl) ?_
          refine g_goto rfl L_L_holds_177 ?_
          exact g_lo2 (ih_e hlt_e) ⟨rfl, rfl, rfl, rfl, rfl, rfl, rfl, rfl, trivial⟩
set_option maxRecDepth 100000 in
set_option maxHeartbeats 4000000 in
theorem ct_L_holds {X : Xs} {n : Nat} {S : Nat → Option Sh} {M : Mem} {Q : Rs → Kp → Mem → Prop} {o B nf nt nc nd cnt : Nat} {s : Nat → Int32} {blk : Nat → Nat → Int32} (hn : o + 673 ≤ n) (hx0 : IsDF S o) (hI : Inv B nf nt nc nd s) (hL : LqK B nf nt nc nd s) (hB : B < 1000000) (hO0 : OB B M o s cnt blk) (hQ : ∀ κ' M', κ' = (n + 1, upS S (n + 1) (16, 6, []), true) → IsDF κ'.2.1 o → OB B M' o s cnt blk → Q (.inl (some (.int 1))) κ' M') : Ct X m_L_holds [.ref o] (n, S, true) M Q := by
  refine ct_of B_L_holds_0 pn_L rfl (nle rfl) L_L_holds_0 ?_
  have bf := hI.lf
  have bt' := hI.lt
  have bc := hI.lc
  have bn := hI.ld
  refine g_aload_n rfl ?_
  refine g_callS (as := [_]) mk_L_sums ml_L_80 sm_L_sums rfl rfl ⟨⟨nle rfl, nle rfl⟩, nle rfl, nle rfl⟩ rfl rfl (nle rfl) ?_
  refine ct_L_sums hn hx0 hO0.1 hI (fun M1 M2 hM hMz => ?_)
  have hr := upS_s S (n + 1) (16, 6, [])
  have hx : IsDF (upS S (n + 1) (16, 6, [])) o := IsDF.st S _ o (fun r h1 h2 => upS_o _ _ _ (by omega)) hx0
  have hO : OB B M2 o s cnt blk := hO0.out fun r h => (hM.1 r (by omega)).trans (by rw [← hMz]; funext j; exact zM_o _ _ (by omega) j)
  have hS := hO.1
  refine kq_s ?_
  refine g_astore_n (nle rfl) ?_
  refine g_aload_n rfl ?_
  refine g_iconst (v := 0) ik_0 ?_
  refine g_callV (as := [_]) mk_X7_uses ml_L_84 im_X7_uses se_X7_uses rfl rfl ⟨⟨nle rfl, nle rfl⟩, nle rfl, nle rfl⟩ hx.1 rfl rfl rfl (nle rfl) ?_
  refine l_uses hx hS (w := 0) (by decide) ?_
  refine kq_s ?_
  refine g_aload_n rfl ?_
  refine g_iconst (v := 1) ik_1 ?_
  refine g_callV (as := [_]) mk_X7_uses ml_L_84 im_X7_uses se_X7_uses rfl rfl ⟨⟨nle rfl, nle rfl⟩, nle rfl, nle rfl⟩ hx.1 rfl rfl rfl (nle rfl) ?_
  refine l_uses hx hS (w := 1) (by decide) ?_
  refine kq_s ?_
  refine g_icmp_ne rfl L_L_holds_129 (fun h_1 => (h_1 rfl).elim) (fun h_1 => ?_)
  refine g_aload_n rfl ?_
  refine g_iconst (v := 0) ik_0 ?_
  refine g_callV (as := [_]) mk_X7_uses ml_L_84 im_X7_uses se_X7_uses rfl rfl ⟨⟨nle rfl, nle rfl⟩, nle rfl, nle rfl⟩ hx.1 rfl rfl rfl (nle rfl) ?_
  refine l_uses hx hS (w := 0) (by decide) ?_
  refine kq_s ?_
  refine g_aload_n rfl ?_
  refine g_bipush (v := 7) bk_7 ?_
  refine g_callV (as := [_]) mk_X7_about ml_L_13 im_X7_about se_X7_about rfl rfl ⟨⟨nle rfl, nle rfl⟩, nle rfl, nle rfl⟩ hx.1 rfl rfl rfl (nle rfl) ?_
  refine l_about hx hS (w := 7) (v := s 6) (by decide) rfl ?_
  refine kq_s ?_
  refine g_icmp_ne rfl L_L_holds_129 (fun h_2 => (h_2 rfl).elim) (fun h_2 => ?_)
  refine g_aload_n rfl ?_
  refine g_iconst (v := 0) ik_0 ?_
  refine g_iaload (j := 0) hr rfl (nle rfl) (nle rfl) ?_
  rw [hM.2.1]
  refine g_aload_n rfl ?_
  refine g_bipush (v := 8) bk_8 ?_
  refine g_callV (as := [_]) mk_X7_about ml_L_13 im_X7_about se_X7_about rfl rfl ⟨⟨nle rfl, nle rfl⟩, nle rfl, nle rfl⟩ hx.1 rfl rfl rfl (nle rfl) ?_
  refine l_about hx hS (w := 8) (v := leftV s) (by decide) rfl ?_
  refine kq_s ?_
  refine g_icmp_ne rfl L_L_holds_129 (fun h_3 => (h_3 (by unfold leftV; rw [hI.n3])).elim) (fun h_3 => ?_)
  refine g_aload_n rfl ?_
  refine g_iconst (v := 1) ik_1 ?_
  refine g_iaload (j := 1) hr rfl (nle rfl) (nle rfl) ?_
  rw [hM.2.2.1]
  refine g_aload_n rfl ?_
  refine g_bipush (v := 7) bk_7 ?_
  refine g_callV (as := [_]) mk_X7_about ml_L_13 im_X7_about se_X7_about rfl rfl ⟨⟨nle rfl, nle rfl⟩, nle rfl, nle rfl⟩ hx.1 rfl rfl rfl (nle rfl) ?_
  refine l_about hx hS (w := 7) (v := s 6) (by decide) rfl ?_
  refine kq_s ?_
  refine g_icmp_ne rfl L_L_holds_129 (fun h_4 => (h_4 hI.sm.2.1.symm).elim) (fun h_4 => ?_)
  refine g_aload_n rfl ?_
  refine g_iconst (v := 2) ik_2 ?_
  refine g_iaload (j := 2) hr rfl (nle rfl) (nle rfl) ?_
  rw [hM.2.2.2.1]
  refine g_aload_n rfl ?_
  refine g_bipush (v := 6) bk_6 ?_
  refine g_callV (as := [_]) mk_X7_about ml_L_13 im_X7_about se_X7_about rfl rfl ⟨⟨nle rfl, nle rfl⟩, nle rfl, nle rfl⟩ hx.1 rfl rfl rfl (nle rfl) ?_
  refine l_about hx hS (w := 6) (v := s 5) (by decide) rfl ?_
  refine kq_s ?_
  refine g_icmp_ne rfl L_L_holds_129 (fun h_5 => (h_5 hI.sm.1.symm).elim) (fun h_5 => ?_)
  refine g_bipush (v := 10) bk_10 ?_
  refine g_aload_n rfl ?_
  refine g_bipush (v := 6) bk_6 ?_
  refine g_callV (as := [_]) mk_X7_about ml_L_13 im_X7_about se_X7_about rfl rfl ⟨⟨nle rfl, nle rfl⟩, nle rfl, nle rfl⟩ hx.1 rfl rfl rfl (nle rfl) ?_
  refine l_about hx hS (w := 6) (v := s 5) (by decide) rfl ?_
  refine kq_s ?_
  refine g_imul ?_
  refine g_aload_n rfl ?_
  refine g_bipush (v := 7) bk_7 ?_
  refine g_callV (as := [_]) mk_X7_about ml_L_13 im_X7_about se_X7_about rfl rfl ⟨⟨nle rfl, nle rfl⟩, nle rfl, nle rfl⟩ hx.1 rfl rfl rfl (nle rfl) ?_
  refine l_about hx hS (w := 7) (v := s 6) (by decide) rfl ?_
  refine kq_s ?_
  refine g_aload_n rfl ?_
  refine g_bipush (v := 8) bk_8 ?_
  refine g_callV (as := [_]) mk_X7_about ml_L_13 im_X7_about se_X7_about rfl rfl ⟨⟨nle rfl, nle rfl⟩, nle rfl, nle rfl⟩ hx.1 rfl rfl rfl (nle rfl) ?_
  refine l_about hx hS (w := 8) (v := leftV s) (by decide) rfl ?_
  refine kq_s ?_
  refine g_iadd ?_
  refine g_icmp_ne rfl L_L_holds_129 (fun h_6 => (h_6 (s_ten hI)).elim) (fun h_6 => ?_)
  refine g_aload_n rfl ?_
  refine g_iconst (v := 3) ik_3 ?_
  refine g_iaload (j := 3) hr rfl (nle rfl) (nle rfl) ?_
  rw [hM.2.2.2.2.1]
  refine g_aload_n rfl ?_
  refine g_iconst (v := 4) ik_4 ?_
  refine g_iaload (j := 4) hr rfl (nle rfl) (nle rfl) ?_
  rw [hM.2.2.2.2.2.1]
  refine g_icmp_ne rfl L_L_holds_129 (fun h_7 => (h_7 (s_seats hI hL)).elim) (fun h_7 => ?_)
  refine g_aload_n rfl ?_
  refine g_iconst (v := 4) ik_4 ?_
  refine g_iaload (j := 4) hr rfl (nle rfl) (nle rfl) ?_
  rw [hM.2.2.2.2.2.1]
  refine g_aload_n rfl ?_
  refine g_iconst (v := 5) ik_5 ?_
  refine g_callV (as := [_]) mk_X7_about ml_L_13 im_X7_about se_X7_about rfl rfl ⟨⟨nle rfl, nle rfl⟩, nle rfl, nle rfl⟩ hx.1 rfl rfl rfl (nle rfl) ?_
  refine l_about hx hS (w := 5) (v := seatsV s) (by decide) rfl ?_
  refine kq_s ?_
  refine g_icmp_ne rfl L_L_holds_129 (fun h_8 => (h_8 (by unfold seatsV; rw [hI.n2])).elim) (fun h_8 => ?_)
  refine g_aload_n rfl ?_
  refine g_iconst (v := 5) ik_5 ?_
  refine g_iaload (j := 5) hr rfl (nle rfl) (nle rfl) ?_
  rw [hM.2.2.2.2.2.2]
  refine g_aload_n rfl ?_
  refine g_bipush (v := 7) bk_7 ?_
  refine g_callV (as := [_]) mk_X7_about ml_L_13 im_X7_about se_X7_about rfl rfl ⟨⟨nle rfl, nle rfl⟩, nle rfl, nle rfl⟩ hx.1 rfl rfl rfl (nle rfl) ?_
  refine l_about hx hS (w := 7) (v := s 6) (by decide) rfl ?_
  refine kq_s ?_
  refine g_icmp_gt rfl L_L_holds_129 (fun h_9 => absurd (s_uses hI hL hB) (Int32.not_le.mpr h_9)) (fun h_9 => ?_)
  refine g_iconst (v := 1) ik_1 ?_
  refine g_goto rfl L_L_holds_130 ?_
  refine g_istore_n (nle rfl) ?_
  refine g_iconst (v := 0) ik_0 ?_
  refine g_istore_n (nle rfl) ?_
  refine g_fall rfl L_L_holds_133 ?_
  exact g_lo2 (hol_133 (κ := (n + 1, upS S (n + 1) (16, 6, []), true)) hx hI hL hB hO (fun M' hO' => hQ _ M' rfl hx hO')) ⟨rfl, rfl, rfl, trivial⟩
