def FrA (M M' : Mem) (x : Nat) : Prop := ∀ r, (r < x + 4 ∨ x + 41 ≤ r) → (r < x + 78 ∨ x + 598 ≤ r) → M' r = M r
theorem act_fin {M M1 M2 : Mem} {x B B' c : Nat} {b : Nat → Nat → Int32} {s' : Nat → Int32} (hH1 : HisOK B M1 (x + 78) c b) (hF1 : ∀ r, r < x + 78 ∨ x + 78 + 520 ≤ r → M1 r = M r) (hS2 : SR B' M2 (x + 4) s') (hF2 : FrS M1 M2 (x + 4)) (h9 : M (x + 4) 12 = s' 9) (hB : B ≤ B') : SF B' M2 (x + 4) s' ∧ HisOK B' M2 (x + 78) c b ∧ FrA M M2 x :=
  ⟨hS2.sf (hF2.2.trans ((congrFun (hF1 (x + 4) (by omega)) 12).trans h9)), (hH1.fr fun r a b => hF2.1 r (by omega)).up hB, fun r a b => (hF2.1 r (by omega)).trans (hF1 r (by omega))⟩
theorem act_ref {M M1 : Mem} {x B c : Nat} {b : Nat → Nat → Int32} {s : Nat → Int32} (hH1 : HisOK B M1 (x + 78) c b) (hF1 : ∀ r, r < x + 78 ∨ x + 78 + 520 ≤ r → M1 r = M r) (hS1 : SR B M1 (x + 4) s) (h9 : M (x + 4) 12 = s 9) : SF B (upM M1 (x + 4) 12 (M1 (x + 4) 12 + 1)) (x + 4) (upd s 9 (s 9 + 1)) ∧ HisOK B (upM M1 (x + 4) 12 (M1 (x + 4) 12 + 1)) (x + 78) c b ∧ FrA M (upM M1 (x + 4) 12 (M1 (x + 4) 12 + 1)) x := by
  have e12 : M1 (x + 4) 12 = s 9 := (congrFun (hF1 (x + 4) (by omega)) 12).trans h9
  refine ⟨?_, hH1.fr fun r a b => by funext j; exact upM_o _ _ _ _ (by omega) j, fun r a b => ?_⟩
  · obtain ⟨nf, nt, nc, nd, hr, hI⟩ := hS1
    refine ⟨nf, nt, nc, nd, ?_, hI.r9, by rw [upM_s, upd_same, e12]⟩
    have bf := hI.lf
    have bt := hI.lt
    have bc := hI.lc
    have bn := hI.ld
    have hr' := hr.r9 (x := s 9 + 1)
    obtain ⟨⟨a1, a2, a3, a4, a5, a6, a7, a8, a9, a10⟩, hf, ht, hk, hd⟩ := hr'
    refine ⟨?_, fun f hf' => ?_, fun t ht' => ?_, fun k hk' => ?_, fun d hd' => ?_⟩
    · simp (disch := omega) only [upM_o, upM_j, a1, a2, a3, a4, a5, a6, a7, a8, a9, a10, and_self]
    · simp (disch := omega) only [upM_o]; exact hf f hf'
    · simp (disch := omega) only [upM_o]; exact ht t ht'
    · simp (disch := omega) only [upM_o]; exact hk k hk'
    · simp (disch := omega) only [upM_o]; exact hd d hd'
  · rw [← hF1 r (by omega)]
    funext j
    exact upM_o _ _ _ _ (by omega) j
theorem in_rng {v : Int32} {lo hi : Nat} (hl : lo < 1000) (hh : hi < 1000) {l h : Int32} (el : l = nI lo) (eh : h = nI hi) (hb : inB v l h = true) : bd lo hi v := by
  subst el eh
  unfold inB at hb
  rw [Bool.and_eq_true] at hb
  have h1 := Int32.le_iff_toInt_le.mp (of_decide_eq_true hb.1)
  rw [nI_toInt (by omega)] at h1
  obtain ⟨n, hn, rfl⟩ := nI_of (x := v) (fun q => by
    have q2 := Int32.lt_iff_toInt_lt.mp q
    have q3 : (0 : Int32).toInt = 0 := by decide
    omega)
  rw [nI_toInt hn] at h1
  exact ⟨n, by omega, (nI_leI hn (by omega)).mp (of_decide_eq_true hb.2), rfl⟩
theorem cp_has {M : Mem} {o B nf nt nc nd : Nat} {s : Nat → Int32} (hr : RepS M o nf nt nc nd s) (hI : Inv B nf nt nc nd s) {d : Int32} : (hasB d (M o 8) && decide (M (o + 24 + tn d) 2 < 90)) = cpass s d := by
  cases h : cpass s d with
  | true => exact (pass_of hr hI).mpr (hI.qPa.mp h)
  | false =>
    cases h2 : (hasB d (M o 8) && decide (M (o + 24 + tn d) 2 < 90)) with
    | false => rfl
    | true => rw [hI.qPa.mpr ((pass_of hr hI).mp h2)] at h; cases h
theorem le_has {M : Mem} {o B nf nt nc nd : Nat} {s : Nat → Int32} (hr : RepS M o nf nt nc nd s) (hI : Inv B nf nt nc nd s) {d k : Int32} : (hasB d (M o 8) && (hasB k (M o 7) && bitS (M (o + 13 + tn k) 6) d)) = gLe s d k := by
  cases h : gLe s d k with
  | true => exact (seat_of hr hI).mpr (hI.qLe.mp h)
  | false =>
    cases h2 : (hasB d (M o 8) && (hasB k (M o 7) && bitS (M (o + 13 + tn k) 6) d)) with
    | false => rfl
    | true => rw [hI.qLe.mpr ((seat_of hr hI).mp h2)] at h; cases h
set_option maxRecDepth 100000 in
set_option maxHeartbeats 4000000 in
theorem ct_X7_floor {X : Xs} {κ : Kp} {M : Mem} {Q : Rs → Kp → Mem → Prop} {x : Nat} (hx : IsDF κ.2.1 x) {B : Nat} {s : Nat → Int32} (hS : SF B M (x + 4) s) {cnt : Nat} {blk : Nat → Nat → Int32} (hH : HisOK B M (x + 78) cnt blk) {a b c d : Int32} (hE1 : isFl a b c d = false → False) (hE2 : isFl a b c d = true → gFl s = false → False) (hY : isFl a b c d = true → gFl s = true → ∀ M', SF (B) M' (x + 4) (flS s (cN s 0) a b c d) → HisOK (B) M' (x + 78) (remC cnt) (remB cnt s blk) → FrA M M' x → Q (.inl (some (.int (nI (cN s 0))))) κ M') : Ct X m_X7_floor [.ref x, .int a, .int b, .int c, .int d] κ M Q := by
  refine ct_of B_X7_floor_0 pn_X7 rfl (nle rfl) L_X7_floor_0 ?_
  obtain ⟨nf, nt, nc, nd, hr, hI, h9⟩ := hS
  have bf := hI.lf
  have bt := hI.lt
  have bc := hI.lc
  have bn := hI.ld
  have n0 := hI.n0
  have n1 := hI.n1
  have n2 := hI.n2
  have n3 := hI.n3
  refine g_iload_n rfl ?_
  refine g_iconst (v := 1) ik_1 ?_
  refine g_bipush (v := 9) bk_9 ?_
  refine g_callS (as := [_, _, _]) mk_X7_isWithin ml_X7_41 sm_X7_isWithin rfl rfl ⟨⟨nle rfl, nle rfl⟩, nle rfl, nle rfl⟩ rfl rfl (nle rfl) ?_
  refine ct_X7_isWithin ?_
  refine kq_s ?_
  refine g_callS (as := [_]) mk_X7_requireArgument ml_X7_45 sm_X7_requireArgument rfl rfl ⟨⟨nle rfl, nle rfl⟩, nle rfl, nle rfl⟩ rfl rfl (nle rfl) ?_
  refine ct_X7_requireArgument (fun q1 => ?_) (fun q1 => ?_)
  · refine kq_n ?_
    refine g_iload_n rfl ?_
    refine g_iconst (v := 0) ik_0 ?_
    refine g_iconst (v := 4) ik_4 ?_
    refine g_callS (as := [_, _, _]) mk_X7_isWithin ml_X7_41 sm_X7_isWithin rfl rfl ⟨⟨nle rfl, nle rfl⟩, nle rfl, nle rfl⟩ rfl rfl (nle rfl) ?_
    refine ct_X7_isWithin ?_
    refine kq_s ?_
    refine g_callS (as := [_]) mk_X7_requireArgument ml_X7_45 sm_X7_requireArgument rfl rfl ⟨⟨nle rfl, nle rfl⟩, nle rfl, nle rfl⟩ rfl rfl (nle rfl) ?_
    refine ct_X7_requireArgument (fun q2 => ?_) (fun q2 => ?_)
    · refine kq_n ?_
      refine g_iload_n rfl ?_
      refine g_iconst (v := 0) ik_0 ?_
      refine g_bipush (v := 60) bk_60 ?_
      refine g_callS (as := [_, _, _]) mk_X7_isWithin ml_X7_41 sm_X7_isWithin rfl rfl ⟨⟨nle rfl, nle rfl⟩, nle rfl, nle rfl⟩ rfl rfl (nle rfl) ?_
      refine ct_X7_isWithin ?_
      refine kq_s ?_
      refine g_callS (as := [_]) mk_X7_requireArgument ml_X7_45 sm_X7_requireArgument rfl rfl ⟨⟨nle rfl, nle rfl⟩, nle rfl, nle rfl⟩ rfl rfl (nle rfl) ?_
      refine ct_X7_requireArgument (fun q3 => ?_) (fun q3 => ?_)
      · refine kq_n ?_
        refine g_iload rfl ?_
        refine g_iconst (v := 1) ik_1 ?_
        refine g_bipush (v := 30) bk_30 ?_
        refine g_callS (as := [_, _, _]) mk_X7_isWithin ml_X7_41 sm_X7_isWithin rfl rfl ⟨⟨nle rfl, nle rfl⟩, nle rfl, nle rfl⟩ rfl rfl (nle rfl) ?_
        refine ct_X7_isWithin ?_
        refine kq_s ?_
        refine g_callS (as := [_]) mk_X7_requireArgument ml_X7_45 sm_X7_requireArgument rfl rfl ⟨⟨nle rfl, nle rfl⟩, nle rfl, nle rfl⟩ rfl rfl (nle rfl) ?_
        refine ct_X7_requireArgument (fun q4 => ?_) (fun q4 => ?_)
        · refine kq_n ?_
          refine g_aload_n rfl ?_
          refine g_getR (w := (x + 4)) fl_X7_19 rfl hx.1 rfl ?_
          refine g_getI fl_X7_92 rfl hx.2.2.1.s0 rfl ?_
          rw [hr.1.1]
          refine g_iconst (v := 4) ik_4 ?_
          refine g_icmp_ge rfl L_X7_floor_55 (fun h_1 => ?_) (fun h_1 => ?_)
          · have hg : gFl s = false := decide_eq_false (Int32.not_lt.mpr h_1)
            refine g_iconst (v := 0) ik_0 ?_
            refine g_fall rfl L_X7_floor_56 ?_
            refine g_callS (as := [_]) mk_X7_requireState ml_X7_53 sm_X7_requireState rfl rfl ⟨⟨nle rfl, nle rfl⟩, nle rfl, nle rfl⟩ rfl rfl (nle rfl) ?_
            refine ct_X7_requireState (b := false) (fun qs => by cases qs) (fun qs => ?_)
            · exact hE2 (by unfold isFl; rw [q1, q2, q3, q4]; rfl) hg
          · have hg : gFl s = true := decide_eq_true (Int32.not_le.mp h_1)
            refine g_iconst (v := 1) ik_1 ?_
            refine g_goto rfl L_X7_floor_56 ?_
            refine g_callS (as := [_]) mk_X7_requireState ml_X7_53 sm_X7_requireState rfl rfl ⟨⟨nle rfl, nle rfl⟩, nle rfl, nle rfl⟩ rfl rfl (nle rfl) ?_
            refine ct_X7_requireState (b := true) (fun qs => ?_) (fun qs => by cases qs)
            refine kq_n ?_
            refine g_aload_n rfl ?_
            refine g_getR (w := (x + 78)) fl_X7_29 rfl hx.1 rfl ?_
            refine g_aload_n rfl ?_
            refine g_getR (w := (x + 4)) fl_X7_19 rfl hx.1 rfl ?_
            refine g_callV (as := [_]) mk_X2_remember ml_X7_254 im_X2_remember se_X2_remember rfl rfl ⟨⟨nle rfl, nle rfl⟩, nle rfl, nle rfl⟩ hx.2.2.2.2.1.1 rfl rfl rfl (nle rfl) ?_
            refine ct_X2_remember hx.2.2.2.2.1 hx.2.2.1 (by omega) hH ⟨nf, nt, nc, nd, hr, hI, h9⟩ (fun M1 hH1 hF1 => ?_)
            have hS1 : SR B M1 (x + 4) s := ⟨nf, nt, nc, nd, hr.fr bf bt bc bn (fun r a b => hF1 r (by omega)), hI⟩
            refine kq_n ?_
            refine g_aload_n rfl ?_
            refine g_getR (w := (x + 4)) fl_X7_19 rfl hx.1 rfl ?_
            refine g_iload_n rfl ?_
            refine g_iload_n rfl ?_
            refine g_iload_n rfl ?_
            refine g_iload rfl ?_
            refine g_callV (as := [_, _, _, _]) mk_X4_addFloor ml_X7_258 im_X4_addFloor se_X4_addFloor rfl rfl ⟨⟨nle rfl, nle rfl⟩, nle rfl, nle rfl⟩ hx.2.2.1.s0 rfl rfl rfl (nle rfl) ?_
            refine k_addFloor hx.2.2.1 hS1 (in_rng (lo := 0) (hi := 4) (by omega) (by omega) rfl rfl q2) (in_rng (lo := 0) (hi := 60) (by omega) (by omega) rfl rfl q3) (in_rng (lo := 1) (hi := 30) (by omega) (by omega) rfl rfl q4) (fun hgf => ?_) (fun hgf n hn en M2 hS2 hF2 => ?_)
            · rw [hg] at hgf
              cases hgf
            · refine kq_s ?_
              refine g_iret rfl (nle rfl) (nle rfl) ?_
              have s9 : flS s (cN s 0) a b c d 9 = s 9 := by rw [n0]; unfold flS; simp (disch := omega) only [upd_ne]
              obtain ⟨f1, f2, f3⟩ := act_fin hH1 hF1 hS2 hF2 (by rw [s9]; exact h9) (Nat.le_refl _)
              exact qeq (hY (by unfold isFl; rw [q1, q2, q3, q4]; rfl) hg M2 f1 f2 f3) (by rw [en]) rfl
        · exact hE1 (by unfold isFl; rw [q1, q2, q3, q4]; rfl)
      · exact hE1 (by unfold isFl; rw [q1, q2, q3]; rfl)
    · exact hE1 (by unfold isFl; rw [q1, q2]; rfl)
  · exact hE1 (by unfold isFl; rw [q1]; rfl)
set_option maxRecDepth 100000 in
set_option maxHeartbeats 4000000 in
theorem ct_X7_teacher {X : Xs} {κ : Kp} {M : Mem} {Q : Rs → Kp → Mem → Prop} {x : Nat} (hx : IsDF κ.2.1 x) {B : Nat} {s : Nat → Int32} (hS : SF B M (x + 4) s) {cnt : Nat} {blk : Nat → Nat → Int32} (hH : HisOK B M (x + 78) cnt blk) {a b : Int32} (hE1 : (inB a 0 15 && inB b 1 5) = false → False) (hE2 : (inB a 0 15 && inB b 1 5) = true → gTe s = false → False) (hY : (inB a 0 15 && inB b 1 5) = true → gTe s = true → ∀ M', SF (B) M' (x + 4) (teS s (cN s 1) a b) → HisOK (B) M' (x + 78) (remC cnt) (remB cnt s blk) → FrA M M' x → Q (.inl (some (.int (nI (cN s 1))))) κ M') : Ct X m_X7_teacher [.ref x, .int a, .int b] κ M Q := by
  refine ct_of B_X7_teacher_0 pn_X7 rfl (nle rfl) L_X7_teacher_0 ?_
  obtain ⟨nf, nt, nc, nd, hr, hI, h9⟩ := hS
  have bf := hI.lf
  have bt := hI.lt
  have bc := hI.lc
  have bn := hI.ld
  have n0 := hI.n0
  have n1 := hI.n1
  have n2 := hI.n2
  have n3 := hI.n3
  refine g_iload_n rfl ?_
  refine g_iconst (v := 0) ik_0 ?_
  refine g_bipush (v := 15) bk_15 ?_
  refine g_callS (as := [_, _, _]) mk_X7_isWithin ml_X7_41 sm_X7_isWithin rfl rfl ⟨⟨nle rfl, nle rfl⟩, nle rfl, nle rfl⟩ rfl rfl (nle rfl) ?_
  refine ct_X7_isWithin ?_
  refine kq_s ?_
  refine g_callS (as := [_]) mk_X7_requireArgument ml_X7_45 sm_X7_requireArgument rfl rfl ⟨⟨nle rfl, nle rfl⟩, nle rfl, nle rfl⟩ rfl rfl (nle rfl) ?_
  refine ct_X7_requireArgument (fun q1 => ?_) (fun q1 => ?_)
  · refine kq_n ?_
    refine g_iload_n rfl ?_
    refine g_iconst (v := 1) ik_1 ?_
    refine g_iconst (v := 5) ik_5 ?_
    refine g_callS (as := [_, _, _]) mk_X7_isWithin ml_X7_41 sm_X7_isWithin rfl rfl ⟨⟨nle rfl, nle rfl⟩, nle rfl, nle rfl⟩ rfl rfl (nle rfl) ?_
    refine ct_X7_isWithin ?_
    refine kq_s ?_
    refine g_callS (as := [_]) mk_X7_requireArgument ml_X7_45 sm_X7_requireArgument rfl rfl ⟨⟨nle rfl, nle rfl⟩, nle rfl, nle rfl⟩ rfl rfl (nle rfl) ?_
    refine ct_X7_requireArgument (fun q2 => ?_) (fun q2 => ?_)
    · refine kq_n ?_
      refine g_aload_n rfl ?_
      refine g_getR (w := (x + 4)) fl_X7_19 rfl hx.1 rfl ?_
      refine g_getI fl_X7_95 rfl hx.2.2.1.s0 rfl ?_
      rw [hr.1.2.1]
      refine g_iconst (v := 5) ik_5 ?_
      refine g_icmp_ge rfl L_X7_teacher_34 (fun h_1 => ?_) (fun h_1 => ?_)
      · have hg : gTe s = false := decide_eq_false (Int32.not_lt.mpr h_1)
        refine g_iconst (v := 0) ik_0 ?_
        refine g_fall rfl L_X7_teacher_35 ?_
        refine g_callS (as := [_]) mk_X7_requireState ml_X7_53 sm_X7_requireState rfl rfl ⟨⟨nle rfl, nle rfl⟩, nle rfl, nle rfl⟩ rfl rfl (nle rfl) ?_
        refine ct_X7_requireState (b := false) (fun qs => by cases qs) (fun qs => ?_)
        · exact hE2 (by rw [q1, q2]; rfl) hg
      · have hg : gTe s = true := decide_eq_true (Int32.not_le.mp h_1)
        refine g_iconst (v := 1) ik_1 ?_
        refine g_goto rfl L_X7_teacher_35 ?_
        refine g_callS (as := [_]) mk_X7_requireState ml_X7_53 sm_X7_requireState rfl rfl ⟨⟨nle rfl, nle rfl⟩, nle rfl, nle rfl⟩ rfl rfl (nle rfl) ?_
        refine ct_X7_requireState (b := true) (fun qs => ?_) (fun qs => by cases qs)
        refine kq_n ?_
        refine g_aload_n rfl ?_
        refine g_getR (w := (x + 78)) fl_X7_29 rfl hx.1 rfl ?_
        refine g_aload_n rfl ?_
        refine g_getR (w := (x + 4)) fl_X7_19 rfl hx.1 rfl ?_
        refine g_callV (as := [_]) mk_X2_remember ml_X7_254 im_X2_remember se_X2_remember rfl rfl ⟨⟨nle rfl, nle rfl⟩, nle rfl, nle rfl⟩ hx.2.2.2.2.1.1 rfl rfl rfl (nle rfl) ?_
        refine ct_X2_remember hx.2.2.2.2.1 hx.2.2.1 (by omega) hH ⟨nf, nt, nc, nd, hr, hI, h9⟩ (fun M1 hH1 hF1 => ?_)
        have hS1 : SR B M1 (x + 4) s := ⟨nf, nt, nc, nd, hr.fr bf bt bc bn (fun r a b => hF1 r (by omega)), hI⟩
        refine kq_n ?_
        refine g_aload_n rfl ?_
        refine g_getR (w := (x + 4)) fl_X7_19 rfl hx.1 rfl ?_
        refine g_iload_n rfl ?_
        refine g_iload_n rfl ?_
        refine g_callV (as := [_, _]) mk_X4_addTeacher ml_X7_262 im_X4_addTeacher se_X4_addTeacher rfl rfl ⟨⟨nle rfl, nle rfl⟩, nle rfl, nle rfl⟩ hx.2.2.1.s0 rfl rfl rfl (nle rfl) ?_
        refine k_addTeacher hx.2.2.1 hS1 (fun hgf => ?_) (fun hgf n hn en M2 hS2 hF2 => ?_)
        · rw [hg] at hgf
          cases hgf
        · refine kq_s ?_
          refine g_iret rfl (nle rfl) (nle rfl) ?_
          have s9 : teS s (cN s 1) a b 9 = s 9 := by rw [n1]; unfold teS; simp (disch := omega) only [upd_ne]
          obtain ⟨f1, f2, f3⟩ := act_fin hH1 hF1 hS2 hF2 (by rw [s9]; exact h9) (Nat.le_refl _)
          exact qeq (hY (by rw [q1, q2]; rfl) hg M2 f1 f2 f3) (by rw [en]) rfl
    · exact hE1 (by rw [q1, q2]; rfl)
  · exact hE1 (by rw [q1]; rfl)
set_option maxRecDepth 100000 in
set_option maxHeartbeats 4000000 in
theorem ct_X7_dancer {X : Xs} {κ : Kp} {M : Mem} {Q : Rs → Kp → Mem → Prop} {x : Nat} (hx : IsDF κ.2.1 x) {B : Nat} {s : Nat → Int32} (hS : SF B M (x + 4) s) {cnt : Nat} {blk : Nat → Nat → Int32} (hH : HisOK B M (x + 78) cnt blk) (hE1 : gDa s = false → False) (hY : gDa s = true → ∀ M', SF (B) M' (x + 4) (daS s (cN s 3)) → HisOK (B) M' (x + 78) (remC cnt) (remB cnt s blk) → FrA M M' x → Q (.inl (some (.int (nI (cN s 3))))) κ M') : Ct X m_X7_dancer [.ref x] κ M Q := by
  refine ct_of B_X7_dancer_0 pn_X7 rfl (nle rfl) L_X7_dancer_0 ?_
  obtain ⟨nf, nt, nc, nd, hr, hI, h9⟩ := hS
  have bf := hI.lf
  have bt := hI.lt
  have bc := hI.lc
  have bn := hI.ld
  have n0 := hI.n0
  have n1 := hI.n1
  have n2 := hI.n2
  have n3 := hI.n3
  refine g_aload_n rfl ?_
  refine g_getR (w := (x + 4)) fl_X7_19 rfl hx.1 rfl ?_
  refine g_getI fl_X7_101 rfl hx.2.2.1.s0 rfl ?_
  rw [hr.1.2.2.2.1]
  refine g_bipush (v := 12) bk_12 ?_
  refine g_icmp_ge rfl L_X7_dancer_16 (fun h_1 => ?_) (fun h_1 => ?_)
  · have hg : gDa s = false := decide_eq_false (Int32.not_lt.mpr h_1)
    refine g_iconst (v := 0) ik_0 ?_
    refine g_fall rfl L_X7_dancer_17 ?_
    refine g_callS (as := [_]) mk_X7_requireState ml_X7_53 sm_X7_requireState rfl rfl ⟨⟨nle rfl, nle rfl⟩, nle rfl, nle rfl⟩ rfl rfl (nle rfl) ?_
    refine ct_X7_requireState (b := false) (fun qs => by cases qs) (fun qs => ?_)
    · exact hE1 hg
  · have hg : gDa s = true := decide_eq_true (Int32.not_le.mp h_1)
    refine g_iconst (v := 1) ik_1 ?_
    refine g_goto rfl L_X7_dancer_17 ?_
    refine g_callS (as := [_]) mk_X7_requireState ml_X7_53 sm_X7_requireState rfl rfl ⟨⟨nle rfl, nle rfl⟩, nle rfl, nle rfl⟩ rfl rfl (nle rfl) ?_
    refine ct_X7_requireState (b := true) (fun qs => ?_) (fun qs => by cases qs)
    refine kq_n ?_
    refine g_aload_n rfl ?_
    refine g_getR (w := (x + 78)) fl_X7_29 rfl hx.1 rfl ?_
    refine g_aload_n rfl ?_
    refine g_getR (w := (x + 4)) fl_X7_19 rfl hx.1 rfl ?_
    refine g_callV (as := [_]) mk_X2_remember ml_X7_254 im_X2_remember se_X2_remember rfl rfl ⟨⟨nle rfl, nle rfl⟩, nle rfl, nle rfl⟩ hx.2.2.2.2.1.1 rfl rfl rfl (nle rfl) ?_
    refine ct_X2_remember hx.2.2.2.2.1 hx.2.2.1 (by omega) hH ⟨nf, nt, nc, nd, hr, hI, h9⟩ (fun M1 hH1 hF1 => ?_)
    have hS1 : SR B M1 (x + 4) s := ⟨nf, nt, nc, nd, hr.fr bf bt bc bn (fun r a b => hF1 r (by omega)), hI⟩
    refine kq_n ?_
    refine g_aload_n rfl ?_
    refine g_getR (w := (x + 4)) fl_X7_19 rfl hx.1 rfl ?_
    refine g_callV (as := []) mk_X4_addDancer ml_X7_280 im_X4_addDancer se_X4_addDancer rfl rfl ⟨⟨nle rfl, nle rfl⟩, nle rfl, nle rfl⟩ hx.2.2.1.s0 rfl rfl rfl (nle rfl) ?_
    refine k_addDancer hx.2.2.1 hS1 (fun hgf => ?_) (fun hgf n hn en M2 hS2 hF2 => ?_)
    · rw [hg] at hgf
      cases hgf
    · refine kq_s ?_
      refine g_iret rfl (nle rfl) (nle rfl) ?_
      have s9 : daS s (cN s 3) 9 = s 9 := daS_o (by omega) (by omega)
      obtain ⟨f1, f2, f3⟩ := act_fin hH1 hF1 hS2 hF2 (by rw [s9]; exact h9) (Nat.le_refl _)
      exact qeq (hY hg M2 f1 f2 f3) (by rw [en]) rfl
set_option maxRecDepth 100000 in
set_option maxHeartbeats 4000000 in
theorem ct_X7_drop {X : Xs} {κ : Kp} {M : Mem} {Q : Rs → Kp → Mem → Prop} {x : Nat} (hx : IsDF κ.2.1 x) {B : Nat} {s : Nat → Int32} (hS : SF B M (x + 4) s) {cnt : Nat} {blk : Nat → Nat → Int32} (hH : HisOK B M (x + 78) cnt blk) {k : Int32} (hE1 : isC s k = false → False) (hY : isC s k = true → ∀ M', SF (B) M' (x + 4) (drS s (cN s 2) (tn k)) → HisOK (B) M' (x + 78) (remC cnt) (remB cnt s blk) → FrA M M' x → Q (.inl (some (.int (bitsI (s (39 + 9 * tn k + 8)))))) κ M') : Ct X m_X7_drop [.ref x, .int k] κ M Q := by
  refine ct_of B_X7_drop_0 pn_X7 rfl (nle rfl) L_X7_drop_0 ?_
  obtain ⟨nf, nt, nc, nd, hr, hI, h9⟩ := hS
  have bf := hI.lf
  have bt := hI.lt
  have bc := hI.lc
  have bn := hI.ld
  have n0 := hI.n0
  have n1 := hI.n1
  have n2 := hI.n2
  have n3 := hI.n3
  refine g_aload_n rfl ?_
  refine g_getR (w := (x + 4)) fl_X7_19 rfl hx.1 rfl ?_
  refine g_iload_n rfl ?_
  refine g_callV (as := [_]) mk_X4_hasLesson ml_X7_185 im_X4_hasLesson se_X4_hasLesson rfl rfl ⟨⟨nle rfl, nle rfl⟩, nle rfl, nle rfl⟩ hx.2.2.1.s0 rfl rfl rfl (nle rfl) ?_
  refine ct_X4_hasLesson hx.2.2.1 ?_
  rw [← isC_has hr hI]
  refine kq_s ?_
  refine g_callS (as := [_]) mk_X7_requireIndex ml_X7_139 sm_X7_requireIndex rfl rfl ⟨⟨nle rfl, nle rfl⟩, nle rfl, nle rfl⟩ rfl rfl (nle rfl) ?_
  refine ct_X7_requireIndex (fun hg => ?_) (fun hg => ?_)
  · refine kq_n ?_
    refine g_aload_n rfl ?_
    refine g_getR (w := (x + 78)) fl_X7_29 rfl hx.1 rfl ?_
    refine g_aload_n rfl ?_
    refine g_getR (w := (x + 4)) fl_X7_19 rfl hx.1 rfl ?_
    refine g_callV (as := [_]) mk_X2_remember ml_X7_254 im_X2_remember se_X2_remember rfl rfl ⟨⟨nle rfl, nle rfl⟩, nle rfl, nle rfl⟩ hx.2.2.2.2.1.1 rfl rfl rfl (nle rfl) ?_
    refine ct_X2_remember hx.2.2.2.2.1 hx.2.2.1 (by omega) hH ⟨nf, nt, nc, nd, hr, hI, h9⟩ (fun M1 hH1 hF1 => ?_)
    have hS1 : SR B M1 (x + 4) s := ⟨nf, nt, nc, nd, hr.fr bf bt bc bn (fun r a b => hF1 r (by omega)), hI⟩
    refine kq_n ?_
    refine g_aload_n rfl ?_
    refine g_getR (w := (x + 4)) fl_X7_19 rfl hx.1 rfl ?_
    refine g_iload_n rfl ?_
    refine g_callV (as := [_]) mk_X4_dropLesson ml_X7_277 im_X4_dropLesson se_X4_dropLesson rfl rfl ⟨⟨nle rfl, nle rfl⟩, nle rfl, nle rfl⟩ hx.2.2.1.s0 rfl rfl rfl (nle rfl) ?_
    refine k_dropLesson hx.2.2.1 hS1 (fun hgf => ?_) (fun hgf M2 hS2 hF2 => ?_)
    · rw [hg] at hgf
      cases hgf
    · refine kq_s ?_
      refine g_iret rfl (nle rfl) (nle rfl) ?_
      have s9 : drS s (cN s 2) (tn k) 9 = s 9 := drS_o (by omega) (by omega) (by omega)
      obtain ⟨f1, f2, f3⟩ := act_fin hH1 hF1 hS2 hF2 (by rw [s9]; exact h9) (Nat.le_refl _)
      exact hY hg M2 f1 f2 f3
  · exact hE1 hg
set_option maxRecDepth 100000 in
set_option maxHeartbeats 4000000 in
theorem ct_X7_pass {X : Xs} {κ : Kp} {M : Mem} {Q : Rs → Kp → Mem → Prop} {x : Nat} (hx : IsDF κ.2.1 x) {B : Nat} {s : Nat → Int32} (hS : SF B M (x + 4) s) {cnt : Nat} {blk : Nat → Nat → Int32} (hH : HisOK B M (x + 78) cnt blk) {d : Int32} (hE1 : isD s d = false → False) (hE2 : isD s d = true → cpass s d = false → False) (hY : isD s d = true → cpass s d = true → ∀ M', SF (B) M' (x + 4) (paS s (tn d)) → HisOK (B) M' (x + 78) (remC cnt) (remB cnt s blk) → FrA M M' x → Q (.inl (some (.int (s (129 + 5 * tn d + 2) + 10)))) κ M') : Ct X m_X7_pass [.ref x, .int d] κ M Q := by
  refine ct_of B_X7_pass_0 pn_X7 rfl (nle rfl) L_X7_pass_0 ?_
  obtain ⟨nf, nt, nc, nd, hr, hI, h9⟩ := hS
  have bf := hI.lf
  have bt := hI.lt
  have bc := hI.lc
  have bn := hI.ld
  have n0 := hI.n0
  have n1 := hI.n1
  have n2 := hI.n2
  have n3 := hI.n3
  refine g_aload_n rfl ?_
  refine g_getR (w := (x + 4)) fl_X7_19 rfl hx.1 rfl ?_
  refine g_iload_n rfl ?_
  refine g_callV (as := [_]) mk_X4_hasDancer ml_X7_223 im_X4_hasDancer se_X4_hasDancer rfl rfl ⟨⟨nle rfl, nle rfl⟩, nle rfl, nle rfl⟩ hx.2.2.1.s0 rfl rfl rfl (nle rfl) ?_
  refine ct_X4_hasDancer hx.2.2.1 ?_
  rw [← isD_has hr hI]
  refine kq_s ?_
  refine g_callS (as := [_]) mk_X7_requireIndex ml_X7_139 sm_X7_requireIndex rfl rfl ⟨⟨nle rfl, nle rfl⟩, nle rfl, nle rfl⟩ rfl rfl (nle rfl) ?_
  refine ct_X7_requireIndex (fun hd => ?_) (fun hd => ?_)
  · refine kq_n ?_
    refine g_aload_n rfl ?_
    refine g_getR (w := (x + 4)) fl_X7_19 rfl hx.1 rfl ?_
    refine g_iload_n rfl ?_
    refine g_callV (as := [_]) mk_X4_mayHavePass ml_X7_283 im_X4_mayHavePass se_X4_mayHavePass rfl rfl ⟨⟨nle rfl, nle rfl⟩, nle rfl, nle rfl⟩ hx.2.2.1.s0 rfl rfl rfl (nle rfl) ?_
    refine ct_X4_mayHavePass hx.2.2.1 (hr.c8 hI) bn ?_
    rw [cp_has hr hI]
    refine kq_s ?_
    refine g_callS (as := [_]) mk_X7_requireState ml_X7_53 sm_X7_requireState rfl rfl ⟨⟨nle rfl, nle rfl⟩, nle rfl, nle rfl⟩ rfl rfl (nle rfl) ?_
    refine ct_X7_requireState (fun hg => ?_) (fun hg => ?_)
    · refine kq_n ?_
      refine g_aload_n rfl ?_
      refine g_getR (w := (x + 78)) fl_X7_29 rfl hx.1 rfl ?_
      refine g_aload_n rfl ?_
      refine g_getR (w := (x + 4)) fl_X7_19 rfl hx.1 rfl ?_
      refine g_callV (as := [_]) mk_X2_remember ml_X7_254 im_X2_remember se_X2_remember rfl rfl ⟨⟨nle rfl, nle rfl⟩, nle rfl, nle rfl⟩ hx.2.2.2.2.1.1 rfl rfl rfl (nle rfl) ?_
      refine ct_X2_remember hx.2.2.2.2.1 hx.2.2.1 (by omega) hH ⟨nf, nt, nc, nd, hr, hI, h9⟩ (fun M1 hH1 hF1 => ?_)
      have hS1 : SR B M1 (x + 4) s := ⟨nf, nt, nc, nd, hr.fr bf bt bc bn (fun r a b => hF1 r (by omega)), hI⟩
      refine kq_n ?_
      refine g_aload_n rfl ?_
      refine g_getR (w := (x + 4)) fl_X7_19 rfl hx.1 rfl ?_
      refine g_iload_n rfl ?_
      refine g_callV (as := [_]) mk_X4_givePass ml_X7_286 im_X4_givePass se_X4_givePass rfl rfl ⟨⟨nle rfl, nle rfl⟩, nle rfl, nle rfl⟩ hx.2.2.1.s0 rfl rfl rfl (nle rfl) ?_
      refine k_givePass hx.2.2.1 hS1 (fun hgf => ?_) (fun hgf n hn en M2 hS2 hF2 => ?_)
      · rw [hg] at hgf
        cases hgf
      · refine kq_s ?_
        refine g_iret rfl (nle rfl) (nle rfl) ?_
        have s9 : paS s (tn d) 9 = s 9 := by unfold paS; simp (disch := omega) only [upd_ne]
        obtain ⟨f1, f2, f3⟩ := act_fin hH1 hF1 hS2 hF2 (by rw [s9]; exact h9) (Nat.le_refl _)
        exact qeq (hY hd hg M2 f1 f2 f3) (by rw [en]; exact (nI_add n 10).symm) rfl
    · exact hE2 hd hg
  · exact hE1 hd
theorem wk9 {nc nd : Nat} {s : Nat → Int32} : ∀ n, wkN nc nd n s 9 = s 9
  | 0 => rfl
  | n + 1 => by
    have c9 : ∀ k (s : Nat → Int32), clsN nd k s 9 = s 9 := by
      intro k
      induction k with
      | zero => exact fun _ => rfl
      | succ k ih =>
        intro s
        show stepC nd (clsN nd k s) k 9 = s 9
        unfold stepC
        split
        · rw [upd_ne (by omega)]; exact ih s
        · rw [dn_o (by omega) (by omega) (by omega), ho_o (by omega) (by omega)]; exact ih s
    show weekS nc nd (wkN nc nd n s) 9 = s 9
    unfold weekS
    rw [ri_l (by omega), c9, upd_ne (by omega)]
    exact wk9 n
theorem wk_9 {s : Nat → Int32} (n : Nat) : wkC n s 9 = s 9 := wk9 n
set_option maxRecDepth 100000 in
set_option maxHeartbeats 4000000 in
theorem ct_X7_weeks {X : Xs} {κ : Kp} {M : Mem} {Q : Rs → Kp → Mem → Prop} {x : Nat} (hx : IsDF κ.2.1 x) {B : Nat} {s : Nat → Int32} (hS : SF B M (x + 4) s) {cnt : Nat} {blk : Nat → Nat → Int32} (hH : HisOK B M (x + 78) cnt blk) {n : Int32} (hE1 : inB n 1 9 = false → False) (hY : inB n 1 9 = true → ∀ k, 1 ≤ k → k ≤ 9 → n = nI k → ∀ M', SF (B + k) M' (x + 4) (wkC k s) → HisOK (B + k) M' (x + 78) (remC cnt) (remB cnt s blk) → FrA M M' x → Q (.inl (some (.int (wkC k s 6 - s 6)))) κ M') : Ct X m_X7_weeks [.ref x, .int n] κ M Q := by
  refine ct_of B_X7_weeks_0 pn_X7 rfl (nle rfl) L_X7_weeks_0 ?_
  obtain ⟨nf, nt, nc, nd, hr, hI, h9⟩ := hS
  have bf := hI.lf
  have bt := hI.lt
  have bc := hI.lc
  have bn := hI.ld
  have n0 := hI.n0
  have n1 := hI.n1
  have n2 := hI.n2
  have n3 := hI.n3
  refine g_iload_n rfl ?_
  refine g_iconst (v := 1) ik_1 ?_
  refine g_bipush (v := 9) bk_9 ?_
  refine g_callS (as := [_, _, _]) mk_X7_isWithin ml_X7_41 sm_X7_isWithin rfl rfl ⟨⟨nle rfl, nle rfl⟩, nle rfl, nle rfl⟩ rfl rfl (nle rfl) ?_
  refine ct_X7_isWithin ?_
  refine kq_s ?_
  refine g_callS (as := [_]) mk_X7_requireArgument ml_X7_45 sm_X7_requireArgument rfl rfl ⟨⟨nle rfl, nle rfl⟩, nle rfl, nle rfl⟩ rfl rfl (nle rfl) ?_
  refine ct_X7_requireArgument (fun hg => ?_) (fun hg => ?_)
  · refine kq_n ?_
    refine g_aload_n rfl ?_
    refine g_getR (w := (x + 78)) fl_X7_29 rfl hx.1 rfl ?_
    refine g_aload_n rfl ?_
    refine g_getR (w := (x + 4)) fl_X7_19 rfl hx.1 rfl ?_
    refine g_callV (as := [_]) mk_X2_remember ml_X7_254 im_X2_remember se_X2_remember rfl rfl ⟨⟨nle rfl, nle rfl⟩, nle rfl, nle rfl⟩ hx.2.2.2.2.1.1 rfl rfl rfl (nle rfl) ?_
    refine ct_X2_remember hx.2.2.2.2.1 hx.2.2.1 (by omega) hH ⟨nf, nt, nc, nd, hr, hI, h9⟩ (fun M1 hH1 hF1 => ?_)
    have hS1 : SR B M1 (x + 4) s := ⟨nf, nt, nc, nd, hr.fr bf bt bc bn (fun r a b => hF1 r (by omega)), hI⟩
    refine kq_n ?_
    refine g_aload_n rfl ?_
    refine g_getR (w := (x + 4)) fl_X7_19 rfl hx.1 rfl ?_
    refine g_iload_n rfl ?_
    refine g_callV (as := [_]) mk_X4_passWeeks ml_X7_299 im_X4_passWeeks se_X4_passWeeks rfl rfl ⟨⟨nle rfl, nle rfl⟩, nle rfl, nle rfl⟩ hx.2.2.1.s0 rfl rfl rfl (nle rfl) ?_
    obtain ⟨k, k1, k2, k3⟩ := in_rng (lo := 1) (hi := 9) (by omega) (by omega) rfl rfl hg
    refine k_passWeeks hx.2.2.1 hS1 k k3 (by omega) (fun u M2 hu eu hS2 hF2 => ?_)
    refine kq_s ?_
    refine g_iret rfl (nle rfl) (nle rfl) ?_
    have s9 : wkC k s 9 = s 9 := wk_9 k
    obtain ⟨f1, f2, f3⟩ := act_fin hH1 hF1 hS2 hF2 (by rw [s9]; exact h9) (by omega)
    exact qeq (hY hg k k1 k2 k3 M2 f1 f2 f3) (by rw [eu]; grind) rfl
  · exact hE1 hg
set_option maxRecDepth 100000 in
set_option maxHeartbeats 4000000 in
theorem ct_X7_leave {X : Xs} {κ : Kp} {M : Mem} {Q : Rs → Kp → Mem → Prop} {x : Nat} (hx : IsDF κ.2.1 x) {B : Nat} {s : Nat → Int32} (hS : SF B M (x + 4) s) {cnt : Nat} {blk : Nat → Nat → Int32} (hH : HisOK B M (x + 78) cnt blk) {d k : Int32} (hE1 : gSe s d k = false → False) (hE2 : gSe s d k = true → gLe s d k = false → False) (hY : gSe s d k = true → gLe s d k = true → ∀ M', SF (B) M' (x + 4) (leS s d (tn k)) → HisOK (B) M' (x + 78) (remC cnt) (remB cnt s blk) → FrA M M' x → Q (.inl (some (.int (bitsI (leS s d (tn k) (39 + 9 * tn k + 8)))))) κ M') : Ct X m_X7_leave [.ref x, .int d, .int k] κ M Q := by
  refine ct_of B_X7_leave_0 pn_X7 rfl (nle rfl) L_X7_leave_0 ?_
  obtain ⟨nf, nt, nc, nd, hr, hI, h9⟩ := hS
  have bf := hI.lf
  have bt := hI.lt
  have bc := hI.lc
  have bn := hI.ld
  have n0 := hI.n0
  have n1 := hI.n1
  have n2 := hI.n2
  have n3 := hI.n3
  refine g_aload_n rfl ?_
  refine g_getR (w := (x + 4)) fl_X7_19 rfl hx.1 rfl ?_
  refine g_iload_n rfl ?_
  refine g_callV (as := [_]) mk_X4_hasDancer ml_X7_223 im_X4_hasDancer se_X4_hasDancer rfl rfl ⟨⟨nle rfl, nle rfl⟩, nle rfl, nle rfl⟩ hx.2.2.1.s0 rfl rfl rfl (nle rfl) ?_
  refine ct_X4_hasDancer hx.2.2.1 ?_
  rw [← isD_has hr hI]
  refine kq_s ?_
  refine g_callS (as := [_]) mk_X7_requireIndex ml_X7_139 sm_X7_requireIndex rfl rfl ⟨⟨nle rfl, nle rfl⟩, nle rfl, nle rfl⟩ rfl rfl (nle rfl) ?_
  refine ct_X7_requireIndex (fun hqd => ?_) (fun hqd => ?_)
  · refine kq_n ?_
    refine g_aload_n rfl ?_
    refine g_getR (w := (x + 4)) fl_X7_19 rfl hx.1 rfl ?_
    refine g_iload_n rfl ?_
    refine g_callV (as := [_]) mk_X4_hasLesson ml_X7_185 im_X4_hasLesson se_X4_hasLesson rfl rfl ⟨⟨nle rfl, nle rfl⟩, nle rfl, nle rfl⟩ hx.2.2.1.s0 rfl rfl rfl (nle rfl) ?_
    refine ct_X4_hasLesson hx.2.2.1 ?_
    rw [← isC_has hr hI]
    refine kq_s ?_
    refine g_callS (as := [_]) mk_X7_requireIndex ml_X7_139 sm_X7_requireIndex rfl rfl ⟨⟨nle rfl, nle rfl⟩, nle rfl, nle rfl⟩ rfl rfl (nle rfl) ?_
    refine ct_X7_requireIndex (fun hqk => ?_) (fun hqk => ?_)
    · refine kq_n ?_
      refine g_aload_n rfl ?_
      refine g_getR (w := (x + 4)) fl_X7_19 rfl hx.1 rfl ?_
      refine g_iload_n rfl ?_
      refine g_iload_n rfl ?_
      refine g_callV (as := [_, _]) mk_X4_hasSeat ml_X7_292 im_X4_hasSeat se_X4_hasSeat rfl rfl ⟨⟨nle rfl, nle rfl⟩, nle rfl, nle rfl⟩ hx.2.2.1.s0 rfl rfl rfl (nle rfl) ?_
      refine ct_X4_hasSeat hx.2.2.1 (hr.c7 hI) bc ?_
      rw [le_has hr hI]
      refine kq_s ?_
      refine g_callS (as := [_]) mk_X7_requireState ml_X7_53 sm_X7_requireState rfl rfl ⟨⟨nle rfl, nle rfl⟩, nle rfl, nle rfl⟩ rfl rfl (nle rfl) ?_
      refine ct_X7_requireState (fun hg => ?_) (fun hg => ?_)
      · refine kq_n ?_
        refine g_aload_n rfl ?_
        refine g_getR (w := (x + 78)) fl_X7_29 rfl hx.1 rfl ?_
        refine g_aload_n rfl ?_
        refine g_getR (w := (x + 4)) fl_X7_19 rfl hx.1 rfl ?_
        refine g_callV (as := [_]) mk_X2_remember ml_X7_254 im_X2_remember se_X2_remember rfl rfl ⟨⟨nle rfl, nle rfl⟩, nle rfl, nle rfl⟩ hx.2.2.2.2.1.1 rfl rfl rfl (nle rfl) ?_
        refine ct_X2_remember hx.2.2.2.2.1 hx.2.2.1 (by omega) hH ⟨nf, nt, nc, nd, hr, hI, h9⟩ (fun M1 hH1 hF1 => ?_)
        have hS1 : SR B M1 (x + 4) s := ⟨nf, nt, nc, nd, hr.fr bf bt bc bn (fun r a b => hF1 r (by omega)), hI⟩
        refine kq_n ?_
        refine g_aload_n rfl ?_
        refine g_getR (w := (x + 4)) fl_X7_19 rfl hx.1 rfl ?_
        refine g_iload_n rfl ?_
        refine g_iload_n rfl ?_
        refine g_callV (as := [_, _]) mk_X4_giveUpSeat ml_X7_296 im_X4_giveUpSeat se_X4_giveUpSeat rfl rfl ⟨⟨nle rfl, nle rfl⟩, nle rfl, nle rfl⟩ hx.2.2.1.s0 rfl rfl rfl (nle rfl) ?_
        refine k_giveUpSeat hx.2.2.1 hS1 (fun hgf => ?_) (fun hgf M2 hS2 hF2 => ?_)
        · rw [hg] at hgf
          cases hgf
        · refine kq_s ?_
          refine g_iret rfl (nle rfl) (nle rfl) ?_
          have s9 : leS s d (tn k) 9 = s 9 := by unfold leS; simp (disch := omega) only [upd_ne]
          obtain ⟨f1, f2, f3⟩ := act_fin hH1 hF1 hS2 hF2 (by rw [s9]; exact h9) (Nat.le_refl _)
          exact hY (by unfold gSe; rw [hqd, hqk]; rfl) hg M2 f1 f2 f3
      · exact hE2 (by unfold gSe; rw [hqd, hqk]; rfl) hg
    · exact hE1 (by unfold gSe; rw [hqd, hqk]; rfl)
  · exact hE1 (by unfold gSe; rw [hqd]; rfl)
set_option maxRecDepth 100000 in
set_option maxHeartbeats 4000000 in
theorem ct_X7_enter {X : Xs} {κ : Kp} {M : Mem} {Q : Rs → Kp → Mem → Prop} {x : Nat} (hx : IsDF κ.2.1 x) {B : Nat} {s : Nat → Int32} (hS : SF B M (x + 4) s) {cnt : Nat} {blk : Nat → Nat → Int32} (hH : HisOK B M (x + 78) cnt blk) {d k : Int32} (hE1 : gSe s d k = false → False) (hY : gSe s d k = true → ∀ M', SF (B) M' (x + 4) (tsT s d k) → HisOK (B) M' (x + 78) (remC cnt) (remB cnt s blk) → FrA M M' x → Q (.inl (some (.int (wSe s d k)))) κ M') : Ct X m_X7_enter [.ref x, .int d, .int k] κ M Q := by
  refine ct_of B_X7_enter_0 pn_X7 rfl (nle rfl) L_X7_enter_0 ?_
  obtain ⟨nf, nt, nc, nd, hr, hI, h9⟩ := hS
  have bf := hI.lf
  have bt := hI.lt
  have bc := hI.lc
  have bn := hI.ld
  have n0 := hI.n0
  have n1 := hI.n1
  have n2 := hI.n2
  have n3 := hI.n3
  refine g_aload_n rfl ?_
  refine g_getR (w := (x + 4)) fl_X7_19 rfl hx.1 rfl ?_
  refine g_iload_n rfl ?_
  refine g_callV (as := [_]) mk_X4_hasDancer ml_X7_223 im_X4_hasDancer se_X4_hasDancer rfl rfl ⟨⟨nle rfl, nle rfl⟩, nle rfl, nle rfl⟩ hx.2.2.1.s0 rfl rfl rfl (nle rfl) ?_
  refine ct_X4_hasDancer hx.2.2.1 ?_
  rw [← isD_has hr hI]
  refine kq_s ?_
  refine g_callS (as := [_]) mk_X7_requireIndex ml_X7_139 sm_X7_requireIndex rfl rfl ⟨⟨nle rfl, nle rfl⟩, nle rfl, nle rfl⟩ rfl rfl (nle rfl) ?_
  refine ct_X7_requireIndex (fun hqd => ?_) (fun hqd => ?_)
  · refine kq_n ?_
    refine g_aload_n rfl ?_
    refine g_getR (w := (x + 4)) fl_X7_19 rfl hx.1 rfl ?_
    refine g_iload_n rfl ?_
    refine g_callV (as := [_]) mk_X4_hasLesson ml_X7_185 im_X4_hasLesson se_X4_hasLesson rfl rfl ⟨⟨nle rfl, nle rfl⟩, nle rfl, nle rfl⟩ hx.2.2.1.s0 rfl rfl rfl (nle rfl) ?_
    refine ct_X4_hasLesson hx.2.2.1 ?_
    rw [← isC_has hr hI]
    refine kq_s ?_
    refine g_callS (as := [_]) mk_X7_requireIndex ml_X7_139 sm_X7_requireIndex rfl rfl ⟨⟨nle rfl, nle rfl⟩, nle rfl, nle rfl⟩ rfl rfl (nle rfl) ?_
    refine ct_X7_requireIndex (fun hqk => ?_) (fun hqk => ?_)
    · refine kq_n ?_
      refine g_aload_n rfl ?_
      refine g_getR (w := (x + 78)) fl_X7_29 rfl hx.1 rfl ?_
      refine g_aload_n rfl ?_
      refine g_getR (w := (x + 4)) fl_X7_19 rfl hx.1 rfl ?_
      refine g_callV (as := [_]) mk_X2_remember ml_X7_254 im_X2_remember se_X2_remember rfl rfl ⟨⟨nle rfl, nle rfl⟩, nle rfl, nle rfl⟩ hx.2.2.2.2.1.1 rfl rfl rfl (nle rfl) ?_
      refine ct_X2_remember hx.2.2.2.2.1 hx.2.2.1 (by omega) hH ⟨nf, nt, nc, nd, hr, hI, h9⟩ (fun M1 hH1 hF1 => ?_)
      have hS1 : SR B M1 (x + 4) s := ⟨nf, nt, nc, nd, hr.fr bf bt bc bn (fun r a b => hF1 r (by omega)), hI⟩
      refine kq_n ?_
      refine g_aload_n rfl ?_
      refine g_getR (w := (x + 4)) fl_X7_19 rfl hx.1 rfl ?_
      refine g_aload_n rfl ?_
      refine g_getR (w := (x + 4)) fl_X7_19 rfl hx.1 rfl ?_
      refine g_iload_n rfl ?_
      refine g_iload_n rfl ?_
      refine g_callV (as := [_, _]) mk_X4_takeSeat ml_X7_289 im_X4_takeSeat se_X4_takeSeat rfl rfl ⟨⟨nle rfl, nle rfl⟩, nle rfl, nle rfl⟩ hx.2.2.1.s0 rfl rfl rfl (nle rfl) ?_
      have hg : gSe s d k = true := by unfold gSe; rw [hqd, hqk]; rfl
      refine k_takeSeat hx.2.2.1 hS1 (fun hgf => ?_) (fun hgf hw => ?_) (fun hgf hw M2 hS2 hF2 => ?_)
      · rw [hg] at hgf
        cases hgf
      · refine kq_s ?_
        refine g_callV (as := [_]) mk_X4_countRefusal ml_X7_274 im_X4_countRefusal se_X4_countRefusal rfl rfl ⟨⟨nle rfl, nle rfl⟩, nle rfl, nle rfl⟩ hx.2.2.1.s0 rfl rfl rfl (nle rfl) ?_
        refine ct_X4_countRefusal hx.2.2.1 (fun z => absurd z hw) (fun _ => ?_)
        refine kq_s ?_
        refine g_iret rfl (nle rfl) (nle rfl) ?_
        obtain ⟨f1, f2, f3⟩ := act_ref hH1 hF1 hS1 h9
        have e : tsT s d k = upd s 9 (s 9 + 1) := if_neg hw
        exact hY hg _ (by rw [e]; exact f1) f2 f3
      · refine kq_s ?_
        refine g_callV (as := [_]) mk_X4_countRefusal ml_X7_274 im_X4_countRefusal se_X4_countRefusal rfl rfl ⟨⟨nle rfl, nle rfl⟩, nle rfl, nle rfl⟩ hx.2.2.1.s0 rfl rfl rfl (nle rfl) ?_
        refine ct_X4_countRefusal hx.2.2.1 (fun _ => ?_) (fun z => absurd rfl z)
        refine kq_s ?_
        refine g_iret rfl (nle rfl) (nle rfl) ?_
        have s9 : enS s d (tn k) 9 = s 9 := by unfold enS; simp (disch := omega) only [upd_ne]
        obtain ⟨f1, f2, f3⟩ := act_fin hH1 hF1 hS2 hF2 (by rw [s9]; exact h9) (Nat.le_refl _)
        have e : tsT s d k = enS s d (tn k) := if_pos hw
        exact qeq (hY hg M2 (by rw [e]; exact f1) f2 f3) hw.symm rfl
    · exact hE1 (by unfold gSe; rw [hqd, hqk]; rfl)
  · exact hE1 (by unfold gSe; rw [hqd]; rfl)
set_option maxRecDepth 100000 in
set_option maxHeartbeats 4000000 in
theorem ct_X7_set {X : Xs} {κ : Kp} {M : Mem} {Q : Rs → Kp → Mem → Prop} {x : Nat} (hx : IsDF κ.2.1 x) {B : Nat} {s : Nat → Int32} (hS : SF B M (x + 4) s) {cnt : Nat} {blk : Nat → Nat → Int32} (hH : HisOK B M (x + 78) cnt blk) {st lv f t dy hr_ : Int32} (hE1 : (isF s f && isT s t) = false → False) (hE2 : (isF s f && isT s t) = true → isTm st lv dy hr_ = false → False) (hE3 : (isF s f && isT s t) = true → isTm st lv dy hr_ = true → decide (s 2 < 10) = false → False) (hY : (isF s f && isT s t) = true → isTm st lv dy hr_ = true → decide (s 2 < 10) = true → ∀ M', SF (B) M' (x + 4) (tcT s st lv f t dy hr_) → HisOK (B) M' (x + 78) (remC cnt) (remB cnt s blk) → FrA M M' x → Q (.inl (some (.int (wCl s st lv f t dy hr_)))) κ M') : Ct X m_X7_set [.ref x, .int st, .int lv, .int f, .int t, .int dy, .int hr_] κ M Q := by
  refine ct_of B_X7_set_0 pn_X7 rfl (nle rfl) L_X7_set_0 ?_
  obtain ⟨nf, nt, nc, nd, hr, hI, h9⟩ := hS
  have bf := hI.lf
  have bt := hI.lt
  have bc := hI.lc
  have bn := hI.ld
  have n0 := hI.n0
  have n1 := hI.n1
  have n2 := hI.n2
  have n3 := hI.n3
  refine g_aload_n rfl ?_
  refine g_getR (w := (x + 4)) fl_X7_19 rfl hx.1 rfl ?_
  refine g_iload_n rfl ?_
  refine g_callV (as := [_]) mk_X4_hasFloor ml_X7_135 im_X4_hasFloor se_X4_hasFloor rfl rfl ⟨⟨nle rfl, nle rfl⟩, nle rfl, nle rfl⟩ hx.2.2.1.s0 rfl rfl rfl (nle rfl) ?_
  refine ct_X4_hasFloor hx.2.2.1 ?_
  rw [← isF_has hr hI]
  refine kq_s ?_
  refine g_callS (as := [_]) mk_X7_requireIndex ml_X7_139 sm_X7_requireIndex rfl rfl ⟨⟨nle rfl, nle rfl⟩, nle rfl, nle rfl⟩ rfl rfl (nle rfl) ?_
  refine ct_X7_requireIndex (fun hqf => ?_) (fun hqf => ?_)
  · refine kq_n ?_
    refine g_aload_n rfl ?_
    refine g_getR (w := (x + 4)) fl_X7_19 rfl hx.1 rfl ?_
    refine g_iload rfl ?_
    refine g_callV (as := [_]) mk_X4_hasTeacher ml_X7_164 im_X4_hasTeacher se_X4_hasTeacher rfl rfl ⟨⟨nle rfl, nle rfl⟩, nle rfl, nle rfl⟩ hx.2.2.1.s0 rfl rfl rfl (nle rfl) ?_
    refine ct_X4_hasTeacher hx.2.2.1 ?_
    rw [← isT_has hr hI]
    refine kq_s ?_
    refine g_callS (as := [_]) mk_X7_requireIndex ml_X7_139 sm_X7_requireIndex rfl rfl ⟨⟨nle rfl, nle rfl⟩, nle rfl, nle rfl⟩ rfl rfl (nle rfl) ?_
    refine ct_X7_requireIndex (fun hqt => ?_) (fun hqt => ?_)
    · refine kq_n ?_
      refine g_iload_n rfl ?_
      refine g_iload_n rfl ?_
      refine g_iload rfl ?_
      refine g_iload rfl ?_
      refine g_callS (as := [_, _, _, _]) mk_X7_requireLessonArguments ml_X7_266 sm_X7_requireLessonArguments rfl rfl ⟨⟨nle rfl, nle rfl⟩, nle rfl, nle rfl⟩ rfl rfl (nle rfl) ?_
      refine ct_X7_requireLessonArguments (fun hqa => ?_) (fun hqa => ?_)
      · refine kq_n ?_
        refine g_aload_n rfl ?_
        refine g_getR (w := (x + 4)) fl_X7_19 rfl hx.1 rfl ?_
        refine g_getI fl_X7_98 rfl hx.2.2.1.s0 rfl ?_
        rw [hr.1.2.2.1]
        refine g_bipush (v := 10) bk_10 ?_
        refine g_icmp_ge rfl L_X7_set_48 (fun h_1 => ?_) (fun h_1 => ?_)
        · have h10 : decide (s 2 < 10) = false := decide_eq_false (Int32.not_lt.mpr h_1)
          refine g_iconst (v := 0) ik_0 ?_
          refine g_fall rfl L_X7_set_49 ?_
          refine g_callS (as := [_]) mk_X7_requireState ml_X7_53 sm_X7_requireState rfl rfl ⟨⟨nle rfl, nle rfl⟩, nle rfl, nle rfl⟩ rfl rfl (nle rfl) ?_
          refine ct_X7_requireState (b := false) (fun qs => by cases qs) (fun qs => ?_)
          · exact hE3 (by rw [hqf, hqt]; rfl) hqa h10
        · have h10 : decide (s 2 < 10) = true := decide_eq_true (Int32.not_le.mp h_1)
          have hg : gCl s f t = true := by unfold gCl; rw [h10, hqf, hqt]; rfl
          have hdy : bd 0 5 dy := by
            unfold isTm at hqa
            rw [Bool.and_eq_true, Bool.and_eq_true, Bool.and_eq_true] at hqa
            exact in_rng (by omega) (by omega) rfl rfl hqa.2.2.1
          refine g_iconst (v := 1) ik_1 ?_
          refine g_goto rfl L_X7_set_49 ?_
          refine g_callS (as := [_]) mk_X7_requireState ml_X7_53 sm_X7_requireState rfl rfl ⟨⟨nle rfl, nle rfl⟩, nle rfl, nle rfl⟩ rfl rfl (nle rfl) ?_
          refine ct_X7_requireState (b := true) (fun qs => ?_) (fun qs => by cases qs)
          refine kq_n ?_
          refine g_aload_n rfl ?_
          refine g_getR (w := (x + 78)) fl_X7_29 rfl hx.1 rfl ?_
          refine g_aload_n rfl ?_
          refine g_getR (w := (x + 4)) fl_X7_19 rfl hx.1 rfl ?_
          refine g_callV (as := [_]) mk_X2_remember ml_X7_254 im_X2_remember se_X2_remember rfl rfl ⟨⟨nle rfl, nle rfl⟩, nle rfl, nle rfl⟩ hx.2.2.2.2.1.1 rfl rfl rfl (nle rfl) ?_
          refine ct_X2_remember hx.2.2.2.2.1 hx.2.2.1 (by omega) hH ⟨nf, nt, nc, nd, hr, hI, h9⟩ (fun M1 hH1 hF1 => ?_)
          have hS1 : SR B M1 (x + 4) s := ⟨nf, nt, nc, nd, hr.fr bf bt bc bn (fun r a b => hF1 r (by omega)), hI⟩
          refine kq_n ?_
          refine g_aload_n rfl ?_
          refine g_getR (w := (x + 4)) fl_X7_19 rfl hx.1 rfl ?_
          refine g_aload_n rfl ?_
          refine g_getR (w := (x + 4)) fl_X7_19 rfl hx.1 rfl ?_
          refine g_iload_n rfl ?_
          refine g_iload_n rfl ?_
          refine g_iload_n rfl ?_
          refine g_iload rfl ?_
          refine g_iload rfl ?_
          refine g_iload rfl ?_
          refine g_callV (as := [_, _, _, _, _, _]) mk_X4_addLesson ml_X7_270 im_X4_addLesson se_X4_addLesson rfl rfl ⟨⟨nle rfl, nle rfl⟩, nle rfl, nle rfl⟩ hx.2.2.1.s0 rfl rfl rfl (nle rfl) ?_
          refine k_addLesson hx.2.2.1 hS1 hdy (fun hgf => ?_) (fun hgf hw => ?_) (fun hgf hw M2 hS2 hF2 => ?_)
          · rw [hg] at hgf
            cases hgf
          · refine kq_s ?_
            refine g_callV (as := [_]) mk_X4_countRefusal ml_X7_274 im_X4_countRefusal se_X4_countRefusal rfl rfl ⟨⟨nle rfl, nle rfl⟩, nle rfl, nle rfl⟩ hx.2.2.1.s0 rfl rfl rfl (nle rfl) ?_
            refine ct_X4_countRefusal hx.2.2.1 (fun z => absurd z hw) (fun _ => ?_)
            refine kq_s ?_
            refine g_iret rfl (nle rfl) (nle rfl) ?_
            obtain ⟨f1, f2, f3⟩ := act_ref hH1 hF1 hS1 h9
            have e : tcT s st lv f t dy hr_ = upd s 9 (s 9 + 1) := if_neg hw
            exact hY (by rw [hqf, hqt]; rfl) hqa h10 _ (by rw [e]; exact f1) f2 f3
          · refine kq_s ?_
            refine g_callV (as := [_]) mk_X4_countRefusal ml_X7_274 im_X4_countRefusal se_X4_countRefusal rfl rfl ⟨⟨nle rfl, nle rfl⟩, nle rfl, nle rfl⟩ hx.2.2.1.s0 rfl rfl rfl (nle rfl) ?_
            refine ct_X4_countRefusal hx.2.2.1 (fun _ => ?_) (fun z => absurd rfl z)
            refine kq_s ?_
            refine g_iret rfl (nle rfl) (nle rfl) ?_
            have s9 : clS s (cN s 2) st lv f t dy hr_ 9 = s 9 := by unfold clS; simp (disch := omega) only [upd_ne]
            obtain ⟨f1, f2, f3⟩ := act_fin hH1 hF1 hS2 hF2 (by rw [s9]; exact h9) (Nat.le_refl _)
            have e : tcT s st lv f t dy hr_ = clS s (cN s 2) st lv f t dy hr_ := if_pos hw
            exact qeq (hY (by rw [hqf, hqt]; rfl) hqa h10 M2 (by rw [e]; exact f1) f2 f3) hw.symm rfl
      · exact hE2 (by rw [hqf, hqt]; rfl) hqa
    · exact hE1 (by rw [hqf, hqt]; rfl)
  · exact hE1 (by rw [hqf]; rfl)
