set_option maxRecDepth 100000 in
set_option maxHeartbeats 4000000 in
theorem ct_X4_takeSeat {X : Xs} {κ : Kp} {M : Mem} {Q : Rs → Kp → Mem → Prop} {o : Nat} (ho : IsStu κ.2.1 o) {B nf nt nc nd : Nat} {s : Nat → Int32} (hr : RepS M o nf nt nc nd s) (hI : Inv B nf nt nc nd s) {dI kI : Int32} (hN : ¬ (isX dI nd ∧ isX kI nc) → Q (.inl (some (.int (-1)))) κ M) (hW : ∀ d k f : Nat, d < nd → k < nc → f < nf → dI = nI d → kI = nI k → s (39 + 9 * k + 2) = nI f → ¬ whyS s nc d k f = 0 → Q (.inl (some (.int (whyS s nc d k f)))) κ M) (hD : ∀ d k f : Nat, d < nd → k < nc → f < nf → dI = nI d → kI = nI k → s (39 + 9 * k + 2) = nI f → whyS s nc d k f = 0 → ∀ M', RepS M' o nf nt nc nd (enS s dI k) → FrS M M' o → Q (.inl (some (.int (0)))) κ M') : Ct X m_X4_takeSeat [.ref o, .int dI, .int kI] κ M Q := by
  refine ct_of B_X4_takeSeat_0 pn_X4 rfl (nle rfl) L_X4_takeSeat_0 ?_
  have bf := hI.lf
  have bt := hI.lt
  have bc := hI.lc
  have bn := hI.ld
  refine g_aload_n rfl ?_
  refine g_iload_n rfl ?_
  refine g_callV (as := [_]) mk_X4_hasDancer ml_X4_91 im_X4_hasDancer se_X4_hasDancer rfl rfl ⟨⟨nle rfl, nle rfl⟩, nle rfl, nle rfl⟩ ho.s0 rfl rfl rfl (nle rfl) ?_
  refine ct_X4_hasDancer ho ?_
  refine kq_s ?_
  refine g_if_eq_b rfl L_X4_takeSeat_16 (fun h_1 => ?_) (fun h_1 => ?_)
  · rw [hr.c8 hI] at h_1
    have hno_d := has_no (by omega) h_1
    refine g_iconst (v := -1) ik_m1 ?_
    refine g_iret rfl (nle rfl) (nle rfl) ?_
    exact hN (by first | exact fun q => hno_d q.1 | exact fun q => hno_k q.2)
  · rw [hr.c8 hI] at h_1
    obtain ⟨d, hd, ed⟩ := hasB_of (by omega) h_1
    subst ed
    refine g_aload_n rfl ?_
    refine g_iload_n rfl ?_
    refine g_callV (as := [_]) mk_X4_hasLesson ml_X4_95 im_X4_hasLesson se_X4_hasLesson rfl rfl ⟨⟨nle rfl, nle rfl⟩, nle rfl, nle rfl⟩ ho.s0 rfl rfl rfl (nle rfl) ?_
    refine ct_X4_hasLesson ho ?_
    refine kq_s ?_
    refine g_if_ne_b rfl L_X4_takeSeat_18 (fun h_2 => ?_) (fun h_2 => ?_)
    · rw [hr.c7 hI] at h_2
      obtain ⟨k, hk, ek⟩ := hasB_of (by omega) h_2
      subst ek
      refine g_aload_n rfl ?_
      refine g_iload_n rfl ?_
      refine g_iload_n rfl ?_
      refine g_callV (as := [_, _]) mk_X4_reasonAgainstSeat ml_X4_173 im_X4_reasonAgainstSeat se_X4_reasonAgainstSeat rfl rfl ⟨⟨nle rfl, nle rfl⟩, nle rfl, nle rfl⟩ ho.s0 rfl rfl rfl (nle rfl) ?_
      obtain ⟨f, hf, ef⟩ := (hI.cl hk).1
      have ef2 : M (o + 13 + k) 2 = nI f := (hr.2.2.2.1 k hk).2.2.1.trans ef
      refine ct_X4_reasonAgainstSeat ho (hr.c7 hI) bc d k f rfl rfl (by omega) (by omega) ef2 (by omega) ?_
      rw [whyD_eq hr hI hd hk hf]
      refine kq_s ?_
      refine g_istore_n (nle rfl) ?_
      refine g_iload_n rfl ?_
      refine g_if_ne rfl L_X4_takeSeat_46 (fun h_3 => ?_) (fun h_3 => ?_)
      · refine g_iload_n rfl ?_
        refine g_iret rfl (nle rfl) (nle rfl) ?_
        exact hW d k f hd hk hf rfl rfl ef (by assumption)
      · have hz := h_3
        refine g_aload_n rfl ?_
        refine g_getR (w := (o + 12)) fl_X4_27 rfl ho.s0 rfl ?_
        refine g_iload_n rfl ?_
        refine g_aaload (j := k) (w := (o + 13 + k)) ho.la (nle rfl) rfl (by omega) (nle rfl) (rcs_get (by omega)) ?_
        refine g_dup rfl ?_
        refine g_getI fl_X4_157 rfl (ho.li (by omega)) rfl ?_
        refine g_iconst (v := 1) ik_1 ?_
        refine g_iload_n rfl ?_
        refine g_ishl ?_
        refine g_ior ?_
        refine g_putI pl_X4_157 rfl (ho.li (by omega)) rfl rfl rfl ?_
        refine g_fall rfl L_X4_takeSeat_46 ?_
        refine g_iload_n rfl ?_
        refine g_iret rfl (nle rfl) (nle rfl) ?_
        refine qeq (hD d k f hd hk hf rfl rfl ef hz _ ?_ ?_) hz rfl
        · clear hN hW hD
          obtain ⟨⟨a1, a2, a3, a4, a5, a6, a7, a8, a9, a10⟩, hf2, ht2, hk2, hd2⟩ := hr
          refine ⟨?_, fun f' hf' => ?_, fun t' ht' => ?_, fun k' hk' => ?_, fun d' hd' => ?_⟩
          · simp (disch := omega) only [upM_s, upM_o, upM_j, enS, upd_ne, upd_same, nI_1, a1, a2, a3, a4, a5, a6, a7, a8, a9, a10, and_self]
          · simp (disch := omega) only [upM_s, upM_o, upM_j, enS, upd_ne, upd_same]; exact hf2 f' (by omega)
          · simp (disch := omega) only [upM_s, upM_o, upM_j, enS, upd_ne, upd_same]; exact ht2 t' (by omega)
          · by_cases e : k' = k
            · subst e
              simp (disch := omega) only [upM_s, upM_o, upM_j, enS, upd_ne, upd_same]
              obtain ⟨k0, k1, k2, k3, k4, k5, k6, k7, k8⟩ := hk2 k' (by omega)
              exact ⟨k0, k1, k2, k3, k4, k5, by rw [k6, seat_on (by omega) (whyS_bit hz)], k7, k8⟩
            · simp (disch := omega) only [upM_s, upM_o, upM_j, enS, upd_ne, upd_same]; exact hk2 k' (by omega)
          · simp (disch := omega) only [upM_s, upM_o, upM_j, enS, upd_ne, upd_same]; exact hd2 d' (by omega)
        · clear hN hW hD
          exact ⟨fun r hr' => by funext j; simp (disch := omega) only [upM_o], by simp (disch := omega) only [upM_s, upM_o, upM_j]⟩
    · rw [hr.c7 hI] at h_2
      have hno_k := has_no (by omega) h_2
      refine g_fall rfl L_X4_takeSeat_16 ?_
      refine g_iconst (v := -1) ik_m1 ?_
      refine g_iret rfl (nle rfl) (nle rfl) ?_
      exact hN (by first | exact fun q => hno_d q.1 | exact fun q => hno_k q.2)
def seatX (s : Nat → Int32) (nc nd : Nat) (dI kI : Int32) : Prop := ∃ d k : Nat, d < nd ∧ k < nc ∧ dI = nI d ∧ kI = nI k ∧ bitS (s (39 + 9 * k + 8)) (nI d) = true
theorem seat_of {M : Mem} {o B nf nt nc nd : Nat} {s : Nat → Int32} (hr : RepS M o nf nt nc nd s) (hI : Inv B nf nt nc nd s) {dI kI : Int32} : ((hasB dI (M o 8) && (hasB kI (M o 7) && bitS (M (o + 13 + tn kI) 6) dI)) = true ↔ seatX s nc nd dI kI) := by
  have bn := hI.ld
  have bc := hI.lc
  rw [hr.c8 hI, hr.c7 hI]
  constructor
  · intro h
    rw [Bool.and_eq_true, Bool.and_eq_true] at h
    obtain ⟨d, hd, rfl⟩ := hasB_of (by omega) h.1
    obtain ⟨k, hk, rfl⟩ := hasB_of (by omega) h.2.1
    refine ⟨d, k, hd, hk, rfl, rfl, ?_⟩
    have h3 := h.2.2
    rw [tn_nI (by omega), (hr.2.2.2.1 k hk).2.2.2.2.2.2.1] at h3
    exact h3
  · rintro ⟨d, k, hd, hk, rfl, rfl, hb⟩
    rw [hasB_yes (by omega) hd, hasB_yes (by omega) hk, tn_nI (by omega), (hr.2.2.2.1 k hk).2.2.2.2.2.2.1, hb]
    rfl
set_option maxRecDepth 100000 in
set_option maxHeartbeats 4000000 in
theorem ct_X4_giveUpSeat {X : Xs} {κ : Kp} {M : Mem} {Q : Rs → Kp → Mem → Prop} {o : Nat} (ho : IsStu κ.2.1 o) {B nf nt nc nd : Nat} {s : Nat → Int32} (hr : RepS M o nf nt nc nd s) (hI : Inv B nf nt nc nd s) {dI kI : Int32} (hN : ¬ seatX s nc nd dI kI → Q (.inl (some (.int (-1)))) κ M) (hD : ∀ d k : Nat, d < nd → k < nc → dI = nI d → kI = nI k → bitS (s (39 + 9 * k + 8)) (nI d) = true → ∀ M', RepS M' o nf nt nc nd (leS s dI k) → FrS M M' o → Q (.inl (some (.int (bitsI (leS s dI k (39 + 9 * k + 8)))))) κ M') : Ct X m_X4_giveUpSeat [.ref o, .int dI, .int kI] κ M Q := by
  refine ct_of B_X4_giveUpSeat_0 pn_X4 rfl (nle rfl) L_X4_giveUpSeat_0 ?_
  have bf := hI.lf
  have bt := hI.lt
  have bc := hI.lc
  have bn := hI.ld
  refine g_aload_n rfl ?_
  refine g_iload_n rfl ?_
  refine g_iload_n rfl ?_
  refine g_callV (as := [_, _]) mk_X4_hasSeat ml_X4_177 im_X4_hasSeat se_X4_hasSeat rfl rfl ⟨⟨nle rfl, nle rfl⟩, nle rfl, nle rfl⟩ ho.s0 rfl rfl rfl (nle rfl) ?_
  refine ct_X4_hasSeat ho (hr.c7 hI) bc ?_
  refine kq_s ?_
  refine g_if_ne_b rfl L_X4_giveUpSeat_11 (fun h_1 => ?_) (fun h_1 => ?_)
  · obtain ⟨d, k, hd, hk, rfl, rfl, hb⟩ := (seat_of hr hI).mp h_1
    refine g_aload_n rfl ?_
    refine g_getR (w := (o + 12)) fl_X4_27 rfl ho.s0 rfl ?_
    refine g_iload_n rfl ?_
    refine g_aaload (j := k) (w := (o + 13 + k)) ho.la (nle rfl) rfl (by omega) (nle rfl) (rcs_get (by omega)) ?_
    refine g_dup rfl ?_
    refine g_getI fl_X4_157 rfl (ho.li (by omega)) rfl ?_
    refine g_iconst (v := 1) ik_1 ?_
    refine g_iload_n rfl ?_
    refine g_ishl ?_
    refine g_iconst (v := -1) ik_m1 ?_
    refine g_ixor ?_
    refine g_iand ?_
    refine g_putI pl_X4_157 rfl (ho.li (by omega)) rfl rfl rfl ?_
    refine g_aload_n rfl ?_
    refine g_getR (w := (o + 12)) fl_X4_27 rfl ho.s0 rfl ?_
    refine g_iload_n rfl ?_
    refine g_aaload (j := k) (w := (o + 13 + k)) ho.la (nle rfl) rfl (by omega) (nle rfl) (rcs_get (by omega)) ?_
    refine g_callV (as := []) mk_X3_countSeats ml_X4_166 im_X3_countSeats se_X3_countSeats rfl rfl ⟨⟨nle rfl, nle rfl⟩, nle rfl, nle rfl⟩ (ho.li (by omega)) rfl rfl rfl (nle rfl) ?_
    refine ct_X3_countSeats (ho.li (by omega)) ?_
    refine kq_s ?_
    refine g_iret rfl (nle rfl) (nle rfl) ?_
    refine qeq (hD d k hd hk rfl rfl hb _ ?_ ?_) (by
      simp (disch := omega) only [upM_s]
      rw [(hr.2.2.2.1 k hk).2.2.2.2.2.2.1, seat_off (by omega) hb, bc_bd (off_bd (by omega) (hI.cl hk).2.2.2 hb)]
      simp only [leS, upd_same]) rfl
    · clear hN hD
      obtain ⟨⟨a1, a2, a3, a4, a5, a6, a7, a8, a9, a10⟩, hf2, ht2, hk2, hd2⟩ := hr
      refine ⟨?_, fun f' hf' => ?_, fun t' ht' => ?_, fun k' hk' => ?_, fun d' hd' => ?_⟩
      · simp (disch := omega) only [upM_s, upM_o, upM_j, leS, upd_ne, upd_same, nI_1, a1, a2, a3, a4, a5, a6, a7, a8, a9, a10, and_self]
      · simp (disch := omega) only [upM_s, upM_o, upM_j, leS, upd_ne, upd_same]; exact hf2 f' (by omega)
      · simp (disch := omega) only [upM_s, upM_o, upM_j, leS, upd_ne, upd_same]; exact ht2 t' (by omega)
      · by_cases e : k' = k
        · subst e
          simp (disch := omega) only [upM_s, upM_o, upM_j, leS, upd_ne, upd_same]
          obtain ⟨k0, k1, k2, k3, k4, k5, k6, k7, k8⟩ := hk2 k' (by omega)
          exact ⟨k0, k1, k2, k3, k4, k5, by rw [k6, seat_off (by omega) hb], k7, k8⟩
        · simp (disch := omega) only [upM_s, upM_o, upM_j, leS, upd_ne, upd_same]; exact hk2 k' (by omega)
      · simp (disch := omega) only [upM_s, upM_o, upM_j, leS, upd_ne, upd_same]; exact hd2 d' (by omega)
    · clear hN hD
      exact ⟨fun r hr' => by funext j; simp (disch := omega) only [upM_o], by simp (disch := omega) only [upM_s, upM_o, upM_j]⟩
  · have hno : ¬ seatX s nc nd dI kI := fun q => by rw [(seat_of hr hI).mpr q] at h_1; cases h_1
    refine g_iconst (v := -1) ik_m1 ?_
    refine g_iret rfl (nle rfl) (nle rfl) ?_
    exact hN hno
def passX (s : Nat → Int32) (nd : Nat) (dI : Int32) : Prop := ∃ d : Nat, d < nd ∧ dI = nI d ∧ s (129 + 5 * d + 2) < 90
theorem pass_of {M : Mem} {o B nf nt nc nd : Nat} {s : Nat → Int32} (hr : RepS M o nf nt nc nd s) (hI : Inv B nf nt nc nd s) {dI : Int32} : ((hasB dI (M o 8) && decide (M (o + 24 + tn dI) 2 < 90)) = true ↔ passX s nd dI) := by
  have bn := hI.ld
  rw [hr.c8 hI]
  constructor
  · intro h
    rw [Bool.and_eq_true] at h
    obtain ⟨d, hd, rfl⟩ := hasB_of (by omega) h.1
    refine ⟨d, hd, rfl, ?_⟩
    have h3 := of_decide_eq_true h.2
    rw [tn_nI (by omega), (hr.2.2.2.2 d hd).2.2.1] at h3
    exact h3
  · rintro ⟨d, hd, rfl, hb⟩
    rw [hasB_yes (by omega) hd, tn_nI (by omega), (hr.2.2.2.2 d hd).2.2.1, decide_eq_true hb]
    rfl
set_option maxRecDepth 100000 in
set_option maxHeartbeats 4000000 in
theorem ct_X4_givePass {X : Xs} {κ : Kp} {M : Mem} {Q : Rs → Kp → Mem → Prop} {o : Nat} (ho : IsStu κ.2.1 o) {B nf nt nc nd : Nat} {s : Nat → Int32} (hr : RepS M o nf nt nc nd s) (hI : Inv B nf nt nc nd s) {dI : Int32} (hN : ¬ passX s nd dI → Q (.inl (some (.int (-1)))) κ M) (hD : ∀ d : Nat, d < nd → dI = nI d → s (129 + 5 * d + 2) < 90 → ∀ M', RepS M' o nf nt nc nd (paS s d) → FrS M M' o → Q (.inl (some (.int (s (129 + 5 * d + 2) + 10)))) κ M') : Ct X m_X4_givePass [.ref o, .int dI] κ M Q := by
  refine ct_of B_X4_givePass_0 pn_X4 rfl (nle rfl) L_X4_givePass_0 ?_
  have bf := hI.lf
  have bt := hI.lt
  have bc := hI.lc
  have bn := hI.ld
  refine g_aload_n rfl ?_
  refine g_iload_n rfl ?_
  refine g_callV (as := [_]) mk_X4_mayHavePass ml_X4_170 im_X4_mayHavePass se_X4_mayHavePass rfl rfl ⟨⟨nle rfl, nle rfl⟩, nle rfl, nle rfl⟩ ho.s0 rfl rfl rfl (nle rfl) ?_
  refine ct_X4_mayHavePass ho (hr.c8 hI) bn ?_
  refine kq_s ?_
  refine g_if_ne_b rfl L_X4_givePass_10 (fun h_1 => ?_) (fun h_1 => ?_)
  · obtain ⟨d, hd, rfl, hb⟩ := (pass_of hr hI).mp h_1
    refine g_aload_n rfl ?_
    refine g_getR (w := (o + 23)) fl_X4_34 rfl ho.s0 rfl ?_
    refine g_iload_n rfl ?_
    refine g_aaload (j := d) (w := (o + 24 + d)) ho.da (nle rfl) rfl (by omega) (nle rfl) (rcs_get (by omega)) ?_
    refine g_dup rfl ?_
    refine g_getI fl_X4_128 rfl (ho.di (by omega)) rfl ?_
    refine g_iconst (v := 1) ik_1 ?_
    refine g_iadd ?_
    refine g_putI pl_X4_128 rfl (ho.di (by omega)) rfl rfl rfl ?_
    refine g_aload_n rfl ?_
    refine g_getR (w := (o + 23)) fl_X4_34 rfl ho.s0 rfl ?_
    refine g_iload_n rfl ?_
    refine g_aaload (j := d) (w := (o + 24 + d)) ho.da (nle rfl) rfl (by omega) (nle rfl) (rcs_get (by omega)) ?_
    refine g_dup rfl ?_
    refine g_getI fl_X4_101 rfl (ho.di (by omega)) rfl ?_
    refine g_bipush (v := 10) bk_10 ?_
    refine g_iadd ?_
    refine g_putI pl_X4_101 rfl (ho.di (by omega)) rfl rfl rfl ?_
    refine g_aload_n rfl ?_
    refine g_getR (w := (o + 23)) fl_X4_34 rfl ho.s0 rfl ?_
    refine g_iload_n rfl ?_
    refine g_aaload (j := d) (w := (o + 24 + d)) ho.da (nle rfl) rfl (by omega) (nle rfl) (rcs_get (by omega)) ?_
    refine g_getI fl_X4_101 rfl (ho.di (by omega)) rfl ?_
    refine g_iret rfl (nle rfl) (nle rfl) ?_
    refine qeq (hD d hd rfl hb _ ?_ ?_) (by
      simp (disch := omega) only [upM_s, upM_o, upM_j]
      rw [(hr.2.2.2.2 d hd).2.2.1]) rfl
    · clear hN hD
      obtain ⟨⟨a1, a2, a3, a4, a5, a6, a7, a8, a9, a10⟩, hf2, ht2, hk2, hd2⟩ := hr
      refine ⟨?_, fun f' hf' => ?_, fun t' ht' => ?_, fun k' hk' => ?_, fun d' hd' => ?_⟩
      · simp (disch := omega) only [upM_s, upM_o, upM_j, paS, upd_ne, upd_same, nI_1, a1, a2, a3, a4, a5, a6, a7, a8, a9, a10, and_self]
      · simp (disch := omega) only [upM_s, upM_o, upM_j, paS, upd_ne, upd_same]; exact hf2 f' (by omega)
      · simp (disch := omega) only [upM_s, upM_o, upM_j, paS, upd_ne, upd_same]; exact ht2 t' (by omega)
      · simp (disch := omega) only [upM_s, upM_o, upM_j, paS, upd_ne, upd_same]; exact hk2 k' (by omega)
      · by_cases e : d' = d
        · subst e
          simp (disch := omega) only [upM_s, upM_o, upM_j, paS, upd_ne, upd_same]
          obtain ⟨k0, k1, k2, k3⟩ := hd2 d' (by omega)
          exact ⟨k0, k1, by rw [k2], by rw [k3]⟩
        · simp (disch := omega) only [upM_s, upM_o, upM_j, paS, upd_ne, upd_same]; exact hd2 d' (by omega)
    · clear hN hD
      exact ⟨fun r hr' => by funext j; simp (disch := omega) only [upM_o], by simp (disch := omega) only [upM_s, upM_o, upM_j]⟩
  · have hno : ¬ passX s nd dI := fun q => by rw [(pass_of hr hI).mpr q] at h_1; cases h_1
    refine g_iconst (v := -1) ik_m1 ?_
    refine g_iret rfl (nle rfl) (nle rfl) ?_
    exact hN hno
set_option maxRecDepth 100000 in
set_option maxHeartbeats 4000000 in
theorem ct_X4_countRefusal {X : Xs} {κ : Kp} {M : Mem} {Q : Rs → Kp → Mem → Prop} {o : Nat} (ho : IsStu κ.2.1 o) {r : Int32} (h0 : r = 0 → Q (.inl (some (.int r))) κ M) (h1 : ¬ r = 0 → Q (.inl (some (.int r))) κ (upM M o 12 (M o 12 + 1))) : Ct X m_X4_countRefusal [.ref o, .int r] κ M Q := by
  refine ct_of B_X4_countRefusal_0 pn_X4 rfl (nle rfl) L_X4_countRefusal_0 ?_
  refine g_iload_n rfl ?_
  refine g_if_eq rfl L_X4_countRefusal_14 (fun h_1 => ?_) (fun h_1 => ?_)
  · refine g_iload_n rfl ?_
    refine g_iret rfl (nle rfl) (nle rfl) ?_
    first | exact h0 (by assumption) | exact h1 (by assumption)
  · refine g_aload_n rfl ?_
    refine g_dup rfl ?_
    refine g_getI fl_X4_68 rfl ho.s0 rfl ?_
    refine g_iconst (v := 1) ik_1 ?_
    refine g_iadd ?_
    refine g_putI pl_X4_68 rfl ho.s0 rfl rfl rfl ?_
    refine g_fall rfl L_X4_countRefusal_14 ?_
    refine g_iload_n rfl ?_
    refine g_iret rfl (nle rfl) (nle rfl) ?_
    first | exact h0 (by assumption) | exact h1 (by assumption)
theorem rep_new {M : Mem} {o : Nat} (s : Nat → Int32) (h : M o 5 = 0 ∧ M o 6 = 0 ∧ M o 7 = 0 ∧ M o 8 = 0 ∧ M o 9 = 0 ∧ M o 10 = 0 ∧ M o 11 = 0 ∧ M o 13 = 0 ∧ M (o + 36) 0 = 2 ∧ M (o + 36) 1 = 12) : RepS M o 0 0 0 0 (neS s) := by
  refine ⟨?_, fun f hf' => absurd hf' (by omega), fun k' hk' => absurd hk' (by omega), fun d hd' => absurd hd' (by omega), fun d hd' => absurd hd' (by omega)⟩
  obtain ⟨a1, a2, a3, a4, a5, a6, a7, a8, a9, a10⟩ := h
  rw [a1, a2, a3, a4, a5, a6, a7, a8, a9, a10]
  exact ⟨rfl, rfl, rfl, rfl, rfl, rfl, rfl, rfl, rfl, rfl⟩
set_option maxRecDepth 100000 in
set_option maxHeartbeats 4000000 in
theorem ct_X4_makeNew {X : Xs} {κ : Kp} {M : Mem} {Q : Rs → Kp → Mem → Prop} {o : Nat} (ho : IsStu κ.2.1 o)  (hD : ∀ M', (∀ s, RepS M' o 0 0 0 0 (neS s)) → M' o 12 = 0 → (∀ r, r < o ∨ o + 37 ≤ r → M' r = M r) → Q (.inl none) κ M') : Ct X m_X4_makeNew [.ref o] κ M Q := by
  refine ct_of B_X4_makeNew_0 pn_X4 rfl (nle rfl) L_X4_makeNew_0 ?_
  refine g_aload_n rfl ?_
  refine g_iconst (v := 0) ik_0 ?_
  refine g_putI pl_X4_46 rfl ho.s0 rfl rfl rfl ?_
  refine g_aload_n rfl ?_
  refine g_iconst (v := 0) ik_0 ?_
  refine g_putI pl_X4_50 rfl ho.s0 rfl rfl rfl ?_
  refine g_aload_n rfl ?_
  refine g_iconst (v := 0) ik_0 ?_
  refine g_putI pl_X4_53 rfl ho.s0 rfl rfl rfl ?_
  refine g_aload_n rfl ?_
  refine g_iconst (v := 0) ik_0 ?_
  refine g_putI pl_X4_56 rfl ho.s0 rfl rfl rfl ?_
  refine g_aload_n rfl ?_
  refine g_iconst (v := 0) ik_0 ?_
  refine g_putI pl_X4_59 rfl ho.s0 rfl rfl rfl ?_
  refine g_aload_n rfl ?_
  refine g_iconst (v := 0) ik_0 ?_
  refine g_putI pl_X4_62 rfl ho.s0 rfl rfl rfl ?_
  refine g_aload_n rfl ?_
  refine g_iconst (v := 0) ik_0 ?_
  refine g_putI pl_X4_65 rfl ho.s0 rfl rfl rfl ?_
  refine g_aload_n rfl ?_
  refine g_iconst (v := 0) ik_0 ?_
  refine g_putI pl_X4_68 rfl ho.s0 rfl rfl rfl ?_
  refine g_aload_n rfl ?_
  refine g_iconst (v := 0) ik_0 ?_
  refine g_putI pl_X4_71 rfl ho.s0 rfl rfl rfl ?_
  refine g_aload_n rfl ?_
  refine g_getR (w := (o + 36)) fl_X4_39 rfl ho.s0 rfl ?_
  refine g_iconst (v := 0) ik_0 ?_
  refine g_iconst (v := 2) ik_2 ?_
  refine g_iastore (j := 0) ho.se rfl (nle rfl) (nle rfl) ?_
  refine g_aload_n rfl ?_
  refine g_getR (w := (o + 36)) fl_X4_39 rfl ho.s0 rfl ?_
  refine g_iconst (v := 1) ik_1 ?_
  refine g_bipush (v := 12) bk_12 ?_
  refine g_iastore (j := 1) ho.se rfl (nle rfl) (nle rfl) ?_
  refine g_vret rfl (nle rfl) (nle rfl) ?_
  refine hD _ (fun s => rep_new s ?_) ?_ ?_
  · clear hD; simp (disch := omega) only [upM_s, upM_o, upM_j, and_self]
  · clear hD; simp (disch := omega) only [upM_s, upM_o, upM_j]
  · clear hD; intro r hr'; funext j; simp (disch := omega) only [upM_o]
