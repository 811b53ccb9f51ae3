set_option maxRecDepth 100000 in
set_option maxHeartbeats 4000000 in
theorem ct_X4_addFloor {X : Xs} {κ : Kp} {M : Mem} {Q : Rs → Kp → Mem → Prop} {o : Nat} (ho : IsStu κ.2.1 o) {B nf nt nc nd : Nat} {s : Nat → Int32} (hr : RepS M o nf nt nc nd s) (hI : Inv B nf nt nc nd s) {a b c d : Int32} (hN : ¬ nf < 4 → Q (.inl (some (.int (-1)))) κ M) (hD : nf < 4 → ∀ M', RepS M' o (nf + 1) nt nc nd (flS s nf a b c d) → FrS M M' o → Q (.inl (some (.int (nI nf)))) κ M') : Ct X m_X4_addFloor [.ref o, .int a, .int b, .int c, .int d] κ M Q := by
  refine ct_of B_X4_addFloor_0 pn_X4 rfl (nle rfl) L_X4_addFloor_0 ?_
  have bf := hI.lf
  have bt := hI.lt
  have bc := hI.lc
  have bn := hI.ld
  refine g_aload_n rfl ?_
  refine g_getI fl_X4_46 rfl ho.s0 rfl ?_
  simp (disch := omega) only [upM_s, upM_o, upM_j, hr.c5 hI, nI_1]
  refine g_iconst (v := 4) ik_4 ?_
  refine g_icmp_lt rfl L_X4_addFloor_10 (fun h_1 => ?_) (fun h_1 => ?_)
  · have hlt : nf < 4 := (nI_ltI (a := nf) (b := 4) (by omega) (by omega)).mp (by first | exact h_1 | exact Int32.not_le.mp h_1)
    refine g_aload_n rfl ?_
    refine g_getR (w := (o + 1)) fl_X4_11 rfl ho.s0 rfl ?_
    refine g_aload_n rfl ?_
    refine g_getI fl_X4_46 rfl ho.s0 rfl ?_
    simp (disch := omega) only [upM_s, upM_o, upM_j, hr.c5 hI, nI_1]
    refine g_aaload (j := nf) (w := (o + 2 + nf)) ho.fa (nle rfl) rfl (by omega) (nle rfl) (rcs_get (by omega)) ?_
    refine g_astore (nle rfl) ?_
    refine g_aload rfl ?_
    refine g_iload_n rfl ?_
    refine g_putI pl_X4_104 rfl (ho.fi (by omega)) rfl rfl rfl ?_
    refine g_aload rfl ?_
    refine g_iload_n rfl ?_
    refine g_putI pl_X4_107 rfl (ho.fi (by omega)) rfl rfl rfl ?_
    refine g_aload rfl ?_
    refine g_iload_n rfl ?_
    refine g_putI pl_X4_110 rfl (ho.fi (by omega)) rfl rfl rfl ?_
    refine g_aload rfl ?_
    refine g_iload rfl ?_
    refine g_putI pl_X4_113 rfl (ho.fi (by omega)) rfl rfl rfl ?_
    refine g_aload_n rfl ?_
    refine g_dup rfl ?_
    refine g_getI fl_X4_46 rfl ho.s0 rfl ?_
    simp (disch := omega) only [upM_s, upM_o, upM_j, hr.c5 hI, nI_1]
    refine g_iconst (v := 1) ik_1 ?_
    refine g_iadd ?_
    refine g_putI pl_X4_46 rfl ho.s0 rfl rfl rfl ?_
    refine g_aload_n rfl ?_
    refine g_getI fl_X4_46 rfl ho.s0 rfl ?_
    simp (disch := omega) only [upM_s, upM_o, upM_j, hr.c5 hI, nI_1]
    refine g_iconst (v := 1) ik_1 ?_
    refine g_isub ?_
    refine g_iret rfl (nle rfl) (nle rfl) ?_
    refine qeq (hD hlt _ ?_ ?_) (nI_pred nf) rfl
    · clear hN hD
      obtain ⟨⟨a1, a2, a3, a4, a5, a6, a7, a8, a9, a10⟩, hf, ht, hk, hd⟩ := hr
      refine ⟨?_, fun f hf' => ?_, fun t ht' => ?_, fun k hk' => ?_, fun d hd' => ?_⟩
      · simp (disch := omega) only [upM_s, upM_o, upM_j, flS, upd_ne, upd_same, nI_1, a1, a2, a3, a4, a5, a6, a7, a8, a9, a10, and_self]
      · by_cases e : f = nf
        · subst e
          simp (disch := omega) only [upM_s, upM_o, upM_j, flS, upd_ne, upd_same, and_self, Nat.add_zero]
        · simp (disch := omega) only [upM_s, upM_o, upM_j, flS, upd_ne, upd_same]; exact hf f (by omega)
      · simp (disch := omega) only [upM_s, upM_o, upM_j, flS, upd_ne, upd_same]; exact ht t (by omega)
      · simp (disch := omega) only [upM_s, upM_o, upM_j, flS, upd_ne, upd_same]; exact hk k (by omega)
      · simp (disch := omega) only [upM_s, upM_o, upM_j, flS, upd_ne, upd_same]; exact hd d (by omega)
    · clear hN hD
      exact ⟨fun r hr' => by funext j; simp (disch := omega) only [upM_o], by simp (disch := omega) only [upM_s, upM_o, upM_j]⟩
  · have hge : ¬ nf < 4 := fun q => absurd ((nI_ltI (a := nf) (b := 4) (by omega) (by omega)).mpr q) (by first | exact h_1 | exact Int32.not_lt.mpr h_1)
    refine g_iconst (v := -1) ik_m1 ?_
    refine g_iret rfl (nle rfl) (nle rfl) ?_
    exact hN hge
set_option maxRecDepth 100000 in
set_option maxHeartbeats 4000000 in
theorem ct_X4_addTeacher {X : Xs} {κ : Kp} {M : Mem} {Q : Rs → Kp → Mem → Prop} {o : Nat} (ho : IsStu κ.2.1 o) {B nf nt nc nd : Nat} {s : Nat → Int32} (hr : RepS M o nf nt nc nd s) (hI : Inv B nf nt nc nd s) {a b : Int32} (hN : ¬ nt < 5 → Q (.inl (some (.int (-1)))) κ M) (hD : nt < 5 → ∀ M', RepS M' o nf (nt + 1) nc nd (teS s nt a b) → FrS M M' o → Q (.inl (some (.int (nI nt)))) κ M') : Ct X m_X4_addTeacher [.ref o, .int a, .int b] κ M Q := by
  refine ct_of B_X4_addTeacher_0 pn_X4 rfl (nle rfl) L_X4_addTeacher_0 ?_
  have bf := hI.lf
  have bt := hI.lt
  have bc := hI.lc
  have bn := hI.ld
  refine g_aload_n rfl ?_
  refine g_getI fl_X4_50 rfl ho.s0 rfl ?_
  simp (disch := omega) only [upM_s, upM_o, upM_j, hr.c6 hI, nI_1]
  refine g_iconst (v := 5) ik_5 ?_
  refine g_icmp_lt rfl L_X4_addTeacher_10 (fun h_1 => ?_) (fun h_1 => ?_)
  · have hlt : nt < 5 := (nI_ltI (a := nt) (b := 5) (by omega) (by omega)).mp (by first | exact h_1 | exact Int32.not_le.mp h_1)
    refine g_aload_n rfl ?_
    refine g_getR (w := (o + 6)) fl_X4_20 rfl ho.s0 rfl ?_
    refine g_aload_n rfl ?_
    refine g_getI fl_X4_50 rfl ho.s0 rfl ?_
    simp (disch := omega) only [upM_s, upM_o, upM_j, hr.c6 hI, nI_1]
    refine g_aaload (j := nt) (w := (o + 7 + nt)) ho.ta (nle rfl) rfl (by omega) (nle rfl) (rcs_get (by omega)) ?_
    refine g_astore_n (nle rfl) ?_
    refine g_aload_n rfl ?_
    refine g_iload_n rfl ?_
    refine g_putI pl_X4_116 rfl (ho.ti (by omega)) rfl rfl rfl ?_
    refine g_aload_n rfl ?_
    refine g_iload_n rfl ?_
    refine g_putI pl_X4_119 rfl (ho.ti (by omega)) rfl rfl rfl ?_
    refine g_aload_n rfl ?_
    refine g_dup rfl ?_
    refine g_getI fl_X4_50 rfl ho.s0 rfl ?_
    simp (disch := omega) only [upM_s, upM_o, upM_j, hr.c6 hI, nI_1]
    refine g_iconst (v := 1) ik_1 ?_
    refine g_iadd ?_
    refine g_putI pl_X4_50 rfl ho.s0 rfl rfl rfl ?_
    refine g_aload_n rfl ?_
    refine g_getI fl_X4_50 rfl ho.s0 rfl ?_
    simp (disch := omega) only [upM_s, upM_o, upM_j, hr.c6 hI, nI_1]
    refine g_iconst (v := 1) ik_1 ?_
    refine g_isub ?_
    refine g_iret rfl (nle rfl) (nle rfl) ?_
    refine qeq (hD hlt _ ?_ ?_) (nI_pred nt) rfl
    · clear hN hD
      obtain ⟨⟨a1, a2, a3, a4, a5, a6, a7, a8, a9, a10⟩, hf, ht, hk, hd⟩ := hr
      refine ⟨?_, fun f hf' => ?_, fun t ht' => ?_, fun k hk' => ?_, fun d hd' => ?_⟩
      · simp (disch := omega) only [upM_s, upM_o, upM_j, teS, upd_ne, upd_same, nI_1, a1, a2, a3, a4, a5, a6, a7, a8, a9, a10, and_self]
      · simp (disch := omega) only [upM_s, upM_o, upM_j, teS, upd_ne, upd_same]; exact hf f (by omega)
      · by_cases e : t = nt
        · subst e
          simp (disch := omega) only [upM_s, upM_o, upM_j, teS, upd_ne, upd_same, and_self, Nat.add_zero]
        · simp (disch := omega) only [upM_s, upM_o, upM_j, teS, upd_ne, upd_same]; exact ht t (by omega)
      · simp (disch := omega) only [upM_s, upM_o, upM_j, teS, upd_ne, upd_same]; exact hk k (by omega)
      · simp (disch := omega) only [upM_s, upM_o, upM_j, teS, upd_ne, upd_same]; exact hd d (by omega)
    · clear hN hD
      exact ⟨fun r hr' => by funext j; simp (disch := omega) only [upM_o], by simp (disch := omega) only [upM_s, upM_o, upM_j]⟩
  · have hge : ¬ nt < 5 := fun q => absurd ((nI_ltI (a := nt) (b := 5) (by omega) (by omega)).mpr q) (by first | exact h_1 | exact Int32.not_lt.mpr h_1)
    refine g_iconst (v := -1) ik_m1 ?_
    refine g_iret rfl (nle rfl) (nle rfl) ?_
    exact hN hge
theorem daS_o {s : Nat → Int32} {n j : Nat} (h : j < 129 + 5 * n) (h3 : j ≠ 3) : daS s n j = s j := by
  unfold daS
  rw [upd_ne h3, if_neg (by omega), if_neg (by omega)]
theorem daS_z {s : Nat → Int32} {n j : Nat} (h : 129 + 5 * n < j) (h3 : j < 129 + 5 * n + 5) : daS s n j = 0 := by
  unfold daS
  rw [upd_ne (by omega), if_neg (by omega), if_pos (by omega)]
theorem daS_1 {s : Nat → Int32} {n : Nat} : daS s n (129 + 5 * n) = 1 := by
  unfold daS
  rw [upd_ne (by omega), if_pos rfl]
theorem daS_3 {s : Nat → Int32} {n : Nat} : daS s n 3 = nI (n + 1) := upd_same
set_option maxRecDepth 100000 in
set_option maxHeartbeats 4000000 in
theorem ct_X4_addDancer {X : Xs} {κ : Kp} {M : Mem} {Q : Rs → Kp → Mem → Prop} {o : Nat} (ho : IsStu κ.2.1 o) {B nf nt nc nd : Nat} {s : Nat → Int32} (hr : RepS M o nf nt nc nd s) (hI : Inv B nf nt nc nd s)  (hN : ¬ nd < 12 → Q (.inl (some (.int (-1)))) κ M) (hD : nd < 12 → ∀ M', RepS M' o nf nt nc (nd + 1) (daS s nd) → FrS M M' o → Q (.inl (some (.int (nI nd)))) κ M') : Ct X m_X4_addDancer [.ref o] κ M Q := by
  refine ct_of B_X4_addDancer_0 pn_X4 rfl (nle rfl) L_X4_addDancer_0 ?_
  have bf := hI.lf
  have bt := hI.lt
  have bc := hI.lc
  have bn := hI.ld
  refine g_aload_n rfl ?_
  refine g_getI fl_X4_56 rfl ho.s0 rfl ?_
  simp (disch := omega) only [upM_s, upM_o, upM_j, hr.c8 hI, nI_1]
  refine g_bipush (v := 12) bk_12 ?_
  refine g_icmp_lt rfl L_X4_addDancer_11 (fun h_1 => ?_) (fun h_1 => ?_)
  · have hlt : nd < 12 := (nI_ltI (a := nd) (b := 12) (by omega) (by omega)).mp (by first | exact h_1 | exact Int32.not_le.mp h_1)
    refine g_aload_n rfl ?_
    refine g_getR (w := (o + 23)) fl_X4_34 rfl ho.s0 rfl ?_
    refine g_aload_n rfl ?_
    refine g_getI fl_X4_56 rfl ho.s0 rfl ?_
    simp (disch := omega) only [upM_s, upM_o, upM_j, hr.c8 hI, nI_1]
    refine g_aaload (j := nd) (w := (o + 24 + nd)) ho.da (nle rfl) rfl (by omega) (nle rfl) (rcs_get (by omega)) ?_
    refine g_astore_n (nle rfl) ?_
    refine g_aload_n rfl ?_
    refine g_iconst (v := 1) ik_1 ?_
    refine g_putI pl_X4_122 rfl (ho.di (by omega)) rfl rfl rfl ?_
    refine g_aload_n rfl ?_
    refine g_iconst (v := 0) ik_0 ?_
    refine g_putI pl_X4_125 rfl (ho.di (by omega)) rfl rfl rfl ?_
    refine g_aload_n rfl ?_
    refine g_iconst (v := 0) ik_0 ?_
    refine g_putI pl_X4_101 rfl (ho.di (by omega)) rfl rfl rfl ?_
    refine g_aload_n rfl ?_
    refine g_iconst (v := 0) ik_0 ?_
    refine g_putI pl_X4_128 rfl (ho.di (by omega)) rfl rfl rfl ?_
    refine g_aload_n rfl ?_
    refine g_dup rfl ?_
    refine g_getI fl_X4_56 rfl ho.s0 rfl ?_
    simp (disch := omega) only [upM_s, upM_o, upM_j, hr.c8 hI, nI_1]
    refine g_iconst (v := 1) ik_1 ?_
    refine g_iadd ?_
    refine g_putI pl_X4_56 rfl ho.s0 rfl rfl rfl ?_
    refine g_aload_n rfl ?_
    refine g_getI fl_X4_56 rfl ho.s0 rfl ?_
    simp (disch := omega) only [upM_s, upM_o, upM_j, hr.c8 hI, nI_1]
    refine g_iconst (v := 1) ik_1 ?_
    refine g_isub ?_
    refine g_iret rfl (nle rfl) (nle rfl) ?_
    refine qeq (hD hlt _ ?_ ?_) (nI_pred nd) rfl
    · clear hN hD
      obtain ⟨⟨a1, a2, a3, a4, a5, a6, a7, a8, a9, a10⟩, hf, ht, hk, hd⟩ := hr
      refine ⟨?_, fun f hf' => ?_, fun t ht' => ?_, fun k hk' => ?_, fun d hd' => ?_⟩
      · simp (disch := omega) only [upM_s, upM_o, upM_j, daS_o, daS_z, daS_1, daS_3, upd_ne, upd_same, nI_1, a1, a2, a3, a4, a5, a6, a7, a8, a9, a10, and_self]
      · simp (disch := omega) only [upM_s, upM_o, upM_j, daS_o, daS_z, daS_1, daS_3, upd_ne, upd_same]; exact hf f (by omega)
      · simp (disch := omega) only [upM_s, upM_o, upM_j, daS_o, daS_z, daS_1, daS_3, upd_ne, upd_same]; exact ht t (by omega)
      · simp (disch := omega) only [upM_s, upM_o, upM_j, daS_o, daS_z, daS_1, daS_3, upd_ne, upd_same]; exact hk k (by omega)
      · by_cases e : d = nd
        · subst e
          simp (disch := omega) only [upM_s, upM_o, upM_j, daS_o, daS_z, daS_1, daS_3, upd_ne, upd_same, and_self, Nat.add_zero]
        · simp (disch := omega) only [upM_s, upM_o, upM_j, daS_o, daS_z, daS_1, daS_3, upd_ne, upd_same]; exact hd d (by omega)
    · clear hN hD
      exact ⟨fun r hr' => by funext j; simp (disch := omega) only [upM_o], by simp (disch := omega) only [upM_s, upM_o, upM_j]⟩
  · have hge : ¬ nd < 12 := fun q => absurd ((nI_ltI (a := nd) (b := 12) (by omega) (by omega)).mpr q) (by first | exact h_1 | exact Int32.not_lt.mpr h_1)
    refine g_iconst (v := -1) ik_m1 ?_
    refine g_iret rfl (nle rfl) (nle rfl) ?_
    exact hN hge
theorem has_lt {v : Int32} {n : Nat} (hn : n < 100000) (h : hasB v (nI n) = true) : tn v < n ∧ v = nI (tn v) := by
  obtain ⟨k, hk, rfl⟩ := hasB_of hn h
  rw [tn_nI (by omega)]
  exact ⟨hk, rfl⟩
theorem has_no {v : Int32} {n : Nat} (hn : n < 100000) (h : hasB v (nI n) = false) : ¬ ∃ k, k < n ∧ v = nI k := by
  rintro ⟨k, hk, rfl⟩
  rw [hasB_yes hn hk] at h
  cases h
def isX (v : Int32) (n : Nat) : Prop := ∃ k, k < n ∧ v = nI k
set_option maxRecDepth 100000 in
set_option maxHeartbeats 4000000 in
theorem ct_X4_addLesson {X : Xs} {κ : Kp} {M : Mem} {Q : Rs → Kp → Mem → Prop} {o : Nat} (ho : IsStu κ.2.1 o) {B nf nt nc nd : Nat} {s : Nat → Int32} (hr : RepS M o nf nt nc nd s) (hI : Inv B nf nt nc nd s) {style level fI tI day hour : Int32} (hN : ¬ (nc < 10 ∧ isX fI nf ∧ isX tI nt) → Q (.inl (some (.int (-1)))) κ M) (hW : nc < 10 → ∀ f t : Nat, f < nf → t < nt → fI = nI f → tI = nI t → ¬ whyI s nc style level f t day hour = 0 → Q (.inl (some (.int (whyI s nc style level f t day hour)))) κ M) (hD : nc < 10 → ∀ f t : Nat, f < nf → t < nt → fI = nI f → tI = nI t → whyI s nc style level f t day hour = 0 → ∀ M', RepS M' o nf nt (nc + 1) nd (clS s nc style level fI tI day hour) → FrS M M' o → Q (.inl (some (.int (0)))) κ M') : Ct X m_X4_addLesson [.ref o, .int style, .int level, .int fI, .int tI, .int day, .int hour] κ M Q := by
  refine ct_of B_X4_addLesson_0 pn_X4 rfl (nle rfl) L_X4_addLesson_0 ?_
  have bf := hI.lf
  have bt := hI.lt
  have bc := hI.lc
  have bn := hI.ld
  refine g_aload_n rfl ?_
  refine g_getI fl_X4_53 rfl ho.s0 rfl ?_
  simp (disch := omega) only [upM_s, upM_o, upM_j, hr.c7 hI, nI_1]
  refine g_bipush (v := 10) bk_10 ?_
  refine g_icmp_ge rfl L_X4_addLesson_26 (fun h_1 => ?_) (fun h_1 => ?_)
  · have hge : ¬ nc < 10 := fun q => absurd ((nI_ltI (a := nc) (b := 10) (by omega) (by omega)).mpr q) (by first | exact h_1 | exact Int32.not_lt.mpr h_1)
    refine g_iconst (v := -1) ik_m1 ?_
    refine g_iret rfl (nle rfl) (nle rfl) ?_
    exact hN (by first | exact fun q => absurd q.1 (by omega) | exact fun q => hno_f q.2.1 | exact fun q => hno_t q.2.2)
  · have hlt : nc < 10 := (nI_ltI (a := nc) (b := 10) (by omega) (by omega)).mp (by first | exact h_1 | exact Int32.not_le.mp h_1)
    refine g_aload_n rfl ?_
    refine g_iload_n rfl ?_
    refine g_callV (as := [_]) mk_X4_hasFloor ml_X4_131 im_X4_hasFloor se_X4_hasFloor rfl rfl ⟨⟨nle rfl, nle rfl⟩, nle rfl, nle rfl⟩ ho.s0 rfl rfl rfl (nle rfl) ?_
    refine ct_X4_hasFloor ho ?_
    refine kq_s ?_
    refine g_if_eq_b rfl L_X4_addLesson_26 (fun h_2 => ?_) (fun h_2 => ?_)
    · rw [hr.c5 hI] at h_2
      have hno_f := has_no (by omega) h_2
      refine g_iconst (v := -1) ik_m1 ?_
      refine g_iret rfl (nle rfl) (nle rfl) ?_
      exact hN (by first | exact fun q => absurd q.1 (by omega) | exact fun q => hno_f q.2.1 | exact fun q => hno_t q.2.2)
    · rw [hr.c5 hI] at h_2
      obtain ⟨f, hf, ef⟩ := hasB_of (by omega) h_2
      subst ef
      refine g_aload_n rfl ?_
      refine g_iload rfl ?_
      refine g_callV (as := [_]) mk_X4_hasTeacher ml_X4_134 im_X4_hasTeacher se_X4_hasTeacher rfl rfl ⟨⟨nle rfl, nle rfl⟩, nle rfl, nle rfl⟩ ho.s0 rfl rfl rfl (nle rfl) ?_
      refine ct_X4_hasTeacher ho ?_
      refine kq_s ?_
      refine g_if_ne_b rfl L_X4_addLesson_28 (fun h_3 => ?_) (fun h_3 => ?_)
      · rw [hr.c6 hI] at h_3
        obtain ⟨t, ht, et⟩ := hasB_of (by omega) h_3
        subst et
        refine g_aload_n rfl ?_
        refine g_iload_n rfl ?_
        refine g_iload_n rfl ?_
        refine g_iload_n rfl ?_
        refine g_iload rfl ?_
        refine g_iload rfl ?_
        refine g_iload rfl ?_
        refine g_callV (as := [_, _, _, _, _, _]) mk_X4_reasonAgainstLesson ml_X4_137 im_X4_reasonAgainstLesson se_X4_reasonAgainstLesson rfl rfl ⟨⟨nle rfl, nle rfl⟩, nle rfl, nle rfl⟩ ho.s0 rfl rfl rfl (nle rfl) ?_
        refine ct_X4_reasonAgainstLesson ho (hr.c7 hI) bc f t rfl rfl (by omega) (by omega) ?_
        refine kq_s ?_
        refine g_istore (nle rfl) ?_
        refine g_iload rfl ?_
        refine g_if_eq rfl L_X4_addLesson_51 (fun h_4 => ?_) (fun h_4 => ?_)
        · rw [why_eq hr hf ht] at h_4
          refine g_aload_n rfl ?_
          refine g_getR (w := (o + 12)) fl_X4_27 rfl ho.s0 rfl ?_
          refine g_aload_n rfl ?_
          refine g_getI fl_X4_53 rfl ho.s0 rfl ?_
          simp (disch := omega) only [upM_s, upM_o, upM_j, hr.c7 hI, nI_1]
          refine g_aaload (j := nc) (w := (o + 13 + nc)) ho.la (nle rfl) rfl (by omega) (nle rfl) (rcs_get (by omega)) ?_
          refine g_astore (nle rfl) ?_
          refine g_aload rfl ?_
          refine g_iload_n rfl ?_
          refine g_putI pl_X4_141 rfl (ho.li (by omega)) rfl rfl rfl ?_
          refine g_aload rfl ?_
          refine g_iload_n rfl ?_
          refine g_putI pl_X4_144 rfl (ho.li (by omega)) rfl rfl rfl ?_
          refine g_aload rfl ?_
          refine g_iload_n rfl ?_
          refine g_putI pl_X4_145 rfl (ho.li (by omega)) rfl rfl rfl ?_
          refine g_aload rfl ?_
          refine g_iload rfl ?_
          refine g_putI pl_X4_148 rfl (ho.li (by omega)) rfl rfl rfl ?_
          refine g_aload rfl ?_
          refine g_iload rfl ?_
          refine g_putI pl_X4_151 rfl (ho.li (by omega)) rfl rfl rfl ?_
          refine g_aload rfl ?_
          refine g_iload rfl ?_
          refine g_putI pl_X4_154 rfl (ho.li (by omega)) rfl rfl rfl ?_
          refine g_aload rfl ?_
          refine g_iconst (v := 0) ik_0 ?_
          refine g_putI pl_X4_157 rfl (ho.li (by omega)) rfl rfl rfl ?_
          refine g_aload rfl ?_
          refine g_iconst (v := 0) ik_0 ?_
          refine g_putI pl_X4_160 rfl (ho.li (by omega)) rfl rfl rfl ?_
          refine g_aload rfl ?_
          refine g_iconst (v := 0) ik_0 ?_
          refine g_putI pl_X4_163 rfl (ho.li (by omega)) rfl rfl rfl ?_
          refine g_aload_n rfl ?_
          refine g_dup rfl ?_
          refine g_getI fl_X4_53 rfl ho.s0 rfl ?_
          simp (disch := omega) only [upM_s, upM_o, upM_j, hr.c7 hI, nI_1]
          refine g_iconst (v := 1) ik_1 ?_
          refine g_iadd ?_
          refine g_putI pl_X4_53 rfl ho.s0 rfl rfl rfl ?_
          refine g_iconst (v := 0) ik_0 ?_
          refine g_iret rfl (nle rfl) (nle rfl) ?_
          refine qeq (hD hlt f t hf ht rfl rfl (by assumption) _ ?_ ?_) (rfl) rfl
          · clear hN hW hD
            obtain ⟨⟨a1, a2, a3, a4, a5, a6, a7, a8, a9, a10⟩, hf, ht, hk, hd⟩ := hr
            refine ⟨?_, fun f hf' => ?_, fun t ht' => ?_, fun k hk' => ?_, fun d hd' => ?_⟩
            · simp (disch := omega) only [upM_s, upM_o, upM_j, clS, upd_ne, upd_same, nI_1, a1, a2, a3, a4, a5, a6, a7, a8, a9, a10, and_self]
            · simp (disch := omega) only [upM_s, upM_o, upM_j, clS, upd_ne, upd_same]; exact hf f (by omega)
            · simp (disch := omega) only [upM_s, upM_o, upM_j, clS, upd_ne, upd_same]; exact ht t (by omega)
            · by_cases e : k = nc
              · subst e
                simp (disch := omega) only [upM_s, upM_o, upM_j, clS, upd_ne, upd_same, and_self, Nat.add_zero]
              · simp (disch := omega) only [upM_s, upM_o, upM_j, clS, upd_ne, upd_same]; exact hk k (by omega)
            · simp (disch := omega) only [upM_s, upM_o, upM_j, clS, upd_ne, upd_same]; exact hd d (by omega)
          · clear hN hW hD
            exact ⟨fun r hr' => by funext j; simp (disch := omega) only [upM_o], by simp (disch := omega) only [upM_s, upM_o, upM_j]⟩
        · rw [why_eq hr hf ht] at h_4
          refine g_iload rfl ?_
          refine g_iret rfl (nle rfl) (nle rfl) ?_
          refine qeq (hW (by omega) f t hf ht rfl rfl (by assumption)) (why_eq hr hf ht _ _ _ _) rfl
      · rw [hr.c6 hI] at h_3
        have hno_t := has_no (by omega) h_3
        refine g_fall rfl L_X4_addLesson_26 ?_
        refine g_iconst (v := -1) ik_m1 ?_
        refine g_iret rfl (nle rfl) (nle rfl) ?_
        exact hN (by first | exact fun q => absurd q.1 (by omega) | exact fun q => hno_f q.2.1 | exact fun q => hno_t q.2.2)
