def FrH (M M' : Mem) (m : Nat) : Prop := M' m 0 = 0 ∧ (∀ r, r ≠ m → M' r = M r) ∧ (∀ j, j ≠ 0 → M' m j = M m j)
theorem frh (M : Mem) (m : Nat) : FrH M (upM M m 0 0) m := ⟨upM_s _ _ _ _, fun r h => by funext j; exact upM_o _ _ _ _ h j, fun j h => upM_j _ _ _ _ h _⟩
theorem ix_a {w : Nat} (h : 1 ≤ w) : (5 : Int32) + nI w - 6 = nI (w - 1) := by
  obtain ⟨z, rfl⟩ : ∃ z, w = z + 1 := ⟨w - 1, by omega⟩
  rw [Nat.add_sub_cancel, ← nI_1]
  grind
theorem ix_b {w : Nat} (h : 2 ≤ w) : (7 : Int32) + nI w - 9 = nI (w - 2) := by
  obtain ⟨z, rfl⟩ : ∃ z, w = z + 2 := ⟨w - 2, by omega⟩
  rw [Nat.add_sub_cancel, ← nI_add]
  show 7 + (nI z + 2) - 9 = nI z
  grind
theorem nsub {w c : Nat} (h : c ≤ w) {x : Int32} (hx : x = nI c) : nI w - x = nI (w - c) := by subst hx; exact nI_sub h
set_option maxRecDepth 100000 in
set_option maxHeartbeats 4000000 in
theorem ct_X8_tells {X : Xs} {κ : Kp} {M : Mem} {Q : Rs → Kp → Mem → Prop} {m : Nat} (hm : IsMod κ.2.1 m) {B : Nat} (hI0 : IR B (M (m + 1))) {w : Nat} (hw : w < 12) (hQ : Q (.inl (some (.int (abV (M (m + 1)) w)))) κ M) : Ct X m_X8_tells [.ref m, .int (nI w)] κ M Q := by
  refine ct_of B_X8_tells_0 pn_X8 rfl (nle rfl) L_X8_tells_0 ?_
  obtain ⟨nf, nt, nc, nd, hI⟩ := hI0
  have bf := hI.lf
  have bt := hI.lt
  have bc := hI.lc
  have bn := hI.ld
  have n0 := hI.n0
  have n1 := hI.n1
  have n2 := hI.n2
  have n3 := hI.n3
  refine g_iload_n rfl ?_
  rcases sw_cases (nI w) 5 7 (nle rfl) with ⟨j_1, hj_1, hx_1⟩ | ho_1
  · have hc_1 : j_1 = 0 ∨ j_1 = 1 ∨ j_1 = 2 ∨ j_1 = 3 ∨ j_1 = 4 ∨ j_1 = 5 ∨ j_1 = 6 := by omega
    rcases hc_1 with rfl | rfl | rfl | rfl | rfl | rfl | rfl
    · replace hx_1 : (nI w) = 5 := hx_1.trans (by decide)
      refine g_tabIn (off := 43) (by rw [hx_1]; decide) (by rw [hx_1]; decide) (by rw [hx_1]; decide) rfl L_X8_tells_44 ?_
      have hwv : w = 5 := (nI_eq (a := w) (b := 5) (by omega) (by omega)).mp hx_1
      refine g_aload_n rfl ?_
      refine g_callV (as := []) mk_X8_seats ml_X8_184 im_X8_seats se_X8_seats rfl rfl ⟨⟨nle rfl, nle rfl⟩, nle rfl, nle rfl⟩ hm.1 rfl rfl rfl (nle rfl) ?_
      refine ct_X8_seats hm hI.c bc ?_
      refine kq_s ?_
      refine g_iret rfl (nle rfl) (nle rfl) ?_
      subst hwv
      exact qeq hQ (by unfold abV seatsV; rw [if_pos rfl, n2]) rfl
    · replace hx_1 : (nI w) = 6 := hx_1.trans (by decide)
      refine g_tabIn (off := 48) (by rw [hx_1]; decide) (by rw [hx_1]; decide) (by rw [hx_1]; decide) rfl L_X8_tells_49 ?_
      have hwv : w = 6 := (nI_eq (a := w) (b := 6) (by omega) (by omega)).mp hx_1
      refine g_aload_n rfl ?_
      refine g_getR (w := (m + 1)) fl_X8_7 rfl hm.1 rfl ?_
      refine g_iconst (v := 5) ik_5 ?_
      refine g_iload_n rfl ?_
      refine g_iadd ?_
      refine g_bipush (v := 6) bk_6 ?_
      refine g_isub ?_
      rw [ix_a (by omega)]
      refine g_iaload (j := (w - 1)) hm.2.1 (by simp only [nI, Int32.ofNat_add, Int32.ofNat_mul] <;> rfl) (by omega) (nle rfl) ?_
      refine g_iret rfl (nle rfl) (nle rfl) ?_
      exact qeq hQ (by unfold abV; rw [if_neg (by omega), if_neg (by omega), if_neg (by omega), if_pos (by omega)]) rfl
    · replace hx_1 : (nI w) = 7 := hx_1.trans (by decide)
      refine g_tabIn (off := 48) (by rw [hx_1]; decide) (by rw [hx_1]; decide) (by rw [hx_1]; decide) rfl L_X8_tells_49 ?_
      have hwv : w = 7 := (nI_eq (a := w) (b := 7) (by omega) (by omega)).mp hx_1
      refine g_aload_n rfl ?_
      refine g_getR (w := (m + 1)) fl_X8_7 rfl hm.1 rfl ?_
      refine g_iconst (v := 5) ik_5 ?_
      refine g_iload_n rfl ?_
      refine g_iadd ?_
      refine g_bipush (v := 6) bk_6 ?_
      refine g_isub ?_
      rw [ix_a (by omega)]
      refine g_iaload (j := (w - 1)) hm.2.1 (by simp only [nI, Int32.ofNat_add, Int32.ofNat_mul] <;> rfl) (by omega) (nle rfl) ?_
      refine g_iret rfl (nle rfl) (nle rfl) ?_
      exact qeq hQ (by unfold abV; rw [if_neg (by omega), if_neg (by omega), if_neg (by omega), if_pos (by omega)]) rfl
    · replace hx_1 : (nI w) = 8 := hx_1.trans (by decide)
      refine g_tabIn (off := 60) (by rw [hx_1]; decide) (by rw [hx_1]; decide) (by rw [hx_1]; decide) rfl L_X8_tells_61 ?_
      have hwv : w = 8 := (nI_eq (a := w) (b := 8) (by omega) (by omega)).mp hx_1
      refine g_aload_n rfl ?_
      refine g_callV (as := []) mk_X8_left ml_X8_187 im_X8_left se_X8_left rfl rfl ⟨⟨nle rfl, nle rfl⟩, nle rfl, nle rfl⟩ hm.1 rfl rfl rfl (nle rfl) ?_
      refine ct_X8_left hm hI.d bn ?_
      refine kq_s ?_
      refine g_iret rfl (nle rfl) (nle rfl) ?_
      subst hwv
      exact qeq hQ (by unfold abV leftV; rw [if_neg (by omega), if_pos rfl, n3]) rfl
    · replace hx_1 : (nI w) = 9 := hx_1.trans (by decide)
      refine g_tabIn (off := 65) (by rw [hx_1]; decide) (by rw [hx_1]; decide) (by rw [hx_1]; decide) rfl L_X8_tells_66 ?_
      have hwv : w = 9 := (nI_eq (a := w) (b := 9) (by omega) (by omega)).mp hx_1
      refine g_aload_n rfl ?_
      refine g_getR (w := (m + 1)) fl_X8_7 rfl hm.1 rfl ?_
      refine g_bipush (v := 7) bk_7 ?_
      refine g_iload_n rfl ?_
      refine g_iadd ?_
      refine g_bipush (v := 9) bk_9 ?_
      refine g_isub ?_
      rw [ix_b (by omega)]
      refine g_iaload (j := (w - 2)) hm.2.1 (by simp only [nI, Int32.ofNat_add, Int32.ofNat_mul] <;> rfl) (by omega) (nle rfl) ?_
      refine g_iret rfl (nle rfl) (nle rfl) ?_
      exact qeq hQ (by unfold abV; rw [if_neg (by omega), if_neg (by omega), if_neg (by omega), if_neg (by omega)]) rfl
    · replace hx_1 : (nI w) = 10 := hx_1.trans (by decide)
      refine g_tabIn (off := 65) (by rw [hx_1]; decide) (by rw [hx_1]; decide) (by rw [hx_1]; decide) rfl L_X8_tells_66 ?_
      have hwv : w = 10 := (nI_eq (a := w) (b := 10) (by omega) (by omega)).mp hx_1
      refine g_aload_n rfl ?_
      refine g_getR (w := (m + 1)) fl_X8_7 rfl hm.1 rfl ?_
      refine g_bipush (v := 7) bk_7 ?_
      refine g_iload_n rfl ?_
      refine g_iadd ?_
      refine g_bipush (v := 9) bk_9 ?_
      refine g_isub ?_
      rw [ix_b (by omega)]
      refine g_iaload (j := (w - 2)) hm.2.1 (by simp only [nI, Int32.ofNat_add, Int32.ofNat_mul] <;> rfl) (by omega) (nle rfl) ?_
      refine g_iret rfl (nle rfl) (nle rfl) ?_
      exact qeq hQ (by unfold abV; rw [if_neg (by omega), if_neg (by omega), if_neg (by omega), if_neg (by omega)]) rfl
    · replace hx_1 : (nI w) = 11 := hx_1.trans (by decide)
      refine g_tabIn (off := 65) (by rw [hx_1]; decide) (by rw [hx_1]; decide) (by rw [hx_1]; decide) rfl L_X8_tells_66 ?_
      have hwv : w = 11 := (nI_eq (a := w) (b := 11) (by omega) (by omega)).mp hx_1
      refine g_aload_n rfl ?_
      refine g_getR (w := (m + 1)) fl_X8_7 rfl hm.1 rfl ?_
      refine g_bipush (v := 7) bk_7 ?_
      refine g_iload_n rfl ?_
      refine g_iadd ?_
      refine g_bipush (v := 9) bk_9 ?_
      refine g_isub ?_
      rw [ix_b (by omega)]
      refine g_iaload (j := (w - 2)) hm.2.1 (by simp only [nI, Int32.ofNat_add, Int32.ofNat_mul] <;> rfl) (by omega) (nle rfl) ?_
      refine g_iret rfl (nle rfl) (nle rfl) ?_
      exact qeq hQ (by unfold abV; rw [if_neg (by omega), if_neg (by omega), if_neg (by omega), if_neg (by omega)]) rfl
  · refine g_tabOut (ho_1.imp (fun h => h) (fun h => h)) rfl L_X8_tells_79 ?_
    have hd_1_0 : ¬ (nI w) = 5 := sw_ne ho_1 5 (by decide)
    have hd_1_1 : ¬ (nI w) = 6 := sw_ne ho_1 6 (by decide)
    have hd_1_2 : ¬ (nI w) = 7 := sw_ne ho_1 7 (by decide)
    have hd_1_3 : ¬ (nI w) = 8 := sw_ne ho_1 8 (by decide)
    have hd_1_4 : ¬ (nI w) = 9 := sw_ne ho_1 9 (by decide)
    have hd_1_5 : ¬ (nI w) = 10 := sw_ne ho_1 10 (by decide)
    have hd_1_6 : ¬ (nI w) = 11 := sw_ne ho_1 11 (by decide)
    have hw5 : w < 5 := by
      rcases ho_1 with h | h
      · rw [nI_toInt (by omega)] at h; omega
      · rw [nI_toInt (by omega)] at h; omega
    refine g_aload_n rfl ?_
    refine g_getR (w := (m + 1)) fl_X8_7 rfl hm.1 rfl ?_
    refine g_iload_n rfl ?_
    refine g_iaload (j := w) hm.2.1 rfl (by omega) (nle rfl) ?_
    refine g_iret rfl (nle rfl) (nle rfl) ?_
    exact qeq hQ (by unfold abV; rw [if_neg (by omega), if_neg (by omega), if_pos hw5]) rfl
set_option maxRecDepth 100000 in
set_option maxHeartbeats 4000000 in
theorem ct_X8_about {X : Xs} {κ : Kp} {M : Mem} {Q : Rs → Kp → Mem → Prop} {m : Nat} (hm : IsMod κ.2.1 m) {B : Nat} {s : Nat → Int32} (hs : M (m + 1) = s) (hI0 : IR B s) {what : Int32} (hE : inB what 0 11 = false → Q (.inl (some (.int 0))) κ (upM M m 0 1)) (hY : inB what 0 11 = true → ∀ w, w < 12 → what = nI w → ∀ M', FrH M M' m → Q (.inl (some (.int (abV s w)))) κ M') : Ct X m_X8_about [.ref m, .int what] κ M Q := by
  refine ct_of B_X8_about_0 pn_X8 rfl (nle rfl) L_X8_about_0 ?_
  refine g_aload_n rfl ?_
  refine g_iload_n rfl ?_
  refine g_iconst (v := 0) ik_0 ?_
  refine g_bipush (v := 11) bk_11 ?_
  refine g_callS (as := [_, _, _]) mk_X8_in ml_X8_29 sm_X8_in rfl rfl ⟨⟨nle rfl, nle rfl⟩, nle rfl, nle rfl⟩ rfl rfl (nle rfl) ?_
  refine ct_X8_in ?_
  refine kq_s ?_
  refine g_if_eq_b rfl L_X8_about_15 (fun h_1 => ?_) (fun h_1 => ?_)
  · have hq := h_1
    refine g_iconst (v := 1) ik_1 ?_
    refine g_fall rfl L_X8_about_16 ?_
    refine g_callV (as := [_]) mk_X8_holds ml_X8_89 im_X8_holds se_X8_holds rfl rfl ⟨⟨nle rfl, nle rfl⟩, nle rfl, nle rfl⟩ hm.1 rfl rfl rfl (nle rfl) ?_
    refine ct_X8_holds hm ?_
    refine kq_s ?_
    refine g_if_eq rfl L_X8_about_30 (fun h_2 => ?_) (fun h_2 => absurd h_2 (by decide))
    refine g_iconst (v := 0) ik_0 ?_
    refine g_fall rfl L_X8_about_31 ?_
    refine g_iret rfl (nle rfl) (nle rfl) ?_
    exact hE hq
  · have hq := h_1
    obtain ⟨w, hw, ew⟩ := in_lt (n := 11) (by omega) hq
    subst ew
    refine g_iconst (v := 0) ik_0 ?_
    refine g_goto rfl L_X8_about_16 ?_
    refine g_callV (as := [_]) mk_X8_holds ml_X8_89 im_X8_holds se_X8_holds rfl rfl ⟨⟨nle rfl, nle rfl⟩, nle rfl, nle rfl⟩ hm.1 rfl rfl rfl (nle rfl) ?_
    refine ct_X8_holds hm ?_
    have fH := frh M m
    generalize (upM M m 0 0) = M1 at fH ⊢
    have f1 : M1 (m + 1) = s := (fH.2.1 _ (by omega)).trans hs
    have hI1 : IR B (M1 (m + 1)) := by rw [f1]; exact hI0
    refine kq_s ?_
    refine g_if_eq rfl L_X8_about_30 (fun h_3 => absurd h_3 (by decide)) (fun h_3 => ?_)
    refine g_aload_n rfl ?_
    refine g_iload_n rfl ?_
    refine g_callV (as := [_]) mk_X8_tells ml_X8_190 im_X8_tells se_X8_tells rfl rfl ⟨⟨nle rfl, nle rfl⟩, nle rfl, nle rfl⟩ hm.1 rfl rfl rfl (nle rfl) ?_
    refine ct_X8_tells hm hI1 (by omega) ?_
    rw [f1]
    refine kq_s ?_
    refine g_goto rfl L_X8_about_31 ?_
    refine g_iret rfl (nle rfl) (nle rfl) ?_
    exact hY hq w (by omega) rfl M1 fH
set_option maxRecDepth 100000 in
set_option maxHeartbeats 4000000 in
theorem ct_X8_floorOf {X : Xs} {κ : Kp} {M : Mem} {Q : Rs → Kp → Mem → Prop} {m : Nat} (hm : IsMod κ.2.1 m) {B : Nat} {s : Nat → Int32} (hs : M (m + 1) = s) (hI0 : IR B s) {v what : Int32} (hE1 : isF s v = false → Q (.inl (some (.int 0))) κ (upM M m 0 1)) (hE2 : isF s v = true → inB what 0 5 = false → Q (.inl (some (.int 0))) κ (upM M m 0 2)) (hY : isF s v = true → ∀ k, k < 100 → v = nI k → ∀ w, w < 6 → what = nI w → ∀ M', FrH M M' m → Q (.inl (some (.int (flV s k w)))) κ M') : Ct X m_X8_floorOf [.ref m, .int v, .int what] κ M Q := by
  refine ct_of B_X8_floorOf_0 pn_X8 rfl (nle rfl) L_X8_floorOf_0 ?_
  refine g_aload_n rfl ?_
  refine g_aload_n rfl ?_
  refine g_iload_n rfl ?_
  refine g_callV (as := [_]) mk_X8_isFloor ml_X8_121 im_X8_isFloor se_X8_isFloor rfl rfl ⟨⟨nle rfl, nle rfl⟩, nle rfl, nle rfl⟩ hm.1 rfl rfl rfl (nle rfl) ?_
  refine ct_X8_isFloor hm ?_
  rw [hs]
  refine kq_s ?_
  refine g_if_ne_b rfl L_X8_floorOf_13 (fun h_1 => ?_) (fun h_1 => ?_)
  · have hg : isF s v = true := h_1
    refine g_iload_n rfl ?_
    refine g_iconst (v := 0) ik_0 ?_
    refine g_iconst (v := 5) ik_5 ?_
    refine g_callS (as := [_, _, _]) mk_X8_in ml_X8_29 sm_X8_in rfl rfl ⟨⟨nle rfl, nle rfl⟩, nle rfl, nle rfl⟩ rfl rfl (nle rfl) ?_
    refine ct_X8_in ?_
    refine kq_s ?_
    refine g_if_ne_b rfl L_X8_floorOf_26 (fun h_2 => ?_) (fun h_2 => ?_)
    · have hin := h_2
      obtain ⟨w, hw, ew⟩ := in_lt (n := 5) (by omega) hin
      subst ew
      have hI00 := hI0
      obtain ⟨nf, nt, nc, nd, hI⟩ := hI00
      have bf := hI.lf
      have bt := hI.lt
      have bc := hI.lc
      have bn := hI.ld
      have n0 := hI.n0
      have n1 := hI.n1
      have n2 := hI.n2
      have n3 := hI.n3
      obtain ⟨k, hk, ek⟩ := hI.xF.mp hg
      subst ek
      refine g_iconst (v := 0) ik_0 ?_
      refine g_fall rfl L_X8_floorOf_27 ?_
      refine g_callV (as := [_]) mk_X8_holds ml_X8_89 im_X8_holds se_X8_holds rfl rfl ⟨⟨nle rfl, nle rfl⟩, nle rfl, nle rfl⟩ hm.1 rfl rfl rfl (nle rfl) ?_
      refine ct_X8_holds hm ?_
      have fH := frh M m
      generalize (upM M m 0 0) = M1 at fH ⊢
      have f1 : M1 (m + 1) = s := (fH.2.1 _ (by omega)).trans hs
      have hI1 : IR B (M1 (m + 1)) := by rw [f1]; exact hI0
      refine kq_s ?_
      refine g_if_ne rfl L_X8_floorOf_35 (fun h_3 => ?_) (fun h_3 => absurd h_3 (by decide))
      refine g_iload_n rfl ?_
      refine g_iconst (v := 4) ik_4 ?_
      refine g_icmp_ge rfl L_X8_floorOf_56 (fun h_4 => ?_) (fun h_4 => ?_)
      · have hw4 : 4 ≤ w := (nI_leI (a := 4) (b := w) (by omega) (by omega)).mp h_4
        refine g_iload_n rfl ?_
        refine g_iconst (v := 4) ik_4 ?_
        refine g_icmp_ne rfl L_X8_floorOf_70 (fun h_5 => ?_) (fun h_5 => ?_)
        · have hwe : ¬ w = 4 := fun q => h_5 (by rw [q]; rfl)
          refine g_bipush (v := 36) bk_36 ?_
          refine g_aload_n rfl ?_
          refine g_iconst (v := 2) ik_2 ?_
          refine g_iload_n rfl ?_
          refine g_callV (as := [_, _]) mk_X8_classes ml_X8_193 im_X8_classes se_X8_classes rfl rfl ⟨⟨nle rfl, nle rfl⟩, nle rfl, nle rfl⟩ hm.1 rfl rfl rfl (nle rfl) ?_
          refine ct_X8_classes hm (by rw [f1]; exact hI.c) bc 2 rfl (by omega) ?_
          rw [f1]
          refine kq_s ?_
          refine g_isub ?_
          refine g_fall rfl L_X8_floorOf_79 ?_
          refine g_iret rfl (nle rfl) (nle rfl) ?_
          exact qeq (hY hg k (by omega) rfl w (by omega) rfl M1 fH) (by unfold flV clsV; rw [if_neg (by omega), if_neg (by omega), n2]) rfl
        · have hwe : w = 4 := (nI_eq (a := w) (b := 4) (by omega) (by omega)).mp h_5
          refine g_aload_n rfl ?_
          refine g_iconst (v := 2) ik_2 ?_
          refine g_iload_n rfl ?_
          refine g_callV (as := [_, _]) mk_X8_classes ml_X8_193 im_X8_classes se_X8_classes rfl rfl ⟨⟨nle rfl, nle rfl⟩, nle rfl, nle rfl⟩ hm.1 rfl rfl rfl (nle rfl) ?_
          refine ct_X8_classes hm (by rw [f1]; exact hI.c) bc 2 rfl (by omega) ?_
          rw [f1]
          refine kq_s ?_
          refine g_goto rfl L_X8_floorOf_79 ?_
          refine g_iret rfl (nle rfl) (nle rfl) ?_
          exact qeq (hY hg k (by omega) rfl w (by omega) rfl M1 fH) (by unfold flV clsV; rw [if_neg (by omega), if_pos (by assumption), n2]) rfl
      · have hw4 : w < 4 := by
          rcases Nat.lt_or_ge w 4 with q | q
          · exact q
          · exact absurd ((nI_leI (a := 4) (b := w) (by omega) (by omega)).mpr q) h_4
        refine g_aload_n rfl ?_
        refine g_getR (w := (m + 1)) fl_X8_7 rfl hm.1 rfl ?_
        refine g_bipush (v := 13) bk_13 ?_
        refine g_iconst (v := 4) ik_4 ?_
        refine g_iload_n rfl ?_
        refine g_imul ?_
        refine g_iadd ?_
        refine g_iload_n rfl ?_
        refine g_iadd ?_
        refine g_iaload (j := ((13 + (4 * k)) + w)) hm.2.1 (by simp only [nI, Int32.ofNat_add, Int32.ofNat_mul] <;> rfl) (by omega) (nle rfl) ?_
        refine g_goto rfl L_X8_floorOf_79 ?_
        refine g_iret rfl (nle rfl) (nle rfl) ?_
        exact qeq (hY hg k (by omega) rfl w (by omega) rfl M1 fH) (by rw [f1]; unfold flV; rw [if_pos hw4]) rfl
    · have hin := h_2
      refine g_iconst (v := 2) ik_2 ?_
      refine g_goto rfl L_X8_floorOf_27 ?_
      refine g_callV (as := [_]) mk_X8_holds ml_X8_89 im_X8_holds se_X8_holds rfl rfl ⟨⟨nle rfl, nle rfl⟩, nle rfl, nle rfl⟩ hm.1 rfl rfl rfl (nle rfl) ?_
      refine ct_X8_holds hm ?_
      refine kq_s ?_
      refine g_if_ne rfl L_X8_floorOf_35 (fun h_6 => absurd h_6 (by decide)) (fun h_6 => ?_)
      refine g_iconst (v := 0) ik_0 ?_
      refine g_iret rfl (nle rfl) (nle rfl) ?_
      exact hE2 hg hin
  · have hg : isF s v = false := h_1
    refine g_iconst (v := 1) ik_1 ?_
    refine g_goto rfl L_X8_floorOf_27 ?_
    refine g_callV (as := [_]) mk_X8_holds ml_X8_89 im_X8_holds se_X8_holds rfl rfl ⟨⟨nle rfl, nle rfl⟩, nle rfl, nle rfl⟩ hm.1 rfl rfl rfl (nle rfl) ?_
    refine ct_X8_holds hm ?_
    refine kq_s ?_
    refine g_if_ne rfl L_X8_floorOf_35 (fun h_7 => absurd h_7 (by decide)) (fun h_7 => ?_)
    refine g_iconst (v := 0) ik_0 ?_
    refine g_iret rfl (nle rfl) (nle rfl) ?_
    exact hE1 hg
set_option maxRecDepth 100000 in
set_option maxHeartbeats 4000000 in
theorem ct_X8_teacherOf {X : Xs} {κ : Kp} {M : Mem} {Q : Rs → Kp → Mem → Prop} {m : Nat} (hm : IsMod κ.2.1 m) {B : Nat} {s : Nat → Int32} (hs : M (m + 1) = s) (hI0 : IR B s) {v what : Int32} (hE1 : isT s v = false → Q (.inl (some (.int 0))) κ (upM M m 0 1)) (hE2 : isT s v = true → inB what 0 3 = false → Q (.inl (some (.int 0))) κ (upM M m 0 2)) (hY : isT s v = true → ∀ k, k < 100 → v = nI k → ∀ w, w < 4 → what = nI w → ∀ M', FrH M M' m → Q (.inl (some (.int (teV s k w)))) κ M') : Ct X m_X8_teacherOf [.ref m, .int v, .int what] κ M Q := by
  refine ct_of B_X8_teacherOf_0 pn_X8 rfl (nle rfl) L_X8_teacherOf_0 ?_
  refine g_aload_n rfl ?_
  refine g_aload_n rfl ?_
  refine g_iload_n rfl ?_
  refine g_callV (as := [_]) mk_X8_isTeacher ml_X8_124 im_X8_isTeacher se_X8_isTeacher rfl rfl ⟨⟨nle rfl, nle rfl⟩, nle rfl, nle rfl⟩ hm.1 rfl rfl rfl (nle rfl) ?_
  refine ct_X8_isTeacher hm ?_
  rw [hs]
  refine kq_s ?_
  refine g_if_ne_b rfl L_X8_teacherOf_13 (fun h_1 => ?_) (fun h_1 => ?_)
  · have hg : isT s v = true := h_1
    refine g_iload_n rfl ?_
    refine g_iconst (v := 0) ik_0 ?_
    refine g_iconst (v := 3) ik_3 ?_
    refine g_callS (as := [_, _, _]) mk_X8_in ml_X8_29 sm_X8_in rfl rfl ⟨⟨nle rfl, nle rfl⟩, nle rfl, nle rfl⟩ rfl rfl (nle rfl) ?_
    refine ct_X8_in ?_
    refine kq_s ?_
    refine g_if_ne_b rfl L_X8_teacherOf_26 (fun h_2 => ?_) (fun h_2 => ?_)
    · have hin := h_2
      obtain ⟨w, hw, ew⟩ := in_lt (n := 3) (by omega) hin
      subst ew
      have hI00 := hI0
      obtain ⟨nf, nt, nc, nd, hI⟩ := hI00
      have bf := hI.lf
      have bt := hI.lt
      have bc := hI.lc
      have bn := hI.ld
      have n0 := hI.n0
      have n1 := hI.n1
      have n2 := hI.n2
      have n3 := hI.n3
      obtain ⟨k, hk, ek⟩ := hI.xT.mp hg
      subst ek
      refine g_iconst (v := 0) ik_0 ?_
      refine g_fall rfl L_X8_teacherOf_27 ?_
      refine g_callV (as := [_]) mk_X8_holds ml_X8_89 im_X8_holds se_X8_holds rfl rfl ⟨⟨nle rfl, nle rfl⟩, nle rfl, nle rfl⟩ hm.1 rfl rfl rfl (nle rfl) ?_
      refine ct_X8_holds hm ?_
      have fH := frh M m
      generalize (upM M m 0 0) = M1 at fH ⊢
      have f1 : M1 (m + 1) = s := (fH.2.1 _ (by omega)).trans hs
      have hI1 : IR B (M1 (m + 1)) := by rw [f1]; exact hI0
      refine kq_s ?_
      refine g_if_ne rfl L_X8_teacherOf_35 (fun h_3 => ?_) (fun h_3 => absurd h_3 (by decide))
      refine g_iload_n rfl ?_
      refine g_iconst (v := 2) ik_2 ?_
      refine g_icmp_ge rfl L_X8_teacherOf_56 (fun h_4 => ?_) (fun h_4 => ?_)
      · have hw2 : 2 ≤ w := (nI_leI (a := 2) (b := w) (by omega) (by omega)).mp h_4
        refine g_iload_n rfl ?_
        refine g_iconst (v := 2) ik_2 ?_
        refine g_icmp_ne rfl L_X8_teacherOf_70 (fun h_5 => ?_) (fun h_5 => ?_)
        · have hwe : ¬ w = 2 := fun q => h_5 (by rw [q]; rfl)
          refine g_aload_n rfl ?_
          refine g_iload_n rfl ?_
          refine g_callV (as := [_]) mk_X8_daysOf ml_X8_196 im_X8_daysOf se_X8_daysOf rfl rfl ⟨⟨nle rfl, nle rfl⟩, nle rfl, nle rfl⟩ hm.1 rfl rfl rfl (nle rfl) ?_
          refine ct_X8_daysOf hm (by rw [f1]; exact hI.c) bc ?_
          rw [f1]
          refine kq_s ?_
          refine g_fall rfl L_X8_teacherOf_75 ?_
          refine g_iret rfl (nle rfl) (nle rfl) ?_
          exact qeq (hY hg k (by omega) rfl w (by omega) rfl M1 fH) (by unfold teV dayV; rw [if_neg (by omega), if_neg (by omega), n2]) rfl
        · have hwe : w = 2 := (nI_eq (a := w) (b := 2) (by omega) (by omega)).mp h_5
          refine g_aload_n rfl ?_
          refine g_iconst (v := 3) ik_3 ?_
          refine g_iload_n rfl ?_
          refine g_callV (as := [_, _]) mk_X8_classes ml_X8_193 im_X8_classes se_X8_classes rfl rfl ⟨⟨nle rfl, nle rfl⟩, nle rfl, nle rfl⟩ hm.1 rfl rfl rfl (nle rfl) ?_
          refine ct_X8_classes hm (by rw [f1]; exact hI.c) bc 3 rfl (by omega) ?_
          rw [f1]
          refine kq_s ?_
          refine g_goto rfl L_X8_teacherOf_75 ?_
          refine g_iret rfl (nle rfl) (nle rfl) ?_
          exact qeq (hY hg k (by omega) rfl w (by omega) rfl M1 fH) (by unfold teV clsV; rw [if_neg (by omega), if_pos (by assumption), n2]) rfl
      · have hw2 : w < 2 := by
          rcases Nat.lt_or_ge w 2 with q | q
          · exact q
          · exact absurd ((nI_leI (a := 2) (b := w) (by omega) (by omega)).mpr q) h_4
        refine g_aload_n rfl ?_
        refine g_getR (w := (m + 1)) fl_X8_7 rfl hm.1 rfl ?_
        refine g_bipush (v := 29) bk_29 ?_
        refine g_iconst (v := 2) ik_2 ?_
        refine g_iload_n rfl ?_
        refine g_imul ?_
        refine g_iadd ?_
        refine g_iload_n rfl ?_
        refine g_iadd ?_
        refine g_iaload (j := ((29 + (2 * k)) + w)) hm.2.1 (by simp only [nI, Int32.ofNat_add, Int32.ofNat_mul] <;> rfl) (by omega) (nle rfl) ?_
        refine g_goto rfl L_X8_teacherOf_75 ?_
        refine g_iret rfl (nle rfl) (nle rfl) ?_
        exact qeq (hY hg k (by omega) rfl w (by omega) rfl M1 fH) (by rw [f1]; unfold teV; rw [if_pos hw2]) rfl
    · have hin := h_2
      refine g_iconst (v := 2) ik_2 ?_
      refine g_goto rfl L_X8_teacherOf_27 ?_
      refine g_callV (as := [_]) mk_X8_holds ml_X8_89 im_X8_holds se_X8_holds rfl rfl ⟨⟨nle rfl, nle rfl⟩, nle rfl, nle rfl⟩ hm.1 rfl rfl rfl (nle rfl) ?_
      refine ct_X8_holds hm ?_
      refine kq_s ?_
      refine g_if_ne rfl L_X8_teacherOf_35 (fun h_6 => absurd h_6 (by decide)) (fun h_6 => ?_)
      refine g_iconst (v := 0) ik_0 ?_
      refine g_iret rfl (nle rfl) (nle rfl) ?_
      exact hE2 hg hin
  · have hg : isT s v = false := h_1
    refine g_iconst (v := 1) ik_1 ?_
    refine g_goto rfl L_X8_teacherOf_27 ?_
    refine g_callV (as := [_]) mk_X8_holds ml_X8_89 im_X8_holds se_X8_holds rfl rfl ⟨⟨nle rfl, nle rfl⟩, nle rfl, nle rfl⟩ hm.1 rfl rfl rfl (nle rfl) ?_
    refine ct_X8_holds hm ?_
    refine kq_s ?_
    refine g_if_ne rfl L_X8_teacherOf_35 (fun h_7 => absurd h_7 (by decide)) (fun h_7 => ?_)
    refine g_iconst (v := 0) ik_0 ?_
    refine g_iret rfl (nle rfl) (nle rfl) ?_
    exact hE1 hg
set_option maxRecDepth 100000 in
set_option maxHeartbeats 4000000 in
theorem ct_X8_classOf {X : Xs} {κ : Kp} {M : Mem} {Q : Rs → Kp → Mem → Prop} {m : Nat} (hm : IsMod κ.2.1 m) {B : Nat} {s : Nat → Int32} (hs : M (m + 1) = s) (hI0 : IR B s) {v what : Int32} (hE1 : isC s v = false → Q (.inl (some (.int 0))) κ (upM M m 0 1)) (hE2 : isC s v = true → inB what 0 9 = false → Q (.inl (some (.int 0))) κ (upM M m 0 2)) (hY : isC s v = true → ∀ k, k < 100 → v = nI k → ∀ w, w < 10 → what = nI w → ∀ M', FrH M M' m → Q (.inl (some (.int (clV s k w)))) κ M') : Ct X m_X8_classOf [.ref m, .int v, .int what] κ M Q := by
  refine ct_of B_X8_classOf_0 pn_X8 rfl (nle rfl) L_X8_classOf_0 ?_
  refine g_aload_n rfl ?_
  refine g_aload_n rfl ?_
  refine g_iload_n rfl ?_
  refine g_callV (as := [_]) mk_X8_isClass ml_X8_130 im_X8_isClass se_X8_isClass rfl rfl ⟨⟨nle rfl, nle rfl⟩, nle rfl, nle rfl⟩ hm.1 rfl rfl rfl (nle rfl) ?_
  refine ct_X8_isClass hm ?_
  rw [hs]
  refine kq_s ?_
  refine g_if_ne_b rfl L_X8_classOf_13 (fun h_1 => ?_) (fun h_1 => ?_)
  · have hg : isC s v = true := h_1
    refine g_iload_n rfl ?_
    refine g_iconst (v := 0) ik_0 ?_
    refine g_bipush (v := 9) bk_9 ?_
    refine g_callS (as := [_, _, _]) mk_X8_in ml_X8_29 sm_X8_in rfl rfl ⟨⟨nle rfl, nle rfl⟩, nle rfl, nle rfl⟩ rfl rfl (nle rfl) ?_
    refine ct_X8_in ?_
    refine kq_s ?_
    refine g_if_ne_b rfl L_X8_classOf_27 (fun h_2 => ?_) (fun h_2 => ?_)
    · have hin := h_2
      obtain ⟨w, hw, ew⟩ := in_lt (n := 9) (by omega) hin
      subst ew
      have hI00 := hI0
      obtain ⟨nf, nt, nc, nd, hI⟩ := hI00
      have bf := hI.lf
      have bt := hI.lt
      have bc := hI.lc
      have bn := hI.ld
      have n0 := hI.n0
      have n1 := hI.n1
      have n2 := hI.n2
      have n3 := hI.n3
      obtain ⟨k, hk, ek⟩ := hI.xC.mp hg
      subst ek
      refine g_iconst (v := 0) ik_0 ?_
      refine g_fall rfl L_X8_classOf_28 ?_
      refine g_callV (as := [_]) mk_X8_holds ml_X8_89 im_X8_holds se_X8_holds rfl rfl ⟨⟨nle rfl, nle rfl⟩, nle rfl, nle rfl⟩ hm.1 rfl rfl rfl (nle rfl) ?_
      refine ct_X8_holds hm ?_
      have fH := frh M m
      generalize (upM M m 0 0) = M1 at fH ⊢
      have f1 : M1 (m + 1) = s := (fH.2.1 _ (by omega)).trans hs
      have hI1 : IR B (M1 (m + 1)) := by rw [f1]; exact hI0
      refine kq_s ?_
      refine g_if_ne rfl L_X8_classOf_36 (fun h_3 => ?_) (fun h_3 => absurd h_3 (by decide))
      refine g_iload_n rfl ?_
      refine g_bipush (v := 6) bk_6 ?_
      refine g_icmp_ne rfl L_X8_classOf_50 (fun h_4 => ?_) (fun h_4 => ?_)
      · have hw6 : ¬ w = 6 := fun q => h_4 (by rw [q]; rfl)
        refine g_iload_n rfl ?_
        refine g_bipush (v := 7) bk_7 ?_
        refine g_icmp_ne rfl L_X8_classOf_69 (fun h_5 => ?_) (fun h_5 => ?_)
        · have hw7 : ¬ w = 7 := fun q => h_5 (by rw [q]; rfl)
          refine g_aload_n rfl ?_
          refine g_iload_n rfl ?_
          refine g_iload_n rfl ?_
          refine g_bipush (v := 6) bk_6 ?_
          refine g_icmp_ge rfl L_X8_classOf_81 (fun h_6 => ?_) (fun h_6 => ?_)
          · have hwg : 6 ≤ w := (nI_leI (a := 6) (b := w) (by omega) (by omega)).mp h_6
            refine g_iload_n rfl ?_
            refine g_iconst (v := 2) ik_2 ?_
            refine g_isub ?_
            refine g_fall rfl L_X8_classOf_84 ?_
            rw [show nI w - 2 = nI (w - 2) from nsub (c := 2) (by omega) rfl]
            refine g_callV (as := [_, _]) mk_X8_ofClass ml_X8_40 im_X8_ofClass se_X8_ofClass rfl rfl ⟨⟨nle rfl, nle rfl⟩, nle rfl, nle rfl⟩ hm.1 rfl rfl rfl (nle rfl) ?_
            refine ct_X8_ofClass hm k (w - 2) rfl rfl (by omega) ?_
            rw [f1]
            refine kq_s ?_
            refine g_fall rfl L_X8_classOf_87 ?_
            refine g_iret rfl (nle rfl) (nle rfl) ?_
            exact qeq (hY hg k (by omega) rfl w (by omega) rfl M1 fH) (by unfold clV; rw [if_neg hw6, if_neg hw7, if_neg (by omega)]) rfl
          · have hwg : w < 6 := by
              rcases Nat.lt_or_ge w 6 with q | q
              · exact q
              · exact absurd ((nI_leI (a := 6) (b := w) (by omega) (by omega)).mpr q) h_6
            refine g_iload_n rfl ?_
            refine g_goto rfl L_X8_classOf_84 ?_
            refine g_callV (as := [_, _]) mk_X8_ofClass ml_X8_40 im_X8_ofClass se_X8_ofClass rfl rfl ⟨⟨nle rfl, nle rfl⟩, nle rfl, nle rfl⟩ hm.1 rfl rfl rfl (nle rfl) ?_
            refine ct_X8_ofClass hm k w rfl rfl (by omega) ?_
            rw [f1]
            refine kq_s ?_
            refine g_fall rfl L_X8_classOf_87 ?_
            refine g_iret rfl (nle rfl) (nle rfl) ?_
            exact qeq (hY hg k (by omega) rfl w (by omega) rfl M1 fH) (by unfold clV; rw [if_neg hw6, if_neg hw7, if_pos (by omega)]) rfl
        · have hw7 : w = 7 := (nI_eq (a := w) (b := 7) (by omega) (by omega)).mp h_5
          refine g_aload_n rfl ?_
          refine g_iload_n rfl ?_
          refine g_bipush (v := 8) bk_8 ?_
          refine g_callV (as := [_, _]) mk_X8_ofClass ml_X8_40 im_X8_ofClass se_X8_ofClass rfl rfl ⟨⟨nle rfl, nle rfl⟩, nle rfl, nle rfl⟩ hm.1 rfl rfl rfl (nle rfl) ?_
          refine ct_X8_ofClass hm k 8 rfl rfl (by omega) ?_
          rw [f1]
          refine kq_s ?_
          refine g_callS (as := [_]) mk_X8_bits ml_X8_60 sm_X8_bits rfl rfl ⟨⟨nle rfl, nle rfl⟩, nle rfl, nle rfl⟩ rfl rfl (nle rfl) ?_
          refine ct_X8_bits ?_
          refine kq_s ?_
          refine g_goto rfl L_X8_classOf_87 ?_
          refine g_iret rfl (nle rfl) (nle rfl) ?_
          exact qeq (hY hg k (by omega) rfl w (by omega) rfl M1 fH) (by unfold clV; rw [if_neg hw6, if_pos hw7]) rfl
      · have hw6 : w = 6 := (nI_eq (a := w) (b := 6) (by omega) (by omega)).mp h_4
        refine g_aload_n rfl ?_
        refine g_iload_n rfl ?_
        refine g_callV (as := [_]) mk_X8_classTakes ml_X8_63 im_X8_classTakes se_X8_classTakes rfl rfl ⟨⟨nle rfl, nle rfl⟩, nle rfl, nle rfl⟩ hm.1 rfl rfl rfl (nle rfl) ?_
        obtain ⟨f, hf, ef⟩ := (hI.cl hk).1
        refine ct_X8_classTakes hm k f rfl (by omega) (by rw [f1]; exact ef) (by omega) ?_
        rw [f1]
        refine kq_s ?_
        refine g_goto rfl L_X8_classOf_87 ?_
        refine g_iret rfl (nle rfl) (nle rfl) ?_
        exact qeq (hY hg k (by omega) rfl w (by omega) rfl M1 fH) (by unfold clV tkV; rw [if_pos hw6, ef, tn_nI (by omega)]) rfl
    · have hin := h_2
      refine g_iconst (v := 2) ik_2 ?_
      refine g_goto rfl L_X8_classOf_28 ?_
      refine g_callV (as := [_]) mk_X8_holds ml_X8_89 im_X8_holds se_X8_holds rfl rfl ⟨⟨nle rfl, nle rfl⟩, nle rfl, nle rfl⟩ hm.1 rfl rfl rfl (nle rfl) ?_
      refine ct_X8_holds hm ?_
      refine kq_s ?_
      refine g_if_ne rfl L_X8_classOf_36 (fun h_7 => absurd h_7 (by decide)) (fun h_7 => ?_)
      refine g_iconst (v := 0) ik_0 ?_
      refine g_iret rfl (nle rfl) (nle rfl) ?_
      exact hE2 hg hin
  · have hg : isC s v = false := h_1
    refine g_iconst (v := 1) ik_1 ?_
    refine g_goto rfl L_X8_classOf_28 ?_
    refine g_callV (as := [_]) mk_X8_holds ml_X8_89 im_X8_holds se_X8_holds rfl rfl ⟨⟨nle rfl, nle rfl⟩, nle rfl, nle rfl⟩ hm.1 rfl rfl rfl (nle rfl) ?_
    refine ct_X8_holds hm ?_
    refine kq_s ?_
    refine g_if_ne rfl L_X8_classOf_36 (fun h_8 => absurd h_8 (by decide)) (fun h_8 => ?_)
    refine g_iconst (v := 0) ik_0 ?_
    refine g_iret rfl (nle rfl) (nle rfl) ?_
    exact hE1 hg
set_option maxRecDepth 100000 in
set_option maxHeartbeats 4000000 in
theorem ct_X8_dancerOf {X : Xs} {κ : Kp} {M : Mem} {Q : Rs → Kp → Mem → Prop} {m : Nat} (hm : IsMod κ.2.1 m) {B : Nat} {s : Nat → Int32} (hs : M (m + 1) = s) (hI0 : IR B s) {v what : Int32} (hE1 : isD s v = false → Q (.inl (some (.int 0))) κ (upM M m 0 1)) (hE2 : isD s v = true → inB what 0 5 = false → Q (.inl (some (.int 0))) κ (upM M m 0 2)) (hY : isD s v = true → ∀ k, k < 100 → v = nI k → ∀ w, w < 6 → what = nI w → ∀ M', FrH M M' m → Q (.inl (some (.int (daV s k w)))) κ M') : Ct X m_X8_dancerOf [.ref m, .int v, .int what] κ M Q := by
  refine ct_of B_X8_dancerOf_0 pn_X8 rfl (nle rfl) L_X8_dancerOf_0 ?_
  refine g_aload_n rfl ?_
  refine g_aload_n rfl ?_
  refine g_iload_n rfl ?_
  refine g_callV (as := [_]) mk_X8_isDancer ml_X8_127 im_X8_isDancer se_X8_isDancer rfl rfl ⟨⟨nle rfl, nle rfl⟩, nle rfl, nle rfl⟩ hm.1 rfl rfl rfl (nle rfl) ?_
  refine ct_X8_isDancer hm ?_
  rw [hs]
  refine kq_s ?_
  refine g_if_ne_b rfl L_X8_dancerOf_13 (fun h_1 => ?_) (fun h_1 => ?_)
  · have hg : isD s v = true := h_1
    refine g_iload_n rfl ?_
    refine g_iconst (v := 0) ik_0 ?_
    refine g_iconst (v := 5) ik_5 ?_
    refine g_callS (as := [_, _, _]) mk_X8_in ml_X8_29 sm_X8_in rfl rfl ⟨⟨nle rfl, nle rfl⟩, nle rfl, nle rfl⟩ rfl rfl (nle rfl) ?_
    refine ct_X8_in ?_
    refine kq_s ?_
    refine g_if_ne_b rfl L_X8_dancerOf_26 (fun h_2 => ?_) (fun h_2 => ?_)
    · have hin := h_2
      obtain ⟨w, hw, ew⟩ := in_lt (n := 5) (by omega) hin
      subst ew
      have hI00 := hI0
      obtain ⟨nf, nt, nc, nd, hI⟩ := hI00
      have bf := hI.lf
      have bt := hI.lt
      have bc := hI.lc
      have bn := hI.ld
      have n0 := hI.n0
      have n1 := hI.n1
      have n2 := hI.n2
      have n3 := hI.n3
      obtain ⟨k, hk, ek⟩ := hI.xD.mp hg
      subst ek
      refine g_iconst (v := 0) ik_0 ?_
      refine g_fall rfl L_X8_dancerOf_27 ?_
      refine g_callV (as := [_]) mk_X8_holds ml_X8_89 im_X8_holds se_X8_holds rfl rfl ⟨⟨nle rfl, nle rfl⟩, nle rfl, nle rfl⟩ hm.1 rfl rfl rfl (nle rfl) ?_
      refine ct_X8_holds hm ?_
      have fH := frh M m
      generalize (upM M m 0 0) = M1 at fH ⊢
      have f1 : M1 (m + 1) = s := (fH.2.1 _ (by omega)).trans hs
      have hI1 : IR B (M1 (m + 1)) := by rw [f1]; exact hI0
      refine kq_s ?_
      refine g_if_eq rfl L_X8_dancerOf_55 (fun h_3 => absurd h_3 (by decide)) (fun h_3 => ?_)
      refine g_iload_n rfl ?_
      refine g_iconst (v := 5) ik_5 ?_
      refine g_icmp_ne rfl L_X8_dancerOf_46 (fun h_4 => ?_) (fun h_4 => ?_)
      · have hw5 : ¬ w = 5 := fun q => h_4 (by rw [q]; rfl)
        refine g_aload_n rfl ?_
        refine g_iload_n rfl ?_
        refine g_iload_n rfl ?_
        refine g_callV (as := [_, _]) mk_X8_ofDancer ml_X8_57 im_X8_ofDancer se_X8_ofDancer rfl rfl ⟨⟨nle rfl, nle rfl⟩, nle rfl, nle rfl⟩ hm.1 rfl rfl rfl (nle rfl) ?_
        refine ct_X8_ofDancer hm k w rfl rfl (by omega) ?_
        rw [f1]
        refine kq_s ?_
        refine g_goto rfl L_X8_dancerOf_56 ?_
        refine g_iret rfl (nle rfl) (nle rfl) ?_
        exact qeq (hY hg k (by omega) rfl w (by omega) rfl M1 fH) (by unfold daV; rw [if_neg hw5]) rfl
      · have hw5 : w = 5 := (nI_eq (a := w) (b := 5) (by omega) (by omega)).mp h_4
        refine g_aload_n rfl ?_
        refine g_iload_n rfl ?_
        refine g_callV (as := [_]) mk_X8_seatsOf ml_X8_199 im_X8_seatsOf se_X8_seatsOf rfl rfl ⟨⟨nle rfl, nle rfl⟩, nle rfl, nle rfl⟩ hm.1 rfl rfl rfl (nle rfl) ?_
        refine ct_X8_seatsOf hm (by rw [f1]; exact hI.c) bc ?_
        rw [f1]
        refine kq_s ?_
        refine g_goto rfl L_X8_dancerOf_56 ?_
        refine g_iret rfl (nle rfl) (nle rfl) ?_
        exact qeq (hY hg k (by omega) rfl w (by omega) rfl M1 fH) (by unfold daV; rw [if_pos hw5, n2]) rfl
    · have hin := h_2
      refine g_iconst (v := 2) ik_2 ?_
      refine g_goto rfl L_X8_dancerOf_27 ?_
      refine g_callV (as := [_]) mk_X8_holds ml_X8_89 im_X8_holds se_X8_holds rfl rfl ⟨⟨nle rfl, nle rfl⟩, nle rfl, nle rfl⟩ hm.1 rfl rfl rfl (nle rfl) ?_
      refine ct_X8_holds hm ?_
      refine kq_s ?_
      refine g_if_eq rfl L_X8_dancerOf_55 (fun h_5 => ?_) (fun h_5 => absurd h_5 (by decide))
      refine g_iconst (v := 0) ik_0 ?_
      refine g_fall rfl L_X8_dancerOf_56 ?_
      refine g_iret rfl (nle rfl) (nle rfl) ?_
      exact hE2 hg hin
  · have hg : isD s v = false := h_1
    refine g_iconst (v := 1) ik_1 ?_
    refine g_goto rfl L_X8_dancerOf_27 ?_
    refine g_callV (as := [_]) mk_X8_holds ml_X8_89 im_X8_holds se_X8_holds rfl rfl ⟨⟨nle rfl, nle rfl⟩, nle rfl, nle rfl⟩ hm.1 rfl rfl rfl (nle rfl) ?_
    refine ct_X8_holds hm ?_
    refine kq_s ?_
    refine g_if_eq rfl L_X8_dancerOf_55 (fun h_6 => ?_) (fun h_6 => absurd h_6 (by decide))
    refine g_iconst (v := 0) ik_0 ?_
    refine g_fall rfl L_X8_dancerOf_56 ?_
    refine g_iret rfl (nle rfl) (nle rfl) ?_
    exact hE1 hg
set_option maxRecDepth 100000 in
set_option maxHeartbeats 4000000 in
theorem ct_X8_uses {X : Xs} {κ : Kp} {M : Mem} {Q : Rs → Kp → Mem → Prop} {m : Nat} (hm : IsMod κ.2.1 m) {B : Nat} {s : Nat → Int32} (hs : M (m + 1) = s) (hI0 : IR B s) {way : Int32} (hE : inB way 0 1 = false → Q (.inl (some (.int 0))) κ (upM M m 0 1)) (hY : inB way 0 1 = true → ∀ M', FrH M M' m → Q (.inl (some (.int (s 6)))) κ M') : Ct X m_X8_uses [.ref m, .int way] κ M Q := by
  refine ct_of B_X8_uses_0 pn_X8 rfl (nle rfl) L_X8_uses_0 ?_
  refine g_aload_n rfl ?_
  refine g_iload_n rfl ?_
  refine g_iconst (v := 0) ik_0 ?_
  refine g_iconst (v := 1) ik_1 ?_
  refine g_callS (as := [_, _, _]) mk_X8_in ml_X8_29 sm_X8_in rfl rfl ⟨⟨nle rfl, nle rfl⟩, nle rfl, nle rfl⟩ rfl rfl (nle rfl) ?_
  refine ct_X8_in ?_
  refine kq_s ?_
  refine g_if_eq_b rfl L_X8_uses_14 (fun h_1 => ?_) (fun h_1 => ?_)
  · have hq := h_1
    refine g_iconst (v := 1) ik_1 ?_
    refine g_fall rfl L_X8_uses_15 ?_
    refine g_callV (as := [_]) mk_X8_holds ml_X8_89 im_X8_holds se_X8_holds rfl rfl ⟨⟨nle rfl, nle rfl⟩, nle rfl, nle rfl⟩ hm.1 rfl rfl rfl (nle rfl) ?_
    refine ct_X8_holds hm ?_
    refine kq_s ?_
    refine g_if_eq rfl L_X8_uses_31 (fun h_2 => ?_) (fun h_2 => absurd h_2 (by decide))
    refine g_iconst (v := 0) ik_0 ?_
    refine g_fall rfl L_X8_uses_32 ?_
    refine g_iret rfl (nle rfl) (nle rfl) ?_
    exact hE hq
  · have hq := h_1
    refine g_iconst (v := 0) ik_0 ?_
    refine g_goto rfl L_X8_uses_15 ?_
    refine g_callV (as := [_]) mk_X8_holds ml_X8_89 im_X8_holds se_X8_holds rfl rfl ⟨⟨nle rfl, nle rfl⟩, nle rfl, nle rfl⟩ hm.1 rfl rfl rfl (nle rfl) ?_
    refine ct_X8_holds hm ?_
    have fH := frh M m
    generalize (upM M m 0 0) = M1 at fH ⊢
    have f1 : M1 (m + 1) = s := (fH.2.1 _ (by omega)).trans hs
    have hI1 : IR B (M1 (m + 1)) := by rw [f1]; exact hI0
    refine kq_s ?_
    refine g_if_eq rfl L_X8_uses_31 (fun h_3 => absurd h_3 (by decide)) (fun h_3 => ?_)
    refine g_aload_n rfl ?_
    refine g_getR (w := (m + 1)) fl_X8_7 rfl hm.1 rfl ?_
    refine g_bipush (v := 6) bk_6 ?_
    refine g_iaload (j := 6) hm.2.1 rfl (nle rfl) (nle rfl) ?_
    refine g_goto rfl L_X8_uses_32 ?_
    refine g_iret rfl (nle rfl) (nle rfl) ?_
    exact qeq (hY hq M1 fH) (by rw [f1]) rfl
set_option maxRecDepth 100000 in
set_option maxHeartbeats 4000000 in
theorem ct_X8_setting {X : Xs} {κ : Kp} {M : Mem} {Q : Rs → Kp → Mem → Prop} {m : Nat} (hm : IsMod κ.2.1 m) {B : Nat} {s : Nat → Int32} (hs : M (m + 1) = s) (hI0 : IR B s) {what : Int32} (hE : inB what 0 1 = false → Q (.inl (some (.int 0))) κ (upM M m 0 1)) (hY : inB what 0 1 = true → ∀ k, k ≤ 1 → what = nI k → ∀ M', FrH M M' m → Q (.inl (some (.int (s (11 + k))))) κ M') : Ct X m_X8_setting [.ref m, .int what] κ M Q := by
  refine ct_of B_X8_setting_0 pn_X8 rfl (nle rfl) L_X8_setting_0 ?_
  refine g_aload_n rfl ?_
  refine g_iload_n rfl ?_
  refine g_iconst (v := 0) ik_0 ?_
  refine g_iconst (v := 1) ik_1 ?_
  refine g_callS (as := [_, _, _]) mk_X8_in ml_X8_29 sm_X8_in rfl rfl ⟨⟨nle rfl, nle rfl⟩, nle rfl, nle rfl⟩ rfl rfl (nle rfl) ?_
  refine ct_X8_in ?_
  refine kq_s ?_
  refine g_if_eq_b rfl L_X8_setting_14 (fun h_1 => ?_) (fun h_1 => ?_)
  · have hq := h_1
    refine g_iconst (v := 1) ik_1 ?_
    refine g_fall rfl L_X8_setting_15 ?_
    refine g_callV (as := [_]) mk_X8_holds ml_X8_89 im_X8_holds se_X8_holds rfl rfl ⟨⟨nle rfl, nle rfl⟩, nle rfl, nle rfl⟩ hm.1 rfl rfl rfl (nle rfl) ?_
    refine ct_X8_holds hm ?_
    refine kq_s ?_
    refine g_if_eq rfl L_X8_setting_33 (fun h_2 => ?_) (fun h_2 => absurd h_2 (by decide))
    refine g_iconst (v := 0) ik_0 ?_
    refine g_fall rfl L_X8_setting_34 ?_
    refine g_iret rfl (nle rfl) (nle rfl) ?_
    exact hE hq
  · have hq := h_1
    obtain ⟨k, hk, ek⟩ := in_lt (n := 1) (by omega) hq
    subst ek
    refine g_iconst (v := 0) ik_0 ?_
    refine g_goto rfl L_X8_setting_15 ?_
    refine g_callV (as := [_]) mk_X8_holds ml_X8_89 im_X8_holds se_X8_holds rfl rfl ⟨⟨nle rfl, nle rfl⟩, nle rfl, nle rfl⟩ hm.1 rfl rfl rfl (nle rfl) ?_
    refine ct_X8_holds hm ?_
    have fH := frh M m
    generalize (upM M m 0 0) = M1 at fH ⊢
    have f1 : M1 (m + 1) = s := (fH.2.1 _ (by omega)).trans hs
    have hI1 : IR B (M1 (m + 1)) := by rw [f1]; exact hI0
    refine kq_s ?_
    refine g_if_eq rfl L_X8_setting_33 (fun h_3 => absurd h_3 (by decide)) (fun h_3 => ?_)
    refine g_aload_n rfl ?_
    refine g_getR (w := (m + 1)) fl_X8_7 rfl hm.1 rfl ?_
    refine g_bipush (v := 11) bk_11 ?_
    refine g_iload_n rfl ?_
    refine g_iadd ?_
    rw [show (11 : Int32) + nI k = nI (11 + k) from nI_add 11 k]
    refine g_iaload (j := (11 + k)) hm.2.1 (by simp only [nI, Int32.ofNat_add, Int32.ofNat_mul] <;> rfl) (by omega) (nle rfl) ?_
    refine g_goto rfl L_X8_setting_34 ?_
    refine g_iret rfl (nle rfl) (nle rfl) ?_
    exact qeq (hY hq k hk rfl M1 fH) (by rw [f1]) rfl
set_option maxRecDepth 100000 in
set_option maxHeartbeats 4000000 in
theorem ct_X8_why {X : Xs} {κ : Kp} {M : Mem} {Q : Rs → Kp → Mem → Prop} {m : Nat} (hm : IsMod κ.2.1 m) {B : Nat} {s : Nat → Int32} (hs : M (m + 1) = s) (hI0 : IR B s) {st lv f t dy hr_ : Int32} (hE1 : (isF s f && isT s t) = false → Q (.inl (some (.int 0))) κ (upM M m 0 1)) (hE2 : (isF s f && isT s t) = true → isTm st lv dy hr_ = false → Q (.inl (some (.int 0))) κ (upM M m 0 2)) (hY : (isF s f && isT s t) = true → isTm st lv dy hr_ = true → ∀ M', FrH M M' m → Q (.inl (some (.int (wCl s st lv f t dy hr_)))) κ M') : Ct X m_X8_why [.ref m, .int st, .int lv, .int f, .int t, .int dy, .int hr_] κ M Q := by
  refine ct_of B_X8_why_0 pn_X8 rfl (nle rfl) L_X8_why_0 ?_
  refine g_aload_n rfl ?_
  refine g_iload_n rfl ?_
  refine g_callV (as := [_]) mk_X8_isFloor ml_X8_121 im_X8_isFloor se_X8_isFloor rfl rfl ⟨⟨nle rfl, nle rfl⟩, nle rfl, nle rfl⟩ hm.1 rfl rfl rfl (nle rfl) ?_
  refine ct_X8_isFloor hm ?_
  rw [hs]
  refine kq_s ?_
  refine g_if_eq_b rfl L_X8_why_21 (fun h_1 => ?_) (fun h_1 => ?_)
  · have hqf := h_1
    refine g_iconst (v := 0) ik_0 ?_
    refine g_fall rfl L_X8_why_22 ?_
    refine g_istore (nle rfl) ?_
    refine g_aload_n rfl ?_
    refine g_iload rfl ?_
    refine g_if_ne rfl L_X8_why_34 (fun h_2 => absurd h_2 (by decide)) (fun h_2 => ?_)
    refine g_iconst (v := 1) ik_1 ?_
    refine g_goto rfl L_X8_why_51 ?_
    refine g_callV (as := [_]) mk_X8_holds ml_X8_89 im_X8_holds se_X8_holds rfl rfl ⟨⟨nle rfl, nle rfl⟩, nle rfl, nle rfl⟩ hm.1 rfl rfl rfl (nle rfl) ?_
    refine ct_X8_holds hm ?_
    refine kq_s ?_
    refine g_if_eq rfl L_X8_why_73 (fun h_3 => ?_) (fun h_3 => absurd h_3 (by decide))
    refine g_iconst (v := 0) ik_0 ?_
    refine g_fall rfl L_X8_why_74 ?_
    refine g_iret rfl (nle rfl) (nle rfl) ?_
    exact hE1 (by rw [show isF s f = false from hqf]; rfl)
  · have hqf := h_1
    refine g_aload_n rfl ?_
    refine g_iload rfl ?_
    refine g_callV (as := [_]) mk_X8_isTeacher ml_X8_124 im_X8_isTeacher se_X8_isTeacher rfl rfl ⟨⟨nle rfl, nle rfl⟩, nle rfl, nle rfl⟩ hm.1 rfl rfl rfl (nle rfl) ?_
    refine ct_X8_isTeacher hm ?_
    rw [hs]
    refine kq_s ?_
    refine g_if_eq_b rfl L_X8_why_21 (fun h_4 => ?_) (fun h_4 => ?_)
    · have hqt := h_4
      refine g_iconst (v := 0) ik_0 ?_
      refine g_fall rfl L_X8_why_22 ?_
      refine g_istore (nle rfl) ?_
      refine g_aload_n rfl ?_
      refine g_iload rfl ?_
      refine g_if_ne rfl L_X8_why_34 (fun h_5 => absurd h_5 (by decide)) (fun h_5 => ?_)
      refine g_iconst (v := 1) ik_1 ?_
      refine g_goto rfl L_X8_why_51 ?_
      refine g_callV (as := [_]) mk_X8_holds ml_X8_89 im_X8_holds se_X8_holds rfl rfl ⟨⟨nle rfl, nle rfl⟩, nle rfl, nle rfl⟩ hm.1 rfl rfl rfl (nle rfl) ?_
      refine ct_X8_holds hm ?_
      refine kq_s ?_
      refine g_if_eq rfl L_X8_why_73 (fun h_6 => ?_) (fun h_6 => absurd h_6 (by decide))
      refine g_iconst (v := 0) ik_0 ?_
      refine g_fall rfl L_X8_why_74 ?_
      refine g_iret rfl (nle rfl) (nle rfl) ?_
      exact hE1 (by rw [show isT s t = false from hqt]; simp)
    · have hqt := h_4
      refine g_iconst (v := 1) ik_1 ?_
      refine g_goto rfl L_X8_why_22 ?_
      refine g_istore (nle rfl) ?_
      refine g_aload_n rfl ?_
      refine g_iload rfl ?_
      refine g_if_ne rfl L_X8_why_34 (fun h_7 => ?_) (fun h_7 => absurd h_7 (by decide))
      refine g_iload_n rfl ?_
      refine g_iload_n rfl ?_
      refine g_iload rfl ?_
      refine g_iload rfl ?_
      refine g_callS (as := [_, _, _, _]) mk_X8_isTime ml_X8_209 sm_X8_isTime rfl rfl ⟨⟨nle rfl, nle rfl⟩, nle rfl, nle rfl⟩ rfl rfl (nle rfl) ?_
      refine ct_X8_isTime ?_
      refine kq_s ?_
      refine g_if_ne_b rfl L_X8_why_50 (fun h_8 => ?_) (fun h_8 => ?_)
      · have hqa := h_8
        refine g_iconst (v := 0) ik_0 ?_
        refine g_fall rfl L_X8_why_51 ?_
        refine g_callV (as := [_]) mk_X8_holds ml_X8_89 im_X8_holds se_X8_holds rfl rfl ⟨⟨nle rfl, nle rfl⟩, nle rfl, nle rfl⟩ hm.1 rfl rfl rfl (nle rfl) ?_
        refine ct_X8_holds hm ?_
        have fH := frh M m
        generalize (upM M m 0 0) = M1 at fH ⊢
        have f1 : M1 (m + 1) = s := (fH.2.1 _ (by omega)).trans hs
        have hI1 : IR B (M1 (m + 1)) := by rw [f1]; exact hI0
        refine kq_s ?_
        refine g_if_eq rfl L_X8_why_73 (fun h_9 => absurd h_9 (by decide)) (fun h_9 => ?_)
        refine g_aload_n rfl ?_
        refine g_iload_n rfl ?_
        refine g_iload_n rfl ?_
        refine g_iload_n rfl ?_
        refine g_iload rfl ?_
        refine g_iload rfl ?_
        refine g_iload rfl ?_
        refine g_callV (as := [_, _, _, _, _, _]) mk_X8_whyNo ml_X8_136 im_X8_whyNo se_X8_whyNo rfl rfl ⟨⟨nle rfl, nle rfl⟩, nle rfl, nle rfl⟩ hm.1 rfl rfl rfl (nle rfl) ?_
        refine m_whyNo hm hI1 (by rw [f1]; exact hqf) (by rw [f1]; exact hqt) ?_
        rw [f1]
        refine kq_s ?_
        refine g_goto rfl L_X8_why_74 ?_
        refine g_iret rfl (nle rfl) (nle rfl) ?_
        exact hY (by rw [show isF s f = true from hqf, show isT s t = true from hqt]; rfl) hqa M1 fH
      · have hqa := h_8
        refine g_iconst (v := 2) ik_2 ?_
        refine g_goto rfl L_X8_why_51 ?_
        refine g_callV (as := [_]) mk_X8_holds ml_X8_89 im_X8_holds se_X8_holds rfl rfl ⟨⟨nle rfl, nle rfl⟩, nle rfl, nle rfl⟩ hm.1 rfl rfl rfl (nle rfl) ?_
        refine ct_X8_holds hm ?_
        refine kq_s ?_
        refine g_if_eq rfl L_X8_why_73 (fun h_10 => ?_) (fun h_10 => absurd h_10 (by decide))
        refine g_iconst (v := 0) ik_0 ?_
        refine g_fall rfl L_X8_why_74 ?_
        refine g_iret rfl (nle rfl) (nle rfl) ?_
        exact hE2 (by rw [show isF s f = true from hqf, show isT s t = true from hqt]; rfl) hqa
set_option maxRecDepth 100000 in
set_option maxHeartbeats 4000000 in
theorem ct_X8_whySeat {X : Xs} {κ : Kp} {M : Mem} {Q : Rs → Kp → Mem → Prop} {m : Nat} (hm : IsMod κ.2.1 m) {B : Nat} {s : Nat → Int32} (hs : M (m + 1) = s) (hI0 : IR B s) {d k : Int32} (hE1 : gSe s d k = false → Q (.inl (some (.int 0))) κ (upM M m 0 1)) (hY : gSe s d k = true → ∀ M', FrH M M' m → Q (.inl (some (.int (wSe s d k)))) κ M') : Ct X m_X8_whySeat [.ref m, .int d, .int k] κ M Q := by
  refine ct_of B_X8_whySeat_0 pn_X8 rfl (nle rfl) L_X8_whySeat_0 ?_
  refine g_aload_n rfl ?_
  refine g_aload_n rfl ?_
  refine g_iload_n rfl ?_
  refine g_callV (as := [_]) mk_X8_isDancer ml_X8_127 im_X8_isDancer se_X8_isDancer rfl rfl ⟨⟨nle rfl, nle rfl⟩, nle rfl, nle rfl⟩ hm.1 rfl rfl rfl (nle rfl) ?_
  refine ct_X8_isDancer hm ?_
  rw [hs]
  refine kq_s ?_
  refine g_if_eq_b rfl L_X8_whySeat_21 (fun h_1 => ?_) (fun h_1 => ?_)
  · have hqd := h_1
    refine g_iconst (v := 1) ik_1 ?_
    refine g_fall rfl L_X8_whySeat_22 ?_
    refine g_callV (as := [_]) mk_X8_holds ml_X8_89 im_X8_holds se_X8_holds rfl rfl ⟨⟨nle rfl, nle rfl⟩, nle rfl, nle rfl⟩ hm.1 rfl rfl rfl (nle rfl) ?_
    refine ct_X8_holds hm ?_
    refine kq_s ?_
    refine g_if_eq rfl L_X8_whySeat_37 (fun h_2 => ?_) (fun h_2 => absurd h_2 (by decide))
    refine g_iconst (v := 0) ik_0 ?_
    refine g_fall rfl L_X8_whySeat_38 ?_
    refine g_iret rfl (nle rfl) (nle rfl) ?_
    exact hE1 (by unfold gSe; rw [show isD s d = false from hqd]; rfl)
  · have hqd := h_1
    refine g_aload_n rfl ?_
    refine g_iload_n rfl ?_
    refine g_callV (as := [_]) mk_X8_isClass ml_X8_130 im_X8_isClass se_X8_isClass rfl rfl ⟨⟨nle rfl, nle rfl⟩, nle rfl, nle rfl⟩ hm.1 rfl rfl rfl (nle rfl) ?_
    refine ct_X8_isClass hm ?_
    rw [hs]
    refine kq_s ?_
    refine g_if_eq_b rfl L_X8_whySeat_21 (fun h_3 => ?_) (fun h_3 => ?_)
    · have hqk := h_3
      refine g_iconst (v := 1) ik_1 ?_
      refine g_fall rfl L_X8_whySeat_22 ?_
      refine g_callV (as := [_]) mk_X8_holds ml_X8_89 im_X8_holds se_X8_holds rfl rfl ⟨⟨nle rfl, nle rfl⟩, nle rfl, nle rfl⟩ hm.1 rfl rfl rfl (nle rfl) ?_
      refine ct_X8_holds hm ?_
      refine kq_s ?_
      refine g_if_eq rfl L_X8_whySeat_37 (fun h_4 => ?_) (fun h_4 => absurd h_4 (by decide))
      refine g_iconst (v := 0) ik_0 ?_
      refine g_fall rfl L_X8_whySeat_38 ?_
      refine g_iret rfl (nle rfl) (nle rfl) ?_
      exact hE1 (by unfold gSe; rw [show isC s k = false from hqk]; simp)
    · have hqk := h_3
      refine g_iconst (v := 0) ik_0 ?_
      refine g_goto rfl L_X8_whySeat_22 ?_
      refine g_callV (as := [_]) mk_X8_holds ml_X8_89 im_X8_holds se_X8_holds rfl rfl ⟨⟨nle rfl, nle rfl⟩, nle rfl, nle rfl⟩ hm.1 rfl rfl rfl (nle rfl) ?_
      refine ct_X8_holds hm ?_
      have fH := frh M m
      generalize (upM M m 0 0) = M1 at fH ⊢
      have f1 : M1 (m + 1) = s := (fH.2.1 _ (by omega)).trans hs
      have hI1 : IR B (M1 (m + 1)) := by rw [f1]; exact hI0
      refine kq_s ?_
      refine g_if_eq rfl L_X8_whySeat_37 (fun h_5 => absurd h_5 (by decide)) (fun h_5 => ?_)
      refine g_aload_n rfl ?_
      refine g_iload_n rfl ?_
      refine g_iload_n rfl ?_
      refine g_callV (as := [_, _]) mk_X8_whyNoSeat ml_X8_146 im_X8_whyNoSeat se_X8_whyNoSeat rfl rfl ⟨⟨nle rfl, nle rfl⟩, nle rfl, nle rfl⟩ hm.1 rfl rfl rfl (nle rfl) ?_
      have hg : gSe s d k = true := by unfold gSe; rw [show isD s d = true from hqd, show isC s k = true from hqk]; rfl
      refine m_whyNoSeat hm hI1 (by rw [f1]; exact hg) ?_
      rw [f1]
      refine kq_s ?_
      refine g_goto rfl L_X8_whySeat_38 ?_
      refine g_iret rfl (nle rfl) (nle rfl) ?_
      exact hY hg M1 fH
