def AM (M M' : Mem) (m cnt : Nat) (f : Nat → Int32) : Prop := M' (m + 1) = f ∧ M' m 0 = 0 ∧ M' m 2 = nI (remC cnt) ∧ (∀ r, r ≠ m → r ≠ m + 1 → M' r = M r) ∧ (∀ j, j ≠ 0 → j ≠ 2 → M' m j = M m j)
theorem am_fin {M M1 M2 : Mem} {m cnt : Nat} {f : Nat → Int32} (fH : FrH M M1 m) (g2 : M2 m 2 = nI (remC cnt)) (gr : ∀ r, r ≠ m → r ≠ m + 1 → M2 r = M1 r) (gj : ∀ j, j ≠ 2 → M2 m j = M1 m j) : AM M (sR M2 (m + 1) f) m cnt f := by
  refine ⟨sR_s _ _ _, ?_, ?_, fun r a b => ?_, fun j a b => ?_⟩
  · rw [sR_o _ _ _ (by omega), gj 0 (by omega)]; exact fH.1
  · rw [sR_o _ _ _ (by omega)]; exact g2
  · rw [sR_o _ _ _ b, gr r a b]; exact fH.2.1 r a
  · rw [sR_o _ _ _ (by omega), gj j b]; exact fH.2.2 j a
theorem g_rm0 {cnt : Nat} {s : Nat → Int32} : gFl (rmS cnt s) = gFl s := by unfold gFl; rw [rm_low (by omega)]
theorem g_rm1 {cnt : Nat} {s : Nat → Int32} : gTe (rmS cnt s) = gTe s := by unfold gTe; rw [rm_low (by omega)]
theorem g_rm3 {cnt : Nat} {s : Nat → Int32} : gDa (rmS cnt s) = gDa s := by unfold gDa; rw [rm_low (by omega)]
theorem g_rmF {cnt : Nat} {s : Nat → Int32} {v : Int32} : isF (rmS cnt s) v = isF s v := by unfold isF; rw [rm_low (by omega)]
theorem g_rmT {cnt : Nat} {s : Nat → Int32} {v : Int32} : isT (rmS cnt s) v = isT s v := by unfold isT; rw [rm_low (by omega)]
theorem g_rmC {cnt : Nat} {s : Nat → Int32} {v : Int32} : isC (rmS cnt s) v = isC s v := by unfold isC; rw [rm_low (by omega)]
theorem g_rmD {cnt : Nat} {s : Nat → Int32} {v : Int32} : isD (rmS cnt s) v = isD s v := by unfold isD; rw [rm_low (by omega)]
theorem g_rmS {cnt : Nat} {s : Nat → Int32} {d k : Int32} : gSe (rmS cnt s) d k = gSe s d k := by unfold gSe; rw [g_rmD, g_rmC]
theorem g_rmCl {cnt : Nat} {s : Nat → Int32} {f t : Int32} : gCl (rmS cnt s) f t = gCl s f t := by unfold gCl; rw [g_rmF, g_rmT, rm_low (by omega)]
theorem g_rmL {cnt B : Nat} {s : Nat → Int32} (hI : IR B s) {d k : Int32} : gLe (rmS cnt s) d k = gLe s d k := by
  unfold gLe
  rw [g_rmD, g_rmC]
  cases hc : isC s k with
  | false => simp
  | true =>
    obtain ⟨nf, nt, nc, nd, hI⟩ := hI
    have bc := hI.lc
    obtain ⟨k', hk, rfl⟩ := hI.xC.mp hc
    rw [tn_nI (by omega), rm_low (by omega)]
theorem g_rmP {cnt B : Nat} {s : Nat → Int32} (hI : IR B s) {d : Int32} : cpass (rmS cnt s) d = cpass s d := by
  unfold cpass
  rw [rm_low (by omega)]
  cases hc : inB d 0 (s 3 - 1) with
  | false => simp
  | true =>
    obtain ⟨nf, nt, nc, nd, hI⟩ := hI
    have bn := hI.ld
    obtain ⟨d', hd, rfl⟩ := hI.xD.mp hc
    rw [nI_clamp (by omega), rm_low (by omega)]
theorem full_iff {x : Int32} {n b : Nat} (hx : x = nI n) (hn : n ≤ b) (hb : b < 1000) : decide (x < nI b) = !decide (x = nI b) := by
  subst hx
  have h1 : (nI n < nI b) ↔ n < b := nI_ltI (by omega) (by omega)
  have h2 : (nI n = nI b) ↔ n = b := nI_eq (by omega) (by omega)
  by_cases e : n = b
  · rw [decide_eq_false (fun q => by have := h1.mp q; omega), decide_eq_true (h2.mpr e)]; rfl
  · rw [decide_eq_true (h1.mpr (by omega)), decide_eq_false (fun q => e (h2.mp q))]; rfl
theorem fl_iff {B : Nat} {s : Nat → Int32} (hI : IR B s) : gFl s = !decide (s 0 = 4) := by
  obtain ⟨nf, nt, nc, nd, hI⟩ := hI
  exact full_iff (b := 4) hI.f hI.lf (by omega)
theorem te_iff {B : Nat} {s : Nat → Int32} (hI : IR B s) : gTe s = !decide (s 1 = 5) := by
  obtain ⟨nf, nt, nc, nd, hI⟩ := hI
  exact full_iff (b := 5) hI.t hI.lt (by omega)
theorem da_iff {B : Nat} {s : Nat → Int32} (hI : IR B s) : gDa s = !decide (s 3 = 12) := by
  obtain ⟨nf, nt, nc, nd, hI⟩ := hI
  exact full_iff (b := 12) hI.d hI.ld (by omega)
theorem ten_iff {B : Nat} {s : Nat → Int32} (hI : IR B s) : decide (s 2 < 10) = !decide (s 2 = 10) := by
  obtain ⟨nf, nt, nc, nd, hI⟩ := hI
  exact full_iff (b := 10) hI.c hI.lc (by omega)
set_option maxRecDepth 100000 in
set_option maxHeartbeats 4000000 in
theorem ct_X8_floor {X : Xs} {κ : Kp} {M : Mem} {Q : Rs → Kp → Mem → Prop} {m : Nat} (hm : IsMod κ.2.1 m) {B : Nat} {s : Nat → Int32} (hs : M (m + 1) = s) (hI0 : IR B s) {cnt : Nat} (h2 : M m 2 = nI cnt) (hc : cnt ≤ 14) {a b c d : Int32} (hE1 : isFl a b c d = false → Q (.inl (some (.int 0))) κ (upM M m 0 1)) (hE2 : isFl a b c d = true → gFl s = false → Q (.inl (some (.int 0))) κ (upM M m 0 2)) (hY : isFl a b c d = true → gFl s = true → ∀ M', AM M M' m cnt (flS (rmS cnt s) (cN (rmS cnt s) 0) a b c d) → Q (.inl (some (.int (nI (cN (rmS cnt s) 0))))) κ M') : Ct X m_X8_floor [.ref m, .int a, .int b, .int c, .int d] κ M Q := by
  refine ct_of B_X8_floor_0 pn_X8 rfl (nle rfl) L_X8_floor_0 ?_
  refine g_aload_n rfl ?_
  refine g_iload_n rfl ?_
  refine g_iload_n rfl ?_
  refine g_iload_n rfl ?_
  refine g_iload rfl ?_
  refine g_callS (as := [_, _, _, _]) mk_X8_isFloorLike ml_X8_202 sm_X8_isFloorLike rfl rfl ⟨⟨nle rfl, nle rfl⟩, nle rfl, nle rfl⟩ rfl rfl (nle rfl) ?_
  refine ct_X8_isFloorLike ?_
  refine kq_s ?_
  refine g_if_ne_b rfl L_X8_floor_16 (fun h_1 => ?_) (fun h_1 => ?_)
  · have hq := h_1
    refine g_aload_n rfl ?_
    refine g_getR (w := (m + 1)) fl_X8_7 rfl hm.1 rfl ?_
    refine g_iconst (v := 0) ik_0 ?_
    refine g_iaload (j := 0) hm.2.1 rfl (nle rfl) (nle rfl) ?_
    refine g_iconst (v := 4) ik_4 ?_
    refine g_icmp_ne rfl L_X8_floor_30 (fun h_2 => ?_) (fun h_2 => ?_)
    · have hg : gFl s = true := by rw [fl_iff hI0, decide_eq_false (by rw [← hs]; exact h_2)]; rfl
      refine g_iconst (v := 0) ik_0 ?_
      refine g_fall rfl L_X8_floor_31 ?_
      refine g_callV (as := [_]) mk_X8_holds ml_X8_89 im_X8_holds se_X8_holds rfl rfl ⟨⟨nle rfl, nle rfl⟩, nle rfl, nle rfl⟩ hm.1 rfl rfl rfl (nle rfl) ?_
      refine ct_X8_holds hm ?_
      have fH := frh M m
      generalize (upM M m 0 0) = M1 at fH ⊢
      have f1 : M1 (m + 1) = s := (fH.2.1 _ (by omega)).trans hs
      have hI1 : IR B (M1 (m + 1)) := by rw [f1]; exact hI0
      refine kq_s ?_
      refine g_if_ne rfl L_X8_floor_39 (fun h_3 => ?_) (fun h_3 => absurd h_3 (by decide))
      refine g_aload_n rfl ?_
      refine g_callV (as := []) mk_X8_remember ml_X8_206 im_X8_remember se_X8_remember rfl rfl ⟨⟨nle rfl, nle rfl⟩, nle rfl, nle rfl⟩ hm.1 rfl rfl rfl (nle rfl) ?_
      refine m_remember hm ((fH.2.2 2 (by omega)).trans h2) hc (fun M2 g1 g2 gr gj => ?_)
      rw [f1] at g1
      have hI2 : IR B (M2 (m + 1)) := by rw [g1]; exact hI0.cg fun j hj => rm_low hj
      refine kq_n ?_
      refine g_aload_n rfl ?_
      refine g_iload_n rfl ?_
      refine g_iload_n rfl ?_
      refine g_iload_n rfl ?_
      refine g_iload rfl ?_
      refine g_callV (as := [_, _, _, _]) mk_X8_floors ml_X8_149 im_X8_floors se_X8_floors rfl rfl ⟨⟨nle rfl, nle rfl⟩, nle rfl, nle rfl⟩ hm.1 rfl rfl rfl (nle rfl) ?_
      refine m_floors hm hI2 (by rw [g1, g_rm0]; exact hg) ?_
      rw [g1]
      refine kq_s ?_
      refine g_iret rfl (nle rfl) (nle rfl) ?_
      exact hY hq hg _ (am_fin fH g2 gr gj)
    · have hg : gFl s = false := by rw [fl_iff hI0, decide_eq_true (by rw [← hs]; exact h_2)]; rfl
      refine g_iconst (v := 2) ik_2 ?_
      refine g_goto rfl L_X8_floor_31 ?_
      refine g_callV (as := [_]) mk_X8_holds ml_X8_89 im_X8_holds se_X8_holds rfl rfl ⟨⟨nle rfl, nle rfl⟩, nle rfl, nle rfl⟩ hm.1 rfl rfl rfl (nle rfl) ?_
      refine ct_X8_holds hm ?_
      refine kq_s ?_
      refine g_if_ne rfl L_X8_floor_39 (fun h_4 => absurd h_4 (by decide)) (fun h_4 => ?_)
      refine g_iconst (v := 0) ik_0 ?_
      refine g_iret rfl (nle rfl) (nle rfl) ?_
      exact hE2 hq hg
  · have hq := h_1
    refine g_iconst (v := 1) ik_1 ?_
    refine g_goto rfl L_X8_floor_31 ?_
    refine g_callV (as := [_]) mk_X8_holds ml_X8_89 im_X8_holds se_X8_holds rfl rfl ⟨⟨nle rfl, nle rfl⟩, nle rfl, nle rfl⟩ hm.1 rfl rfl rfl (nle rfl) ?_
    refine ct_X8_holds hm ?_
    refine kq_s ?_
    refine g_if_ne rfl L_X8_floor_39 (fun h_5 => absurd h_5 (by decide)) (fun h_5 => ?_)
    refine g_iconst (v := 0) ik_0 ?_
    refine g_iret rfl (nle rfl) (nle rfl) ?_
    exact hE1 hq
set_option maxRecDepth 100000 in
set_option maxHeartbeats 4000000 in
theorem ct_X8_teacher {X : Xs} {κ : Kp} {M : Mem} {Q : Rs → Kp → Mem → Prop} {m : Nat} (hm : IsMod κ.2.1 m) {B : Nat} {s : Nat → Int32} (hs : M (m + 1) = s) (hI0 : IR B s) {cnt : Nat} (h2 : M m 2 = nI cnt) (hc : cnt ≤ 14) {a b : Int32} (hE1 : (inB a 0 15 && inB b 1 5) = false → Q (.inl (some (.int 0))) κ (upM M m 0 1)) (hE2 : (inB a 0 15 && inB b 1 5) = true → gTe s = false → Q (.inl (some (.int 0))) κ (upM M m 0 2)) (hY : (inB a 0 15 && inB b 1 5) = true → gTe s = true → ∀ M', AM M M' m cnt (teS (rmS cnt s) (cN (rmS cnt s) 1) a b) → Q (.inl (some (.int (nI (cN (rmS cnt s) 1))))) κ M') : Ct X m_X8_teacher [.ref m, .int a, .int b] κ M Q := by
  refine ct_of B_X8_teacher_0 pn_X8 rfl (nle rfl) L_X8_teacher_0 ?_
  refine g_iload_n rfl ?_
  refine g_iconst (v := 0) ik_0 ?_
  refine g_bipush (v := 15) bk_15 ?_
  refine g_callS (as := [_, _, _]) mk_X8_in ml_X8_29 sm_X8_in rfl rfl ⟨⟨nle rfl, nle rfl⟩, nle rfl, nle rfl⟩ rfl rfl (nle rfl) ?_
  refine ct_X8_in ?_
  refine kq_s ?_
  refine g_if_eq_b rfl L_X8_teacher_23 (fun h_1 => ?_) (fun h_1 => ?_)
  · have q1 := h_1
    refine g_iconst (v := 0) ik_0 ?_
    refine g_fall rfl L_X8_teacher_24 ?_
    refine g_istore_n (nle rfl) ?_
    refine g_aload_n rfl ?_
    refine g_iload_n rfl ?_
    refine g_if_ne rfl L_X8_teacher_34 (fun h_2 => absurd h_2 (by decide)) (fun h_2 => ?_)
    refine g_iconst (v := 1) ik_1 ?_
    refine g_goto rfl L_X8_teacher_49 ?_
    refine g_callV (as := [_]) mk_X8_holds ml_X8_89 im_X8_holds se_X8_holds rfl rfl ⟨⟨nle rfl, nle rfl⟩, nle rfl, nle rfl⟩ hm.1 rfl rfl rfl (nle rfl) ?_
    refine ct_X8_holds hm ?_
    refine kq_s ?_
    refine g_if_ne rfl L_X8_teacher_57 (fun h_3 => absurd h_3 (by decide)) (fun h_3 => ?_)
    refine g_iconst (v := 0) ik_0 ?_
    refine g_iret rfl (nle rfl) (nle rfl) ?_
    exact hE1 (by rw [q1]; rfl)
  · have q1 := h_1
    refine g_iload_n rfl ?_
    refine g_iconst (v := 1) ik_1 ?_
    refine g_iconst (v := 5) ik_5 ?_
    refine g_callS (as := [_, _, _]) mk_X8_in ml_X8_29 sm_X8_in rfl rfl ⟨⟨nle rfl, nle rfl⟩, nle rfl, nle rfl⟩ rfl rfl (nle rfl) ?_
    refine ct_X8_in ?_
    refine kq_s ?_
    refine g_if_eq_b rfl L_X8_teacher_23 (fun h_4 => ?_) (fun h_4 => ?_)
    · have q2 := h_4
      refine g_iconst (v := 0) ik_0 ?_
      refine g_fall rfl L_X8_teacher_24 ?_
      refine g_istore_n (nle rfl) ?_
      refine g_aload_n rfl ?_
      refine g_iload_n rfl ?_
      refine g_if_ne rfl L_X8_teacher_34 (fun h_5 => absurd h_5 (by decide)) (fun h_5 => ?_)
      refine g_iconst (v := 1) ik_1 ?_
      refine g_goto rfl L_X8_teacher_49 ?_
      refine g_callV (as := [_]) mk_X8_holds ml_X8_89 im_X8_holds se_X8_holds rfl rfl ⟨⟨nle rfl, nle rfl⟩, nle rfl, nle rfl⟩ hm.1 rfl rfl rfl (nle rfl) ?_
      refine ct_X8_holds hm ?_
      refine kq_s ?_
      refine g_if_ne rfl L_X8_teacher_57 (fun h_6 => absurd h_6 (by decide)) (fun h_6 => ?_)
      refine g_iconst (v := 0) ik_0 ?_
      refine g_iret rfl (nle rfl) (nle rfl) ?_
      exact hE1 (by rw [q1, q2]; rfl)
    · have q2 := h_4
      refine g_iconst (v := 1) ik_1 ?_
      refine g_goto rfl L_X8_teacher_24 ?_
      refine g_istore_n (nle rfl) ?_
      refine g_aload_n rfl ?_
      refine g_iload_n rfl ?_
      refine g_if_ne rfl L_X8_teacher_34 (fun h_7 => ?_) (fun h_7 => absurd h_7 (by decide))
      refine g_aload_n rfl ?_
      refine g_getR (w := (m + 1)) fl_X8_7 rfl hm.1 rfl ?_
      refine g_iconst (v := 1) ik_1 ?_
      refine g_iaload (j := 1) hm.2.1 rfl (nle rfl) (nle rfl) ?_
      refine g_iconst (v := 5) ik_5 ?_
      refine g_icmp_ne rfl L_X8_teacher_48 (fun h_8 => ?_) (fun h_8 => ?_)
      · have hg : gTe s = true := by rw [te_iff hI0, decide_eq_false (by rw [← hs]; exact h_8)]; rfl
        refine g_iconst (v := 0) ik_0 ?_
        refine g_fall rfl L_X8_teacher_49 ?_
        refine g_callV (as := [_]) mk_X8_holds ml_X8_89 im_X8_holds se_X8_holds rfl rfl ⟨⟨nle rfl, nle rfl⟩, nle rfl, nle rfl⟩ hm.1 rfl rfl rfl (nle rfl) ?_
        refine ct_X8_holds hm ?_
        have fH := frh M m
        generalize (upM M m 0 0) = M1 at fH ⊢
        have f1 : M1 (m + 1) = s := (fH.2.1 _ (by omega)).trans hs
        have hI1 : IR B (M1 (m + 1)) := by rw [f1]; exact hI0
        refine kq_s ?_
        refine g_if_ne rfl L_X8_teacher_57 (fun h_9 => ?_) (fun h_9 => absurd h_9 (by decide))
        refine g_aload_n rfl ?_
        refine g_callV (as := []) mk_X8_remember ml_X8_206 im_X8_remember se_X8_remember rfl rfl ⟨⟨nle rfl, nle rfl⟩, nle rfl, nle rfl⟩ hm.1 rfl rfl rfl (nle rfl) ?_
        refine m_remember hm ((fH.2.2 2 (by omega)).trans h2) hc (fun M2 g1 g2 gr gj => ?_)
        rw [f1] at g1
        have hI2 : IR B (M2 (m + 1)) := by rw [g1]; exact hI0.cg fun j hj => rm_low hj
        refine kq_n ?_
        refine g_aload_n rfl ?_
        refine g_iload_n rfl ?_
        refine g_iload_n rfl ?_
        refine g_callV (as := [_, _]) mk_X8_teachers ml_X8_153 im_X8_teachers se_X8_teachers rfl rfl ⟨⟨nle rfl, nle rfl⟩, nle rfl, nle rfl⟩ hm.1 rfl rfl rfl (nle rfl) ?_
        refine m_teachers hm hI2 (by rw [g1, g_rm1]; exact hg) ?_
        rw [g1]
        refine kq_s ?_
        refine g_iret rfl (nle rfl) (nle rfl) ?_
        exact hY (by rw [q1, q2]; rfl) hg _ (am_fin fH g2 gr gj)
      · have hg : gTe s = false := by rw [te_iff hI0, decide_eq_true (by rw [← hs]; exact h_8)]; rfl
        refine g_iconst (v := 2) ik_2 ?_
        refine g_goto rfl L_X8_teacher_49 ?_
        refine g_callV (as := [_]) mk_X8_holds ml_X8_89 im_X8_holds se_X8_holds rfl rfl ⟨⟨nle rfl, nle rfl⟩, nle rfl, nle rfl⟩ hm.1 rfl rfl rfl (nle rfl) ?_
        refine ct_X8_holds hm ?_
        refine kq_s ?_
        refine g_if_ne rfl L_X8_teacher_57 (fun h_10 => absurd h_10 (by decide)) (fun h_10 => ?_)
        refine g_iconst (v := 0) ik_0 ?_
        refine g_iret rfl (nle rfl) (nle rfl) ?_
        exact hE2 (by rw [q1, q2]; rfl) hg
set_option maxRecDepth 100000 in
set_option maxHeartbeats 4000000 in
theorem ct_X8_dancer {X : Xs} {κ : Kp} {M : Mem} {Q : Rs → Kp → Mem → Prop} {m : Nat} (hm : IsMod κ.2.1 m) {B : Nat} {s : Nat → Int32} (hs : M (m + 1) = s) (hI0 : IR B s) {cnt : Nat} (h2 : M m 2 = nI cnt) (hc : cnt ≤ 14)  (hE1 : gDa s = false → Q (.inl (some (.int 0))) κ (upM M m 0 1)) (hY : gDa s = true → ∀ M', AM M M' m cnt (daS (rmS cnt s) (cN (rmS cnt s) 3)) → Q (.inl (some (.int (nI (cN (rmS cnt s) 3))))) κ M') : Ct X m_X8_dancer [.ref m] κ M Q := by
  refine ct_of B_X8_dancer_0 pn_X8 rfl (nle rfl) L_X8_dancer_0 ?_
  refine g_aload_n rfl ?_
  refine g_aload_n rfl ?_
  refine g_getR (w := (m + 1)) fl_X8_7 rfl hm.1 rfl ?_
  refine g_iconst (v := 3) ik_3 ?_
  refine g_iaload (j := 3) hm.2.1 rfl (nle rfl) (nle rfl) ?_
  refine g_bipush (v := 12) bk_12 ?_
  refine g_icmp_ne rfl L_X8_dancer_16 (fun h_1 => ?_) (fun h_1 => ?_)
  · have hg : gDa s = true := by rw [da_iff hI0, decide_eq_false (by rw [← hs]; exact h_1)]; rfl
    refine g_iconst (v := 0) ik_0 ?_
    refine g_fall rfl L_X8_dancer_17 ?_
    refine g_callV (as := [_]) mk_X8_holds ml_X8_89 im_X8_holds se_X8_holds rfl rfl ⟨⟨nle rfl, nle rfl⟩, nle rfl, nle rfl⟩ hm.1 rfl rfl rfl (nle rfl) ?_
    refine ct_X8_holds hm ?_
    have fH := frh M m
    generalize (upM M m 0 0) = M1 at fH ⊢
    have f1 : M1 (m + 1) = s := (fH.2.1 _ (by omega)).trans hs
    have hI1 : IR B (M1 (m + 1)) := by rw [f1]; exact hI0
    refine kq_s ?_
    refine g_if_ne rfl L_X8_dancer_25 (fun h_2 => ?_) (fun h_2 => absurd h_2 (by decide))
    refine g_aload_n rfl ?_
    refine g_callV (as := []) mk_X8_remember ml_X8_206 im_X8_remember se_X8_remember rfl rfl ⟨⟨nle rfl, nle rfl⟩, nle rfl, nle rfl⟩ hm.1 rfl rfl rfl (nle rfl) ?_
    refine m_remember hm ((fH.2.2 2 (by omega)).trans h2) hc (fun M2 g1 g2 gr gj => ?_)
    rw [f1] at g1
    have hI2 : IR B (M2 (m + 1)) := by rw [g1]; exact hI0.cg fun j hj => rm_low hj
    refine kq_n ?_
    refine g_aload_n rfl ?_
    refine g_callV (as := []) mk_X8_dancers ml_X8_160 im_X8_dancers se_X8_dancers rfl rfl ⟨⟨nle rfl, nle rfl⟩, nle rfl, nle rfl⟩ hm.1 rfl rfl rfl (nle rfl) ?_
    refine m_dancers hm hI2 (by rw [g1, g_rm3]; exact hg) ?_
    rw [g1]
    refine kq_s ?_
    refine g_iret rfl (nle rfl) (nle rfl) ?_
    exact hY hg _ (am_fin fH g2 gr gj)
  · have hg : gDa s = false := by rw [da_iff hI0, decide_eq_true (by rw [← hs]; exact h_1)]; rfl
    refine g_iconst (v := 1) ik_1 ?_
    refine g_goto rfl L_X8_dancer_17 ?_
    refine g_callV (as := [_]) mk_X8_holds ml_X8_89 im_X8_holds se_X8_holds rfl rfl ⟨⟨nle rfl, nle rfl⟩, nle rfl, nle rfl⟩ hm.1 rfl rfl rfl (nle rfl) ?_
    refine ct_X8_holds hm ?_
    refine kq_s ?_
    refine g_if_ne rfl L_X8_dancer_25 (fun h_3 => absurd h_3 (by decide)) (fun h_3 => ?_)
    refine g_iconst (v := 0) ik_0 ?_
    refine g_iret rfl (nle rfl) (nle rfl) ?_
    exact hE1 hg
set_option maxRecDepth 100000 in
set_option maxHeartbeats 4000000 in
theorem ct_X8_drop {X : Xs} {κ : Kp} {M : Mem} {Q : Rs → Kp → Mem → Prop} {m : Nat} (hm : IsMod κ.2.1 m) {B : Nat} {s : Nat → Int32} (hs : M (m + 1) = s) (hI0 : IR B s) {cnt : Nat} (h2 : M m 2 = nI cnt) (hc : cnt ≤ 14) {k : Int32} (hE1 : isC s k = false → Q (.inl (some (.int 0))) κ (upM M m 0 1)) (hY : isC s k = true → ∀ M', AM M M' m cnt (drS (rmS cnt s) (cN (rmS cnt s) 2) (tn k)) → Q (.inl (some (.int (bitsI ((rmS cnt s) (39 + 9 * tn k + 8)))))) κ M') : Ct X m_X8_drop [.ref m, .int k] κ M Q := by
  refine ct_of B_X8_drop_0 pn_X8 rfl (nle rfl) L_X8_drop_0 ?_
  refine g_aload_n rfl ?_
  refine g_aload_n rfl ?_
  refine g_iload_n rfl ?_
  refine g_callV (as := [_]) mk_X8_isClass ml_X8_130 im_X8_isClass se_X8_isClass rfl rfl ⟨⟨nle rfl, nle rfl⟩, nle rfl, nle rfl⟩ hm.1 rfl rfl rfl (nle rfl) ?_
  refine ct_X8_isClass hm ?_
  rw [hs]
  refine kq_s ?_
  refine g_if_eq_b rfl L_X8_drop_13 (fun h_1 => ?_) (fun h_1 => ?_)
  · have hg : isC s k = false := h_1
    refine g_iconst (v := 1) ik_1 ?_
    refine g_fall rfl L_X8_drop_14 ?_
    refine g_callV (as := [_]) mk_X8_holds ml_X8_89 im_X8_holds se_X8_holds rfl rfl ⟨⟨nle rfl, nle rfl⟩, nle rfl, nle rfl⟩ hm.1 rfl rfl rfl (nle rfl) ?_
    refine ct_X8_holds hm ?_
    refine kq_s ?_
    refine g_if_ne rfl L_X8_drop_22 (fun h_2 => absurd h_2 (by decide)) (fun h_2 => ?_)
    refine g_iconst (v := 0) ik_0 ?_
    refine g_iret rfl (nle rfl) (nle rfl) ?_
    exact hE1 hg
  · have hg : isC s k = true := h_1
    refine g_iconst (v := 0) ik_0 ?_
    refine g_goto rfl L_X8_drop_14 ?_
    refine g_callV (as := [_]) mk_X8_holds ml_X8_89 im_X8_holds se_X8_holds rfl rfl ⟨⟨nle rfl, nle rfl⟩, nle rfl, nle rfl⟩ hm.1 rfl rfl rfl (nle rfl) ?_
    refine ct_X8_holds hm ?_
    have fH := frh M m
    generalize (upM M m 0 0) = M1 at fH ⊢
    have f1 : M1 (m + 1) = s := (fH.2.1 _ (by omega)).trans hs
    have hI1 : IR B (M1 (m + 1)) := by rw [f1]; exact hI0
    refine kq_s ?_
    refine g_if_ne rfl L_X8_drop_22 (fun h_3 => ?_) (fun h_3 => absurd h_3 (by decide))
    refine g_aload_n rfl ?_
    refine g_callV (as := []) mk_X8_remember ml_X8_206 im_X8_remember se_X8_remember rfl rfl ⟨⟨nle rfl, nle rfl⟩, nle rfl, nle rfl⟩ hm.1 rfl rfl rfl (nle rfl) ?_
    refine m_remember hm ((fH.2.2 2 (by omega)).trans h2) hc (fun M2 g1 g2 gr gj => ?_)
    rw [f1] at g1
    have hI2 : IR B (M2 (m + 1)) := by rw [g1]; exact hI0.cg fun j hj => rm_low hj
    refine kq_n ?_
    refine g_aload_n rfl ?_
    refine g_iload_n rfl ?_
    refine g_callV (as := [_]) mk_X8_drops ml_X8_172 im_X8_drops se_X8_drops rfl rfl ⟨⟨nle rfl, nle rfl⟩, nle rfl, nle rfl⟩ hm.1 rfl rfl rfl (nle rfl) ?_
    refine m_drops hm hI2 (by rw [g1, g_rmC]; exact hg) ?_
    rw [g1]
    refine kq_s ?_
    refine g_iret rfl (nle rfl) (nle rfl) ?_
    exact hY hg _ (am_fin fH g2 gr gj)
set_option maxRecDepth 100000 in
set_option maxHeartbeats 4000000 in
theorem ct_X8_pass {X : Xs} {κ : Kp} {M : Mem} {Q : Rs → Kp → Mem → Prop} {m : Nat} (hm : IsMod κ.2.1 m) {B : Nat} {s : Nat → Int32} (hs : M (m + 1) = s) (hI0 : IR B s) {cnt : Nat} (h2 : M m 2 = nI cnt) (hc : cnt ≤ 14) {d : Int32} (hE1 : isD s d = false → Q (.inl (some (.int 0))) κ (upM M m 0 1)) (hE2 : isD s d = true → cpass s d = false → Q (.inl (some (.int 0))) κ (upM M m 0 2)) (hY : isD s d = true → cpass s d = true → ∀ M', AM M M' m cnt (paS (rmS cnt s) (tn d)) → Q (.inl (some (.int ((rmS cnt s) (129 + 5 * tn d + 2) + 10)))) κ M') : Ct X m_X8_pass [.ref m, .int d] κ M Q := by
  refine ct_of B_X8_pass_0 pn_X8 rfl (nle rfl) L_X8_pass_0 ?_
  refine g_aload_n rfl ?_
  refine g_aload_n rfl ?_
  refine g_iload_n rfl ?_
  refine g_callV (as := [_]) mk_X8_isDancer ml_X8_127 im_X8_isDancer se_X8_isDancer rfl rfl ⟨⟨nle rfl, nle rfl⟩, nle rfl, nle rfl⟩ hm.1 rfl rfl rfl (nle rfl) ?_
  refine ct_X8_isDancer hm ?_
  rw [hs]
  refine kq_s ?_
  refine g_if_ne_b rfl L_X8_pass_13 (fun h_1 => ?_) (fun h_1 => ?_)
  · have hd : isD s d = true := h_1
    refine g_aload_n rfl ?_
    refine g_iload_n rfl ?_
    refine g_callV (as := [_]) mk_X8_canPass ml_X8_140 im_X8_canPass se_X8_canPass rfl rfl ⟨⟨nle rfl, nle rfl⟩, nle rfl, nle rfl⟩ hm.1 rfl rfl rfl (nle rfl) ?_
    refine m_canPass (B := B) hm (by rw [hs]; exact hI0) ?_
    rw [hs]
    refine kq_s ?_
    refine g_if_ne_b rfl L_X8_pass_25 (fun h_2 => ?_) (fun h_2 => ?_)
    · have hg := h_2
      refine g_iconst (v := 0) ik_0 ?_
      refine g_fall rfl L_X8_pass_26 ?_
      refine g_callV (as := [_]) mk_X8_holds ml_X8_89 im_X8_holds se_X8_holds rfl rfl ⟨⟨nle rfl, nle rfl⟩, nle rfl, nle rfl⟩ hm.1 rfl rfl rfl (nle rfl) ?_
      refine ct_X8_holds hm ?_
      have fH := frh M m
      generalize (upM M m 0 0) = M1 at fH ⊢
      have f1 : M1 (m + 1) = s := (fH.2.1 _ (by omega)).trans hs
      have hI1 : IR B (M1 (m + 1)) := by rw [f1]; exact hI0
      refine kq_s ?_
      refine g_if_ne rfl L_X8_pass_34 (fun h_3 => ?_) (fun h_3 => absurd h_3 (by decide))
      refine g_aload_n rfl ?_
      refine g_callV (as := []) mk_X8_remember ml_X8_206 im_X8_remember se_X8_remember rfl rfl ⟨⟨nle rfl, nle rfl⟩, nle rfl, nle rfl⟩ hm.1 rfl rfl rfl (nle rfl) ?_
      refine m_remember hm ((fH.2.2 2 (by omega)).trans h2) hc (fun M2 g1 g2 gr gj => ?_)
      rw [f1] at g1
      have hI2 : IR B (M2 (m + 1)) := by rw [g1]; exact hI0.cg fun j hj => rm_low hj
      refine kq_n ?_
      refine g_aload_n rfl ?_
      refine g_iload_n rfl ?_
      refine g_callV (as := [_]) mk_X8_passes ml_X8_163 im_X8_passes se_X8_passes rfl rfl ⟨⟨nle rfl, nle rfl⟩, nle rfl, nle rfl⟩ hm.1 rfl rfl rfl (nle rfl) ?_
      refine m_passes hm hI2 (by rw [g1, g_rmD]; exact hd) ?_
      rw [g1]
      refine kq_s ?_
      refine g_iret rfl (nle rfl) (nle rfl) ?_
      exact hY hd hg _ (am_fin fH g2 gr gj)
    · have hg := h_2
      refine g_iconst (v := 2) ik_2 ?_
      refine g_goto rfl L_X8_pass_26 ?_
      refine g_callV (as := [_]) mk_X8_holds ml_X8_89 im_X8_holds se_X8_holds rfl rfl ⟨⟨nle rfl, nle rfl⟩, nle rfl, nle rfl⟩ hm.1 rfl rfl rfl (nle rfl) ?_
      refine ct_X8_holds hm ?_
      refine kq_s ?_
      refine g_if_ne rfl L_X8_pass_34 (fun h_4 => absurd h_4 (by decide)) (fun h_4 => ?_)
      refine g_iconst (v := 0) ik_0 ?_
      refine g_iret rfl (nle rfl) (nle rfl) ?_
      exact hE2 hd hg
  · have hd : isD s d = false := h_1
    refine g_iconst (v := 1) ik_1 ?_
    refine g_goto rfl L_X8_pass_26 ?_
    refine g_callV (as := [_]) mk_X8_holds ml_X8_89 im_X8_holds se_X8_holds rfl rfl ⟨⟨nle rfl, nle rfl⟩, nle rfl, nle rfl⟩ hm.1 rfl rfl rfl (nle rfl) ?_
    refine ct_X8_holds hm ?_
    refine kq_s ?_
    refine g_if_ne rfl L_X8_pass_34 (fun h_5 => absurd h_5 (by decide)) (fun h_5 => ?_)
    refine g_iconst (v := 0) ik_0 ?_
    refine g_iret rfl (nle rfl) (nle rfl) ?_
    exact hE1 hd
set_option maxRecDepth 100000 in
set_option maxHeartbeats 4000000 in
theorem ct_X8_enter {X : Xs} {κ : Kp} {M : Mem} {Q : Rs → Kp → Mem → Prop} {m : Nat} (hm : IsMod κ.2.1 m) {B : Nat} {s : Nat → Int32} (hs : M (m + 1) = s) (hI0 : IR B s) {cnt : Nat} (h2 : M m 2 = nI cnt) (hc : cnt ≤ 14) {d k : Int32} (hE1 : gSe s d k = false → Q (.inl (some (.int 0))) κ (upM M m 0 1)) (hY : gSe s d k = true → ∀ M', AM M M' m cnt (tsT (rmS cnt s) d k) → Q (.inl (some (.int (wSe (rmS cnt s) d k)))) κ M') : Ct X m_X8_enter [.ref m, .int d, .int k] κ M Q := by
  refine ct_of B_X8_enter_0 pn_X8 rfl (nle rfl) L_X8_enter_0 ?_
  refine g_aload_n rfl ?_
  refine g_aload_n rfl ?_
  refine g_iload_n rfl ?_
  refine g_callV (as := [_]) mk_X8_isDancer ml_X8_127 im_X8_isDancer se_X8_isDancer rfl rfl ⟨⟨nle rfl, nle rfl⟩, nle rfl, nle rfl⟩ hm.1 rfl rfl rfl (nle rfl) ?_
  refine ct_X8_isDancer hm ?_
  rw [hs]
  refine kq_s ?_
  refine g_if_eq_b rfl L_X8_enter_21 (fun h_1 => ?_) (fun h_1 => ?_)
  · have hd : isD s d = false := h_1
    refine g_iconst (v := 1) ik_1 ?_
    refine g_fall rfl L_X8_enter_22 ?_
    refine g_callV (as := [_]) mk_X8_holds ml_X8_89 im_X8_holds se_X8_holds rfl rfl ⟨⟨nle rfl, nle rfl⟩, nle rfl, nle rfl⟩ hm.1 rfl rfl rfl (nle rfl) ?_
    refine ct_X8_holds hm ?_
    refine kq_s ?_
    refine g_if_ne rfl L_X8_enter_30 (fun h_2 => absurd h_2 (by decide)) (fun h_2 => ?_)
    refine g_iconst (v := 0) ik_0 ?_
    refine g_iret rfl (nle rfl) (nle rfl) ?_
    exact hE1 (by unfold gSe; rw [hd]; rfl)
  · have hd : isD s d = true := h_1
    refine g_aload_n rfl ?_
    refine g_iload_n rfl ?_
    refine g_callV (as := [_]) mk_X8_isClass ml_X8_130 im_X8_isClass se_X8_isClass rfl rfl ⟨⟨nle rfl, nle rfl⟩, nle rfl, nle rfl⟩ hm.1 rfl rfl rfl (nle rfl) ?_
    refine ct_X8_isClass hm ?_
    rw [hs]
    refine kq_s ?_
    refine g_if_eq_b rfl L_X8_enter_21 (fun h_3 => ?_) (fun h_3 => ?_)
    · have hk : isC s k = false := h_3
      refine g_iconst (v := 1) ik_1 ?_
      refine g_fall rfl L_X8_enter_22 ?_
      refine g_callV (as := [_]) mk_X8_holds ml_X8_89 im_X8_holds se_X8_holds rfl rfl ⟨⟨nle rfl, nle rfl⟩, nle rfl, nle rfl⟩ hm.1 rfl rfl rfl (nle rfl) ?_
      refine ct_X8_holds hm ?_
      refine kq_s ?_
      refine g_if_ne rfl L_X8_enter_30 (fun h_4 => absurd h_4 (by decide)) (fun h_4 => ?_)
      refine g_iconst (v := 0) ik_0 ?_
      refine g_iret rfl (nle rfl) (nle rfl) ?_
      exact hE1 (by unfold gSe; rw [hk]; simp)
    · have hk : isC s k = true := h_3
      refine g_iconst (v := 0) ik_0 ?_
      refine g_goto rfl L_X8_enter_22 ?_
      refine g_callV (as := [_]) mk_X8_holds ml_X8_89 im_X8_holds se_X8_holds rfl rfl ⟨⟨nle rfl, nle rfl⟩, nle rfl, nle rfl⟩ hm.1 rfl rfl rfl (nle rfl) ?_
      refine ct_X8_holds hm ?_
      have fH := frh M m
      generalize (upM M m 0 0) = M1 at fH ⊢
      have f1 : M1 (m + 1) = s := (fH.2.1 _ (by omega)).trans hs
      have hI1 : IR B (M1 (m + 1)) := by rw [f1]; exact hI0
      refine kq_s ?_
      refine g_if_ne rfl L_X8_enter_30 (fun h_5 => ?_) (fun h_5 => absurd h_5 (by decide))
      refine g_aload_n rfl ?_
      refine g_callV (as := []) mk_X8_remember ml_X8_206 im_X8_remember se_X8_remember rfl rfl ⟨⟨nle rfl, nle rfl⟩, nle rfl, nle rfl⟩ hm.1 rfl rfl rfl (nle rfl) ?_
      refine m_remember hm ((fH.2.2 2 (by omega)).trans h2) hc (fun M2 g1 g2 gr gj => ?_)
      rw [f1] at g1
      have hI2 : IR B (M2 (m + 1)) := by rw [g1]; exact hI0.cg fun j hj => rm_low hj
      refine kq_n ?_
      refine g_aload_n rfl ?_
      refine g_iload_n rfl ?_
      refine g_iload_n rfl ?_
      refine g_callV (as := [_, _]) mk_X8_triesSeat ml_X8_215 im_X8_triesSeat se_X8_triesSeat rfl rfl ⟨⟨nle rfl, nle rfl⟩, nle rfl, nle rfl⟩ hm.1 rfl rfl rfl (nle rfl) ?_
      have hg : gSe s d k = true := by unfold gSe; rw [hd, hk]; rfl
      refine m_triesSeat hm hI2 (by rw [g1, g_rmS]; exact hg) ?_
      rw [g1]
      refine kq_s ?_
      refine g_iret rfl (nle rfl) (nle rfl) ?_
      exact hY hg _ (am_fin fH g2 gr gj)
set_option maxRecDepth 100000 in
set_option maxHeartbeats 4000000 in
theorem ct_X8_leave {X : Xs} {κ : Kp} {M : Mem} {Q : Rs → Kp → Mem → Prop} {m : Nat} (hm : IsMod κ.2.1 m) {B : Nat} {s : Nat → Int32} (hs : M (m + 1) = s) (hI0 : IR B s) {cnt : Nat} (h2 : M m 2 = nI cnt) (hc : cnt ≤ 14) {d k : Int32} (hE1 : gSe s d k = false → Q (.inl (some (.int 0))) κ (upM M m 0 1)) (hE2 : gSe s d k = true → gLe s d k = false → Q (.inl (some (.int 0))) κ (upM M m 0 2)) (hY : gSe s d k = true → gLe s d k = true → ∀ M', AM M M' m cnt (leS (rmS cnt s) d (tn k)) → Q (.inl (some (.int (bitsI (leS (rmS cnt s) d (tn k) (39 + 9 * tn k + 8)))))) κ M') : Ct X m_X8_leave [.ref m, .int d, .int k] κ M Q := by
  refine ct_of B_X8_leave_0 pn_X8 rfl (nle rfl) L_X8_leave_0 ?_
  refine g_aload_n rfl ?_
  refine g_iload_n rfl ?_
  refine g_callV (as := [_]) mk_X8_isDancer ml_X8_127 im_X8_isDancer se_X8_isDancer rfl rfl ⟨⟨nle rfl, nle rfl⟩, nle rfl, nle rfl⟩ hm.1 rfl rfl rfl (nle rfl) ?_
  refine ct_X8_isDancer hm ?_
  rw [hs]
  refine kq_s ?_
  refine g_if_eq_b rfl L_X8_leave_20 (fun h_1 => ?_) (fun h_1 => ?_)
  · have hd : isD s d = false := h_1
    refine g_iconst (v := 0) ik_0 ?_
    refine g_fall rfl L_X8_leave_21 ?_
    refine g_istore_n (nle rfl) ?_
    refine g_aload_n rfl ?_
    refine g_iload_n rfl ?_
    refine g_if_ne rfl L_X8_leave_31 (fun h_2 => absurd h_2 (by decide)) (fun h_2 => ?_)
    refine g_iconst (v := 1) ik_1 ?_
    refine g_goto rfl L_X8_leave_45 ?_
    refine g_callV (as := [_]) mk_X8_holds ml_X8_89 im_X8_holds se_X8_holds rfl rfl ⟨⟨nle rfl, nle rfl⟩, nle rfl, nle rfl⟩ hm.1 rfl rfl rfl (nle rfl) ?_
    refine ct_X8_holds hm ?_
    refine kq_s ?_
    refine g_if_ne rfl L_X8_leave_53 (fun h_3 => absurd h_3 (by decide)) (fun h_3 => ?_)
    refine g_iconst (v := 0) ik_0 ?_
    refine g_iret rfl (nle rfl) (nle rfl) ?_
    exact hE1 (by unfold gSe; rw [hd]; rfl)
  · have hd : isD s d = true := h_1
    refine g_aload_n rfl ?_
    refine g_iload_n rfl ?_
    refine g_callV (as := [_]) mk_X8_isClass ml_X8_130 im_X8_isClass se_X8_isClass rfl rfl ⟨⟨nle rfl, nle rfl⟩, nle rfl, nle rfl⟩ hm.1 rfl rfl rfl (nle rfl) ?_
    refine ct_X8_isClass hm ?_
    rw [hs]
    refine kq_s ?_
    refine g_if_eq_b rfl L_X8_leave_20 (fun h_4 => ?_) (fun h_4 => ?_)
    · have hk : isC s k = false := h_4
      refine g_iconst (v := 0) ik_0 ?_
      refine g_fall rfl L_X8_leave_21 ?_
      refine g_istore_n (nle rfl) ?_
      refine g_aload_n rfl ?_
      refine g_iload_n rfl ?_
      refine g_if_ne rfl L_X8_leave_31 (fun h_5 => absurd h_5 (by decide)) (fun h_5 => ?_)
      refine g_iconst (v := 1) ik_1 ?_
      refine g_goto rfl L_X8_leave_45 ?_
      refine g_callV (as := [_]) mk_X8_holds ml_X8_89 im_X8_holds se_X8_holds rfl rfl ⟨⟨nle rfl, nle rfl⟩, nle rfl, nle rfl⟩ hm.1 rfl rfl rfl (nle rfl) ?_
      refine ct_X8_holds hm ?_
      refine kq_s ?_
      refine g_if_ne rfl L_X8_leave_53 (fun h_6 => absurd h_6 (by decide)) (fun h_6 => ?_)
      refine g_iconst (v := 0) ik_0 ?_
      refine g_iret rfl (nle rfl) (nle rfl) ?_
      exact hE1 (by unfold gSe; rw [hk]; simp)
    · have hk : isC s k = true := h_4
      refine g_iconst (v := 1) ik_1 ?_
      refine g_goto rfl L_X8_leave_21 ?_
      refine g_istore_n (nle rfl) ?_
      refine g_aload_n rfl ?_
      refine g_iload_n rfl ?_
      refine g_if_ne rfl L_X8_leave_31 (fun h_7 => ?_) (fun h_7 => absurd h_7 (by decide))
      refine g_aload_n rfl ?_
      refine g_iload_n rfl ?_
      refine g_iload_n rfl ?_
      refine g_callV (as := [_, _]) mk_X8_hasSeat ml_X8_53 im_X8_hasSeat se_X8_hasSeat rfl rfl ⟨⟨nle rfl, nle rfl⟩, nle rfl, nle rfl⟩ hm.1 rfl rfl rfl (nle rfl) ?_
      refine m_hasSeat (B := B) hm (by rw [hs]; exact hI0) (by rw [hs]; exact hk) ?_
      rw [hs]
      refine kq_s ?_
      refine g_if_ne_b rfl L_X8_leave_44 (fun h_8 => ?_) (fun h_8 => ?_)
      · have hb := h_8
        refine g_iconst (v := 0) ik_0 ?_
        refine g_fall rfl L_X8_leave_45 ?_
        refine g_callV (as := [_]) mk_X8_holds ml_X8_89 im_X8_holds se_X8_holds rfl rfl ⟨⟨nle rfl, nle rfl⟩, nle rfl, nle rfl⟩ hm.1 rfl rfl rfl (nle rfl) ?_
        refine ct_X8_holds hm ?_
        have fH := frh M m
        generalize (upM M m 0 0) = M1 at fH ⊢
        have f1 : M1 (m + 1) = s := (fH.2.1 _ (by omega)).trans hs
        have hI1 : IR B (M1 (m + 1)) := by rw [f1]; exact hI0
        refine kq_s ?_
        refine g_if_ne rfl L_X8_leave_53 (fun h_9 => ?_) (fun h_9 => absurd h_9 (by decide))
        refine g_aload_n rfl ?_
        refine g_callV (as := []) mk_X8_remember ml_X8_206 im_X8_remember se_X8_remember rfl rfl ⟨⟨nle rfl, nle rfl⟩, nle rfl, nle rfl⟩ hm.1 rfl rfl rfl (nle rfl) ?_
        refine m_remember hm ((fH.2.2 2 (by omega)).trans h2) hc (fun M2 g1 g2 gr gj => ?_)
        rw [f1] at g1
        have hI2 : IR B (M2 (m + 1)) := by rw [g1]; exact hI0.cg fun j hj => rm_low hj
        refine kq_n ?_
        refine g_aload_n rfl ?_
        refine g_iload_n rfl ?_
        refine g_iload_n rfl ?_
        refine g_callV (as := [_, _]) mk_X8_leaves ml_X8_169 im_X8_leaves se_X8_leaves rfl rfl ⟨⟨nle rfl, nle rfl⟩, nle rfl, nle rfl⟩ hm.1 rfl rfl rfl (nle rfl) ?_
        refine m_leaves hm hI2 (by rw [g1, g_rmC]; exact hk) ?_
        rw [g1]
        refine kq_s ?_
        refine g_iret rfl (nle rfl) (nle rfl) ?_
        exact hY (by unfold gSe; rw [hd, hk]; rfl) (by unfold gLe; rw [hd, hk, hb]; rfl) _ (am_fin fH g2 gr gj)
      · have hb := h_8
        refine g_iconst (v := 2) ik_2 ?_
        refine g_goto rfl L_X8_leave_45 ?_
        refine g_callV (as := [_]) mk_X8_holds ml_X8_89 im_X8_holds se_X8_holds rfl rfl ⟨⟨nle rfl, nle rfl⟩, nle rfl, nle rfl⟩ hm.1 rfl rfl rfl (nle rfl) ?_
        refine ct_X8_holds hm ?_
        refine kq_s ?_
        refine g_if_ne rfl L_X8_leave_53 (fun h_10 => absurd h_10 (by decide)) (fun h_10 => ?_)
        refine g_iconst (v := 0) ik_0 ?_
        refine g_iret rfl (nle rfl) (nle rfl) ?_
        exact hE2 (by unfold gSe; rw [hd, hk]; rfl) (by unfold gLe; rw [hb]; simp)
set_option maxRecDepth 100000 in
set_option maxHeartbeats 4000000 in
theorem ct_X8_weeks {X : Xs} {κ : Kp} {M : Mem} {Q : Rs → Kp → Mem → Prop} {m : Nat} (hm : IsMod κ.2.1 m) {B : Nat} {s : Nat → Int32} (hs : M (m + 1) = s) (hI0 : IR B s) {cnt : Nat} (h2 : M m 2 = nI cnt) (hc : cnt ≤ 14) {n : Int32} (hE1 : inB n 1 9 = false → Q (.inl (some (.int 0))) κ (upM M m 0 1)) (hY : inB n 1 9 = true → ∀ k, 1 ≤ k → k ≤ 9 → n = nI k → ∀ M', AM M M' m cnt (wkC k (rmS cnt s)) → Q (.inl (some (.int (wkC k (rmS cnt s) 6 - (rmS cnt s) 6)))) κ M') : Ct X m_X8_weeks [.ref m, .int n] κ M Q := by
  refine ct_of B_X8_weeks_0 pn_X8 rfl (nle rfl) L_X8_weeks_0 ?_
  refine g_aload_n rfl ?_
  refine g_iload_n rfl ?_
  refine g_iconst (v := 1) ik_1 ?_
  refine g_bipush (v := 9) bk_9 ?_
  refine g_callS (as := [_, _, _]) mk_X8_in ml_X8_29 sm_X8_in rfl rfl ⟨⟨nle rfl, nle rfl⟩, nle rfl, nle rfl⟩ rfl rfl (nle rfl) ?_
  refine ct_X8_in ?_
  refine kq_s ?_
  refine g_if_eq_b rfl L_X8_weeks_15 (fun h_1 => ?_) (fun h_1 => ?_)
  · have hg := h_1
    refine g_iconst (v := 1) ik_1 ?_
    refine g_fall rfl L_X8_weeks_16 ?_
    refine g_callV (as := [_]) mk_X8_holds ml_X8_89 im_X8_holds se_X8_holds rfl rfl ⟨⟨nle rfl, nle rfl⟩, nle rfl, nle rfl⟩ hm.1 rfl rfl rfl (nle rfl) ?_
    refine ct_X8_holds hm ?_
    refine kq_s ?_
    refine g_if_ne rfl L_X8_weeks_24 (fun h_2 => absurd h_2 (by decide)) (fun h_2 => ?_)
    refine g_iconst (v := 0) ik_0 ?_
    refine g_iret rfl (nle rfl) (nle rfl) ?_
    exact hE1 hg
  · have hg := h_1
    refine g_iconst (v := 0) ik_0 ?_
    refine g_goto rfl L_X8_weeks_16 ?_
    refine g_callV (as := [_]) mk_X8_holds ml_X8_89 im_X8_holds se_X8_holds rfl rfl ⟨⟨nle rfl, nle rfl⟩, nle rfl, nle rfl⟩ hm.1 rfl rfl rfl (nle rfl) ?_
    refine ct_X8_holds hm ?_
    have fH := frh M m
    generalize (upM M m 0 0) = M1 at fH ⊢
    have f1 : M1 (m + 1) = s := (fH.2.1 _ (by omega)).trans hs
    have hI1 : IR B (M1 (m + 1)) := by rw [f1]; exact hI0
    refine kq_s ?_
    refine g_if_ne rfl L_X8_weeks_24 (fun h_3 => ?_) (fun h_3 => absurd h_3 (by decide))
    refine g_aload_n rfl ?_
    refine g_callV (as := []) mk_X8_remember ml_X8_206 im_X8_remember se_X8_remember rfl rfl ⟨⟨nle rfl, nle rfl⟩, nle rfl, nle rfl⟩ hm.1 rfl rfl rfl (nle rfl) ?_
    refine m_remember hm ((fH.2.2 2 (by omega)).trans h2) hc (fun M2 g1 g2 gr gj => ?_)
    rw [f1] at g1
    have hI2 : IR B (M2 (m + 1)) := by rw [g1]; exact hI0.cg fun j hj => rm_low hj
    refine kq_n ?_
    refine g_aload_n rfl ?_
    refine g_iload_n rfl ?_
    refine g_callV (as := [_]) mk_X8_weeksGo ml_X8_175 im_X8_weeksGo se_X8_weeksGo rfl rfl ⟨⟨nle rfl, nle rfl⟩, nle rfl, nle rfl⟩ hm.1 rfl rfl rfl (nle rfl) ?_
    obtain ⟨k, k1, k2, k3⟩ := in_rng (lo := 1) (hi := 9) (by omega) (by omega) rfl rfl hg
    refine m_weeksGo hm hI2 k k3 (by omega) (fun u hu eu => ?_)
    rw [g1] at eu
    rw [g1]
    refine kq_s ?_
    refine g_iret rfl (nle rfl) (nle rfl) ?_
    exact qeq (hY hg k k1 k2 k3 _ (am_fin fH g2 gr gj)) (by rw [eu]; grind) rfl
set_option maxRecDepth 100000 in
set_option maxHeartbeats 4000000 in
theorem ct_X8_set {X : Xs} {κ : Kp} {M : Mem} {Q : Rs → Kp → Mem → Prop} {m : Nat} (hm : IsMod κ.2.1 m) {B : Nat} {s : Nat → Int32} (hs : M (m + 1) = s) (hI0 : IR B s) {cnt : Nat} (h2 : M m 2 = nI cnt) (hc : cnt ≤ 14) {st lv f t dy hr_ : Int32} (hE1 : (isF s f && isT s t) = false → Q (.inl (some (.int 0))) κ (upM M m 0 1)) (hE2 : (isF s f && isT s t) = true → isTm st lv dy hr_ = false → Q (.inl (some (.int 0))) κ (upM M m 0 2)) (hE3 : (isF s f && isT s t) = true → isTm st lv dy hr_ = true → decide (s 2 < 10) = false → Q (.inl (some (.int 0))) κ (upM M m 0 3)) (hY : (isF s f && isT s t) = true → isTm st lv dy hr_ = true → decide (s 2 < 10) = true → ∀ M', AM M M' m cnt (tcT (rmS cnt s) st lv f t dy hr_) → Q (.inl (some (.int (wCl (rmS cnt s) st lv f t dy hr_)))) κ M') : Ct X m_X8_set [.ref m, .int st, .int lv, .int f, .int t, .int dy, .int hr_] κ M Q := by
  refine ct_of B_X8_set_0 pn_X8 rfl (nle rfl) L_X8_set_0 ?_
  refine g_aload_n rfl ?_
  refine g_iload_n rfl ?_
  refine g_callV (as := [_]) mk_X8_isFloor ml_X8_121 im_X8_isFloor se_X8_isFloor rfl rfl ⟨⟨nle rfl, nle rfl⟩, nle rfl, nle rfl⟩ hm.1 rfl rfl rfl (nle rfl) ?_
  refine ct_X8_isFloor hm ?_
  rw [hs]
  refine kq_s ?_
  refine g_if_eq_b rfl L_X8_set_21 (fun h_1 => ?_) (fun h_1 => ?_)
  · have hqf : isF s f = false := h_1
    refine g_iconst (v := 0) ik_0 ?_
    refine g_fall rfl L_X8_set_22 ?_
    refine g_istore (nle rfl) ?_
    refine g_aload_n rfl ?_
    refine g_iload rfl ?_
    refine g_if_ne rfl L_X8_set_34 (fun h_2 => absurd h_2 (by decide)) (fun h_2 => ?_)
    refine g_iconst (v := 1) ik_1 ?_
    refine g_goto rfl L_X8_set_66 ?_
    refine g_callV (as := [_]) mk_X8_holds ml_X8_89 im_X8_holds se_X8_holds rfl rfl ⟨⟨nle rfl, nle rfl⟩, nle rfl, nle rfl⟩ hm.1 rfl rfl rfl (nle rfl) ?_
    refine ct_X8_holds hm ?_
    refine kq_s ?_
    refine g_if_ne rfl L_X8_set_74 (fun h_3 => absurd h_3 (by decide)) (fun h_3 => ?_)
    refine g_iconst (v := 0) ik_0 ?_
    refine g_iret rfl (nle rfl) (nle rfl) ?_
    exact hE1 (by rw [hqf]; rfl)
  · have hqf : isF s f = true := h_1
    refine g_aload_n rfl ?_
    refine g_iload rfl ?_
    refine g_callV (as := [_]) mk_X8_isTeacher ml_X8_124 im_X8_isTeacher se_X8_isTeacher rfl rfl ⟨⟨nle rfl, nle rfl⟩, nle rfl, nle rfl⟩ hm.1 rfl rfl rfl (nle rfl) ?_
    refine ct_X8_isTeacher hm ?_
    rw [hs]
    refine kq_s ?_
    refine g_if_eq_b rfl L_X8_set_21 (fun h_4 => ?_) (fun h_4 => ?_)
    · have hqt : isT s t = false := h_4
      refine g_iconst (v := 0) ik_0 ?_
      refine g_fall rfl L_X8_set_22 ?_
      refine g_istore (nle rfl) ?_
      refine g_aload_n rfl ?_
      refine g_iload rfl ?_
      refine g_if_ne rfl L_X8_set_34 (fun h_5 => absurd h_5 (by decide)) (fun h_5 => ?_)
      refine g_iconst (v := 1) ik_1 ?_
      refine g_goto rfl L_X8_set_66 ?_
      refine g_callV (as := [_]) mk_X8_holds ml_X8_89 im_X8_holds se_X8_holds rfl rfl ⟨⟨nle rfl, nle rfl⟩, nle rfl, nle rfl⟩ hm.1 rfl rfl rfl (nle rfl) ?_
      refine ct_X8_holds hm ?_
      refine kq_s ?_
      refine g_if_ne rfl L_X8_set_74 (fun h_6 => absurd h_6 (by decide)) (fun h_6 => ?_)
      refine g_iconst (v := 0) ik_0 ?_
      refine g_iret rfl (nle rfl) (nle rfl) ?_
      exact hE1 (by rw [hqt]; simp)
    · have hqt : isT s t = true := h_4
      refine g_iconst (v := 1) ik_1 ?_
      refine g_goto rfl L_X8_set_22 ?_
      refine g_istore (nle rfl) ?_
      refine g_aload_n rfl ?_
      refine g_iload rfl ?_
      refine g_if_ne rfl L_X8_set_34 (fun h_7 => ?_) (fun h_7 => absurd h_7 (by decide))
      refine g_iload_n rfl ?_
      refine g_iload_n rfl ?_
      refine g_iload rfl ?_
      refine g_iload rfl ?_
      refine g_callS (as := [_, _, _, _]) mk_X8_isTime ml_X8_209 sm_X8_isTime rfl rfl ⟨⟨nle rfl, nle rfl⟩, nle rfl, nle rfl⟩ rfl rfl (nle rfl) ?_
      refine ct_X8_isTime ?_
      refine kq_s ?_
      refine g_if_ne_b rfl L_X8_set_50 (fun h_8 => ?_) (fun h_8 => ?_)
      · have hqa := h_8
        refine g_aload_n rfl ?_
        refine g_getR (w := (m + 1)) fl_X8_7 rfl hm.1 rfl ?_
        refine g_iconst (v := 2) ik_2 ?_
        refine g_iaload (j := 2) hm.2.1 rfl (nle rfl) (nle rfl) ?_
        refine g_bipush (v := 10) bk_10 ?_
        refine g_icmp_ne rfl L_X8_set_65 (fun h_9 => ?_) (fun h_9 => ?_)
        · have h10 : decide (s 2 < 10) = true := by rw [ten_iff hI0, decide_eq_false (by rw [← hs]; exact h_9)]; rfl
          refine g_iconst (v := 0) ik_0 ?_
          refine g_fall rfl L_X8_set_66 ?_
          refine g_callV (as := [_]) mk_X8_holds ml_X8_89 im_X8_holds se_X8_holds rfl rfl ⟨⟨nle rfl, nle rfl⟩, nle rfl, nle rfl⟩ hm.1 rfl rfl rfl (nle rfl) ?_
          refine ct_X8_holds hm ?_
          have fH := frh M m
          generalize (upM M m 0 0) = M1 at fH ⊢
          have f1 : M1 (m + 1) = s := (fH.2.1 _ (by omega)).trans hs
          have hI1 : IR B (M1 (m + 1)) := by rw [f1]; exact hI0
          refine kq_s ?_
          refine g_if_ne rfl L_X8_set_74 (fun h_10 => ?_) (fun h_10 => absurd h_10 (by decide))
          refine g_aload_n rfl ?_
          refine g_callV (as := []) mk_X8_remember ml_X8_206 im_X8_remember se_X8_remember rfl rfl ⟨⟨nle rfl, nle rfl⟩, nle rfl, nle rfl⟩ hm.1 rfl rfl rfl (nle rfl) ?_
          refine m_remember hm ((fH.2.2 2 (by omega)).trans h2) hc (fun M2 g1 g2 gr gj => ?_)
          rw [f1] at g1
          have hI2 : IR B (M2 (m + 1)) := by rw [g1]; exact hI0.cg fun j hj => rm_low hj
          refine kq_n ?_
          refine g_aload_n rfl ?_
          refine g_iload_n rfl ?_
          refine g_iload_n rfl ?_
          refine g_iload_n rfl ?_
          refine g_iload rfl ?_
          refine g_iload rfl ?_
          refine g_iload rfl ?_
          refine g_callV (as := [_, _, _, _, _, _]) mk_X8_triesClass ml_X8_212 im_X8_triesClass se_X8_triesClass rfl rfl ⟨⟨nle rfl, nle rfl⟩, nle rfl, nle rfl⟩ hm.1 rfl rfl rfl (nle rfl) ?_
          have hg : gCl s f t = true := by unfold gCl; rw [h10, hqf, hqt]; rfl
          refine m_triesClass hm hI2 (by rw [g1, g_rmCl]; exact hg) ?_
          rw [g1]
          refine kq_s ?_
          refine g_iret rfl (nle rfl) (nle rfl) ?_
          exact hY (by rw [hqf, hqt]; rfl) hqa h10 _ (am_fin fH g2 gr gj)
        · have h10 : decide (s 2 < 10) = false := by rw [ten_iff hI0, decide_eq_true (by rw [← hs]; exact h_9)]; rfl
          refine g_iconst (v := 3) ik_3 ?_
          refine g_goto rfl L_X8_set_66 ?_
          refine g_callV (as := [_]) mk_X8_holds ml_X8_89 im_X8_holds se_X8_holds rfl rfl ⟨⟨nle rfl, nle rfl⟩, nle rfl, nle rfl⟩ hm.1 rfl rfl rfl (nle rfl) ?_
          refine ct_X8_holds hm ?_
          refine kq_s ?_
          refine g_if_ne rfl L_X8_set_74 (fun h_11 => absurd h_11 (by decide)) (fun h_11 => ?_)
          refine g_iconst (v := 0) ik_0 ?_
          refine g_iret rfl (nle rfl) (nle rfl) ?_
          exact hE3 (by rw [hqf, hqt]; rfl) hqa h10
      · have hqa := h_8
        refine g_iconst (v := 2) ik_2 ?_
        refine g_goto rfl L_X8_set_66 ?_
        refine g_callV (as := [_]) mk_X8_holds ml_X8_89 im_X8_holds se_X8_holds rfl rfl ⟨⟨nle rfl, nle rfl⟩, nle rfl, nle rfl⟩ hm.1 rfl rfl rfl (nle rfl) ?_
        refine ct_X8_holds hm ?_
        refine kq_s ?_
        refine g_if_ne rfl L_X8_set_74 (fun h_12 => absurd h_12 (by decide)) (fun h_12 => ?_)
        refine g_iconst (v := 0) ik_0 ?_
        refine g_iret rfl (nle rfl) (nle rfl) ?_
        exact hE2 (by rw [hqf, hqt]; rfl) hqa
set_option maxRecDepth 100000 in
set_option maxHeartbeats 4000000 in
theorem ct_X8_tune {X : Xs} {κ : Kp} {M : Mem} {Q : Rs → Kp → Mem → Prop} {m : Nat} (hm : IsMod κ.2.1 m) {B : Nat} {s : Nat → Int32} (hs : M (m + 1) = s) (hI0 : IR B s) {cnt : Nat} (h2 : M m 2 = nI cnt) (hc : cnt ≤ 14) {w v : Int32} (hE : tnG w v = false → Q (.inl (some (.int 0))) κ (upM M m 0 1)) (hY : tnG w v = true → ∀ k, k ≤ 1 → w = nI k → ∀ M', AM M M' m cnt (upd (rmS cnt s) (11 + k) v) → Q (.inl (some (.int ((rmS cnt s) (11 + k))))) κ M') : Ct X m_X8_tune [.ref m, .int w, .int v] κ M Q := by
  refine ct_of B_X8_tune_0 pn_X8 rfl (nle rfl) L_X8_tune_0 ?_
  refine g_aload_n rfl ?_
  refine g_iload_n rfl ?_
  refine g_iconst (v := 0) ik_0 ?_
  refine g_iconst (v := 1) ik_1 ?_
  refine g_callS (as := [_, _, _]) mk_X8_in ml_X8_29 sm_X8_in rfl rfl ⟨⟨nle rfl, nle rfl⟩, nle rfl, nle rfl⟩ rfl rfl (nle rfl) ?_
  refine ct_X8_in ?_
  refine kq_s ?_
  refine g_if_eq_b rfl L_X8_tune_33 (fun h_1 => ?_) (fun h_1 => ?_)
  · have q1 := h_1
    refine g_iconst (v := 1) ik_1 ?_
    refine g_fall rfl L_X8_tune_34 ?_
    refine g_callV (as := [_]) mk_X8_holds ml_X8_89 im_X8_holds se_X8_holds rfl rfl ⟨⟨nle rfl, nle rfl⟩, nle rfl, nle rfl⟩ hm.1 rfl rfl rfl (nle rfl) ?_
    refine ct_X8_holds hm ?_
    refine kq_s ?_
    refine g_if_ne rfl L_X8_tune_42 (fun h_2 => absurd h_2 (by decide)) (fun h_2 => ?_)
    refine g_iconst (v := 0) ik_0 ?_
    refine g_iret rfl (nle rfl) (nle rfl) ?_
    exact hE (by unfold tnG; rw [q1]; rfl)
  · have q1 := h_1
    obtain ⟨k, hk, ek⟩ := in_lt (n := 1) (by omega) q1
    subst ek
    refine g_iload_n rfl ?_
    refine g_iconst (v := 1) ik_1 ?_
    refine g_join (isJ := B_X8_tune_23) (pcJ := 23) (tnR (nI k)) ?_ (fun hj_12 => ?_)
    · refine g_callS (as := [_, _, _]) mk_X8_in ml_X8_29 sm_X8_in rfl rfl ⟨⟨nle rfl, nle rfl⟩, nle rfl, nle rfl⟩ rfl rfl (nle rfl) ?_
      refine ct_X8_in ?_
      refine kq_s ?_
      refine g_if_eq_b rfl L_X8_tune_33 (fun h_3 => ?_) (fun h_3 => ?_)
      · have q2 := h_3
        refine g_iconst (v := 1) ik_1 ?_
        refine g_fall rfl L_X8_tune_34 ?_
        refine g_callV (as := [_]) mk_X8_holds ml_X8_89 im_X8_holds se_X8_holds rfl rfl ⟨⟨nle rfl, nle rfl⟩, nle rfl, nle rfl⟩ hm.1 rfl rfl rfl (nle rfl) ?_
        refine ct_X8_holds hm ?_
        refine kq_s ?_
        refine g_if_ne rfl L_X8_tune_42 (fun h_4 => absurd h_4 (by decide)) (fun h_4 => ?_)
        refine g_iconst (v := 0) ik_0 ?_
        refine g_iret rfl (nle rfl) (nle rfl) ?_
        exact hE (by unfold tnG; rw [q1, q2]; rfl)
      · have q2 := h_3
        refine g_iconst (v := 0) ik_0 ?_
        refine g_goto rfl L_X8_tune_34 ?_
        refine g_callV (as := [_]) mk_X8_holds ml_X8_89 im_X8_holds se_X8_holds rfl rfl ⟨⟨nle rfl, nle rfl⟩, nle rfl, nle rfl⟩ hm.1 rfl rfl rfl (nle rfl) ?_
        refine ct_X8_holds hm ?_
        have fH := frh M m
        generalize (upM M m 0 0) = M1 at fH ⊢
        have f1 : M1 (m + 1) = s := (fH.2.1 _ (by omega)).trans hs
        have hI1 : IR B (M1 (m + 1)) := by rw [f1]; exact hI0
        refine kq_s ?_
        refine g_if_ne rfl L_X8_tune_42 (fun h_5 => ?_) (fun h_5 => absurd h_5 (by decide))
        refine g_aload_n rfl ?_
        refine g_callV (as := []) mk_X8_remember ml_X8_206 im_X8_remember se_X8_remember rfl rfl ⟨⟨nle rfl, nle rfl⟩, nle rfl, nle rfl⟩ hm.1 rfl rfl rfl (nle rfl) ?_
        refine m_remember hm ((fH.2.2 2 (by omega)).trans h2) hc (fun M2 g1 g2 gr gj => ?_)
        rw [f1] at g1
        have hI2 : IR B (M2 (m + 1)) := by rw [g1]; exact hI0.cg fun j hj => rm_low hj
        refine kq_n ?_
        refine g_aload_n rfl ?_
        refine g_getR (w := (m + 1)) fl_X8_7 rfl hm.1 rfl ?_
        refine g_bipush (v := 11) bk_11 ?_
        refine g_iload_n rfl ?_
        refine g_iadd ?_
        rw [show (11 : Int32) + nI k = nI (11 + k) from nI_add 11 k]
        refine g_iaload (j := (11 + k)) hm.2.1 (by simp only [nI, Int32.ofNat_add, Int32.ofNat_mul] <;> rfl) (by omega) (nle rfl) ?_
        refine g_istore_n (nle rfl) ?_
        refine g_aload_n rfl ?_
        refine g_getR (w := (m + 1)) fl_X8_7 rfl hm.1 rfl ?_
        refine g_bipush (v := 11) bk_11 ?_
        refine g_iload_n rfl ?_
        refine g_iadd ?_
        rw [show (11 : Int32) + nI k = nI (11 + k) from nI_add 11 k]
        refine g_iload_n rfl ?_
        refine g_iastore (j := (11 + k)) hm.2.1 (by simp only [nI, Int32.ofNat_add, Int32.ofNat_mul] <;> rfl) (by omega) (nle rfl) ?_
        refine g_iload_n rfl ?_
        refine g_iret rfl (nle rfl) (nle rfl) ?_
        rw [upM_sR, g1]
        exact hY (by unfold tnG; rw [q1, q2]; rfl) k hk rfl _ (am_fin fH g2 gr gj)
    · refine g_iload_n rfl ?_
      refine g_if_ne rfl L_X8_tune_21 (fun h_6 => ?_) (fun h_6 => ?_)
      · refine g_bipush (v := 50) bk_50 ?_
        refine g_fall rfl L_X8_tune_23 ?_
        exact hj_12 _ (by unfold tnR; simp [*])
      · refine g_bipush (v := 9) bk_9 ?_
        refine g_goto rfl L_X8_tune_23 ?_
        exact hj_12 _ (by unfold tnR; simp [*])
