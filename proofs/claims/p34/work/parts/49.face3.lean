def tnR (w : Int32) : Int32 := if w = 0 then 9 else 50
def tnG (w v : Int32) : Bool := inB w 0 1 && inB v 1 (tnR w)
theorem inv_tune {B nf nt nc nd : Nat} {s : Nat → Int32} (h : Inv B nf nt nc nd s) {k : Nat} (hk : k ≤ 1) {v : Int32} (hv : k = 0 → bd 1 9 v) : Inv B nf nt nc nd (upd s (11 + k) v) := by
  obtain ⟨⟨b1, b2, b3, b4⟩, h2, hf, hk2, hd, hs⟩ := h
  refine ⟨⟨?_, ?_, ?_, ?_⟩, ?_, fun f hf' => ?_, fun k hk' => ?_, fun d hd' => ?_, ?_⟩
  · simp (disch := omega) only [upd_ne]; exact b1
  · simp (disch := omega) only [upd_ne]; exact b2
  · simp (disch := omega) only [upd_ne]; exact b3
  · simp (disch := omega) only [upd_ne]; exact b4
  · by_cases e : k = 0
    · subst e; rw [upd_same]; exact hv rfl
    · rw [upd_ne (by omega)]; exact h2
  · unfold FlOK; simp (disch := omega) only [upd_ne]; exact hf f hf'
  · unfold ClOK; simp (disch := omega) only [upd_ne]; exact hk2 k hk'
  · unfold DaOK; simp (disch := omega) only [upd_ne]; exact hd d hd'
  · unfold SmOK; simp (disch := omega) only [upd_ne]; exact hs
theorem rep_tune {M : Mem} {o B nf nt nc nd : Nat} {s : Nat → Int32} (hr : RepS M o nf nt nc nd s) (hI : Inv B nf nt nc nd s) {k : Nat} (hk : k ≤ 1) {v : Int32} : RepS (upM M (o + 36) k v) o nf nt nc nd (upd s (11 + k) v) := by
  have bf := hI.lf
  have bt := hI.lt
  have bc := hI.lc
  have bn := hI.ld
  obtain ⟨⟨a1, a2, a3, a4, a5, a6, a7, a8, a9, a10⟩, hf, ht, hkk, hd⟩ := hr
  refine ⟨?_, fun f hf' => ?_, fun t ht' => ?_, fun k hk' => ?_, fun d hd' => ?_⟩
  · have h : k = 0 ∨ k = 1 := by omega
    rcases h with rfl | rfl
    · simp (disch := omega) only [upM_s, upM_o, upM_j, upd_ne, upd_same, Nat.add_zero, a1, a2, a3, a4, a5, a6, a7, a8, a9, a10, and_self]
    · simp (disch := omega) only [upM_s, upM_o, upM_j, upd_ne, upd_at, a1, a2, a3, a4, a5, a6, a7, a8, a9, a10, and_self]
  · simp (disch := omega) only [upM_o, upd_ne]; exact hf f hf'
  · simp (disch := omega) only [upM_o, upd_ne]; exact ht t ht'
  · simp (disch := omega) only [upM_o, upd_ne]; exact hkk k hk'
  · simp (disch := omega) only [upM_o, upd_ne]; exact hd d hd'
set_option maxRecDepth 100000 in
set_option maxHeartbeats 4000000 in
theorem ct_X7_tune {X : Xs} {κ : Kp} {M : Mem} {Q : Rs → Kp → Mem → Prop} {x : Nat} (hx : IsDF κ.2.1 x) {B : Nat} {s : Nat → Int32} (hS : SF B M (x + 4) s) {cnt : Nat} {blk : Nat → Nat → Int32} (hH : HisOK B M (x + 78) cnt blk) {w v : Int32} (hE : tnG w v = false → False) (hY : tnG w v = true → ∀ k, k ≤ 1 → w = nI k → ∀ M', SF (B) M' (x + 4) (upd s (11 + k) v) → HisOK (B) M' (x + 78) (remC cnt) (remB cnt s blk) → FrA M M' x → Q (.inl (some (.int (s (11 + k))))) κ M') : Ct X m_X7_tune [.ref x, .int w, .int v] κ M Q := by
  refine ct_of B_X7_tune_0 pn_X7 rfl (nle rfl) L_X7_tune_0 ?_
  obtain ⟨nf, nt, nc, nd, hr, hI, h9⟩ := hS
  have bf := hI.lf
  have bt := hI.lt
  have bc := hI.lc
  have bn := hI.ld
  have n0 := hI.n0
  have n1 := hI.n1
  have n2 := hI.n2
  have n3 := hI.n3
  refine g_iload_n rfl ?_
  refine g_iconst (v := 0) ik_0 ?_
  refine g_iconst (v := 1) ik_1 ?_
  refine g_callS (as := [_, _, _]) mk_X7_isWithin ml_X7_41 sm_X7_isWithin rfl rfl ⟨⟨nle rfl, nle rfl⟩, nle rfl, nle rfl⟩ rfl rfl (nle rfl) ?_
  refine ct_X7_isWithin ?_
  refine kq_s ?_
  refine g_callS (as := [_]) mk_X7_requireArgument ml_X7_45 sm_X7_requireArgument rfl rfl ⟨⟨nle rfl, nle rfl⟩, nle rfl, nle rfl⟩ rfl rfl (nle rfl) ?_
  refine ct_X7_requireArgument (fun q1 => ?_) (fun q1 => ?_)
  · refine kq_n ?_
    refine g_iload_n rfl ?_
    refine g_iconst (v := 1) ik_1 ?_
    refine g_join (isJ := B_X7_tune_22) (pcJ := 22) (tnR w) ?_ (fun hj_11 => ?_)
    · refine g_callS (as := [_, _, _]) mk_X7_isWithin ml_X7_41 sm_X7_isWithin rfl rfl ⟨⟨nle rfl, nle rfl⟩, nle rfl, nle rfl⟩ rfl rfl (nle rfl) ?_
      refine ct_X7_isWithin ?_
      refine kq_s ?_
      refine g_callS (as := [_]) mk_X7_requireArgument ml_X7_45 sm_X7_requireArgument rfl rfl ⟨⟨nle rfl, nle rfl⟩, nle rfl, nle rfl⟩ rfl rfl (nle rfl) ?_
      refine ct_X7_requireArgument (fun q2 => ?_) (fun q2 => ?_)
      · obtain ⟨k, hk, ek⟩ := in_lt (n := 1) (by omega) q1
        subst ek
        refine kq_n ?_
        refine g_aload_n rfl ?_
        refine g_getR (w := (x + 78)) fl_X7_29 rfl hx.1 rfl ?_
        refine g_aload_n rfl ?_
        refine g_getR (w := (x + 4)) fl_X7_19 rfl hx.1 rfl ?_
        refine g_callV (as := [_]) mk_X2_remember ml_X7_254 im_X2_remember se_X2_remember rfl rfl ⟨⟨nle rfl, nle rfl⟩, nle rfl, nle rfl⟩ hx.2.2.2.2.1.1 rfl rfl rfl (nle rfl) ?_
        refine ct_X2_remember hx.2.2.2.2.1 hx.2.2.1 (by omega) hH ⟨nf, nt, nc, nd, hr, hI, h9⟩ (fun M1 hH1 hF1 => ?_)
        have hS1 : SR B M1 (x + 4) s := ⟨nf, nt, nc, nd, hr.fr bf bt bc bn (fun r a b => hF1 r (by omega)), hI⟩
        refine kq_n ?_
        refine g_aload_n rfl ?_
        refine g_getR (w := (x + 4)) fl_X7_19 rfl hx.1 rfl ?_
        refine g_getR (w := ((x + 4) + 36)) fl_X7_251 rfl hx.2.2.1.s0 rfl ?_
        refine g_iload_n rfl ?_
        refine g_iaload (j := k) hx.2.2.1.se rfl (by omega) (nle rfl) ?_
        rw [hF1 (x + 4 + 36) (by omega), set_eq (B := B) hr hk]
        refine g_istore_n (nle rfl) ?_
        refine g_aload_n rfl ?_
        refine g_getR (w := (x + 4)) fl_X7_19 rfl hx.1 rfl ?_
        refine g_getR (w := ((x + 4) + 36)) fl_X7_251 rfl hx.2.2.1.s0 rfl ?_
        refine g_iload_n rfl ?_
        refine g_iload_n rfl ?_
        refine g_iastore (j := k) hx.2.2.1.se rfl (by omega) (nle rfl) ?_
        refine g_iload_n rfl ?_
        refine g_iret rfl (nle rfl) (nle rfl) ?_
        have hS2 : SR B (upM M1 (x + 4 + 36) k v) (x + 4) (upd s (11 + k) v) := by
          have hr1 := hr.fr (M' := M1) bf bt bc bn (fun r a b => hF1 r (by omega))
          refine ⟨nf, nt, nc, nd, rep_tune hr1 hI hk, inv_tune hI hk (fun e => ?_)⟩
          subst e
          exact in_rng (lo := 1) (hi := 9) (by omega) (by omega) rfl rfl q2
        have f1 : SF B (upM M1 (x + 4 + 36) k v) (x + 4) (upd s (11 + k) v) := hS2.sf (by rw [upM_o _ _ _ _ (by omega), hF1 (x + 4) (by omega), upd_ne (by omega)]; exact h9)
        exact hY (by unfold tnG; rw [q1, q2]; rfl) k hk rfl _ f1 (hH1.fr fun r a b => by funext j; exact upM_o _ _ _ _ (by omega) j) (fun r a b => by rw [← hF1 r (by omega)]; funext j; exact upM_o _ _ _ _ (by omega) j)
      · exact hE (by unfold tnG; rw [q1, q2]; rfl)
    · refine g_iload_n rfl ?_
      refine g_if_ne rfl L_X7_tune_20 (fun h_1 => ?_) (fun h_1 => ?_)
      · refine g_bipush (v := 50) bk_50 ?_
        refine g_fall rfl L_X7_tune_22 ?_
        exact hj_11 _ (by unfold tnR; simp [*])
      · refine g_bipush (v := 9) bk_9 ?_
        refine g_goto rfl L_X7_tune_22 ?_
        exact hj_11 _ (by unfold tnR; simp [*])
  · exact hE (by unfold tnG; rw [q1]; rfl)
set_option maxRecDepth 100000 in
set_option maxHeartbeats 4000000 in
theorem ct_X7_undo {X : Xs} {κ : Kp} {M : Mem} {Q : Rs → Kp → Mem → Prop} {x : Nat} (hx : IsDF κ.2.1 x) {B cnt : Nat} {blk : Nat → Nat → Int32} (hH : HisOK B M (x + 78) cnt blk) (hE : cnt = 0 → False) (hY : 0 < cnt → ∀ M', HisOK B M' (x + 78) (cnt - 1) blk → SF B M' (x + 4) (blk (cnt - 1)) → FrA M M' x → Q (.inl (some (.int (nI (cnt - 1))))) κ M') : Ct X m_X7_undo [.ref x] κ M Q := by
  refine ct_of B_X7_undo_0 pn_X7 rfl (nle rfl) L_X7_undo_0 ?_
  obtain ⟨e2, e3⟩ : M (x + 78) 2 = nI cnt ∧ cnt ≤ 14 := by
    obtain ⟨old, -, -, h2, h3, -⟩ := hH
    exact ⟨h2, h3⟩
  refine g_aload_n rfl ?_
  refine g_getR (w := (x + 78)) fl_X7_29 rfl hx.1 rfl ?_
  refine g_getI fl_X7_302 rfl hx.2.2.2.2.1.1 rfl ?_
  rw [e2]
  refine g_if_le rfl L_X7_undo_14 (fun h_1 => ?_) (fun h_1 => ?_)
  · have hz : cnt = 0 := by have := (nI_leI (a := cnt) (b := 0) (by omega) (by omega)).mp h_1; omega
    refine g_iconst (v := 0) ik_0 ?_
    refine g_fall rfl L_X7_undo_15 ?_
    refine g_callS (as := [_]) mk_X7_requireState ml_X7_53 sm_X7_requireState rfl rfl ⟨⟨nle rfl, nle rfl⟩, nle rfl, nle rfl⟩ rfl rfl (nle rfl) ?_
    refine ct_X7_requireState (b := false) (fun qs => by cases qs) (fun qs => ?_)
    · exact hE hz
  · have hz : 0 < cnt := by
      rcases Nat.eq_zero_or_pos cnt with q | q
      · exact absurd ((nI_leI (a := cnt) (b := 0) (by omega) (by omega)).mpr (by omega)) h_1
      · exact q
    refine g_iconst (v := 1) ik_1 ?_
    refine g_goto rfl L_X7_undo_15 ?_
    refine g_callS (as := [_]) mk_X7_requireState ml_X7_53 sm_X7_requireState rfl rfl ⟨⟨nle rfl, nle rfl⟩, nle rfl, nle rfl⟩ rfl rfl (nle rfl) ?_
    refine ct_X7_requireState (b := true) (fun qs => ?_) (fun qs => by cases qs)
    refine kq_n ?_
    refine g_aload_n rfl ?_
    refine g_getR (w := (x + 78)) fl_X7_29 rfl hx.1 rfl ?_
    refine g_aload_n rfl ?_
    refine g_getR (w := (x + 4)) fl_X7_19 rfl hx.1 rfl ?_
    refine g_callV (as := [_]) mk_X2_takeBack ml_X7_305 im_X2_takeBack se_X2_takeBack rfl rfl ⟨⟨nle rfl, nle rfl⟩, nle rfl, nle rfl⟩ hx.2.2.2.2.1.1 rfl rfl rfl (nle rfl) ?_
    refine ct_X2_takeBack hx.2.2.2.2.1 hx.2.2.1 (by omega) hH hz (fun M2 hH2 hS2 hF2 => ?_)
    refine kq_s ?_
    refine g_iret rfl (nle rfl) (nle rfl) ?_
    exact hY hz M2 hH2 hS2 (fun r a b => hF2 r a (by omega))
set_option maxRecDepth 100000 in
set_option maxHeartbeats 4000000 in
theorem ct_X7_save {X : Xs} {κ : Kp} {M : Mem} {Q : Rs → Kp → Mem → Prop} {x : Nat} (hx : IsDF κ.2.1 x) {B : Nat} {s : Nat → Int32} (hS : SF B M (x + 4) s) {v : Int32} (hE : inB v 0 1 = false → False) (hY : inB v 0 1 = true → ∀ k, k ≤ 1 → v = nI k → ∀ M', SF B M' (x + 599 + 37 * k) s → M' (x + 673) k = 1 → (∀ j, j ≠ k → M' (x + 673) j = M (x + 673) j) → (∀ r, (r < x + 599 + 37 * k ∨ x + 599 + 37 * k + 37 ≤ r) → r ≠ x + 673 → M' r = M r) → Q (.inl (some (.int (s 4)))) κ M') : Ct X m_X7_save [.ref x, .int v] κ M Q := by
  refine ct_of B_X7_save_0 pn_X7 rfl (nle rfl) L_X7_save_0 ?_
  have w4 : M (x + 4) 9 = s 4 := by
    obtain ⟨nf, nt, nc, nd, hr, hI, h9⟩ := hS
    exact hr.1.2.2.2.2.1
  refine g_iload_n rfl ?_
  refine g_iconst (v := 0) ik_0 ?_
  refine g_iconst (v := 1) ik_1 ?_
  refine g_callS (as := [_, _, _]) mk_X7_isWithin ml_X7_41 sm_X7_isWithin rfl rfl ⟨⟨nle rfl, nle rfl⟩, nle rfl, nle rfl⟩ rfl rfl (nle rfl) ?_
  refine ct_X7_isWithin ?_
  refine kq_s ?_
  refine g_callS (as := [_]) mk_X7_requireIndex ml_X7_139 sm_X7_requireIndex rfl rfl ⟨⟨nle rfl, nle rfl⟩, nle rfl, nle rfl⟩ rfl rfl (nle rfl) ?_
  refine ct_X7_requireIndex (fun hq => ?_) (fun hq => ?_)
  · obtain ⟨k, hk, ek⟩ := in_lt (n := 1) (by omega) hq
    subst ek
    refine kq_n ?_
    refine g_aload_n rfl ?_
    refine g_getR (w := (x + 598)) fl_X7_33 rfl hx.1 rfl ?_
    refine g_iload_n rfl ?_
    refine g_aaload (j := k) (w := (x + 599 + 37 * k)) hx.2.2.2.2.2.1 (nle rfl) rfl (by omega) (nle rfl) (rcs37_get (by omega)) ?_
    refine g_aload_n rfl ?_
    refine g_getR (w := (x + 4)) fl_X7_19 rfl hx.1 rfl ?_
    refine g_callV (as := [_]) mk_X4_copyFrom ml_X7_319 im_X4_copyFrom se_X4_copyFrom rfl rfl ⟨⟨nle rfl, nle rfl⟩, nle rfl, nle rfl⟩ (hx.2.2.2.2.2.2.1 _ (by omega)).s0 rfl rfl rfl (nle rfl) ?_
    refine k_copyFrom (hx.2.2.2.2.2.2.1 _ (by omega)) hx.2.2.1 (by omega) hS (fun M2 hS2 hF2 => ?_)
    refine kq_n ?_
    refine g_aload_n rfl ?_
    refine g_getR (w := (x + 673)) fl_X7_37 rfl hx.1 rfl ?_
    refine g_iload_n rfl ?_
    refine g_iconst (v := 1) ik_1 ?_
    refine g_bastore (j := k) hx.2.2.2.2.2.2.2 rfl (by omega) (nle rfl) rfl ?_
    refine g_aload_n rfl ?_
    refine g_getR (w := (x + 4)) fl_X7_19 rfl hx.1 rfl ?_
    refine g_getI fl_X7_104 rfl hx.2.2.1.s0 rfl ?_
    rw [upM_o _ _ _ _ (by omega), hF2 (x + 4) (by omega), w4]
    refine g_iret rfl (nle rfl) (nle rfl) ?_
    exact hY hq k hk rfl _ (hS2.fr fun r a b => by funext j; exact upM_o _ _ _ _ (by omega) j) (upM_s _ _ _ _) (fun j hj => by rw [upM_j _ _ _ _ hj, hF2 (x + 673) (by omega)]) (fun r a b => by rw [← hF2 r a]; funext j; exact upM_o _ _ _ _ b j)
  · exact hE hq
set_option maxRecDepth 100000 in
set_option maxHeartbeats 4000000 in
theorem ct_X7_restore {X : Xs} {κ : Kp} {M : Mem} {Q : Rs → Kp → Mem → Prop} {x : Nat} (hx : IsDF κ.2.1 x) {B : Nat} {v : Int32} {fb : Nat → Bool} {sv : Nat → Nat → Int32} (hfb : ∀ k, k < 2 → M (x + 673) k = bI (fb k)) (hsv : ∀ k, k < 2 → fb k = true → SF B M (x + 599 + 37 * k) (sv k)) (hE : inB v 0 1 = false → False) (hE2 : inB v 0 1 = true → ∀ k, k ≤ 1 → v = nI k → fb k = false → False) (hY : inB v 0 1 = true → ∀ k, k ≤ 1 → v = nI k → fb k = true → ∀ M', SF B M' (x + 4) (sv k) → (∀ B blk, HisOK B M' (x + 78) 0 blk) → FrA M M' x → Q (.inl (some (.int (sv k 4)))) κ M') : Ct X m_X7_restore [.ref x, .int v] κ M Q := by
  refine ct_of B_X7_restore_0 pn_X7 rfl (nle rfl) L_X7_restore_0 ?_
  refine g_iload_n rfl ?_
  refine g_iconst (v := 0) ik_0 ?_
  refine g_iconst (v := 1) ik_1 ?_
  refine g_callS (as := [_, _, _]) mk_X7_isWithin ml_X7_41 sm_X7_isWithin rfl rfl ⟨⟨nle rfl, nle rfl⟩, nle rfl, nle rfl⟩ rfl rfl (nle rfl) ?_
  refine ct_X7_isWithin ?_
  refine kq_s ?_
  refine g_callS (as := [_]) mk_X7_requireIndex ml_X7_139 sm_X7_requireIndex rfl rfl ⟨⟨nle rfl, nle rfl⟩, nle rfl, nle rfl⟩ rfl rfl (nle rfl) ?_
  refine ct_X7_requireIndex (fun hq => ?_) (fun hq => ?_)
  · obtain ⟨k, hk, ek⟩ := in_lt (n := 1) (by omega) hq
    subst ek
    refine kq_n ?_
    refine g_aload_n rfl ?_
    refine g_getR (w := (x + 673)) fl_X7_37 rfl hx.1 rfl ?_
    refine g_iload_n rfl ?_
    refine g_baload (j := k) hx.2.2.2.2.2.2.2 rfl (by omega) (nle rfl) ?_
    rw [hfb k (by omega)]
    refine g_callS (as := [_]) mk_X7_requireState ml_X7_53 sm_X7_requireState rfl rfl ⟨⟨nle rfl, nle rfl⟩, nle rfl, nle rfl⟩ rfl rfl (nle rfl) ?_
    refine ct_X7_requireState (fun hf => ?_) (fun hf => ?_)
    · have hS := hsv k (by omega) hf
      refine kq_n ?_
      refine g_aload_n rfl ?_
      refine g_getR (w := (x + 4)) fl_X7_19 rfl hx.1 rfl ?_
      refine g_aload_n rfl ?_
      refine g_getR (w := (x + 598)) fl_X7_33 rfl hx.1 rfl ?_
      refine g_iload_n rfl ?_
      refine g_aaload (j := k) (w := (x + 599 + 37 * k)) hx.2.2.2.2.2.1 (nle rfl) rfl (by omega) (nle rfl) (rcs37_get (by omega)) ?_
      refine g_callV (as := [_]) mk_X4_copyFrom ml_X7_319 im_X4_copyFrom se_X4_copyFrom rfl rfl ⟨⟨nle rfl, nle rfl⟩, nle rfl, nle rfl⟩ hx.2.2.1.s0 rfl rfl rfl (nle rfl) ?_
      refine k_copyFrom hx.2.2.1 (hx.2.2.2.2.2.2.1 _ (by omega)) (by omega) hS (fun M2 hS2 hF2 => ?_)
      refine kq_n ?_
      refine g_aload_n rfl ?_
      refine g_getR (w := (x + 78)) fl_X7_29 rfl hx.1 rfl ?_
      refine g_callV (as := []) mk_X2_forgetAll ml_X7_341 im_X2_forgetAll se_X2_forgetAll rfl rfl ⟨⟨nle rfl, nle rfl⟩, nle rfl, nle rfl⟩ hx.2.2.2.2.1.1 rfl rfl rfl (nle rfl) ?_
      refine ct_X2_forgetAll hx.2.2.2.2.1 (fun M3 hH3 hF3 => ?_)
      have hS3 := hS2.fr (M' := M3) (fun r a b => hF3 r (by omega))
      have w4 : M3 (x + 4) 9 = sv k 4 := by
        obtain ⟨nf, nt, nc, nd, hr, hI, h9⟩ := hS3
        exact hr.1.2.2.2.2.1
      refine kq_n ?_
      refine g_aload_n rfl ?_
      refine g_getR (w := (x + 4)) fl_X7_19 rfl hx.1 rfl ?_
      refine g_getI fl_X7_104 rfl hx.2.2.1.s0 rfl ?_
      rw [w4]
      refine g_iret rfl (nle rfl) (nle rfl) ?_
      exact hY hq k hk rfl hf M3 hS3 hH3 (fun r a b => (hF3 r (by omega)).trans (hF2 r a))
    · exact hE2 hq k hk rfl hf
  · exact hE hq
