theorem i2c_n {n : Nat} (h : n < 65536) : ((nI n).toUInt32 % 65536).toInt32 = nI n := Value.int.inj (pk_charN h).1
theorem rdL_le {t : Nat → Int32} {len : Nat} : ∀ (qs : List (Bool × Nat × Nat)) (p : Nat), (rdL t len qs p).2 ≤ p + 2 * qs.length
  | [], p => Nat.le_refl p
  | (false, l, u) :: qs, p => by
    cases h : d1B t len l u p with
    | false => rw [rd1n h]; exact Nat.le_add_right _ _
    | true =>
      rw [rd1y h rfl]
      have := rdL_le qs (p + 1) (t := t) (len := len)
      show _ ≤ p + 2 * (qs.length + 1)
      omega
  | (true, l, u) :: qs, p => by
    cases h : d1B t len (l / 10) (u / 10) p with
    | false => rw [rd2n h]; exact Nat.le_add_right _ _
    | true =>
      cases h2 : d1B t len (lo2 t l p) (hi2 t u p) (p + 1) with
      | false =>
        rw [rd2m h h2]
        show p + 1 ≤ p + 2 * (qs.length + 1)
        omega
      | true =>
        rw [rd2y h h2 rfl]
        have := rdL_le qs (p + 2) (t := t) (len := len)
        show _ ≤ p + 2 * (qs.length + 1)
        omega
theorem flds_len {c : Nat} {qs : List (Bool × Nat × Nat)} (h : flds c = some qs) : qs.length ≤ 6 := by
  unfold flds at h
  repeat' split at h
  all_goals cases h
  all_goals decide
theorem rdC_le {t : Nat → Int32} {len p : Nat} : (rdC t len p).2 ≤ p + 13 := by
  cases hf : flds (ch t p) with
  | none => rw [rdC_no hf]; exact Nat.le_add_right _ _
  | some qs =>
    rw [rdC_yes hf]
    have h1 := rdL_le qs (p + 1) (t := t) (len := len)
    have h2 := flds_len hf
    omega
theorem prs_le {t : Nat → Int32} {len : Nat} : ∀ (n p : Nat), (prs t len n p).2 ≤ max p (len + 13)
  | 0, p => Nat.le_max_left _ _
  | n + 1, p => by
    by_cases hp : p < len
    · cases hr : rdC t len p with
      | mk b e =>
        have h1 := rdC_le (t := t) (len := len) (p := p)
        rw [hr] at h1
        cases b with
        | true =>
          rw [prs_y hp hr]
          have := prs_le n e (t := t) (len := len)
          have h1 : e ≤ p + 13 := h1
          omega
        | false =>
          rw [prs_n hp hr]
          have h1 : e ≤ p + 13 := h1
          show e ≤ _
          omega
    · rw [prs_end hp]
      show p ≤ _
      omega
theorem isSt_le {t : Nat → Int32} {len e : Nat} {b : Bool} (hl : len ≤ 120) (h : isSt t len = (b, e)) : e ≤ 200 := by
  unfold isSt at h
  split at h
  · have := prs_le 120 1 (t := t) (len := len)
    rw [h] at this
    have h1 : e ≤ max 1 (len + 13) := this
    omega
  · cases h; omega
theorem cmd_9 {c : Nat} {s a : Nat → Int32} : cmdT c s a 9 = s 9 := by
  have h1 : ∀ n x y z w, flS s n x y z w 9 = s 9 := fun n x y z w => by unfold flS; simp (disch := omega) only [upd_ne]
  have h2 : ∀ n x y, teS s n x y 9 = s 9 := fun n x y => by unfold teS; simp (disch := omega) only [upd_ne]
  have h3 : ∀ n x y z w u v, clS s n x y z w u v 9 = s 9 := fun n x y z w u v => by unfold clS; simp (disch := omega) only [upd_ne]
  have h4 : ∀ n, daS s n 9 = s 9 := fun n => daS_o (by omega) (by omega)
  have h5 : ∀ n, paS s n 9 = s 9 := fun n => by unfold paS; simp (disch := omega) only [upd_ne]
  have h6 : ∀ d k, enS s d k 9 = s 9 := fun d k => by unfold enS; simp (disch := omega) only [upd_ne]
  have h7 : ∀ d k, leS s d k 9 = s 9 := fun d k => by unfold leS; simp (disch := omega) only [upd_ne]
  have h8 : ∀ n k, drS s n k 9 = s 9 := fun n k => drS_o (by omega) (by omega) (by omega)
  unfold cmdT
  split
  · exact h1 _ _ _ _ _
  split
  · exact h2 _ _ _
  split
  · exact h3 _ _ _ _ _ _ _
  split
  · exact h4 _
  split
  · exact h5 _
  split
  · exact h6 _ _
  split
  · exact h7 _ _
  split
  · exact h8 _ _
  · exact wk_9 _
theorem ld_9 {t : Nat → Int32} {len : Nat} : ∀ (n p : Nat) (s : Nat → Int32) (out : Int32), (ldF t len n p s out).1 9 = s 9
  | 0, _, _, _ => rfl
  | n + 1, p, s, out => by
    show (if p < len then (if cmdG (ch t p) s (cmdA t p) = true then ldF t len n (rdC t len p).2 (cmdT (ch t p) s (cmdA t p)) out else ldF t len n (rdC t len p).2 s (out + 1)) else (s, out)).1 9 = s 9
    split
    · split
      · rw [ld_9 n]; exact cmd_9
      · exact ld_9 n _ _ _
    · rfl
set_option maxRecDepth 100000 in
set_option maxHeartbeats 4000000 in
theorem ct_X7_append {X : Xs} {κ : Kp} {M : Mem} {Q : Rs → Kp → Mem → Prop} {x : Nat} (hx : IsDF κ.2.1 x) {len : Nat} (h2 : M (x + 1) 2 = nI len) (hl : len ≤ 120) {c : Int32} (hE1 : inB c 0 255 = false → Q (.inr 0) (κ.1, κ.2.1, false) M) (hE2 : inB c 0 255 = true → len = 120 → Q (.inr 1) (κ.1, κ.2.1, false) M) (hY : inB c 0 255 = true → len < 120 → Q (.inl (some (.int (nI (len + 1))))) κ (upM (upM M (x + 1 + 1) len c) (x + 1) 2 (nI (len + 1)))) : Ct X m_X7_append [.ref x, .int c] κ M Q := by
  refine ct_of B_X7_append_0 pn_X7 rfl (nle rfl) L_X7_append_0 ?_
  refine g_iload_n rfl ?_
  refine g_iconst (v := 0) ik_0 ?_
  refine g_sipush (v := 255) sk_255 ?_
  refine g_callS (as := [_, _, _]) mk_X7_isWithin ml_X7_41 sm_X7_isWithin rfl rfl ⟨⟨nle rfl, nle rfl⟩, nle rfl, nle rfl⟩ rfl rfl (nle rfl) ?_
  refine ct_X7_isWithin ?_
  refine kq_s ?_
  refine g_callS (as := [_]) mk_X7_requireArgument ml_X7_45 sm_X7_requireArgument rfl rfl ⟨⟨nle rfl, nle rfl⟩, nle rfl, nle rfl⟩ rfl rfl (nle rfl) ?_
  refine ct_X7_requireArgument (fun hq => ?_) (fun hq => ?_)
  · obtain ⟨n, hn, en⟩ := in255 hq
    subst en
    refine kq_n ?_
    refine g_aload_n rfl ?_
    refine g_getR (w := (x + 1)) fl_X7_10 rfl hx.1 rfl ?_
    refine g_getI fl_X7_49 rfl hx.2.1.1 rfl ?_
    rw [h2]
    refine g_bipush (v := 120) bk_120 ?_
    refine g_icmp_ge rfl L_X7_append_27 (fun h_1 => ?_) (fun h_1 => ?_)
    · have hz : len = 120 := by have := (nI_leI (a := 120) (b := len) (by omega) (by omega)).mp h_1; omega
      refine g_iconst (v := 0) ik_0 ?_
      refine g_fall rfl L_X7_append_28 ?_
      refine g_callS (as := [_]) mk_X7_requireState ml_X7_53 sm_X7_requireState rfl rfl ⟨⟨nle rfl, nle rfl⟩, nle rfl, nle rfl⟩ rfl rfl (nle rfl) ?_
      refine ct_X7_requireState (b := false) (fun qs => by cases qs) (fun qs => ?_)
      · exact hE2 hq hz
    · have hz : len < 120 := by
        rcases Nat.lt_or_ge len 120 with q | q
        · exact q
        · exact absurd ((nI_leI (a := 120) (b := len) (by omega) (by omega)).mpr q) h_1
      refine g_iconst (v := 1) ik_1 ?_
      refine g_goto rfl L_X7_append_28 ?_
      refine g_callS (as := [_]) mk_X7_requireState ml_X7_53 sm_X7_requireState rfl rfl ⟨⟨nle rfl, nle rfl⟩, nle rfl, nle rfl⟩ rfl rfl (nle rfl) ?_
      refine ct_X7_requireState (b := true) (fun qs => ?_) (fun qs => by cases qs)
      refine kq_n ?_
      refine g_aload_n rfl ?_
      refine g_getR (w := (x + 1)) fl_X7_10 rfl hx.1 rfl ?_
      refine g_iload_n rfl ?_
      refine g_i2c ?_
      refine g_callV (as := [_]) mk_X6_addSign ml_X7_56 im_X6_addSign se_X6_addSign rfl rfl ⟨⟨nle rfl, nle rfl⟩, nle rfl, nle rfl⟩ hx.2.1.1 rfl rfl rfl (nle rfl) ?_
      rw [i2c_n (by omega)]
      refine ct_X6_addSign hx.2.1 h2 hz (by omega) ?_
      refine kq_s ?_
      refine g_iret rfl (nle rfl) (nle rfl) ?_
      exact hY hq hz
  · exact hE1 hq
set_option maxRecDepth 100000 in
set_option maxHeartbeats 4000000 in
theorem ct_X7_clearText {X : Xs} {κ : Kp} {M : Mem} {Q : Rs → Kp → Mem → Prop} {x : Nat} (hx : IsDF κ.2.1 x) {len : Nat} (h2 : M (x + 1) 2 = nI len) (hQ : Q (.inl (some (.int (nI len)))) κ (upM M (x + 1) 2 0)) : Ct X m_X7_clearText [.ref x] κ M Q := by
  refine ct_of B_X7_clearText_0 pn_X7 rfl (nle rfl) L_X7_clearText_0 ?_
  refine g_aload_n rfl ?_
  refine g_getR (w := (x + 1)) fl_X7_10 rfl hx.1 rfl ?_
  refine g_callV (as := []) mk_X6_makeEmpty ml_X7_60 im_X6_makeEmpty se_X6_makeEmpty rfl rfl ⟨⟨nle rfl, nle rfl⟩, nle rfl, nle rfl⟩ hx.2.1.1 rfl rfl rfl (nle rfl) ?_
  refine ct_X6_makeEmpty hx.2.1 h2 ?_
  refine kq_s ?_
  refine g_iret rfl (nle rfl) (nle rfl) ?_
  exact hQ
set_option maxRecDepth 100000 in
set_option maxHeartbeats 4000000 in
theorem ct_X7_errorPosition {X : Xs} {κ : Kp} {M : Mem} {Q : Rs → Kp → Mem → Prop} {x : Nat} (hx : IsDF κ.2.1 x) {len : Nat} {t : Nat → Int32} (h2 : M (x + 1) 2 = nI len) (ht : M (x + 1 + 1) = t) (hT : TxOK t len) (hE : ∀ e, isSt t len = (false, e) → ∀ M', FrC M M' (x + 1) → Q (.inl (some (.int (nI e)))) κ M') (hO : ∀ e, isSt t len = (true, e) → ∀ M', FrC M M' (x + 1) → Q (.inl (some (.int (-1)))) κ M') : Ct X m_X7_errorPosition [.ref x] κ M Q := by
  refine ct_of B_X7_errorPosition_0 pn_X7 rfl (nle rfl) L_X7_errorPosition_0 ?_
  refine g_aload_n rfl ?_
  refine g_getR (w := (x + 1)) fl_X7_10 rfl hx.1 rfl ?_
  refine g_callV (as := []) mk_X6_findError ml_X7_64 im_X6_findError se_X6_findError rfl rfl ⟨⟨nle rfl, nle rfl⟩, nle rfl, nle rfl⟩ hx.2.1.1 rfl rfl rfl (nle rfl) ?_
  refine ct_X6_findError hx.2.1 h2 ht hT (fun e he M1 F1 => ?_) (fun e he M1 F1 => ?_)
  · refine kq_s ?_
    refine g_iret rfl (nle rfl) (nle rfl) ?_
    exact hE e he M1 F1
  · refine kq_s ?_
    refine g_iret rfl (nle rfl) (nle rfl) ?_
    exact hO e he M1 F1
set_option maxRecDepth 100000 in
set_option maxHeartbeats 4000000 in
theorem ct_X7_beginAnew {X : Xs} {κ : Kp} {M : Mem} {Q : Rs → Kp → Mem → Prop} {x : Nat} (hx : IsDF κ.2.1 x) (hQ : ∀ M', (∀ s, RepS M' (x + 4) 0 0 0 0 (neS s)) → M' (x + 4) 12 = 0 → (∀ B blk, HisOK B M' (x + 78) 0 blk) → M' (x + 673) 0 = 0 → M' (x + 673) 1 = 0 → (∀ r, r < x + 4 ∨ x + 674 ≤ r → M' r = M r) → Q (.inl none) κ M') : Ct X m_X7_beginAnew [.ref x] κ M Q := by
  refine ct_of B_X7_beginAnew_0 pn_X7 rfl (nle rfl) L_X7_beginAnew_0 ?_
  refine g_aload_n rfl ?_
  refine g_getR (w := (x + 4)) fl_X7_19 rfl hx.1 rfl ?_
  refine g_callV (as := []) mk_X4_makeNew ml_X7_356 im_X4_makeNew se_X4_makeNew rfl rfl ⟨⟨nle rfl, nle rfl⟩, nle rfl, nle rfl⟩ hx.2.2.1.s0 rfl rfl rfl (nle rfl) ?_
  refine ct_X4_makeNew hx.2.2.1 (fun M2 hr2 h12 hF2 => ?_)
  refine kq_n ?_
  refine g_aload_n rfl ?_
  refine g_getR (w := (x + 78)) fl_X7_29 rfl hx.1 rfl ?_
  refine g_callV (as := []) mk_X2_forgetAll ml_X7_341 im_X2_forgetAll se_X2_forgetAll rfl rfl ⟨⟨nle rfl, nle rfl⟩, nle rfl, nle rfl⟩ hx.2.2.2.2.1.1 rfl rfl rfl (nle rfl) ?_
  refine ct_X2_forgetAll hx.2.2.2.2.1 (fun M3 hH3 hF3 => ?_)
  refine kq_n ?_
  refine g_iconst (v := 0) ik_0 ?_
  refine g_istore_n (nle rfl) ?_
  refine g_fall rfl L_X7_beginAnew_16 ?_
  refine g_iload_n rfl ?_
  refine g_iconst (v := 2) ik_2 ?_
  refine g_icmp_ge rfl L_X7_beginAnew_34 (fun h_1 => absurd h_1 (by decide)) (fun h_1 => ?_)
  refine g_aload_n rfl ?_
  refine g_getR (w := (x + 673)) fl_X7_37 rfl hx.1 rfl ?_
  refine g_iload_n rfl ?_
  refine g_iconst (v := 0) ik_0 ?_
  refine g_bastore (j := 0) hx.2.2.2.2.2.2.2 rfl (nle rfl) (nle rfl) rfl ?_
  refine g_iinc (v := 1) rfl (by decide) (nle rfl) ?_
  refine g_goto rfl L_X7_beginAnew_16 ?_
  refine g_iload_n rfl ?_
  refine g_iconst (v := 2) ik_2 ?_
  refine g_icmp_ge rfl L_X7_beginAnew_34 (fun h_2 => absurd h_2 (by decide)) (fun h_2 => ?_)
  refine g_aload_n rfl ?_
  refine g_getR (w := (x + 673)) fl_X7_37 rfl hx.1 rfl ?_
  refine g_iload_n rfl ?_
  refine g_iconst (v := 0) ik_0 ?_
  refine g_bastore (j := 1) hx.2.2.2.2.2.2.2 rfl (nle rfl) (nle rfl) rfl ?_
  refine g_iinc (v := 2) rfl (by decide) (nle rfl) ?_
  refine g_goto rfl L_X7_beginAnew_16 ?_
  refine g_iload_n rfl ?_
  refine g_iconst (v := 2) ik_2 ?_
  refine g_icmp_ge rfl L_X7_beginAnew_34 (fun h_3 => ?_) (fun h_3 => absurd h_3 (by decide))
  refine g_vret rfl (nle rfl) (nle rfl) ?_
  have g : ∀ r, r ≠ x + 673 → upM (upM M3 (x + 673) 0 0) (x + 673) 1 0 r = M3 r := fun r a => by funext j; simp (disch := omega) only [upM_o]
  refine hQ _ (fun s => (hr2 s).fr (by omega) (by omega) (by omega) (by omega) (fun r a b => (g r (by omega)).trans (hF3 r (by omega)))) ?_ (fun B blk => (hH3 B blk).fr fun r a b => g r (by omega)) ?_ ?_ (fun r a => ?_)
  · rw [g _ (by omega), hF3 _ (by omega)]; exact h12
  · rw [upM_j _ _ _ _ (by omega), upM_s]
  · rw [upM_s]
  · rw [g r (by omega), hF3 r (by omega), hF2 r (by omega)]
set_option maxRecDepth 100000 in
set_option maxHeartbeats 4000000 in
theorem ct_X7_load {X : Xs} {κ : Kp} {M : Mem} {Q : Rs → Kp → Mem → Prop} {x : Nat} (hx : IsDF κ.2.1 x) {len : Nat} {t : Nat → Int32} (h2 : M (x + 1) 2 = nI len) (ht : M (x + 1 + 1) = t) (hT : TxOK t len) (s : Nat → Int32) (hE : ∀ e, isSt t len = (false, e) → ∀ M', FrC M M' (x + 1) → Q (.inr 1) (κ.1, κ.2.1, false) M') (hY : (∃ e, isSt t len = (true, e)) → ∀ M', SF 1080 M' (x + 4) (ldF t len 120 1 (neS s) 0).1 → (∀ B blk, HisOK B M' (x + 78) 0 blk) → M' (x + 673) 0 = 0 → M' (x + 673) 1 = 0 → M' (x + 1 + 1) = M (x + 1 + 1) → M' (x + 1) 2 = M (x + 1) 2 → (∀ r, r < x + 1 ∨ x + 674 ≤ r → M' r = M r) → Q (.inl (some (.int (ldF t len 120 1 (neS s) 0).2))) κ M') : Ct X m_X7_load [.ref x] κ M Q := by
  refine ct_of B_X7_load_0 pn_X7 rfl (nle rfl) L_X7_load_0 ?_
  refine g_aload_n rfl ?_
  refine g_getR (w := (x + 1)) fl_X7_10 rfl hx.1 rfl ?_
  refine g_callV (as := []) mk_X6_findError ml_X7_64 im_X6_findError se_X6_findError rfl rfl ⟨⟨nle rfl, nle rfl⟩, nle rfl, nle rfl⟩ hx.2.1.1 rfl rfl rfl (nle rfl) ?_
  refine ct_X6_findError hx.2.1 h2 ht hT (fun e he M1 F1 => ?_) (fun e he M1 F1 => ?_)
  · have hle := isSt_le hT.1 he
    refine kq_s ?_
    refine g_iconst (v := -1) ik_m1 ?_
    refine g_icmp_ne rfl L_X7_load_15 (fun h_1 => ?_) (fun h_1 => (c48 (by omega) h_1).elim)
    refine g_iconst (v := 0) ik_0 ?_
    refine g_fall rfl L_X7_load_16 ?_
    refine g_callS (as := [_]) mk_X7_requireState ml_X7_53 sm_X7_requireState rfl rfl ⟨⟨nle rfl, nle rfl⟩, nle rfl, nle rfl⟩ rfl rfl (nle rfl) ?_
    refine ct_X7_requireState (b := false) (fun qs => by cases qs) (fun qs => ?_)
    · exact hE e he M1 F1
  · refine kq_s ?_
    refine g_iconst (v := -1) ik_m1 ?_
    refine g_icmp_ne rfl L_X7_load_15 (fun h_2 => absurd h_2 (by decide)) (fun h_2 => ?_)
    refine g_iconst (v := 1) ik_1 ?_
    refine g_goto rfl L_X7_load_16 ?_
    refine g_callS (as := [_]) mk_X7_requireState ml_X7_53 sm_X7_requireState rfl rfl ⟨⟨nle rfl, nle rfl⟩, nle rfl, nle rfl⟩ rfl rfl (nle rfl) ?_
    refine ct_X7_requireState (b := true) (fun qs => ?_) (fun qs => by cases qs)
    refine kq_n ?_
    refine g_aload_n rfl ?_
    refine g_callV (as := []) mk_X7_beginAnew ml_X7_67 im_X7_beginAnew se_X7_beginAnew rfl rfl ⟨⟨nle rfl, nle rfl⟩, nle rfl, nle rfl⟩ hx.1 rfl rfl rfl (nle rfl) ?_
    refine ct_X7_beginAnew hx (fun M4 hr4 h12 hH4 z0 z1 hF4 => ?_)
    refine kq_n ?_
    refine g_iconst (v := 0) ik_0 ?_
    refine g_istore_n (nle rfl) ?_
    refine g_aload_n rfl ?_
    refine g_getR (w := (x + 1)) fl_X7_10 rfl hx.1 rfl ?_
    refine g_callV (as := []) mk_X6_readStart ml_X7_70 im_X6_readStart se_X6_readStart rfl rfl ⟨⟨nle rfl, nle rfl⟩, nle rfl, nle rfl⟩ hx.2.1.1 rfl rfl rfl (nle rfl) ?_
    have hS4 : SR 0 M4 (x + 4) (neS s) := ⟨0, 0, 0, 0, hr4 s, inv_ne 0 s⟩
    have k2 : M4 (x + 1) 2 = nI len := by rw [hF4 _ (by omega)]; exact F1.2.trans h2
    have kt : M4 (x + 1 + 1) = t := by rw [hF4 _ (by omega), F1.1 _ (by omega) (by omega)]; exact ht
    refine ct_X6_readStart hx.2.1 k2 kt hT (fun hy M6 f3 fC => ?_) (fun hno M6 f3 fC => ?_)
    · refine kq_s ?_
      refine g_pop rfl ?_
      refine g_iconst (v := 0) ik_0 ?_
      refine g_istore_n (nle rfl) ?_
      refine g_fall rfl L_X7_load_35 ?_
      have hz := he
      rw [isSt_y hy] at hz
      refine g_lo2 (gl_load hx k2 kt hT hS4 hy hz f3 fC (fun M5 hS5 hF5 => ?_)) ⟨rfl, rfl, rfl, trivial⟩
      have k12 : M5 (x + 4) 12 = 0 := by rw [hF5.2.2]; exact h12
      refine hY ⟨_, he⟩ M5 ((hS5.up (by omega)).sf (by rw [k12, ld_9]; unfold neS; rw [upd_ne (by omega), upd_ne (by omega)]; rfl)) (fun B blk => (hH4 B blk).fr fun r a b => hF5.1 r (by omega) (by omega) (by omega)) ?_ ?_ ?_ ?_ (fun r a => ?_)
      · rw [hF5.1 _ (by omega) (by omega) (by omega)]; exact z0
      · rw [hF5.1 _ (by omega) (by omega) (by omega)]; exact z1
      · rw [hF5.1 _ (by omega) (by omega) (by omega)]; exact kt.trans ht.symm
      · rw [hF5.2.1]; exact k2.trans h2.symm
      · rw [hF5.1 r (by omega) (by omega) (by omega), hF4 r (by omega)]; exact F1.1 r (by omega) (by omega)
    · rw [isSt_n hno] at he
      cases he
