def cN (s : Nat → Int32) (j : Nat) : Nat := (s j).toNatClampNeg
def wkN (nc nd : Nat) : Nat → (Nat → Int32) → (Nat → Int32)
  | 0, s => s
  | n + 1, s => weekS nc nd (wkN nc nd n s)
theorem wkN_low {nc nd j : Nat} (h : lowJ j) : ∀ (n : Nat) (s : Nat → Int32), wkN nc nd n s j = s j
  | 0, s => rfl
  | n + 1, s => by
    show weekS nc nd (wkN nc nd n s) j = s j
    rw [weekS_low h, wkN_low h n s]
def cpB (s : Nat → Int32) (a b n : Nat) : Nat → Int32 := fun j => if 189 * b ≤ j ∧ j < 189 * b + n then s (189 * a + (j - 189 * b)) else s j
theorem cpB_0 (s : Nat → Int32) (a b : Nat) : cpB s a b 0 = s := by
  funext j
  exact if_neg (by omega)
theorem cpB_s {s : Nat → Int32} {a b k : Nat} (hab : a ≠ b) (hk : k < 189) : upd (cpB s a b k) (189 * b + k) (cpB s a b k (189 * a + k)) = cpB s a b (k + 1) := by
  have e : cpB s a b k (189 * a + k) = s (189 * a + k) := if_neg (by omega)
  rw [e]
  funext j
  by_cases h : j = 189 * b + k
  · subst h
    rw [upd_same]
    unfold cpB
    rw [if_pos (by omega)]
    congr 1
    omega
  · rw [upd_ne h]
    unfold cpB
    by_cases h2 : 189 * b ≤ j ∧ j < 189 * b + k
    · rw [if_pos h2, if_pos (by omega)]
    · rw [if_neg h2, if_neg (by omega)]
def zrN (s : Nat → Int32) (n : Nat) : Nat → Int32 := fun j => if j < n then 0 else s j
theorem zrN_0 (s : Nat → Int32) : zrN s 0 = s := by
  funext j
  exact if_neg (by omega)
theorem zrN_s (s : Nat → Int32) (k : Nat) : upd (zrN s k) k 0 = zrN s (k + 1) := by
  funext j
  by_cases h : j = k
  · subst h
    rw [upd_same]
    exact (if_pos (by omega)).symm
  · rw [upd_ne h]
    unfold zrN
    by_cases h2 : j < k
    · rw [if_pos h2, if_pos (by omega)]
    · rw [if_neg h2, if_neg (by omega)]
/-- the shift behind a dropped class -/
def shN (s : Nat → Int32) (k n : Nat) : Nat → Int32 := fun j => if 39 + 9 * k ≤ j ∧ j < 39 + 9 * k + n then s (j + 9) else s j
theorem shN_0 (s : Nat → Int32) (k : Nat) : shN s k 0 = s := by
  funext j
  exact if_neg (by omega)
theorem shN_s (s : Nat → Int32) (k n : Nat) : upd (shN s k n) (39 + 9 * k + n) (shN s k n (39 + 9 * k + n + 9)) = shN s k (n + 1) := by
  have e : shN s k n (39 + 9 * k + n + 9) = s (39 + 9 * k + n + 9) := if_neg (by omega)
  rw [e]
  funext j
  by_cases h : j = 39 + 9 * k + n
  · subst h
    rw [upd_same]
    exact (if_pos (by omega)).symm
  · rw [upd_ne h]
    unfold shN
    by_cases h2 : 39 + 9 * k ≤ j ∧ j < 39 + 9 * k + n
    · rw [if_pos h2, if_pos (by omega)]
    · rw [if_neg h2, if_neg (by omega)]
def da0 (s : Nat → Int32) (b n : Nat) : Nat → Int32 := fun j => if j = b then 1 else if b < j ∧ j < b + n then 0 else s j
theorem da0_1 (s : Nat → Int32) (b : Nat) : upd s b 1 = da0 s b 1 := by
  funext j
  unfold da0
  by_cases h : j = b
  · subst h
    rw [upd_same, if_pos rfl]
  · rw [upd_ne h, if_neg h, if_neg (by omega)]
theorem da0_s (s : Nat → Int32) (b n : Nat) (h0 : 1 ≤ n) : upd (da0 s b n) (b + n) 0 = da0 s b (n + 1) := by
  funext j
  unfold da0
  by_cases h : j = b + n
  · subst h
    rw [upd_same, if_neg (by omega), if_pos (by omega)]
  · rw [upd_ne h]
    by_cases h1 : j = b
    · rw [if_pos h1, if_pos h1]
    · rw [if_neg h1, if_neg h1]
      by_cases h2 : b < j ∧ j < b + n
      · rw [if_pos h2, if_pos (by omega)]
      · rw [if_neg h2, if_neg (by omega)]
def isTm (st lv dy hr : Int32) : Bool := inB st 0 3 && (inB lv 1 5 && (inB dy 0 5 && inB hr 0 5))
def isFl (a b c d : Int32) : Bool := inB a 1 9 && (inB b 0 4 && (inB c 0 60 && inB d 1 30))
def szL (n : Int32) : Int64 := if n = 1 then 100000 else if n = 2 then 10000000000 else 1000000000000000
set_option maxRecDepth 100000 in
set_option maxHeartbeats 4000000 in
theorem ct_X8_weeksGo {X : Xs} {κ : Kp} {M : Mem} {Q : Rs → Kp → Mem → Prop} {m : Nat} (hm : IsMod κ.2.1 m) {nc : Nat} (h2 : M (m + 1) 2 = nI nc) (hnc : nc ≤ 10) {nd : Nat} (h3 : M (m + 1) 3 = nI nd) (hnd : nd ≤ 12) {nI_ : Int32} (n : Nat) (hn : nI_ = nI n) (hn2 : n < 100000) (hQ : Q (.inl (some (.int (wkN nc nd n (M (m + 1)) 6 - M (m + 1) 6)))) κ (sR M (m + 1) (wkN nc nd n (M (m + 1))))) : Ct X m_X8_weeksGo [.ref m, .int nI_] κ M Q := by
  refine ct_of B_X8_weeksGo_0 pn_X8 rfl (nle rfl) L_X8_weeksGo_0 ?_
  subst hn
  refine g_aload_n rfl ?_
  refine g_getR (w := (m + 1)) fl_X8_7 rfl hm.1 rfl ?_
  refine g_bipush (v := 6) bk_6 ?_
  refine g_iaload (j := 6) hm.2.1 rfl (nle rfl) (nle rfl) ?_
  refine g_istore_n (nle rfl) ?_
  refine g_iconst (v := 0) ik_0 ?_
  refine g_istore_n (nle rfl) ?_
  refine g_fall rfl L_X8_weeksGo_10 ?_
  refine g_mem (M' := sR M (m + 1) (wkN nc nd 0 (M (m + 1)))) (sR_self M (m + 1)).symm ?_
  refine g_lo2 (lo' := [(0, some (.ref m)), (1, some (.int (nI n))), (2, some (.int (M (m + 1) 6))), (3, some (.int (nI 0)))]) ?_ ⟨rfl, rfl, rfl, rfl, trivial⟩
  refine loop_up (P := fun k => G X m_X8_weeksGo B_X8_weeksGo_10 10 [(0, some (.ref m)), (1, some (.int (nI n))), (2, some (.int (M (m + 1) 6))), (3, some (.int (nI k)))] [] 0 0 κ (sR M (m + 1) (wkN nc nd k (M (m + 1)))) Q) n (fun k hle_k ih_k => ?_) 0 (Nat.zero_le _)
  refine g_iload_n rfl ?_
  refine g_iload_n rfl ?_
  refine g_icmp_ge rfl L_X8_weeksGo_26 (fun h_1 => ?_) (fun h_1 => ?_)
  · have hx_k := ((cmp_ge (c := n) rfl (by omega) hle_k).1 h_1).symm
    subst hx_k
    refine g_aload_n rfl ?_
    refine g_getR (w := (m + 1)) fl_X8_7 rfl hm.1 rfl ?_
    refine g_bipush (v := 6) bk_6 ?_
    refine g_iaload (j := 6) hm.2.1 rfl (nle rfl) (nle rfl) ?_
    refine g_iload_n rfl ?_
    refine g_isub ?_
    refine g_iret rfl (nle rfl) (nle rfl) ?_
    exact qeq hQ (by rw [sR_s]) rfl
  · have hlt_k : k < n := (cmp_ge (c := n) rfl (by omega) hle_k).2 h_1
    refine g_aload_n rfl ?_
    refine g_callV (as := []) mk_X8_week ml_X8_76 im_X8_week se_X8_week rfl rfl ⟨⟨nle rfl, nle rfl⟩, nle rfl, nle rfl⟩ hm.1 rfl rfl rfl (nle rfl) ?_
    refine ct_X8_week hm (by rw [sR_s, wkN_low (Or.inl (by decide))]; exact h2) hnc (by rw [sR_s, wkN_low (Or.inl (by decide))]; exact h3) hnd ?_
    refine kq_s ?_
    refine g_pop rfl ?_
    refine g_iinc (v := nI (k + 1)) rfl (nI_inc _) (nle rfl) ?_
    refine g_goto rfl L_X8_weeksGo_10 ?_
    refine g_mem ?_ (g_lo2 (ih_k hlt_k) ⟨rfl, rfl, rfl, rfl, trivial⟩)
    simp only [sR_s, sR_sR, wkN]
set_option maxRecDepth 100000 in
set_option maxHeartbeats 4000000 in
theorem ct_X8_copies {X : Xs} {κ : Kp} {M : Mem} {Q : Rs → Kp → Mem → Prop} {m : Nat} (hm : IsMod κ.2.1 m) {aI bI_ : Int32} (a b : Nat) (ha : aI = nI a) (hb : bI_ = nI b) (ha2 : a < 18) (hb2 : b < 18) (hab : a ≠ b) (hQ : Q (.inl none) κ (sR M (m + 1) (cpB (M (m + 1)) a b 189))) : Ct X m_X8_copies [.ref m, .int aI, .int bI_] κ M Q := by
  refine ct_of B_X8_copies_0 pn_X8 rfl (nle rfl) L_X8_copies_0 ?_
  subst ha
  subst hb
  refine g_iconst (v := 0) ik_0 ?_
  refine g_istore_n (nle rfl) ?_
  refine g_fall rfl L_X8_copies_2 ?_
  refine g_mem (M' := sR M (m + 1) (cpB (M (m + 1)) a b 0)) (by rw [cpB_0, sR_self]) ?_
  refine g_lo2 (lo' := [(0, some (.ref m)), (1, some (.int (nI a))), (2, some (.int (nI b))), (3, some (.int (nI 0)))]) ?_ ⟨rfl, rfl, rfl, rfl, trivial⟩
  refine loop_up (P := fun k => G X m_X8_copies B_X8_copies_2 2 [(0, some (.ref m)), (1, some (.int (nI a))), (2, some (.int (nI b))), (3, some (.int (nI k)))] [] 0 0 κ (sR M (m + 1) (cpB (M (m + 1)) a b k)) Q) 189 (fun k hle_k ih_k => ?_) 0 (Nat.zero_le _)
  refine g_iload_n rfl ?_
  refine g_sipush (v := 189) sk_189 ?_
  refine g_icmp_ge rfl L_X8_copies_39 (fun h_1 => ?_) (fun h_1 => ?_)
  · have hx_k := ((cmp_ge (c := 189) (rfl : (189 : Int32) = nI 189) (nle rfl) hle_k).1 h_1).symm
    subst hx_k
    refine g_vret rfl (nle rfl) (nle rfl) ?_
    exact hQ
  · have hlt_k : k < 189 := (cmp_ge (c := 189) (rfl : (189 : Int32) = nI 189) (nle rfl) hle_k).2 h_1
    refine g_aload_n rfl ?_
    refine g_getR (w := (m + 1)) fl_X8_7 rfl hm.1 rfl ?_
    refine g_sipush (v := 189) sk_189 ?_
    refine g_iload_n rfl ?_
    refine g_imul ?_
    refine g_iload_n rfl ?_
    refine g_iadd ?_
    refine g_aload_n rfl ?_
    refine g_getR (w := (m + 1)) fl_X8_7 rfl hm.1 rfl ?_
    refine g_sipush (v := 189) sk_189 ?_
    refine g_iload_n rfl ?_
    refine g_imul ?_
    refine g_iload_n rfl ?_
    refine g_iadd ?_
    refine g_iaload (j := ((189 * a) + k)) hm.2.1 (by simp only [nI, Int32.ofNat_add, Int32.ofNat_mul] <;> rfl) (by omega) (nle rfl) ?_
    refine g_iastore (j := ((189 * b) + k)) hm.2.1 (by simp only [nI, Int32.ofNat_add, Int32.ofNat_mul] <;> rfl) (by omega) (nle rfl) ?_
    refine g_iinc (v := nI (k + 1)) rfl (nI_inc _) (nle rfl) ?_
    refine g_goto rfl L_X8_copies_2 ?_
    refine g_mem ?_ (g_lo2 (ih_k hlt_k) ⟨rfl, rfl, rfl, rfl, trivial⟩)
    rw [upM_sR, sR_sR, sR_s, cpB_s hab hlt_k]
set_option maxRecDepth 100000 in
set_option maxHeartbeats 4000000 in
theorem ct_X8_anew {X : Xs} {κ : Kp} {M : Mem} {Q : Rs → Kp → Mem → Prop} {m : Nat} (hm : IsMod κ.2.1 m)  (hQ : Q (.inl none) κ (sR M (m + 1) (neS (M (m + 1))))) : Ct X m_X8_anew [.ref m] κ M Q := by
  refine ct_of B_X8_anew_0 pn_X8 rfl (nle rfl) L_X8_anew_0 ?_
  refine g_iconst (v := 0) ik_0 ?_
  refine g_istore_n (nle rfl) ?_
  refine g_fall rfl L_X8_anew_2 ?_
  refine g_mem (M' := sR M (m + 1) (zrN (M (m + 1)) 0)) (by rw [zrN_0, sR_self]) ?_
  refine g_lo2 (lo' := [(0, some (.ref m)), (1, some (.int (nI 0)))]) ?_ ⟨rfl, rfl, trivial⟩
  refine loop_up (P := fun k => G X m_X8_anew B_X8_anew_2 2 [(0, some (.ref m)), (1, some (.int (nI k)))] [] 0 0 κ (sR M (m + 1) (zrN (M (m + 1)) k)) Q) 189 (fun k hle_k ih_k => ?_) 0 (Nat.zero_le _)
  refine g_iload_n rfl ?_
  refine g_sipush (v := 189) sk_189 ?_
  refine g_icmp_ge rfl L_X8_anew_22 (fun h_1 => ?_) (fun h_1 => ?_)
  · have hx_k := ((cmp_ge (c := 189) (rfl : (189 : Int32) = nI 189) (nle rfl) hle_k).1 h_1).symm
    subst hx_k
    refine g_aload_n rfl ?_
    refine g_getR (w := (m + 1)) fl_X8_7 rfl hm.1 rfl ?_
    refine g_bipush (v := 11) bk_11 ?_
    refine g_iconst (v := 2) ik_2 ?_
    refine g_iastore (j := 11) hm.2.1 rfl (nle rfl) (nle rfl) ?_
    refine g_aload_n rfl ?_
    refine g_getR (w := (m + 1)) fl_X8_7 rfl hm.1 rfl ?_
    refine g_bipush (v := 12) bk_12 ?_
    refine g_bipush (v := 12) bk_12 ?_
    refine g_iastore (j := 12) hm.2.1 rfl (nle rfl) (nle rfl) ?_
    refine g_vret rfl (nle rfl) (nle rfl) ?_
    refine qeqv hQ ?_
    simp only [upM_sR, sR_s, sR_sR]
    rfl
  · have hlt_k : k < 189 := (cmp_ge (c := 189) (rfl : (189 : Int32) = nI 189) (nle rfl) hle_k).2 h_1
    refine g_aload_n rfl ?_
    refine g_getR (w := (m + 1)) fl_X8_7 rfl hm.1 rfl ?_
    refine g_iload_n rfl ?_
    refine g_iconst (v := 0) ik_0 ?_
    refine g_iastore (j := k) hm.2.1 rfl (by omega) (nle rfl) ?_
    refine g_iinc (v := nI (k + 1)) rfl (nI_inc _) (nle rfl) ?_
    refine g_goto rfl L_X8_anew_2 ?_
    refine g_mem ?_ (g_lo2 (ih_k hlt_k) ⟨rfl, rfl, trivial⟩)
    rw [upM_sR, sR_sR, sR_s, zrN_s]
set_option maxRecDepth 100000 in
set_option maxHeartbeats 4000000 in
theorem ct_X8_isTime {X : Xs} {κ : Kp} {M : Mem} {Q : Rs → Kp → Mem → Prop} {a b c d : Int32} (hQ : Q (.inl (some (.int (bI (isTm a b c d))))) κ M) : Ct X m_X8_isTime [.int a, .int b, .int c, .int d] κ M Q := by
  refine ct_of B_X8_isTime_0 pn_X8 rfl (nle rfl) L_X8_isTime_0 ?_
  refine g_iload_n rfl ?_
  refine g_iconst (v := 0) ik_0 ?_
  refine g_iconst (v := 3) ik_3 ?_
  refine g_callS (as := [_, _, _]) mk_X8_in ml_X8_29 sm_X8_in rfl rfl ⟨⟨nle rfl, nle rfl⟩, nle rfl, nle rfl⟩ rfl rfl (nle rfl) ?_
  refine ct_X8_in ?_
  refine kq_s ?_
  refine g_if_eq_b rfl L_X8_isTime_40 (fun h_1 => ?_) (fun h_1 => ?_)
  · refine g_iconst (v := 0) ik_0 ?_
    refine g_fall rfl L_X8_isTime_41 ?_
    refine g_zret rfl rfl (nle rfl) (nle rfl) ?_
    exact qeq hQ (by clear hQ; simp_all [bI, isTm, isFl, i32le, -Int32.not_lt]) rfl
  · refine g_iload_n rfl ?_
    refine g_iconst (v := 1) ik_1 ?_
    refine g_iconst (v := 5) ik_5 ?_
    refine g_callS (as := [_, _, _]) mk_X8_in ml_X8_29 sm_X8_in rfl rfl ⟨⟨nle rfl, nle rfl⟩, nle rfl, nle rfl⟩ rfl rfl (nle rfl) ?_
    refine ct_X8_in ?_
    refine kq_s ?_
    refine g_if_eq_b rfl L_X8_isTime_40 (fun h_2 => ?_) (fun h_2 => ?_)
    · refine g_iconst (v := 0) ik_0 ?_
      refine g_fall rfl L_X8_isTime_41 ?_
      refine g_zret rfl rfl (nle rfl) (nle rfl) ?_
      exact qeq hQ (by clear hQ; simp_all [bI, isTm, isFl, i32le, -Int32.not_lt]) rfl
    · refine g_iload_n rfl ?_
      refine g_iconst (v := 0) ik_0 ?_
      refine g_iconst (v := 5) ik_5 ?_
      refine g_callS (as := [_, _, _]) mk_X8_in ml_X8_29 sm_X8_in rfl rfl ⟨⟨nle rfl, nle rfl⟩, nle rfl, nle rfl⟩ rfl rfl (nle rfl) ?_
      refine ct_X8_in ?_
      refine kq_s ?_
      refine g_if_eq_b rfl L_X8_isTime_40 (fun h_3 => ?_) (fun h_3 => ?_)
      · refine g_iconst (v := 0) ik_0 ?_
        refine g_fall rfl L_X8_isTime_41 ?_
        refine g_zret rfl rfl (nle rfl) (nle rfl) ?_
        exact qeq hQ (by clear hQ; simp_all [bI, isTm, isFl, i32le, -Int32.not_lt]) rfl
      · refine g_iload_n rfl ?_
        refine g_iconst (v := 0) ik_0 ?_
        refine g_iconst (v := 5) ik_5 ?_
        refine g_callS (as := [_, _, _]) mk_X8_in ml_X8_29 sm_X8_in rfl rfl ⟨⟨nle rfl, nle rfl⟩, nle rfl, nle rfl⟩ rfl rfl (nle rfl) ?_
        refine ct_X8_in ?_
        refine kq_s ?_
        refine g_if_eq_b rfl L_X8_isTime_40 (fun h_4 => ?_) (fun h_4 => ?_)
        · refine g_iconst (v := 0) ik_0 ?_
          refine g_fall rfl L_X8_isTime_41 ?_
          refine g_zret rfl rfl (nle rfl) (nle rfl) ?_
          exact qeq hQ (by clear hQ; simp_all [bI, isTm, isFl, i32le, -Int32.not_lt]) rfl
        · refine g_iconst (v := 1) ik_1 ?_
          refine g_goto rfl L_X8_isTime_41 ?_
          refine g_zret rfl rfl (nle rfl) (nle rfl) ?_
          exact qeq hQ (by clear hQ; simp_all [bI, isTm, isFl, i32le, -Int32.not_lt]) rfl
set_option maxRecDepth 100000 in
set_option maxHeartbeats 4000000 in
theorem ct_X8_isFloorLike {X : Xs} {κ : Kp} {M : Mem} {Q : Rs → Kp → Mem → Prop} {a b c d : Int32} (hQ : Q (.inl (some (.int (bI (isFl a b c d))))) κ M) : Ct X m_X8_isFloorLike [.int a, .int b, .int c, .int d] κ M Q := by
  refine ct_of B_X8_isFloorLike_0 pn_X8 rfl (nle rfl) L_X8_isFloorLike_0 ?_
  refine g_iload_n rfl ?_
  refine g_iconst (v := 1) ik_1 ?_
  refine g_bipush (v := 9) bk_9 ?_
  refine g_callS (as := [_, _, _]) mk_X8_in ml_X8_29 sm_X8_in rfl rfl ⟨⟨nle rfl, nle rfl⟩, nle rfl, nle rfl⟩ rfl rfl (nle rfl) ?_
  refine ct_X8_in ?_
  refine kq_s ?_
  refine g_if_eq_b rfl L_X8_isFloorLike_43 (fun h_1 => ?_) (fun h_1 => ?_)
  · refine g_iconst (v := 0) ik_0 ?_
    refine g_fall rfl L_X8_isFloorLike_44 ?_
    refine g_zret rfl rfl (nle rfl) (nle rfl) ?_
    exact qeq hQ (by clear hQ; simp_all [bI, isTm, isFl, i32le, -Int32.not_lt]) rfl
  · refine g_iload_n rfl ?_
    refine g_iconst (v := 0) ik_0 ?_
    refine g_iconst (v := 4) ik_4 ?_
    refine g_callS (as := [_, _, _]) mk_X8_in ml_X8_29 sm_X8_in rfl rfl ⟨⟨nle rfl, nle rfl⟩, nle rfl, nle rfl⟩ rfl rfl (nle rfl) ?_
    refine ct_X8_in ?_
    refine kq_s ?_
    refine g_if_eq_b rfl L_X8_isFloorLike_43 (fun h_2 => ?_) (fun h_2 => ?_)
    · refine g_iconst (v := 0) ik_0 ?_
      refine g_fall rfl L_X8_isFloorLike_44 ?_
      refine g_zret rfl rfl (nle rfl) (nle rfl) ?_
      exact qeq hQ (by clear hQ; simp_all [bI, isTm, isFl, i32le, -Int32.not_lt]) rfl
    · refine g_iload_n rfl ?_
      refine g_iconst (v := 0) ik_0 ?_
      refine g_bipush (v := 60) bk_60 ?_
      refine g_callS (as := [_, _, _]) mk_X8_in ml_X8_29 sm_X8_in rfl rfl ⟨⟨nle rfl, nle rfl⟩, nle rfl, nle rfl⟩ rfl rfl (nle rfl) ?_
      refine ct_X8_in ?_
      refine kq_s ?_
      refine g_if_eq_b rfl L_X8_isFloorLike_43 (fun h_3 => ?_) (fun h_3 => ?_)
      · refine g_iconst (v := 0) ik_0 ?_
        refine g_fall rfl L_X8_isFloorLike_44 ?_
        refine g_zret rfl rfl (nle rfl) (nle rfl) ?_
        exact qeq hQ (by clear hQ; simp_all [bI, isTm, isFl, i32le, -Int32.not_lt]) rfl
      · refine g_iload_n rfl ?_
        refine g_iconst (v := 1) ik_1 ?_
        refine g_bipush (v := 30) bk_30 ?_
        refine g_callS (as := [_, _, _]) mk_X8_in ml_X8_29 sm_X8_in rfl rfl ⟨⟨nle rfl, nle rfl⟩, nle rfl, nle rfl⟩ rfl rfl (nle rfl) ?_
        refine ct_X8_in ?_
        refine kq_s ?_
        refine g_if_eq_b rfl L_X8_isFloorLike_43 (fun h_4 => ?_) (fun h_4 => ?_)
        · refine g_iconst (v := 0) ik_0 ?_
          refine g_fall rfl L_X8_isFloorLike_44 ?_
          refine g_zret rfl rfl (nle rfl) (nle rfl) ?_
          exact qeq hQ (by clear hQ; simp_all [bI, isTm, isFl, i32le, -Int32.not_lt]) rfl
        · refine g_iconst (v := 1) ik_1 ?_
          refine g_goto rfl L_X8_isFloorLike_44 ?_
          refine g_zret rfl rfl (nle rfl) (nle rfl) ?_
          exact qeq hQ (by clear hQ; simp_all [bI, isTm, isFl, i32le, -Int32.not_lt]) rfl
theorem nI_pr {n : Nat} (h : 1 ≤ n) : nI n - 1 = nI (n - 1) := by
  have e := nI_pred (n - 1)
  rw [Nat.sub_add_cancel h] at e
  exact e
theorem inB_no {v hi : Int32} (h : inB v 0 hi = false) : inB v 0 hi = false := h
theorem nI_lt_of {v : Int32} {n : Nat} (hn : n < 100000) (h : inB v 0 (nI n - 1) = true) : ∃ k, k < n ∧ v = nI k := by
  unfold inB at h
  rw [Bool.and_eq_true] at h
  have h1 := of_decide_eq_true h.1
  have h2 := of_decide_eq_true h.2
  obtain ⟨k, hk, rfl⟩ := nI_of (x := v) (Int32.not_lt.mpr h1)
  refine ⟨k, ?_, rfl⟩
  rcases Nat.eq_zero_or_pos n with e | e
  · subst e
    exfalso
    have h3 : nI k ≤ (-1 : Int32) := h2
    have h4 := Int32.le_iff_toInt_le.mp h3
    rw [nI_toInt hk] at h4
    have h5 : (-1 : Int32).toInt = -1 := by decide
    omega
  · have h3 : nI n - 1 = nI (n - 1) := nI_pr e
    rw [h3] at h2
    have := (nI_leI (a := k) (b := n - 1) (by omega) (by omega)).mp h2
    omega
theorem inB_yes {n k : Nat} (hn : n < 100000) (hk : k < n) : inB (nI k) 0 (nI n - 1) = true := by
  have h3 : nI n - 1 = nI (n - 1) := nI_pr (by omega)
  unfold inB
  rw [h3, Bool.and_eq_true]
  exact ⟨decide_eq_true ((nI_leI (a := 0) (b := k) (by omega) (by omega)).mpr (Nat.zero_le _)), decide_eq_true ((nI_leI (a := k) (b := n - 1) (by omega) (by omega)).mpr (by omega))⟩
def cpass (s : Nat → Int32) (v : Int32) : Bool := inB v 0 (s 3 - 1) && decide (s (129 + 5 * v.toNatClampNeg + 2) < 90)
theorem cpass_yes {s : Nat → Int32} {nd d : Nat} (h3 : s 3 = nI nd) (hnd : nd ≤ 12) (hd : d < nd) : cpass s (nI d) = decide (s (129 + 5 * d + 2) < 90) := by
  unfold cpass
  rw [h3, inB_yes (by omega) hd, nI_clamp (by omega)]
  rfl
set_option maxRecDepth 100000 in
set_option maxHeartbeats 4000000 in
theorem ct_X8_canPass {X : Xs} {κ : Kp} {M : Mem} {Q : Rs → Kp → Mem → Prop} {m : Nat} (hm : IsMod κ.2.1 m) {nd : Nat} (h3 : M (m + 1) 3 = nI nd) (hnd : nd ≤ 12) {v : Int32} (hQ : Q (.inl (some (.int (bI (cpass (M (m + 1)) v))))) κ M) : Ct X m_X8_canPass [.ref m, .int v] κ M Q := by
  refine ct_of B_X8_canPass_0 pn_X8 rfl (nle rfl) L_X8_canPass_0 ?_
  refine g_aload_n rfl ?_
  refine g_iload_n rfl ?_
  refine g_callV (as := [_]) mk_X8_isDancer ml_X8_127 im_X8_isDancer se_X8_isDancer rfl rfl ⟨⟨nle rfl, nle rfl⟩, nle rfl, nle rfl⟩ hm.1 rfl rfl rfl (nle rfl) ?_
  refine ct_X8_isDancer hm ?_
  refine kq_s ?_
  refine g_if_eq_b rfl L_X8_canPass_23 (fun h_1 => ?_) (fun h_1 => ?_)
  · refine g_iconst (v := 0) ik_0 ?_
    refine g_fall rfl L_X8_canPass_24 ?_
    refine g_zret rfl rfl (nle rfl) (nle rfl) ?_
    exact qeq hQ (by clear hQ; first | (simp_all [bI, cpass_yes h3 hnd hd, i32le, -Int32.not_lt]; done) | (simp_all [bI, cpass])) rfl
  · obtain ⟨d, hd, rfl⟩ := nI_lt_of (n := nd) (by omega) (by simpa [h3] using h_1)
    refine g_aload_n rfl ?_
    refine g_iload_n rfl ?_
    refine g_iconst (v := 2) ik_2 ?_
    refine g_callV (as := [_, _]) mk_X8_ofDancer ml_X8_57 im_X8_ofDancer se_X8_ofDancer rfl rfl ⟨⟨nle rfl, nle rfl⟩, nle rfl, nle rfl⟩ hm.1 rfl rfl rfl (nle rfl) ?_
    refine ct_X8_ofDancer hm d 2 rfl rfl (by omega) ?_
    refine kq_s ?_
    refine g_bipush (v := 90) bk_90 ?_
    refine g_icmp_ge rfl L_X8_canPass_23 (fun h_2 => ?_) (fun h_2 => ?_)
    · refine g_iconst (v := 0) ik_0 ?_
      refine g_fall rfl L_X8_canPass_24 ?_
      refine g_zret rfl rfl (nle rfl) (nle rfl) ?_
      exact qeq hQ (by clear hQ; first | (simp_all [bI, cpass_yes h3 hnd hd, i32le, -Int32.not_lt]; done) | (simp_all [bI, cpass])) rfl
    · refine g_iconst (v := 1) ik_1 ?_
      refine g_goto rfl L_X8_canPass_24 ?_
      refine g_zret rfl rfl (nle rfl) (nle rfl) ?_
      exact qeq hQ (by clear hQ; first | (simp_all [bI, cpass_yes h3 hnd hd, i32le, -Int32.not_lt]; done) | (simp_all [bI, cpass])) rfl
set_option maxRecDepth 100000 in
set_option maxHeartbeats 4000000 in
theorem ct_X8_areBoth {X : Xs} {κ : Kp} {M : Mem} {Q : Rs → Kp → Mem → Prop} {m : Nat} (hm : IsMod κ.2.1 m)  (hQ : Q (.inl (some (.int (bI (inB (M (m + 4) 0) 0 (M (m + 1) 3 - 1) && inB (M (m + 4) 1) 0 (M (m + 1) 2 - 1)))))) κ M) : Ct X m_X8_areBoth [.ref m] κ M Q := by
  refine ct_of B_X8_areBoth_0 pn_X8 rfl (nle rfl) L_X8_areBoth_0 ?_
  refine g_aload_n rfl ?_
  refine g_aload_n rfl ?_
  refine g_getR (w := (m + 4)) fl_X8_19 rfl hm.1 rfl ?_
  refine g_iconst (v := 0) ik_0 ?_
  refine g_iaload (j := 0) hm.2.2.2.2 rfl (nle rfl) (nle rfl) ?_
  refine g_callV (as := [_]) mk_X8_isDancer ml_X8_127 im_X8_isDancer se_X8_isDancer rfl rfl ⟨⟨nle rfl, nle rfl⟩, nle rfl, nle rfl⟩ hm.1 rfl rfl rfl (nle rfl) ?_
  refine ct_X8_isDancer hm ?_
  refine kq_s ?_
  refine g_if_eq_b rfl L_X8_areBoth_30 (fun h_1 => ?_) (fun h_1 => ?_)
  · refine g_iconst (v := 0) ik_0 ?_
    refine g_fall rfl L_X8_areBoth_31 ?_
    refine g_zret rfl rfl (nle rfl) (nle rfl) ?_
    exact qeq hQ (by clear hQ; simp_all [bI]) rfl
  · refine g_aload_n rfl ?_
    refine g_aload_n rfl ?_
    refine g_getR (w := (m + 4)) fl_X8_19 rfl hm.1 rfl ?_
    refine g_iconst (v := 1) ik_1 ?_
    refine g_iaload (j := 1) hm.2.2.2.2 rfl (nle rfl) (nle rfl) ?_
    refine g_callV (as := [_]) mk_X8_isClass ml_X8_130 im_X8_isClass se_X8_isClass rfl rfl ⟨⟨nle rfl, nle rfl⟩, nle rfl, nle rfl⟩ hm.1 rfl rfl rfl (nle rfl) ?_
    refine ct_X8_isClass hm ?_
    refine kq_s ?_
    refine g_if_eq_b rfl L_X8_areBoth_30 (fun h_2 => ?_) (fun h_2 => ?_)
    · refine g_iconst (v := 0) ik_0 ?_
      refine g_fall rfl L_X8_areBoth_31 ?_
      refine g_zret rfl rfl (nle rfl) (nle rfl) ?_
      exact qeq hQ (by clear hQ; simp_all [bI]) rfl
    · refine g_iconst (v := 1) ik_1 ?_
      refine g_goto rfl L_X8_areBoth_31 ?_
      refine g_zret rfl rfl (nle rfl) (nle rfl) ?_
      exact qeq hQ (by clear hQ; simp_all [bI]) rfl
set_option maxRecDepth 100000 in
set_option maxHeartbeats 4000000 in
theorem ct_X8_canSet {X : Xs} {κ : Kp} {M : Mem} {Q : Rs → Kp → Mem → Prop} {m : Nat} (hm : IsMod κ.2.1 m)  (hQ : Q (.inl (some (.int (bI (decide (M (m + 1) 2 < 10) && (inB (M (m + 4) 2) 0 (M (m + 1) 0 - 1) && inB (M (m + 4) 3) 0 (M (m + 1) 1 - 1))))))) κ M) : Ct X m_X8_canSet [.ref m] κ M Q := by
  refine ct_of B_X8_canSet_0 pn_X8 rfl (nle rfl) L_X8_canSet_0 ?_
  refine g_aload_n rfl ?_
  refine g_getR (w := (m + 1)) fl_X8_7 rfl hm.1 rfl ?_
  refine g_iconst (v := 2) ik_2 ?_
  refine g_iaload (j := 2) hm.2.1 rfl (nle rfl) (nle rfl) ?_
  refine g_bipush (v := 10) bk_10 ?_
  refine g_icmp_ge rfl L_X8_canSet_41 (fun h_1 => ?_) (fun h_1 => ?_)
  · refine g_iconst (v := 0) ik_0 ?_
    refine g_fall rfl L_X8_canSet_42 ?_
    refine g_zret rfl rfl (nle rfl) (nle rfl) ?_
    exact qeq hQ (by clear hQ; simp_all [bI, i32le, -Int32.not_lt]) rfl
  · refine g_aload_n rfl ?_
    refine g_aload_n rfl ?_
    refine g_getR (w := (m + 4)) fl_X8_19 rfl hm.1 rfl ?_
    refine g_iconst (v := 2) ik_2 ?_
    refine g_iaload (j := 2) hm.2.2.2.2 rfl (nle rfl) (nle rfl) ?_
    refine g_callV (as := [_]) mk_X8_isFloor ml_X8_121 im_X8_isFloor se_X8_isFloor rfl rfl ⟨⟨nle rfl, nle rfl⟩, nle rfl, nle rfl⟩ hm.1 rfl rfl rfl (nle rfl) ?_
    refine ct_X8_isFloor hm ?_
    refine kq_s ?_
    refine g_if_eq_b rfl L_X8_canSet_41 (fun h_2 => ?_) (fun h_2 => ?_)
    · refine g_iconst (v := 0) ik_0 ?_
      refine g_fall rfl L_X8_canSet_42 ?_
      refine g_zret rfl rfl (nle rfl) (nle rfl) ?_
      exact qeq hQ (by clear hQ; simp_all [bI, i32le, -Int32.not_lt]) rfl
    · refine g_aload_n rfl ?_
      refine g_aload_n rfl ?_
      refine g_getR (w := (m + 4)) fl_X8_19 rfl hm.1 rfl ?_
      refine g_iconst (v := 3) ik_3 ?_
      refine g_iaload (j := 3) hm.2.2.2.2 rfl (nle rfl) (nle rfl) ?_
      refine g_callV (as := [_]) mk_X8_isTeacher ml_X8_124 im_X8_isTeacher se_X8_isTeacher rfl rfl ⟨⟨nle rfl, nle rfl⟩, nle rfl, nle rfl⟩ hm.1 rfl rfl rfl (nle rfl) ?_
      refine ct_X8_isTeacher hm ?_
      refine kq_s ?_
      refine g_if_eq_b rfl L_X8_canSet_41 (fun h_3 => ?_) (fun h_3 => ?_)
      · refine g_iconst (v := 0) ik_0 ?_
        refine g_fall rfl L_X8_canSet_42 ?_
        refine g_zret rfl rfl (nle rfl) (nle rfl) ?_
        exact qeq hQ (by clear hQ; simp_all [bI, i32le, -Int32.not_lt]) rfl
      · refine g_iconst (v := 1) ik_1 ?_
        refine g_goto rfl L_X8_canSet_42 ?_
        refine g_zret rfl rfl (nle rfl) (nle rfl) ?_
        exact qeq hQ (by clear hQ; simp_all [bI, i32le, -Int32.not_lt]) rfl
theorem qeqL {Q : Rs → Kp → Mem → Prop} {κ : Kp} {M : Mem} {v v' : Int64} (h : Q (.inl (some (.long v'))) κ M) (e1 : v = v') : Q (.inl (some (.long v))) κ M := by subst e1; exact h
set_option maxRecDepth 100000 in
set_option maxHeartbeats 4000000 in
theorem ct_X8_size {X : Xs} {κ : Kp} {M : Mem} {Q : Rs → Kp → Mem → Prop} {n : Int32} (hQ : Q (.inl (some (.long (szL n)))) κ M) : Ct X m_X8_size [.int n] κ M Q := by
  refine ct_of B_X8_size_0 pn_X8 rfl (nle rfl) L_X8_size_0 ?_
  refine g_iload_n rfl ?_
  refine g_iconst (v := 1) ik_1 ?_
  refine g_icmp_ne rfl L_X8_size_11 (fun h_1 => ?_) (fun h_1 => ?_)
  · refine g_iload_n rfl ?_
    refine g_iconst (v := 2) ik_2 ?_
    refine g_icmp_ne rfl L_X8_size_22 (fun h_2 => ?_) (fun h_2 => ?_)
    · refine g_ldc2 rfl kc_X8_222 ?_
      refine g_fall rfl L_X8_size_25 ?_
      refine g_lret rfl (nle rfl) (nle rfl) ?_
      exact qeqL hQ (by clear hQ; simp_all [szL])
    · refine g_ldc2 rfl kc_X8_220 ?_
      refine g_goto rfl L_X8_size_25 ?_
      refine g_lret rfl (nle rfl) (nle rfl) ?_
      exact qeqL hQ (by clear hQ; simp_all [szL])
  · refine g_ldc2 rfl kc_X8_218 ?_
    refine g_goto rfl L_X8_size_25 ?_
    refine g_lret rfl (nle rfl) (nle rfl) ?_
    exact qeqL hQ (by clear hQ; simp_all [szL])
theorem mul9 (n : Nat) : (9 : Int32) * nI n = nI (9 * n) := by
  simp only [nI, Int32.ofNat_mul]
  rfl
theorem da_ix (n : Nat) : (129 : Int32) + 5 * nI n = nI (129 + 5 * n) := by
  simp only [nI, Int32.ofNat_mul, Int32.ofNat_add]
  rfl
theorem shN_o2 {s : Nat → Int32} {k n : Nat} : shN s k n 2 = s 2 := if_neg (by omega)
theorem shN_dr {s : Nat → Int32} {n k : Nat} (h : k < n) : shN (upd (upd s 10 (s 10 + s (39 + 9 * k + 7))) 2 (nI (n - 1))) k (9 * (n - 1) - 9 * k) = drS s n k := by
  funext j
  show (if _ then _ else _) = (if _ then _ else _)
  rw [show 39 + 9 * k + (9 * (n - 1) - 9 * k) = 39 + 9 * (n - 1) by omega]
set_option maxRecDepth 100000 in
set_option maxHeartbeats 4000000 in
theorem ct_X8_drops {X : Xs} {κ : Kp} {M : Mem} {Q : Rs → Kp → Mem → Prop} {m : Nat} (hm : IsMod κ.2.1 m) {nc : Nat} (h2 : M (m + 1) 2 = nI nc) (hnc : nc ≤ 10) {kI : Int32} (k : Nat) (hk : kI = nI k) (hk2 : k < nc) (hQ : Q (.inl (some (.int (bitsI (M (m + 1) (39 + 9 * k + 8)))))) κ (sR M (m + 1) (drS (M (m + 1)) nc k))) : Ct X m_X8_drops [.ref m, .int kI] κ M Q := by
  refine ct_of B_X8_drops_0 pn_X8 rfl (nle rfl) L_X8_drops_0 ?_
  subst hk
  refine g_aload_n rfl ?_
  refine g_iload_n rfl ?_
  refine g_bipush (v := 8) bk_8 ?_
  refine g_callV (as := [_, _]) mk_X8_ofClass ml_X8_40 im_X8_ofClass se_X8_ofClass rfl rfl ⟨⟨nle rfl, nle rfl⟩, nle rfl, nle rfl⟩ hm.1 rfl rfl rfl (nle rfl) ?_
  refine ct_X8_ofClass hm k 8 rfl rfl (by omega) ?_
  refine kq_s ?_
  refine g_callS (as := [_]) mk_X8_bits ml_X8_60 sm_X8_bits rfl rfl ⟨⟨nle rfl, nle rfl⟩, nle rfl, nle rfl⟩ rfl rfl (nle rfl) ?_
  refine ct_X8_bits ?_
  refine kq_s ?_
  refine g_istore_n (nle rfl) ?_
  refine g_aload_n rfl ?_
  refine g_getR (w := (m + 1)) fl_X8_7 rfl hm.1 rfl ?_
  refine g_bipush (v := 10) bk_10 ?_
  refine g_dup2 rfl rfl ?_
  refine g_iaload (j := 10) hm.2.1 rfl (nle rfl) (nle rfl) ?_
  refine g_aload_n rfl ?_
  refine g_iload_n rfl ?_
  refine g_bipush (v := 7) bk_7 ?_
  refine g_callV (as := [_, _]) mk_X8_ofClass ml_X8_40 im_X8_ofClass se_X8_ofClass rfl rfl ⟨⟨nle rfl, nle rfl⟩, nle rfl, nle rfl⟩ hm.1 rfl rfl rfl (nle rfl) ?_
  refine ct_X8_ofClass hm k 7 rfl rfl (by omega) ?_
  refine kq_s ?_
  refine g_iadd ?_
  refine g_iastore (j := 10) hm.2.1 rfl (nle rfl) (nle rfl) ?_
  refine g_aload_n rfl ?_
  refine g_getR (w := (m + 1)) fl_X8_7 rfl hm.1 rfl ?_
  refine g_iconst (v := 2) ik_2 ?_
  refine g_dup2 rfl rfl ?_
  refine g_iaload (j := 2) hm.2.1 rfl (nle rfl) (nle rfl) ?_
  simp (disch := omega) only [upM_sR, sR_s, sR_sR, upd_ne, upd_same, h2, shN_o2]
  refine g_iconst (v := 1) ik_1 ?_
  refine g_isub ?_
  refine g_iastore (j := 2) hm.2.1 rfl (nle rfl) (nle rfl) ?_
  refine g_bipush (v := 9) bk_9 ?_
  refine g_iload_n rfl ?_
  refine g_imul ?_
  rw [mul9]
  refine g_istore_n (nle rfl) ?_
  refine g_fall rfl L_X8_drops_43 ?_
  refine g_mem (M' := sR M (m + 1) (shN (upd (upd (M (m + 1)) 10 (M (m + 1) 10 + M (m + 1) (39 + 9 * k + 7))) 2 (nI (nc - 1))) k 0)) (by simp (disch := omega) only [upM_sR, sR_sR, sR_s, upd_ne, upd_same, h2, nI_pr (show 1 ≤ nc by omega), shN_0]) ?_
  refine g_lo2 (lo' := [(0, some (.ref m)), (1, some (.int (nI k))), (2, some (.int (bitsI (M (m + 1) (39 + 9 * k + 8))))), (3, some (.int (nI (9 * k + 0))))]) ?_ ⟨rfl, rfl, rfl, rfl, trivial⟩
  refine loop_up (P := fun e => G X m_X8_drops B_X8_drops_43 43 [(0, some (.ref m)), (1, some (.int (nI k))), (2, some (.int (bitsI (M (m + 1) (39 + 9 * k + 8))))), (3, some (.int (nI (9 * k + e))))] [] 0 0 κ (sR M (m + 1) (shN (upd (upd (M (m + 1)) 10 (M (m + 1) 10 + M (m + 1) (39 + 9 * k + 7))) 2 (nI (nc - 1))) k e)) Q) (9 * (nc - 1) - 9 * k) (fun e hle_e ih_e => ?_) 0 (Nat.zero_le _)
  refine g_iload_n rfl ?_
  refine g_bipush (v := 9) bk_9 ?_
  refine g_aload_n rfl ?_
  refine g_getR (w := (m + 1)) fl_X8_7 rfl hm.1 rfl ?_
  refine g_iconst (v := 2) ik_2 ?_
  refine g_iaload (j := 2) hm.2.1 rfl (nle rfl) (nle rfl) ?_
  simp (disch := omega) only [upM_sR, sR_s, sR_sR, upd_ne, upd_same, h2, shN_o2]
  refine g_imul ?_
  rw [mul9]
  refine g_icmp_ge rfl L_X8_drops_83 (fun h_1 => ?_) (fun h_1 => ?_)
  · have hx_e : e = 9 * (nc - 1) - 9 * k := by have := (nI_leI (a := 9 * (nc - 1)) (b := 9 * k + e) (by omega) (by omega)).mp h_1; omega
    subst hx_e
    refine g_iload_n rfl ?_
    refine g_iret rfl (nle rfl) (nle rfl) ?_
    exact qeq hQ rfl (by rw [shN_dr hk2])
  · have hlt_e : e < 9 * (nc - 1) - 9 * k := by
      rcases Nat.lt_or_ge e (9 * (nc - 1) - 9 * k) with q | q
      · exact q
      · exact absurd ((nI_leI (a := 9 * (nc - 1)) (b := 9 * k + e) (by omega) (by omega)).mpr (by omega)) h_1
    refine g_aload_n rfl ?_
    refine g_getR (w := (m + 1)) fl_X8_7 rfl hm.1 rfl ?_
    refine g_bipush (v := 39) bk_39 ?_
    refine g_iload_n rfl ?_
    refine g_iadd ?_
    refine g_aload_n rfl ?_
    refine g_getR (w := (m + 1)) fl_X8_7 rfl hm.1 rfl ?_
    refine g_bipush (v := 39) bk_39 ?_
    refine g_iload_n rfl ?_
    refine g_iadd ?_
    refine g_bipush (v := 9) bk_9 ?_
    refine g_iadd ?_
    refine g_iaload (j := ((39 + (9 * k + e)) + 9)) hm.2.1 (by simp only [nI, Int32.ofNat_add, Int32.ofNat_mul] <;> rfl) (by omega) (nle rfl) ?_
    refine g_iastore (j := (39 + (9 * k + e))) hm.2.1 (by simp only [nI, Int32.ofNat_add, Int32.ofNat_mul] <;> rfl) (by omega) (nle rfl) ?_
    refine g_iinc (v := nI ((9 * k + e) + 1)) rfl (nI_inc _) (nle rfl) ?_
    refine g_goto rfl L_X8_drops_43 ?_
    refine g_mem ?_ (g_lo2 (ih_e hlt_e) ⟨rfl, rfl, rfl, rfl, trivial⟩)
    rw [upM_sR, sR_sR, sR_s, show 39 + (9 * k + e) = 39 + 9 * k + e by omega, shN_s]
theorem da0_3 {s : Nat → Int32} {n k : Nat} : da0 s (129 + 5 * n) k 3 = s 3 := by
  unfold da0
  rw [if_neg (by omega), if_neg (by omega)]
set_option maxRecDepth 100000 in
set_option maxHeartbeats 4000000 in
theorem ct_X8_dancers {X : Xs} {κ : Kp} {M : Mem} {Q : Rs → Kp → Mem → Prop} {m : Nat} (hm : IsMod κ.2.1 m) {nd : Nat} (h3 : M (m + 1) 3 = nI nd) (hnd : nd ≤ 12) (hlt : nd < 12) (hQ : Q (.inl (some (.int (nI nd)))) κ (sR M (m + 1) (daS (M (m + 1)) nd))) : Ct X m_X8_dancers [.ref m] κ M Q := by
  refine ct_of B_X8_dancers_0 pn_X8 rfl (nle rfl) L_X8_dancers_0 ?_
  refine g_sipush (v := 129) sk_129 ?_
  refine g_iconst (v := 5) ik_5 ?_
  refine g_aload_n rfl ?_
  refine g_getR (w := (m + 1)) fl_X8_7 rfl hm.1 rfl ?_
  refine g_iconst (v := 3) ik_3 ?_
  refine g_iaload (j := 3) hm.2.1 rfl (nle rfl) (nle rfl) ?_
  simp (disch := omega) only [upM_sR, sR_s, sR_sR, upd_ne, upd_same, h3, da0_3]
  refine g_imul ?_
  refine g_iadd ?_
  rw [da_ix]
  refine g_istore_n (nle rfl) ?_
  refine g_aload_n rfl ?_
  refine g_getR (w := (m + 1)) fl_X8_7 rfl hm.1 rfl ?_
  refine g_iload_n rfl ?_
  refine g_iconst (v := 1) ik_1 ?_
  refine g_iastore (j := (129 + (5 * nd))) hm.2.1 (by simp only [nI, Int32.ofNat_add, Int32.ofNat_mul] <;> rfl) (by omega) (nle rfl) ?_
  refine g_iconst (v := 1) ik_1 ?_
  refine g_istore_n (nle rfl) ?_
  refine g_fall rfl L_X8_dancers_22 ?_
  refine g_mem (M' := sR M (m + 1) (da0 (M (m + 1)) (129 + 5 * nd) 1)) (by rw [upM_sR, da0_1]) ?_
  refine g_lo2 (lo' := [(0, some (.ref m)), (1, some (.int (nI (129 + 5 * nd)))), (2, some (.int (nI 1)))]) ?_ ⟨rfl, rfl, rfl, trivial⟩
  refine loop_up (P := fun k => 1 ≤ k → G X m_X8_dancers B_X8_dancers_22 22 [(0, some (.ref m)), (1, some (.int (nI (129 + 5 * nd)))), (2, some (.int (nI k)))] [] 0 0 κ (sR M (m + 1) (da0 (M (m + 1)) (129 + 5 * nd) k)) Q) 5 (fun k hle_k ih_k hpre_k => ?_) 1 (by decide) (Nat.le_refl _)
  refine g_iload_n rfl ?_
  refine g_iconst (v := 5) ik_5 ?_
  refine g_icmp_ge rfl L_X8_dancers_42 (fun h_1 => ?_) (fun h_1 => ?_)
  · have hx_k := ((cmp_ge (c := 5) (rfl : (5 : Int32) = nI 5) (nle rfl) hle_k).1 h_1).symm
    subst hx_k
    refine g_aload_n rfl ?_
    refine g_getR (w := (m + 1)) fl_X8_7 rfl hm.1 rfl ?_
    refine g_iconst (v := 3) ik_3 ?_
    refine g_dup2 rfl rfl ?_
    refine g_iaload (j := 3) hm.2.1 rfl (nle rfl) (nle rfl) ?_
    simp (disch := omega) only [upM_sR, sR_s, sR_sR, upd_ne, upd_same, h3, da0_3]
    refine g_iconst (v := 1) ik_1 ?_
    refine g_iadd ?_
    refine g_iastore (j := 3) hm.2.1 rfl (nle rfl) (nle rfl) ?_
    refine g_aload_n rfl ?_
    refine g_getR (w := (m + 1)) fl_X8_7 rfl hm.1 rfl ?_
    refine g_iconst (v := 3) ik_3 ?_
    refine g_iaload (j := 3) hm.2.1 rfl (nle rfl) (nle rfl) ?_
    simp (disch := omega) only [upM_sR, sR_s, sR_sR, upd_ne, upd_same, h3, da0_3]
    refine g_iconst (v := 1) ik_1 ?_
    refine g_isub ?_
    refine g_iret rfl (nle rfl) (nle rfl) ?_
    refine qeq hQ ?_ ?_
    · clear hQ; simp (disch := omega) only [upM_sR, sR_s, sR_sR, upd_ne, upd_same, h3, da0_3, nI_1, nI_pred]
    · clear hQ; simp (disch := omega) only [upM_sR, sR_s, sR_sR, upd_ne, upd_same, da0_3, h3, nI_1, daS]; rfl
  · have hlt_k : k < 5 := (cmp_ge (c := 5) (rfl : (5 : Int32) = nI 5) (nle rfl) hle_k).2 h_1
    refine g_aload_n rfl ?_
    refine g_getR (w := (m + 1)) fl_X8_7 rfl hm.1 rfl ?_
    refine g_iload_n rfl ?_
    refine g_iload_n rfl ?_
    refine g_iadd ?_
    refine g_iconst (v := 0) ik_0 ?_
    refine g_iastore (j := ((129 + (5 * nd)) + k)) hm.2.1 (by simp only [nI, Int32.ofNat_add, Int32.ofNat_mul] <;> rfl) (by omega) (nle rfl) ?_
    refine g_iinc (v := nI (k + 1)) rfl (nI_inc _) (nle rfl) ?_
    refine g_goto rfl L_X8_dancers_22 ?_
    refine g_mem ?_ (g_lo2 (ih_k hlt_k (by omega)) ⟨rfl, rfl, rfl, trivial⟩)
    rw [upM_sR, sR_sR, sR_s, da0_s _ _ _ hpre_k]
def tcS (s : Nat → Int32) (nc : Nat) (st lv : Int32) (f t : Nat) (dy hr : Int32) : Nat → Int32 := if whyI s nc st lv f t dy hr = 0 then clS s nc st lv (nI f) (nI t) dy hr else upd s 9 (s 9 + 1)
def tsS (s : Nat → Int32) (nc d k f : Nat) : Nat → Int32 := if whyS s nc d k f = 0 then enS s (nI d) k else upd s 9 (s 9 + 1)
theorem whyI_pos (s : Nat → Int32) (nc : Nat) (st lv : Int32) (f t : Nat) (dy hr : Int32) : (0 < whyI s nc st lv f t dy hr ↔ whyI s nc st lv f t dy hr ≠ 0) := by
  unfold whyI
  repeat' split
  all_goals decide
theorem whyS_pos (s : Nat → Int32) (nc d k f : Nat) : (0 < whyS s nc d k f ↔ whyS s nc d k f ≠ 0) := by
  unfold whyS
  repeat' split
  all_goals decide
set_option maxRecDepth 100000 in
set_option maxHeartbeats 4000000 in
theorem ct_X8_triesClass {X : Xs} {κ : Kp} {M : Mem} {Q : Rs → Kp → Mem → Prop} {m : Nat} (hm : IsMod κ.2.1 m) {nc : Nat} (h2 : M (m + 1) 2 = nI nc) (hnc : nc ≤ 10) {style level fI tI day hour : Int32} (f t : Nat) (hfI : fI = nI f) (htI : tI = nI t) (hf : f < 4) (ht : t < 5) (hmi : 0 ≤ M (m + 1) (13 + 4 * f + 1)) (hlt : nc < 10) (hQ : Q (.inl (some (.int (whyI (M (m + 1)) nc style level f t day hour)))) κ (sR M (m + 1) (tcS (M (m + 1)) nc style level f t day hour))) : Ct X m_X8_triesClass [.ref m, .int style, .int level, .int fI, .int tI, .int day, .int hour] κ M Q := by
  refine ct_of B_X8_triesClass_0 pn_X8 rfl (nle rfl) L_X8_triesClass_0 ?_
  subst hfI
  subst htI
  refine g_aload_n rfl ?_
  refine g_iload_n rfl ?_
  refine g_iload_n rfl ?_
  refine g_iload_n rfl ?_
  refine g_iload rfl ?_
  refine g_iload rfl ?_
  refine g_iload rfl ?_
  refine g_callV (as := [_, _, _, _, _, _]) mk_X8_whyNo ml_X8_136 im_X8_whyNo se_X8_whyNo rfl rfl ⟨⟨nle rfl, nle rfl⟩, nle rfl, nle rfl⟩ hm.1 rfl rfl rfl (nle rfl) ?_
  refine ct_X8_whyNo hm h2 hnc f t rfl rfl hf ht hmi ?_
  refine kq_s ?_
  refine g_istore (nle rfl) ?_
  refine g_iload rfl ?_
  refine g_if_le rfl L_X8_triesClass_34 (fun h_1 => ?_) (fun h_1 => ?_)
  · refine g_aload_n rfl ?_
    refine g_iload_n rfl ?_
    refine g_iload_n rfl ?_
    refine g_iload_n rfl ?_
    refine g_iload rfl ?_
    refine g_iload rfl ?_
    refine g_iload rfl ?_
    refine g_callV (as := [_, _, _, _, _, _]) mk_X8_sets ml_X8_156 im_X8_sets se_X8_sets rfl rfl ⟨⟨nle rfl, nle rfl⟩, nle rfl, nle rfl⟩ hm.1 rfl rfl rfl (nle rfl) ?_
    refine ct_X8_sets hm h2 hnc hlt ?_
    refine kq_n ?_
    refine g_fall rfl L_X8_triesClass_47 ?_
    refine g_iload rfl ?_
    refine g_iret rfl (nle rfl) (nle rfl) ?_
    refine qeq hQ rfl ?_
    clear hQ; simp_all [tcS, tsS, upM_sR, i32le, -Int32.not_lt, whyI_pos, whyS_pos]
  · refine g_aload_n rfl ?_
    refine g_getR (w := (m + 1)) fl_X8_7 rfl hm.1 rfl ?_
    refine g_bipush (v := 9) bk_9 ?_
    refine g_dup2 rfl rfl ?_
    refine g_iaload (j := 9) hm.2.1 rfl (nle rfl) (nle rfl) ?_
    refine g_iconst (v := 1) ik_1 ?_
    refine g_iadd ?_
    refine g_iastore (j := 9) hm.2.1 rfl (nle rfl) (nle rfl) ?_
    refine g_goto rfl L_X8_triesClass_47 ?_
    refine g_iload rfl ?_
    refine g_iret rfl (nle rfl) (nle rfl) ?_
    refine qeq hQ rfl ?_
    clear hQ; simp_all [tcS, tsS, upM_sR, i32le, -Int32.not_lt, whyI_pos, whyS_pos]
set_option maxRecDepth 100000 in
set_option maxHeartbeats 4000000 in
theorem ct_X8_triesSeat {X : Xs} {κ : Kp} {M : Mem} {Q : Rs → Kp → Mem → Prop} {m : Nat} (hm : IsMod κ.2.1 m) {nc : Nat} (h2 : M (m + 1) 2 = nI nc) (hnc : nc ≤ 10) {dI kI : Int32} (d k f : Nat) (hd : dI = nI d) (hk : kI = nI k) (hd2 : d < 12) (hk2 : k < 10) (hf : M (m + 1) (39 + 9 * k + 2) = nI f) (hf2 : f < 4) (hQ : Q (.inl (some (.int (whyS (M (m + 1)) nc d k f)))) κ (sR M (m + 1) (tsS (M (m + 1)) nc d k f))) : Ct X m_X8_triesSeat [.ref m, .int dI, .int kI] κ M Q := by
  refine ct_of B_X8_triesSeat_0 pn_X8 rfl (nle rfl) L_X8_triesSeat_0 ?_
  subst hd
  subst hk
  refine g_aload_n rfl ?_
  refine g_iload_n rfl ?_
  refine g_iload_n rfl ?_
  refine g_callV (as := [_, _]) mk_X8_whyNoSeat ml_X8_146 im_X8_whyNoSeat se_X8_whyNoSeat rfl rfl ⟨⟨nle rfl, nle rfl⟩, nle rfl, nle rfl⟩ hm.1 rfl rfl rfl (nle rfl) ?_
  refine ct_X8_whyNoSeat hm h2 hnc d k f rfl rfl hd2 hk2 hf hf2 ?_
  refine kq_s ?_
  refine g_istore_n (nle rfl) ?_
  refine g_iload_n rfl ?_
  refine g_if_le rfl L_X8_triesSeat_25 (fun h_1 => ?_) (fun h_1 => ?_)
  · refine g_aload_n rfl ?_
    refine g_iload_n rfl ?_
    refine g_iload_n rfl ?_
    refine g_callV (as := [_, _]) mk_X8_enters ml_X8_166 im_X8_enters se_X8_enters rfl rfl ⟨⟨nle rfl, nle rfl⟩, nle rfl, nle rfl⟩ hm.1 rfl rfl rfl (nle rfl) ?_
    refine ct_X8_enters hm k rfl hk2 ?_
    refine kq_n ?_
    refine g_fall rfl L_X8_triesSeat_31 ?_
    refine g_iload_n rfl ?_
    refine g_iret rfl (nle rfl) (nle rfl) ?_
    refine qeq hQ rfl ?_
    clear hQ; simp_all [tcS, tsS, upM_sR, i32le, -Int32.not_lt, whyI_pos, whyS_pos]
  · refine g_aload_n rfl ?_
    refine g_getR (w := (m + 1)) fl_X8_7 rfl hm.1 rfl ?_
    refine g_bipush (v := 9) bk_9 ?_
    refine g_dup2 rfl rfl ?_
    refine g_iaload (j := 9) hm.2.1 rfl (nle rfl) (nle rfl) ?_
    refine g_iconst (v := 1) ik_1 ?_
    refine g_iadd ?_
    refine g_iastore (j := 9) hm.2.1 rfl (nle rfl) (nle rfl) ?_
    refine g_goto rfl L_X8_triesSeat_31 ?_
    refine g_iload_n rfl ?_
    refine g_iret rfl (nle rfl) (nle rfl) ?_
    refine qeq hQ rfl ?_
    clear hQ; simp_all [tcS, tsS, upM_sR, i32le, -Int32.not_lt, whyI_pos, whyS_pos]
