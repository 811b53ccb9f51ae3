/-! ===== p34: the law's small helpers ===== -/
theorem g_aret {X : Xs} {y : MI} {is : List (Instr × Nat)} {pc : Nat} {lo : Lo} {nc ks : Nat} {κ : Kp} {M : Mem} {Q : Rs → Kp → Mem → Prop} {r : Nat} {rt : FieldType} (hr : y.2.2.2.1 = some rt) (hrt : (∃ n, rt = .object n) ∨ ∃ t, rt = .array t) (h1 : nc ≤ (rmOf y).cells) (h2 : ks ≤ (rmOf y).slots) (hq : Q (.inl (some (.ref r))) κ M) : G X y ((.areturn, 1) :: is) pc lo [.ref r] nc ks κ M Q := by
  intro hA l p e s m args below meth c b Z D H locs ls hC hR hS hL
  refine W.widen h1 h2 (vx_ret (W.aret hC.2.1 hC.2.2.1 (hC.2.2.2.2.1.trans hr) hrt (Or.inr ⟨_, rfl⟩) (fun t ht hW => ⟨⟨some (.ref r), κ, M, rfl, hq, ?_⟩, hS.F ht⟩) hS.2.2 hA.1 hC.2.2.2.2.2.1))
  rw [ht]; exact hR.moved hW.alike
def cellV (X : Xs) (k : Nat) : Int32 := if k < X.1 then X.2 k else 1812433253 * (nI k + 383)
def hsh (f : Nat → Int32) : Nat → Int64 → Int64
  | 0, h => h
  | n + 1, h => 31 * hsh f n h + (f n).toInt64
def lkN (s : Nat → Int32) (nf nt nc nd : Nat) : Int64 :=
  31 * (31 * hsh (fun k => teV s (k / 4) (k % 4)) (4 * nt) (hsh (fun k => flV s (k / 6) (k % 6)) (6 * nf) (hsh (fun k => daV s (k / 6) (k % 6)) (6 * nd) (hsh (fun k => clV s (k / 10) (k % 10)) (10 * nc) (hsh (fun w => abV s w) 12 173)))) + (s 11).toInt64) + (s 12).toInt64
/-- all that the law looks at -/
def lkF (s : Nat → Int32) : Int64 := lkN s (cN s 0) (cN s 1) (cN s 2) (cN s 3)
set_option maxRecDepth 100000 in
theorem ct_L_up {X : Xs} {κ : Kp} {M : Mem} {Q : Rs → Kp → Mem → Prop} {v : Int32} {m : Nat} (h1 : 1 ≤ m) (h2 : m < 2 ^ 31) (hQ : Q (.inl (some (.int (nI (upN v m))))) κ M) : Ct X m_L_up [.int v, .int (nI m)] κ M Q := by
  have e1 : v &&& 2147483647 = nI (v.toBitVec.toNat % 2 ^ 31) := pk_and v 31 (by decide)
  refine ct_of B_L_up_0 pn_L rfl (nle rfl) L_L_up_0 ?_
  refine g_iload_n rfl ?_
  refine g_ldc rfl kc_L_8 ?_
  refine g_iand ?_
  refine g_iload_n rfl ?_
  refine g_irem (fun e => absurd ((nI_eq (a := m) (b := 0) h2 (by omega)).mp e) (by omega)) ?_
  refine g_iret rfl (nle rfl) (nle rfl) ?_
  rw [e1, show nI (v.toBitVec.toNat % 2 ^ 31) - nI (v.toBitVec.toNat % 2 ^ 31) / nI m * nI m = nI (upN v m) from pk_rem (Nat.mod_lt _ (by decide)) h1 h2]
  exact hQ
set_option maxRecDepth 100000 in
theorem ct_L_cell {X : Xs} {κ : Kp} {M : Mem} {Q : Rs → Kp → Mem → Prop} {k : Nat} (hk : k < 1000) (hX : X.1 < 1000) (hQ : Q (.inl (some (.int (cellV X k)))) κ M) : Ct X m_L_cell [.ref 0, .int (nI k)] κ M Q := by
  refine ct_of B_L_cell_0 pn_L rfl (nle rfl) L_L_cell_0 ?_
  refine g_iload_n rfl ?_
  refine g_aload_n rfl ?_
  refine g_slen ?_
  refine g_icmp_ge rfl L_L_cell_12 (fun h_1 => ?_) (fun h_1 => ?_)
  · have hc : ¬ k < X.1 := fun q => absurd ((nI_leI (by omega) (by omega)).mp h_1) (by omega)
    refine g_ldc rfl kc_L_7 ?_
    refine g_iload_n rfl ?_
    refine g_sipush (v := 383) sk_383 ?_
    refine g_iadd ?_
    refine g_imul ?_
    refine g_fall rfl L_L_cell_20 ?_
    refine g_iret rfl (nle rfl) (nle rfl) ?_
    unfold cellV at hQ
    first | (rw [if_pos hc] at hQ; exact hQ) | (rw [if_neg hc] at hQ; exact hQ)
  · have hc : k < X.1 := Nat.not_le.mp (fun q => h_1 ((nI_leI (by omega) (by omega)).mpr q))
    refine g_aload_n rfl ?_
    refine g_iload_n rfl ?_
    refine g_sload (j := k) (by simp only [nI, Int32.ofNat_add, Int32.ofNat_mul] <;> rfl) hc (by omega) ?_
    refine g_goto rfl L_L_cell_20 ?_
    refine g_iret rfl (nle rfl) (nle rfl) ?_
    unfold cellV at hQ
    first | (rw [if_pos hc] at hQ; exact hQ) | (rw [if_neg hc] at hQ; exact hQ)
set_option maxRecDepth 100000 in
set_option maxHeartbeats 4000000 in
theorem lks_151 {X : Xs} {κ : Kp} {M : Mem} {Q : Rs → Kp → Mem → Prop} {o B nf nt nc nd : Nat} {s : Nat → Int32} (hx : IsDF κ.2.1 o) (hS : SF B M (o + 4) s) (hI : Inv B nf nt nc nd s) {h : Int64} (hQ : Q (.inl (some (.long (31 * (31 * hsh (fun k => teV s (k / 4) (k % 4)) (4 * nt) (h) + (s 11).toInt64) + (s 12).toInt64)))) κ M) : G X m_L_looks B_L_looks_151 151 [(0, some (.ref o)), (1, some (.long h))] [] 0 0 κ M Q := by
  have bf := hI.lf
  have bt' := hI.lt
  have bc := hI.lc
  have bn := hI.ld
  refine g_iconst (v := 0) ik_0 ?_
  refine g_istore_n (nle rfl) ?_
  refine g_fall rfl L_L_looks_153 ?_
  refine g_lo2 (lo' := [(0, some (.ref o)), (1, some (.long (hsh (fun k => teV s (k / 4) (k % 4)) 0 h))), (3, some (.int (nI 0)))]) ?_ ⟨rfl, rfl, rfl, trivial⟩
  refine loop_up (P := fun k => G X m_L_looks B_L_looks_153 153 [(0, some (.ref o)), (1, some (.long (hsh (fun k => teV s (k / 4) (k % 4)) k h))), (3, some (.int (nI k)))] [] 0 0 κ M Q) (4 * nt) (fun k hle_k ih_k => ?_) 0 (Nat.zero_le _)
  refine g_iload_n rfl ?_
  refine g_iconst (v := 4) ik_4 ?_
  refine g_aload_n rfl ?_
  refine g_iconst (v := 1) ik_1 ?_
  refine g_callV (as := [_]) mk_X7_about ml_L_13 im_X7_about se_X7_about rfl rfl ⟨⟨nle rfl, nle rfl⟩, nle rfl, nle rfl⟩ hx.1 rfl rfl rfl (nle rfl) ?_
  refine l_about hx hS (w := 1) (v := nI nt) (by decide) hI.t ?_
  refine kq_s ?_
  refine g_imul ?_
  refine g_icmp_ge rfl L_L_looks_188 (fun h_1 => ?_) (fun h_1 => ?_)
  · have hx_k := ((cmp_ge (c := (4 * nt)) (nI_mul 4 nt) (by omega) hle_k).1 h_1).symm
    subst hx_k
    refine g_ldc2 rfl kc_L_11 ?_
    refine g_ldc2 rfl kc_L_11 ?_
    refine g_lload_n rfl ?_
    refine g_lmul ?_
    refine g_aload_n rfl ?_
    refine g_iconst (v := 0) ik_0 ?_
    refine g_callV (as := [_]) mk_X7_setting ml_L_32 im_X7_setting se_X7_setting rfl rfl ⟨⟨nle rfl, nle rfl⟩, nle rfl, nle rfl⟩ hx.1 rfl rfl rfl (nle rfl) ?_
    refine l_setting hx hS (w := 0) (by decide) (v := s 11) rfl ?_
    refine kq_s ?_
    refine g_i2l ?_
    refine g_ladd ?_
    refine g_lmul ?_
    refine g_aload_n rfl ?_
    refine g_iconst (v := 1) ik_1 ?_
    refine g_callV (as := [_]) mk_X7_setting ml_L_32 im_X7_setting se_X7_setting rfl rfl ⟨⟨nle rfl, nle rfl⟩, nle rfl, nle rfl⟩ hx.1 rfl rfl rfl (nle rfl) ?_
    refine l_setting hx hS (w := 1) (by decide) (v := s 12) rfl ?_
    refine kq_s ?_
    refine g_i2l ?_
    refine g_ladd ?_
    refine g_lret rfl (nle rfl) (nle rfl) ?_
    exact hQ
  · have hlt_k : k < (4 * nt) := (cmp_ge (c := (4 * nt)) (nI_mul 4 nt) (by omega) hle_k).2 h_1
    refine g_ldc2 rfl kc_L_11 ?_
    refine g_lload_n rfl ?_
    refine g_lmul ?_
    refine g_aload_n rfl ?_
    refine g_iload_n rfl ?_
    refine g_iconst (v := 4) ik_4 ?_
    refine g_idiv (by decide) ?_
    rw [show nI (k) / 4 = nI (k / 4) from pk_div (d := 4) (by omega) (by omega) (by omega)]
    refine g_iload_n rfl ?_
    refine g_iconst (v := 4) ik_4 ?_
    refine g_irem (by decide) ?_
    rw [show nI (k) - nI (k) / 4 * 4 = nI (k % 4) from pk_rem (d := 4) (by omega) (by omega) (by omega)]
    refine g_callV (as := [_, _]) mk_X7_teacherOf ml_L_29 im_X7_teacherOf se_X7_teacherOf rfl rfl ⟨⟨nle rfl, nle rfl⟩, nle rfl, nle rfl⟩ hx.1 rfl rfl rfl (nle rfl) ?_
    refine l_teacherOf hx hS hI (k := (k / 4)) (w := (k % 4)) (v := teV s (k / 4) (k % 4)) (by omega) (by omega) rfl ?_
    refine kq_s ?_
    refine g_i2l ?_
    refine g_ladd ?_
    refine g_lstore_n (nle rfl) ?_
    refine g_iinc (v := nI (k + 1)) rfl (nI_inc _) (nle rfl) ?_
    refine g_goto rfl L_L_looks_153 ?_
    exact g_lo2 (ih_k hlt_k) ⟨rfl, rfl, rfl, trivial⟩
set_option maxRecDepth 100000 in
set_option maxHeartbeats 4000000 in
theorem lks_111 {X : Xs} {κ : Kp} {M : Mem} {Q : Rs → Kp → Mem → Prop} {o B nf nt nc nd : Nat} {s : Nat → Int32} (hx : IsDF κ.2.1 o) (hS : SF B M (o + 4) s) (hI : Inv B nf nt nc nd s) {h : Int64} (hQ : Q (.inl (some (.long (31 * (31 * hsh (fun k => teV s (k / 4) (k % 4)) (4 * nt) (hsh (fun k => flV s (k / 6) (k % 6)) (6 * nf) (h)) + (s 11).toInt64) + (s 12).toInt64)))) κ M) : G X m_L_looks B_L_looks_111 111 [(0, some (.ref o)), (1, some (.long h))] [] 0 0 κ M Q := by
  have bf := hI.lf
  have bt' := hI.lt
  have bc := hI.lc
  have bn := hI.ld
  refine g_iconst (v := 0) ik_0 ?_
  refine g_istore_n (nle rfl) ?_
  refine g_fall rfl L_L_looks_113 ?_
  refine g_lo2 (lo' := [(0, some (.ref o)), (1, some (.long (hsh (fun k => flV s (k / 6) (k % 6)) 0 h))), (3, some (.int (nI 0)))]) ?_ ⟨rfl, rfl, rfl, trivial⟩
  refine loop_up (P := fun k => G X m_L_looks B_L_looks_113 113 [(0, some (.ref o)), (1, some (.long (hsh (fun k => flV s (k / 6) (k % 6)) k h))), (3, some (.int (nI k)))] [] 0 0 κ M Q) (6 * nf) (fun k hle_k ih_k => ?_) 0 (Nat.zero_le _)
  refine g_iload_n rfl ?_
  refine g_bipush (v := 6) bk_6 ?_
  refine g_aload_n rfl ?_
  refine g_iconst (v := 0) ik_0 ?_
  refine g_callV (as := [_]) mk_X7_about ml_L_13 im_X7_about se_X7_about rfl rfl ⟨⟨nle rfl, nle rfl⟩, nle rfl, nle rfl⟩ hx.1 rfl rfl rfl (nle rfl) ?_
  refine l_about hx hS (w := 0) (v := nI nf) (by decide) hI.f ?_
  refine kq_s ?_
  refine g_imul ?_
  refine g_icmp_ge rfl L_L_looks_151 (fun h_1 => ?_) (fun h_1 => ?_)
  · have hx_k := ((cmp_ge (c := (6 * nf)) (nI_mul 6 nf) (by omega) hle_k).1 h_1).symm
    subst hx_k
    exact g_lo2 (lks_151 hx hS hI hQ) ⟨rfl, rfl, trivial⟩
  · have hlt_k : k < (6 * nf) := (cmp_ge (c := (6 * nf)) (nI_mul 6 nf) (by omega) hle_k).2 h_1
    refine g_ldc2 rfl kc_L_11 ?_
    refine g_lload_n rfl ?_
    refine g_lmul ?_
    refine g_aload_n rfl ?_
    refine g_iload_n rfl ?_
    refine g_bipush (v := 6) bk_6 ?_
    refine g_idiv (by decide) ?_
    rw [show nI (k) / 6 = nI (k / 6) from pk_div (d := 6) (by omega) (by omega) (by omega)]
    refine g_iload_n rfl ?_
    refine g_bipush (v := 6) bk_6 ?_
    refine g_irem (by decide) ?_
    rw [show nI (k) - nI (k) / 6 * 6 = nI (k % 6) from pk_rem (d := 6) (by omega) (by omega) (by omega)]
    refine g_callV (as := [_, _]) mk_X7_floorOf ml_L_26 im_X7_floorOf se_X7_floorOf rfl rfl ⟨⟨nle rfl, nle rfl⟩, nle rfl, nle rfl⟩ hx.1 rfl rfl rfl (nle rfl) ?_
    refine l_floorOf hx hS hI (k := (k / 6)) (w := (k % 6)) (v := flV s (k / 6) (k % 6)) (by omega) (by omega) rfl ?_
    refine kq_s ?_
    refine g_i2l ?_
    refine g_ladd ?_
    refine g_lstore_n (nle rfl) ?_
    refine g_iinc (v := nI (k + 1)) rfl (nI_inc _) (nle rfl) ?_
    refine g_goto rfl L_L_looks_113 ?_
    exact g_lo2 (ih_k hlt_k) ⟨rfl, rfl, rfl, trivial⟩
set_option maxRecDepth 100000 in
set_option maxHeartbeats 4000000 in
theorem lks_71 {X : Xs} {κ : Kp} {M : Mem} {Q : Rs → Kp → Mem → Prop} {o B nf nt nc nd : Nat} {s : Nat → Int32} (hx : IsDF κ.2.1 o) (hS : SF B M (o + 4) s) (hI : Inv B nf nt nc nd s) {h : Int64} (hQ : Q (.inl (some (.long (31 * (31 * hsh (fun k => teV s (k / 4) (k % 4)) (4 * nt) (hsh (fun k => flV s (k / 6) (k % 6)) (6 * nf) (hsh (fun k => daV s (k / 6) (k % 6)) (6 * nd) (h))) + (s 11).toInt64) + (s 12).toInt64)))) κ M) : G X m_L_looks B_L_looks_71 71 [(0, some (.ref o)), (1, some (.long h))] [] 0 0 κ M Q := by
  have bf := hI.lf
  have bt' := hI.lt
  have bc := hI.lc
  have bn := hI.ld
  refine g_iconst (v := 0) ik_0 ?_
  refine g_istore_n (nle rfl) ?_
  refine g_fall rfl L_L_looks_73 ?_
  refine g_lo2 (lo' := [(0, some (.ref o)), (1, some (.long (hsh (fun k => daV s (k / 6) (k % 6)) 0 h))), (3, some (.int (nI 0)))]) ?_ ⟨rfl, rfl, rfl, trivial⟩
  refine loop_up (P := fun k => G X m_L_looks B_L_looks_73 73 [(0, some (.ref o)), (1, some (.long (hsh (fun k => daV s (k / 6) (k % 6)) k h))), (3, some (.int (nI k)))] [] 0 0 κ M Q) (6 * nd) (fun k hle_k ih_k => ?_) 0 (Nat.zero_le _)
  refine g_iload_n rfl ?_
  refine g_bipush (v := 6) bk_6 ?_
  refine g_aload_n rfl ?_
  refine g_iconst (v := 3) ik_3 ?_
  refine g_callV (as := [_]) mk_X7_about ml_L_13 im_X7_about se_X7_about rfl rfl ⟨⟨nle rfl, nle rfl⟩, nle rfl, nle rfl⟩ hx.1 rfl rfl rfl (nle rfl) ?_
  refine l_about hx hS (w := 3) (v := nI nd) (by decide) hI.d ?_
  refine kq_s ?_
  refine g_imul ?_
  refine g_icmp_ge rfl L_L_looks_111 (fun h_1 => ?_) (fun h_1 => ?_)
  · have hx_k := ((cmp_ge (c := (6 * nd)) (nI_mul 6 nd) (by omega) hle_k).1 h_1).symm
    subst hx_k
    exact g_lo2 (lks_111 hx hS hI hQ) ⟨rfl, rfl, trivial⟩
  · have hlt_k : k < (6 * nd) := (cmp_ge (c := (6 * nd)) (nI_mul 6 nd) (by omega) hle_k).2 h_1
    refine g_ldc2 rfl kc_L_11 ?_
    refine g_lload_n rfl ?_
    refine g_lmul ?_
    refine g_aload_n rfl ?_
    refine g_iload_n rfl ?_
    refine g_bipush (v := 6) bk_6 ?_
    refine g_idiv (by decide) ?_
    rw [show nI (k) / 6 = nI (k / 6) from pk_div (d := 6) (by omega) (by omega) (by omega)]
    refine g_iload_n rfl ?_
    refine g_bipush (v := 6) bk_6 ?_
    refine g_irem (by decide) ?_
    rw [show nI (k) - nI (k) / 6 * 6 = nI (k % 6) from pk_rem (d := 6) (by omega) (by omega) (by omega)]
    refine g_callV (as := [_, _]) mk_X7_dancerOf ml_L_23 im_X7_dancerOf se_X7_dancerOf rfl rfl ⟨⟨nle rfl, nle rfl⟩, nle rfl, nle rfl⟩ hx.1 rfl rfl rfl (nle rfl) ?_
    refine l_dancerOf hx hS hI (k := (k / 6)) (w := (k % 6)) (v := daV s (k / 6) (k % 6)) (by omega) (by omega) rfl ?_
    refine kq_s ?_
    refine g_i2l ?_
    refine g_ladd ?_
    refine g_lstore_n (nle rfl) ?_
    refine g_iinc (v := nI (k + 1)) rfl (nI_inc _) (nle rfl) ?_
    refine g_goto rfl L_L_looks_73 ?_
    exact g_lo2 (ih_k hlt_k) ⟨rfl, rfl, rfl, trivial⟩
set_option maxRecDepth 100000 in
set_option maxHeartbeats 4000000 in
theorem lks_31 {X : Xs} {κ : Kp} {M : Mem} {Q : Rs → Kp → Mem → Prop} {o B nf nt nc nd : Nat} {s : Nat → Int32} (hx : IsDF κ.2.1 o) (hS : SF B M (o + 4) s) (hI : Inv B nf nt nc nd s) {h : Int64} (hQ : Q (.inl (some (.long (31 * (31 * hsh (fun k => teV s (k / 4) (k % 4)) (4 * nt) (hsh (fun k => flV s (k / 6) (k % 6)) (6 * nf) (hsh (fun k => daV s (k / 6) (k % 6)) (6 * nd) (hsh (fun k => clV s (k / 10) (k % 10)) (10 * nc) (h)))) + (s 11).toInt64) + (s 12).toInt64)))) κ M) : G X m_L_looks B_L_looks_31 31 [(0, some (.ref o)), (1, some (.long h))] [] 0 0 κ M Q := by
  have bf := hI.lf
  have bt' := hI.lt
  have bc := hI.lc
  have bn := hI.ld
  refine g_iconst (v := 0) ik_0 ?_
  refine g_istore_n (nle rfl) ?_
  refine g_fall rfl L_L_looks_33 ?_
  refine g_lo2 (lo' := [(0, some (.ref o)), (1, some (.long (hsh (fun k => clV s (k / 10) (k % 10)) 0 h))), (3, some (.int (nI 0)))]) ?_ ⟨rfl, rfl, rfl, trivial⟩
  refine loop_up (P := fun k => G X m_L_looks B_L_looks_33 33 [(0, some (.ref o)), (1, some (.long (hsh (fun k => clV s (k / 10) (k % 10)) k h))), (3, some (.int (nI k)))] [] 0 0 κ M Q) (10 * nc) (fun k hle_k ih_k => ?_) 0 (Nat.zero_le _)
  refine g_iload_n rfl ?_
  refine g_bipush (v := 10) bk_10 ?_
  refine g_aload_n rfl ?_
  refine g_iconst (v := 2) ik_2 ?_
  refine g_callV (as := [_]) mk_X7_about ml_L_13 im_X7_about se_X7_about rfl rfl ⟨⟨nle rfl, nle rfl⟩, nle rfl, nle rfl⟩ hx.1 rfl rfl rfl (nle rfl) ?_
  refine l_about hx hS (w := 2) (v := nI nc) (by decide) hI.c ?_
  refine kq_s ?_
  refine g_imul ?_
  refine g_icmp_ge rfl L_L_looks_71 (fun h_1 => ?_) (fun h_1 => ?_)
  · have hx_k := ((cmp_ge (c := (10 * nc)) (nI_mul 10 nc) (by omega) hle_k).1 h_1).symm
    subst hx_k
    exact g_lo2 (lks_71 hx hS hI hQ) ⟨rfl, rfl, trivial⟩
  · have hlt_k : k < (10 * nc) := (cmp_ge (c := (10 * nc)) (nI_mul 10 nc) (by omega) hle_k).2 h_1
    refine g_ldc2 rfl kc_L_11 ?_
    refine g_lload_n rfl ?_
    refine g_lmul ?_
    refine g_aload_n rfl ?_
    refine g_iload_n rfl ?_
    refine g_bipush (v := 10) bk_10 ?_
    refine g_idiv (by decide) ?_
    rw [show nI (k) / 10 = nI (k / 10) from pk_div (d := 10) (by omega) (by omega) (by omega)]
    refine g_iload_n rfl ?_
    refine g_bipush (v := 10) bk_10 ?_
    refine g_irem (by decide) ?_
    rw [show nI (k) - nI (k) / 10 * 10 = nI (k % 10) from pk_rem (d := 10) (by omega) (by omega) (by omega)]
    refine g_callV (as := [_, _]) mk_X7_classOf ml_L_19 im_X7_classOf se_X7_classOf rfl rfl ⟨⟨nle rfl, nle rfl⟩, nle rfl, nle rfl⟩ hx.1 rfl rfl rfl (nle rfl) ?_
    refine l_classOf hx hS hI (k := (k / 10)) (w := (k % 10)) (v := clV s (k / 10) (k % 10)) (by omega) (by omega) rfl ?_
    refine kq_s ?_
    refine g_i2l ?_
    refine g_ladd ?_
    refine g_lstore_n (nle rfl) ?_
    refine g_iinc (v := nI (k + 1)) rfl (nI_inc _) (nle rfl) ?_
    refine g_goto rfl L_L_looks_33 ?_
    exact g_lo2 (ih_k hlt_k) ⟨rfl, rfl, rfl, trivial⟩
set_option maxRecDepth 100000 in
set_option maxHeartbeats 4000000 in
theorem ct_L_looks {X : Xs} {κ : Kp} {M : Mem} {Q : Rs → Kp → Mem → Prop} {o B nf nt nc nd : Nat} {s : Nat → Int32} (hx : IsDF κ.2.1 o) (hS : SF B M (o + 4) s) (hI : Inv B nf nt nc nd s) (hQ : Q (.inl (some (.long (lkF s)))) κ M) : Ct X m_L_looks [.ref o] κ M Q := by
  refine ct_of B_L_looks_0 pn_L rfl (nle rfl) L_L_looks_0 ?_
  have bf := hI.lf
  have bt' := hI.lt
  have bc := hI.lc
  have bn := hI.ld
  unfold lkF at hQ
  rw [hI.n0, hI.n1, hI.n2, hI.n3] at hQ
  refine g_ldc2 rfl kc_L_9 ?_
  refine g_lstore_n (nle rfl) ?_
  refine g_iconst (v := 0) ik_0 ?_
  refine g_istore_n (nle rfl) ?_
  refine g_fall rfl L_L_looks_6 ?_
  refine g_lo2 (lo' := [(0, some (.ref o)), (1, some (.long (hsh (fun w => abV s w) 0 173))), (3, some (.int (nI 0)))]) ?_ ⟨rfl, rfl, rfl, trivial⟩
  refine loop_up (P := fun k => G X m_L_looks B_L_looks_6 6 [(0, some (.ref o)), (1, some (.long (hsh (fun w => abV s w) k 173))), (3, some (.int (nI k)))] [] 0 0 κ M Q) 12 (fun k hle_k ih_k => ?_) 0 (Nat.zero_le _)
  refine g_iload_n rfl ?_
  refine g_bipush (v := 12) bk_12 ?_
  refine g_icmp_ge rfl L_L_looks_31 (fun h_1 => ?_) (fun h_1 => ?_)
  · have hx_k := ((cmp_ge (c := 12) rfl (nle rfl) hle_k).1 h_1).symm
    subst hx_k
    exact g_lo2 (lks_31 hx hS hI hQ) ⟨rfl, rfl, trivial⟩
  · have hlt_k : k < 12 := (cmp_ge (c := 12) rfl (nle rfl) hle_k).2 h_1
    refine g_ldc2 rfl kc_L_11 ?_
    refine g_lload_n rfl ?_
    refine g_lmul ?_
    refine g_aload_n rfl ?_
    refine g_iload_n rfl ?_
    refine g_callV (as := [_]) mk_X7_about ml_L_13 im_X7_about se_X7_about rfl rfl ⟨⟨nle rfl, nle rfl⟩, nle rfl, nle rfl⟩ hx.1 rfl rfl rfl (nle rfl) ?_
    refine l_about hx hS (w := k) (v := abV s k) (by omega) rfl ?_
    refine kq_s ?_
    refine g_i2l ?_
    refine g_ladd ?_
    refine g_lstore_n (nle rfl) ?_
    refine g_iinc (v := nI (k + 1)) rfl (nI_inc _) (nle rfl) ?_
    refine g_goto rfl L_L_looks_6 ?_
    exact g_lo2 (ih_k hlt_k) ⟨rfl, rfl, rfl, trivial⟩
