theorem upd_same {f : Nat → Int32} {k : Nat} {x : Int32} : upd f k x k = x := pk_us
theorem clsN_2 {nd k : Nat} {s : Nat → Int32} : clsN nd k s 2 = s 2 := clsN_low (Or.inl (by decide)) k s
theorem clsN_3 {nd k : Nat} {s : Nat → Int32} : clsN nd k s 3 = s 3 := clsN_low (Or.inl (by decide)) k s
theorem clsN_11 {nd k : Nat} {s : Nat → Int32} : clsN nd k s 11 = s 11 := clsN_low (Or.inr (Or.inl rfl)) k s
theorem clsN_12 {nd k : Nat} {s : Nat → Int32} : clsN nd k s 12 = s 12 := clsN_low (Or.inr (Or.inr rfl)) k s
theorem dnN_3 {w : Int32} {k d : Nat} {s : Nat → Int32} : dnN w k d s 3 = s 3 := dnN_low (Or.inl (by decide)) d s
theorem holdS_3 {k : Nat} {s : Nat → Int32} : holdS s k 3 = s 3 := holdS_low (Or.inl (by decide))
theorem riseN_3 {d : Nat} {s : Nat → Int32} : riseN d s 3 = s 3 := riseN_low (Or.inl (by decide)) d s
theorem riseN_12 {d : Nat} {s : Nat → Int32} : riseN d s 12 = s 12 := riseN_low (Or.inr (Or.inr rfl)) d s
theorem clsN_no {nd k : Nat} {s : Nat → Int32} (h : bitsI (comI (clsN nd k s) k nd) < (clsN nd k s) 11) : clsN nd (k + 1) s = upd (clsN nd k s) 8 (clsN nd k s 8 + 1) ∧ hldN nd (k + 1) s = hldN nd k s := ⟨if_pos h, if_pos h⟩
theorem clsN_ye {nd k : Nat} {s : Nat → Int32} (h : ¬ bitsI (comI (clsN nd k s) k nd) < (clsN nd k s) 11) : clsN nd (k + 1) s = dnN (comI (clsN nd k s) k nd) k nd (holdS (clsN nd k s) k) ∧ hldN nd (k + 1) s = (hldN nd k s ||| (1 <<< (nI k &&& 31))) := ⟨if_neg h, if_neg h⟩
def flS (s : Nat → Int32) (n : Nat) (a b c d : Int32) : Nat → Int32 := upd (upd (upd (upd (upd s (13 + 4 * n) a) (13 + 4 * n + 1) b) (13 + 4 * n + 2) c) (13 + 4 * n + 3) d) 0 (nI (n + 1))
def teS (s : Nat → Int32) (n : Nat) (a b : Int32) : Nat → Int32 := upd (upd (upd s (29 + 2 * n) a) (29 + 2 * n + 1) b) 1 (nI (n + 1))
def clS (s : Nat → Int32) (n : Nat) (a b c d e f : Int32) : Nat → Int32 := upd (upd (upd (upd (upd (upd (upd (upd (upd (upd s (39 + 9 * n) a) (39 + 9 * n + 1) b) (39 + 9 * n + 2) c) (39 + 9 * n + 3) d) (39 + 9 * n + 4) e) (39 + 9 * n + 5) f) (39 + 9 * n + 6) 0) (39 + 9 * n + 7) 0) (39 + 9 * n + 8) 0) 2 (nI (n + 1))
def daS (s : Nat → Int32) (n : Nat) : Nat → Int32 := upd (fun j => if j = 129 + 5 * n then 1 else if 129 + 5 * n < j ∧ j < 129 + 5 * n + 5 then 0 else s j) 3 (nI (n + 1))
def paS (s : Nat → Int32) (d : Nat) : Nat → Int32 :=
  let a := upd s (129 + 5 * d + 2) (s (129 + 5 * d + 2) + 10)
  let b := upd a (129 + 5 * d + 4) (a (129 + 5 * d + 4) + 1)
  upd b 5 (b 5 + 1)
def enS (s : Nat → Int32) (d : Int32) (k : Nat) : Nat → Int32 := upd s (39 + 9 * k + 8) (s (39 + 9 * k + 8) + 1 <<< (d &&& 31))
def leS (s : Nat → Int32) (d : Int32) (k : Nat) : Nat → Int32 := upd s (39 + 9 * k + 8) (s (39 + 9 * k + 8) + -(1 <<< (d &&& 31)))
def drS (s : Nat → Int32) (n k : Nat) : Nat → Int32 :=
  let a := upd s 10 (s 10 + s (39 + 9 * k + 7))
  let b := upd a 2 (nI (n - 1))
  fun j => if 39 + 9 * k ≤ j ∧ j < 39 + 9 * (n - 1) then b (j + 9) else b j
def neS (s : Nat → Int32) : Nat → Int32 := upd (upd (fun j => if j < 189 then 0 else s j) 11 2) 12 12
set_option maxRecDepth 100000 in
set_option maxHeartbeats 4000000 in
theorem ct_X8_floors {X : Xs} {κ : Kp} {M : Mem} {Q : Rs → Kp → Mem → Prop} {m : Nat} (hm : IsMod κ.2.1 m) {nf : Nat} (h0 : M (m + 1) 0 = nI nf) (hnf : nf ≤ 4) {a b c d : Int32} (hlt : nf < 4) (hQ : Q (.inl (some (.int (nI nf)))) κ (sR M (m + 1) (flS (M (m + 1)) nf a b c d))) : Ct X m_X8_floors [.ref m, .int a, .int b, .int c, .int d] κ M Q := by
  refine ct_of B_X8_floors_0 pn_X8 rfl (nle rfl) L_X8_floors_0 ?_
  refine g_bipush (v := 13) bk_13 ?_
  refine g_iconst (v := 4) ik_4 ?_
  refine g_aload_n rfl ?_
  refine g_getR (w := (m + 1)) fl_X8_7 rfl hm.1 rfl ?_
  refine g_iconst (v := 0) ik_0 ?_
  refine g_iaload (j := 0) hm.2.1 rfl (nle rfl) (nle rfl) ?_
  simp (disch := omega) only [upM_sR, sR_s, sR_sR, upd_ne, upd_same, h0]
  refine g_imul ?_
  refine g_iadd ?_
  refine g_istore (nle rfl) ?_
  refine g_aload_n rfl ?_
  refine g_getR (w := (m + 1)) fl_X8_7 rfl hm.1 rfl ?_
  refine g_iload rfl ?_
  refine g_iload_n rfl ?_
  refine g_iastore (j := (13 + (4 * nf))) hm.2.1 (by simp only [nI, Int32.ofNat_add, Int32.ofNat_mul] <;> rfl) (by omega) (nle rfl) ?_
  refine g_aload_n rfl ?_
  refine g_getR (w := (m + 1)) fl_X8_7 rfl hm.1 rfl ?_
  refine g_iload rfl ?_
  refine g_iconst (v := 1) ik_1 ?_
  refine g_iadd ?_
  refine g_iload_n rfl ?_
  refine g_iastore (j := ((13 + (4 * nf)) + 1)) hm.2.1 (by simp only [nI, Int32.ofNat_add, Int32.ofNat_mul] <;> rfl) (by omega) (nle rfl) ?_
  refine g_aload_n rfl ?_
  refine g_getR (w := (m + 1)) fl_X8_7 rfl hm.1 rfl ?_
  refine g_iload rfl ?_
  refine g_iconst (v := 2) ik_2 ?_
  refine g_iadd ?_
  refine g_iload_n rfl ?_
  refine g_iastore (j := ((13 + (4 * nf)) + 2)) hm.2.1 (by simp only [nI, Int32.ofNat_add, Int32.ofNat_mul] <;> rfl) (by omega) (nle rfl) ?_
  refine g_aload_n rfl ?_
  refine g_getR (w := (m + 1)) fl_X8_7 rfl hm.1 rfl ?_
  refine g_iload rfl ?_
  refine g_iconst (v := 3) ik_3 ?_
  refine g_iadd ?_
  refine g_iload rfl ?_
  refine g_iastore (j := ((13 + (4 * nf)) + 3)) hm.2.1 (by simp only [nI, Int32.ofNat_add, Int32.ofNat_mul] <;> rfl) (by omega) (nle rfl) ?_
  refine g_aload_n rfl ?_
  refine g_getR (w := (m + 1)) fl_X8_7 rfl hm.1 rfl ?_
  refine g_iconst (v := 0) ik_0 ?_
  refine g_dup2 rfl rfl ?_
  refine g_iaload (j := 0) hm.2.1 rfl (nle rfl) (nle rfl) ?_
  simp (disch := omega) only [upM_sR, sR_s, sR_sR, upd_ne, upd_same, h0]
  refine g_iconst (v := 1) ik_1 ?_
  refine g_iadd ?_
  refine g_iastore (j := 0) hm.2.1 rfl (nle rfl) (nle rfl) ?_
  refine g_aload_n rfl ?_
  refine g_getR (w := (m + 1)) fl_X8_7 rfl hm.1 rfl ?_
  refine g_iconst (v := 0) ik_0 ?_
  refine g_iaload (j := 0) hm.2.1 rfl (nle rfl) (nle rfl) ?_
  simp (disch := omega) only [upM_sR, sR_s, sR_sR, upd_ne, upd_same, h0]
  refine g_iconst (v := 1) ik_1 ?_
  refine g_isub ?_
  refine g_iret rfl (nle rfl) (nle rfl) ?_
  refine qeq hQ ?_ ?_
  · clear hQ; simp (disch := omega) only [upM_sR, sR_s, sR_sR, upd_ne, upd_same, h0, nI_1, nI_pred]
  · clear hQ; simp (disch := omega) only [upM_sR, sR_s, sR_sR, upd_ne, upd_same, h0, nI_1, flS]
set_option maxRecDepth 100000 in
set_option maxHeartbeats 4000000 in
theorem ct_X8_teachers {X : Xs} {κ : Kp} {M : Mem} {Q : Rs → Kp → Mem → Prop} {m : Nat} (hm : IsMod κ.2.1 m) {nt : Nat} (h1 : M (m + 1) 1 = nI nt) (hnt : nt ≤ 5) {a b : Int32} (hlt : nt < 5) (hQ : Q (.inl (some (.int (nI nt)))) κ (sR M (m + 1) (teS (M (m + 1)) nt a b))) : Ct X m_X8_teachers [.ref m, .int a, .int b] κ M Q := by
  refine ct_of B_X8_teachers_0 pn_X8 rfl (nle rfl) L_X8_teachers_0 ?_
  refine g_aload_n rfl ?_
  refine g_getR (w := (m + 1)) fl_X8_7 rfl hm.1 rfl ?_
  refine g_bipush (v := 29) bk_29 ?_
  refine g_iconst (v := 2) ik_2 ?_
  refine g_aload_n rfl ?_
  refine g_getR (w := (m + 1)) fl_X8_7 rfl hm.1 rfl ?_
  refine g_iconst (v := 1) ik_1 ?_
  refine g_iaload (j := 1) hm.2.1 rfl (nle rfl) (nle rfl) ?_
  simp (disch := omega) only [upM_sR, sR_s, sR_sR, upd_ne, upd_same, h1]
  refine g_imul ?_
  refine g_iadd ?_
  refine g_iload_n rfl ?_
  refine g_iastore (j := (29 + (2 * nt))) hm.2.1 (by simp only [nI, Int32.ofNat_add, Int32.ofNat_mul] <;> rfl) (by omega) (nle rfl) ?_
  refine g_aload_n rfl ?_
  refine g_getR (w := (m + 1)) fl_X8_7 rfl hm.1 rfl ?_
  refine g_bipush (v := 29) bk_29 ?_
  refine g_iconst (v := 2) ik_2 ?_
  refine g_aload_n rfl ?_
  refine g_getR (w := (m + 1)) fl_X8_7 rfl hm.1 rfl ?_
  refine g_iconst (v := 1) ik_1 ?_
  refine g_iaload (j := 1) hm.2.1 rfl (nle rfl) (nle rfl) ?_
  simp (disch := omega) only [upM_sR, sR_s, sR_sR, upd_ne, upd_same, h1]
  refine g_imul ?_
  refine g_iadd ?_
  refine g_iconst (v := 1) ik_1 ?_
  refine g_iadd ?_
  refine g_iload_n rfl ?_
  refine g_iastore (j := ((29 + (2 * nt)) + 1)) hm.2.1 (by simp only [nI, Int32.ofNat_add, Int32.ofNat_mul] <;> rfl) (by omega) (nle rfl) ?_
  refine g_aload_n rfl ?_
  refine g_getR (w := (m + 1)) fl_X8_7 rfl hm.1 rfl ?_
  refine g_iconst (v := 1) ik_1 ?_
  refine g_dup2 rfl rfl ?_
  refine g_iaload (j := 1) hm.2.1 rfl (nle rfl) (nle rfl) ?_
  simp (disch := omega) only [upM_sR, sR_s, sR_sR, upd_ne, upd_same, h1]
  refine g_iconst (v := 1) ik_1 ?_
  refine g_iadd ?_
  refine g_iastore (j := 1) hm.2.1 rfl (nle rfl) (nle rfl) ?_
  refine g_aload_n rfl ?_
  refine g_getR (w := (m + 1)) fl_X8_7 rfl hm.1 rfl ?_
  refine g_iconst (v := 1) ik_1 ?_
  refine g_iaload (j := 1) hm.2.1 rfl (nle rfl) (nle rfl) ?_
  simp (disch := omega) only [upM_sR, sR_s, sR_sR, upd_ne, upd_same, h1]
  refine g_iconst (v := 1) ik_1 ?_
  refine g_isub ?_
  refine g_iret rfl (nle rfl) (nle rfl) ?_
  refine qeq hQ ?_ ?_
  · clear hQ; simp (disch := omega) only [upM_sR, sR_s, sR_sR, upd_ne, upd_same, h1, nI_1, nI_pred]
  · clear hQ; simp (disch := omega) only [upM_sR, sR_s, sR_sR, upd_ne, upd_same, h1, nI_1, teS]
set_option maxRecDepth 100000 in
set_option maxHeartbeats 4000000 in
theorem ct_X8_sets {X : Xs} {κ : Kp} {M : Mem} {Q : Rs → Kp → Mem → Prop} {m : Nat} (hm : IsMod κ.2.1 m) {nc : Nat} (h2 : M (m + 1) 2 = nI nc) (hnc : nc ≤ 10) {a b c d e f : Int32} (hlt : nc < 10) (hQ : Q (.inl none) κ (sR M (m + 1) (clS (M (m + 1)) nc a b c d e f))) : Ct X m_X8_sets [.ref m, .int a, .int b, .int c, .int d, .int e, .int f] κ M Q := by
  refine ct_of B_X8_sets_0 pn_X8 rfl (nle rfl) L_X8_sets_0 ?_
  refine g_bipush (v := 39) bk_39 ?_
  refine g_bipush (v := 9) bk_9 ?_
  refine g_aload_n rfl ?_
  refine g_getR (w := (m + 1)) fl_X8_7 rfl hm.1 rfl ?_
  refine g_iconst (v := 2) ik_2 ?_
  refine g_iaload (j := 2) hm.2.1 rfl (nle rfl) (nle rfl) ?_
  simp (disch := omega) only [upM_sR, sR_s, sR_sR, upd_ne, upd_same, h2]
  refine g_imul ?_
  refine g_iadd ?_
  refine g_istore (nle rfl) ?_
  refine g_aload_n rfl ?_
  refine g_getR (w := (m + 1)) fl_X8_7 rfl hm.1 rfl ?_
  refine g_iload rfl ?_
  refine g_iload_n rfl ?_
  refine g_iastore (j := (39 + (9 * nc))) hm.2.1 (by simp only [nI, Int32.ofNat_add, Int32.ofNat_mul] <;> rfl) (by omega) (nle rfl) ?_
  refine g_aload_n rfl ?_
  refine g_getR (w := (m + 1)) fl_X8_7 rfl hm.1 rfl ?_
  refine g_iload rfl ?_
  refine g_iconst (v := 1) ik_1 ?_
  refine g_iadd ?_
  refine g_iload_n rfl ?_
  refine g_iastore (j := ((39 + (9 * nc)) + 1)) hm.2.1 (by simp only [nI, Int32.ofNat_add, Int32.ofNat_mul] <;> rfl) (by omega) (nle rfl) ?_
  refine g_aload_n rfl ?_
  refine g_getR (w := (m + 1)) fl_X8_7 rfl hm.1 rfl ?_
  refine g_iload rfl ?_
  refine g_iconst (v := 2) ik_2 ?_
  refine g_iadd ?_
  refine g_iload_n rfl ?_
  refine g_iastore (j := ((39 + (9 * nc)) + 2)) hm.2.1 (by simp only [nI, Int32.ofNat_add, Int32.ofNat_mul] <;> rfl) (by omega) (nle rfl) ?_
  refine g_aload_n rfl ?_
  refine g_getR (w := (m + 1)) fl_X8_7 rfl hm.1 rfl ?_
  refine g_iload rfl ?_
  refine g_iconst (v := 3) ik_3 ?_
  refine g_iadd ?_
  refine g_iload rfl ?_
  refine g_iastore (j := ((39 + (9 * nc)) + 3)) hm.2.1 (by simp only [nI, Int32.ofNat_add, Int32.ofNat_mul] <;> rfl) (by omega) (nle rfl) ?_
  refine g_aload_n rfl ?_
  refine g_getR (w := (m + 1)) fl_X8_7 rfl hm.1 rfl ?_
  refine g_iload rfl ?_
  refine g_iconst (v := 4) ik_4 ?_
  refine g_iadd ?_
  refine g_iload rfl ?_
  refine g_iastore (j := ((39 + (9 * nc)) + 4)) hm.2.1 (by simp only [nI, Int32.ofNat_add, Int32.ofNat_mul] <;> rfl) (by omega) (nle rfl) ?_
  refine g_aload_n rfl ?_
  refine g_getR (w := (m + 1)) fl_X8_7 rfl hm.1 rfl ?_
  refine g_iload rfl ?_
  refine g_iconst (v := 5) ik_5 ?_
  refine g_iadd ?_
  refine g_iload rfl ?_
  refine g_iastore (j := ((39 + (9 * nc)) + 5)) hm.2.1 (by simp only [nI, Int32.ofNat_add, Int32.ofNat_mul] <;> rfl) (by omega) (nle rfl) ?_
  refine g_aload_n rfl ?_
  refine g_getR (w := (m + 1)) fl_X8_7 rfl hm.1 rfl ?_
  refine g_iload rfl ?_
  refine g_bipush (v := 6) bk_6 ?_
  refine g_iadd ?_
  refine g_iconst (v := 0) ik_0 ?_
  refine g_iastore (j := ((39 + (9 * nc)) + 6)) hm.2.1 (by simp only [nI, Int32.ofNat_add, Int32.ofNat_mul] <;> rfl) (by omega) (nle rfl) ?_
  refine g_aload_n rfl ?_
  refine g_getR (w := (m + 1)) fl_X8_7 rfl hm.1 rfl ?_
  refine g_iload rfl ?_
  refine g_bipush (v := 7) bk_7 ?_
  refine g_iadd ?_
  refine g_iconst (v := 0) ik_0 ?_
  refine g_iastore (j := ((39 + (9 * nc)) + 7)) hm.2.1 (by simp only [nI, Int32.ofNat_add, Int32.ofNat_mul] <;> rfl) (by omega) (nle rfl) ?_
  refine g_aload_n rfl ?_
  refine g_getR (w := (m + 1)) fl_X8_7 rfl hm.1 rfl ?_
  refine g_iload rfl ?_
  refine g_bipush (v := 8) bk_8 ?_
  refine g_iadd ?_
  refine g_iconst (v := 0) ik_0 ?_
  refine g_iastore (j := ((39 + (9 * nc)) + 8)) hm.2.1 (by simp only [nI, Int32.ofNat_add, Int32.ofNat_mul] <;> rfl) (by omega) (nle rfl) ?_
  refine g_aload_n rfl ?_
  refine g_getR (w := (m + 1)) fl_X8_7 rfl hm.1 rfl ?_
  refine g_iconst (v := 2) ik_2 ?_
  refine g_dup2 rfl rfl ?_
  refine g_iaload (j := 2) hm.2.1 rfl (nle rfl) (nle rfl) ?_
  simp (disch := omega) only [upM_sR, sR_s, sR_sR, upd_ne, upd_same, h2]
  refine g_iconst (v := 1) ik_1 ?_
  refine g_iadd ?_
  refine g_iastore (j := 2) hm.2.1 rfl (nle rfl) (nle rfl) ?_
  refine g_vret rfl (nle rfl) (nle rfl) ?_
  refine qeqv hQ ?_
  clear hQ; simp (disch := omega) only [upM_sR, sR_s, sR_sR, upd_ne, upd_same, h2, nI_1, clS]
set_option maxRecDepth 100000 in
set_option maxHeartbeats 4000000 in
theorem ct_X8_passes {X : Xs} {κ : Kp} {M : Mem} {Q : Rs → Kp → Mem → Prop} {m : Nat} (hm : IsMod κ.2.1 m) {dI : Int32} (d : Nat) (hd : dI = nI d) (hd2 : d < 12) (hQ : Q (.inl (some (.int (paS (M (m + 1)) d (129 + 5 * d + 2))))) κ (sR M (m + 1) (paS (M (m + 1)) d))) : Ct X m_X8_passes [.ref m, .int dI] κ M Q := by
  refine ct_of B_X8_passes_0 pn_X8 rfl (nle rfl) L_X8_passes_0 ?_
  subst hd
  refine g_aload_n rfl ?_
  refine g_sipush (v := 129) sk_129 ?_
  refine g_iconst (v := 5) ik_5 ?_
  refine g_iload_n rfl ?_
  refine g_imul ?_
  refine g_iadd ?_
  refine g_iconst (v := 2) ik_2 ?_
  refine g_iadd ?_
  refine g_bipush (v := 10) bk_10 ?_
  refine g_callV (as := [_, _]) mk_X8_adds ml_X8_66 im_X8_adds se_X8_adds rfl rfl ⟨⟨nle rfl, nle rfl⟩, nle rfl, nle rfl⟩ hm.1 rfl rfl rfl (nle rfl) ?_
  refine ct_X8_adds hm ((129 + (5 * d)) + 2) (by simp only [nI, Int32.ofNat_add, Int32.ofNat_mul] <;> rfl) (by omega) ?_
  refine kq_n ?_
  refine g_aload_n rfl ?_
  refine g_sipush (v := 129) sk_129 ?_
  refine g_iconst (v := 5) ik_5 ?_
  refine g_iload_n rfl ?_
  refine g_imul ?_
  refine g_iadd ?_
  refine g_iconst (v := 4) ik_4 ?_
  refine g_iadd ?_
  refine g_iconst (v := 1) ik_1 ?_
  refine g_callV (as := [_, _]) mk_X8_adds ml_X8_66 im_X8_adds se_X8_adds rfl rfl ⟨⟨nle rfl, nle rfl⟩, nle rfl, nle rfl⟩ hm.1 rfl rfl rfl (nle rfl) ?_
  refine ct_X8_adds hm ((129 + (5 * d)) + 4) (by simp only [nI, Int32.ofNat_add, Int32.ofNat_mul] <;> rfl) (by omega) ?_
  refine kq_n ?_
  refine g_aload_n rfl ?_
  refine g_getR (w := (m + 1)) fl_X8_7 rfl hm.1 rfl ?_
  refine g_iconst (v := 5) ik_5 ?_
  refine g_dup2 rfl rfl ?_
  refine g_iaload (j := 5) hm.2.1 rfl (nle rfl) (nle rfl) ?_
  refine g_iconst (v := 1) ik_1 ?_
  refine g_iadd ?_
  refine g_iastore (j := 5) hm.2.1 rfl (nle rfl) (nle rfl) ?_
  refine g_aload_n rfl ?_
  refine g_iload_n rfl ?_
  refine g_iconst (v := 2) ik_2 ?_
  refine g_callV (as := [_, _]) mk_X8_ofDancer ml_X8_57 im_X8_ofDancer se_X8_ofDancer rfl rfl ⟨⟨nle rfl, nle rfl⟩, nle rfl, nle rfl⟩ hm.1 rfl rfl rfl (nle rfl) ?_
  refine ct_X8_ofDancer hm d 2 rfl rfl (by omega) ?_
  refine kq_s ?_
  refine g_iret rfl (nle rfl) (nle rfl) ?_
  refine qeq hQ ?_ ?_
  · clear hQ; simp only [upM_sR, sR_s, sR_sR, paS]
  · clear hQ; simp only [upM_sR, sR_s, sR_sR, paS]
set_option maxRecDepth 100000 in
set_option maxHeartbeats 4000000 in
theorem ct_X8_enters {X : Xs} {κ : Kp} {M : Mem} {Q : Rs → Kp → Mem → Prop} {m : Nat} (hm : IsMod κ.2.1 m) {dI kI : Int32} (k : Nat) (hk : kI = nI k) (hk2 : k < 10) (hQ : Q (.inl none) κ (sR M (m + 1) (enS (M (m + 1)) dI k))) : Ct X m_X8_enters [.ref m, .int dI, .int kI] κ M Q := by
  refine ct_of B_X8_enters_0 pn_X8 rfl (nle rfl) L_X8_enters_0 ?_
  subst hk
  refine g_aload_n rfl ?_
  refine g_bipush (v := 39) bk_39 ?_
  refine g_bipush (v := 9) bk_9 ?_
  refine g_iload_n rfl ?_
  refine g_imul ?_
  refine g_iadd ?_
  refine g_bipush (v := 8) bk_8 ?_
  refine g_iadd ?_
  refine g_iconst (v := 1) ik_1 ?_
  refine g_iload_n rfl ?_
  refine g_ishl ?_
  refine g_callV (as := [_, _]) mk_X8_adds ml_X8_66 im_X8_adds se_X8_adds rfl rfl ⟨⟨nle rfl, nle rfl⟩, nle rfl, nle rfl⟩ hm.1 rfl rfl rfl (nle rfl) ?_
  refine ct_X8_adds hm ((39 + (9 * k)) + 8) (by simp only [nI, Int32.ofNat_add, Int32.ofNat_mul] <;> rfl) (by omega) ?_
  refine kq_n ?_
  refine g_vret rfl (nle rfl) (nle rfl) ?_
  exact hQ
set_option maxRecDepth 100000 in
set_option maxHeartbeats 4000000 in
theorem ct_X8_leaves {X : Xs} {κ : Kp} {M : Mem} {Q : Rs → Kp → Mem → Prop} {m : Nat} (hm : IsMod κ.2.1 m) {dI kI : Int32} (k : Nat) (hk : kI = nI k) (hk2 : k < 10) (hQ : Q (.inl (some (.int (bitsI (leS (M (m + 1)) dI k (39 + 9 * k + 8)))))) κ (sR M (m + 1) (leS (M (m + 1)) dI k))) : Ct X m_X8_leaves [.ref m, .int dI, .int kI] κ M Q := by
  refine ct_of B_X8_leaves_0 pn_X8 rfl (nle rfl) L_X8_leaves_0 ?_
  subst hk
  refine g_aload_n rfl ?_
  refine g_bipush (v := 39) bk_39 ?_
  refine g_bipush (v := 9) bk_9 ?_
  refine g_iload_n rfl ?_
  refine g_imul ?_
  refine g_iadd ?_
  refine g_bipush (v := 8) bk_8 ?_
  refine g_iadd ?_
  refine g_iconst (v := 1) ik_1 ?_
  refine g_iload_n rfl ?_
  refine g_ishl ?_
  refine g_ineg ?_
  refine g_callV (as := [_, _]) mk_X8_adds ml_X8_66 im_X8_adds se_X8_adds rfl rfl ⟨⟨nle rfl, nle rfl⟩, nle rfl, nle rfl⟩ hm.1 rfl rfl rfl (nle rfl) ?_
  refine ct_X8_adds hm ((39 + (9 * k)) + 8) (by simp only [nI, Int32.ofNat_add, Int32.ofNat_mul] <;> rfl) (by omega) ?_
  refine kq_n ?_
  refine g_aload_n rfl ?_
  refine g_iload_n rfl ?_
  refine g_bipush (v := 8) bk_8 ?_
  refine g_callV (as := [_, _]) mk_X8_ofClass ml_X8_40 im_X8_ofClass se_X8_ofClass rfl rfl ⟨⟨nle rfl, nle rfl⟩, nle rfl, nle rfl⟩ hm.1 rfl rfl rfl (nle rfl) ?_
  refine ct_X8_ofClass hm k 8 rfl rfl (by omega) ?_
  refine kq_s ?_
  refine g_callS (as := [_]) mk_X8_bits ml_X8_60 sm_X8_bits rfl rfl ⟨⟨nle rfl, nle rfl⟩, nle rfl, nle rfl⟩ rfl rfl (nle rfl) ?_
  refine ct_X8_bits ?_
  refine kq_s ?_
  refine g_iret rfl (nle rfl) (nle rfl) ?_
  refine qeq hQ ?_ ?_
  · clear hQ; simp only [sR_s, leS]
  · rfl
set_option maxRecDepth 100000 in
set_option maxHeartbeats 4000000 in
theorem ct_X8_seats {X : Xs} {κ : Kp} {M : Mem} {Q : Rs → Kp → Mem → Prop} {m : Nat} (hm : IsMod κ.2.1 m) {nc : Nat} (h2 : M (m + 1) 2 = nI nc) (hnc : nc ≤ 10)  (hQ : Q (.inl (some (.int (sumI nc (fun k => bitsI (M (m + 1) (39 + 9 * k + 8))))))) κ M) : Ct X m_X8_seats [.ref m] κ M Q := by
  refine ct_of B_X8_seats_0 pn_X8 rfl (nle rfl) L_X8_seats_0 ?_
  refine g_iconst (v := 0) ik_0 ?_
  refine g_istore_n (nle rfl) ?_
  refine g_iconst (v := 0) ik_0 ?_
  refine g_istore_n (nle rfl) ?_
  refine g_fall rfl L_X8_seats_4 ?_
  refine g_lo2 (lo' := [(0, some (.ref m)), (1, some (.int (sumI 0 (fun k => bitsI (M (m + 1) (39 + 9 * k + 8)))))), (2, some (.int (nI 0)))]) ?_ ⟨rfl, rfl, rfl, trivial⟩
  refine loop_up (P := fun k => G X m_X8_seats B_X8_seats_4 4 [(0, some (.ref m)), (1, some (.int (sumI k (fun k => bitsI (M (m + 1) (39 + 9 * k + 8)))))), (2, some (.int (nI k)))] [] 0 0 κ M Q) nc (fun k hle_k ih_k => ?_) 0 (Nat.zero_le _)
  refine g_iload_n rfl ?_
  refine g_aload_n rfl ?_
  refine g_getR (w := (m + 1)) fl_X8_7 rfl hm.1 rfl ?_
  refine g_iconst (v := 2) ik_2 ?_
  refine g_iaload (j := 2) hm.2.1 rfl (nle rfl) (nle rfl) ?_
  rw [h2]
  refine g_icmp_ge rfl L_X8_seats_33 (fun h_1 => ?_) (fun h_1 => ?_)
  · have hx_k := ((cmp_ge (c := nc) rfl (by omega) hle_k).1 h_1).symm
    subst hx_k
    refine g_iload_n rfl ?_
    refine g_iret rfl (nle rfl) (nle rfl) ?_
    exact hQ
  · have hlt_k : k < nc := (cmp_ge (c := nc) rfl (by omega) hle_k).2 h_1
    refine g_iload_n rfl ?_
    refine g_aload_n rfl ?_
    refine g_iload_n rfl ?_
    refine g_bipush (v := 8) bk_8 ?_
    refine g_callV (as := [_, _]) mk_X8_ofClass ml_X8_40 im_X8_ofClass se_X8_ofClass rfl rfl ⟨⟨nle rfl, nle rfl⟩, nle rfl, nle rfl⟩ hm.1 rfl rfl rfl (nle rfl) ?_
    refine ct_X8_ofClass hm k 8 rfl rfl (by omega) ?_
    refine kq_s ?_
    refine g_callS (as := [_]) mk_X8_bits ml_X8_60 sm_X8_bits rfl rfl ⟨⟨nle rfl, nle rfl⟩, nle rfl, nle rfl⟩ rfl rfl (nle rfl) ?_
    refine ct_X8_bits ?_
    refine kq_s ?_
    refine g_iadd ?_
    refine g_istore_n (nle rfl) ?_
    refine g_iinc (v := nI (k + 1)) rfl (nI_inc _) (nle rfl) ?_
    refine g_goto rfl L_X8_seats_4 ?_
    exact g_lo2 (ih_k hlt_k) ⟨rfl, rfl, rfl, trivial⟩
set_option maxRecDepth 100000 in
set_option maxHeartbeats 4000000 in
theorem ct_X8_left {X : Xs} {κ : Kp} {M : Mem} {Q : Rs → Kp → Mem → Prop} {m : Nat} (hm : IsMod κ.2.1 m) {nd : Nat} (h3 : M (m + 1) 3 = nI nd) (hnd : nd ≤ 12)  (hQ : Q (.inl (some (.int (sumI nd (fun k => M (m + 1) (129 + 5 * k + 2)))))) κ M) : Ct X m_X8_left [.ref m] κ M Q := by
  refine ct_of B_X8_left_0 pn_X8 rfl (nle rfl) L_X8_left_0 ?_
  refine g_iconst (v := 0) ik_0 ?_
  refine g_istore_n (nle rfl) ?_
  refine g_iconst (v := 0) ik_0 ?_
  refine g_istore_n (nle rfl) ?_
  refine g_fall rfl L_X8_left_4 ?_
  refine g_lo2 (lo' := [(0, some (.ref m)), (1, some (.int (sumI 0 (fun k => M (m + 1) (129 + 5 * k + 2))))), (2, some (.int (nI 0)))]) ?_ ⟨rfl, rfl, rfl, trivial⟩
  refine loop_up (P := fun k => G X m_X8_left B_X8_left_4 4 [(0, some (.ref m)), (1, some (.int (sumI k (fun k => M (m + 1) (129 + 5 * k + 2))))), (2, some (.int (nI k)))] [] 0 0 κ M Q) nd (fun k hle_k ih_k => ?_) 0 (Nat.zero_le _)
  refine g_iload_n rfl ?_
  refine g_aload_n rfl ?_
  refine g_getR (w := (m + 1)) fl_X8_7 rfl hm.1 rfl ?_
  refine g_iconst (v := 3) ik_3 ?_
  refine g_iaload (j := 3) hm.2.1 rfl (nle rfl) (nle rfl) ?_
  rw [h3]
  refine g_icmp_ge rfl L_X8_left_29 (fun h_1 => ?_) (fun h_1 => ?_)
  · have hx_k := ((cmp_ge (c := nd) rfl (by omega) hle_k).1 h_1).symm
    subst hx_k
    refine g_iload_n rfl ?_
    refine g_iret rfl (nle rfl) (nle rfl) ?_
    exact hQ
  · have hlt_k : k < nd := (cmp_ge (c := nd) rfl (by omega) hle_k).2 h_1
    refine g_iload_n rfl ?_
    refine g_aload_n rfl ?_
    refine g_iload_n rfl ?_
    refine g_iconst (v := 2) ik_2 ?_
    refine g_callV (as := [_, _]) mk_X8_ofDancer ml_X8_57 im_X8_ofDancer se_X8_ofDancer rfl rfl ⟨⟨nle rfl, nle rfl⟩, nle rfl, nle rfl⟩ hm.1 rfl rfl rfl (nle rfl) ?_
    refine ct_X8_ofDancer hm k 2 rfl rfl (by omega) ?_
    refine kq_s ?_
    refine g_iadd ?_
    refine g_istore_n (nle rfl) ?_
    refine g_iinc (v := nI (k + 1)) rfl (nI_inc _) (nle rfl) ?_
    refine g_goto rfl L_X8_left_4 ?_
    exact g_lo2 (ih_k hlt_k) ⟨rfl, rfl, rfl, trivial⟩
set_option maxRecDepth 100000 in
set_option maxHeartbeats 4000000 in
theorem ct_X8_classes {X : Xs} {κ : Kp} {M : Mem} {Q : Rs → Kp → Mem → Prop} {m : Nat} (hm : IsMod κ.2.1 m) {nc : Nat} (h2 : M (m + 1) 2 = nI nc) (hnc : nc ≤ 10) {wI v : Int32} (w : Nat) (hw : wI = nI w) (hw2 : w < 9) (hQ : Q (.inl (some (.int (sumI nc (fun k => if M (m + 1) (39 + 9 * k + w) = v then 1 else 0))))) κ M) : Ct X m_X8_classes [.ref m, .int wI, .int v] κ M Q := by
  refine ct_of B_X8_classes_0 pn_X8 rfl (nle rfl) L_X8_classes_0 ?_
  subst hw
  refine g_iconst (v := 0) ik_0 ?_
  refine g_istore_n (nle rfl) ?_
  refine g_iconst (v := 0) ik_0 ?_
  refine g_istore (nle rfl) ?_
  refine g_fall rfl L_X8_classes_5 ?_
  refine g_lo2 (lo' := [(0, some (.ref m)), (1, some (.int (nI w))), (2, some (.int v)), (3, some (.int (sumI 0 (fun k => if M (m + 1) (39 + 9 * k + w) = v then 1 else 0)))), (4, some (.int (nI 0)))]) ?_ ⟨rfl, rfl, rfl, rfl, rfl, trivial⟩
  refine loop_up (P := fun k => G X m_X8_classes B_X8_classes_5 5 [(0, some (.ref m)), (1, some (.int (nI w))), (2, some (.int v)), (3, some (.int (sumI k (fun k => if M (m + 1) (39 + 9 * k + w) = v then 1 else 0)))), (4, some (.int (nI k)))] [] 0 0 κ M Q) nc (fun k hle_k ih_k => ?_) 0 (Nat.zero_le _)
  refine g_iload rfl ?_
  refine g_aload_n rfl ?_
  refine g_getR (w := (m + 1)) fl_X8_7 rfl hm.1 rfl ?_
  refine g_iconst (v := 2) ik_2 ?_
  refine g_iaload (j := 2) hm.2.1 rfl (nle rfl) (nle rfl) ?_
  rw [h2]
  refine g_icmp_ge rfl L_X8_classes_41 (fun h_1 => ?_) (fun h_1 => ?_)
  · have hx_k := ((cmp_ge (c := nc) rfl (by omega) hle_k).1 h_1).symm
    subst hx_k
    refine g_iload_n rfl ?_
    refine g_iret rfl (nle rfl) (nle rfl) ?_
    exact hQ
  · have hlt_k : k < nc := (cmp_ge (c := nc) rfl (by omega) hle_k).2 h_1
    refine g_iload_n rfl ?_
    refine g_join (isJ := B_X8_classes_33) (pcJ := 33) (if M (m + 1) (39 + 9 * k + w) = v then 1 else 0) ?_ (fun hj_17 => ?_)
    · refine g_iadd ?_
      refine g_istore_n (nle rfl) ?_
      refine g_iinc (v := nI (k + 1)) rfl (nI_inc _) (nle rfl) ?_
      refine g_goto rfl L_X8_classes_5 ?_
      exact g_lo2 (ih_k hlt_k) ⟨rfl, rfl, rfl, rfl, rfl, trivial⟩
    · refine g_aload_n rfl ?_
      refine g_iload rfl ?_
      refine g_iload_n rfl ?_
      refine g_callV (as := [_, _]) mk_X8_ofClass ml_X8_40 im_X8_ofClass se_X8_ofClass rfl rfl ⟨⟨nle rfl, nle rfl⟩, nle rfl, nle rfl⟩ hm.1 rfl rfl rfl (nle rfl) ?_
      refine ct_X8_ofClass hm k w rfl rfl (by omega) ?_
      refine kq_s ?_
      refine g_iload_n rfl ?_
      refine g_icmp_ne rfl L_X8_classes_32 (fun h_2 => ?_) (fun h_2 => ?_)
      · refine g_iconst (v := 0) ik_0 ?_
        refine g_fall rfl L_X8_classes_33 ?_
        exact hj_17 _ (by clear hQ hj_17 ih_k; simp_all)
      · refine g_iconst (v := 1) ik_1 ?_
        refine g_goto rfl L_X8_classes_33 ?_
        exact hj_17 _ (by clear hQ hj_17 ih_k; simp_all)
set_option maxRecDepth 100000 in
set_option maxHeartbeats 4000000 in
theorem ct_X8_daysOf {X : Xs} {κ : Kp} {M : Mem} {Q : Rs → Kp → Mem → Prop} {m : Nat} (hm : IsMod κ.2.1 m) {nc : Nat} (h2 : M (m + 1) 2 = nI nc) (hnc : nc ≤ 10) {t : Int32} (hQ : Q (.inl (some (.int (bitsI (orI nc (fun k => if M (m + 1) (39 + 9 * k + 3) = t then 1 <<< (M (m + 1) (39 + 9 * k + 4) &&& 31) else 0)))))) κ M) : Ct X m_X8_daysOf [.ref m, .int t] κ M Q := by
  refine ct_of B_X8_daysOf_0 pn_X8 rfl (nle rfl) L_X8_daysOf_0 ?_
  refine g_iconst (v := 0) ik_0 ?_
  refine g_istore_n (nle rfl) ?_
  refine g_iconst (v := 0) ik_0 ?_
  refine g_istore_n (nle rfl) ?_
  refine g_fall rfl L_X8_daysOf_4 ?_
  refine g_lo2 (lo' := [(0, some (.ref m)), (1, some (.int t)), (2, some (.int (orI 0 (fun k => if M (m + 1) (39 + 9 * k + 3) = t then 1 <<< (M (m + 1) (39 + 9 * k + 4) &&& 31) else 0)))), (3, some (.int (nI 0)))]) ?_ ⟨rfl, rfl, rfl, rfl, trivial⟩
  refine loop_up (P := fun k => G X m_X8_daysOf B_X8_daysOf_4 4 [(0, some (.ref m)), (1, some (.int t)), (2, some (.int (orI k (fun k => if M (m + 1) (39 + 9 * k + 3) = t then 1 <<< (M (m + 1) (39 + 9 * k + 4) &&& 31) else 0)))), (3, some (.int (nI k)))] [] 0 0 κ M Q) nc (fun k hle_k ih_k => ?_) 0 (Nat.zero_le _)
  refine g_iload_n rfl ?_
  refine g_aload_n rfl ?_
  refine g_getR (w := (m + 1)) fl_X8_7 rfl hm.1 rfl ?_
  refine g_iconst (v := 2) ik_2 ?_
  refine g_iaload (j := 2) hm.2.1 rfl (nle rfl) (nle rfl) ?_
  rw [h2]
  refine g_icmp_ge rfl L_X8_daysOf_45 (fun h_1 => ?_) (fun h_1 => ?_)
  · have hx_k := ((cmp_ge (c := nc) rfl (by omega) hle_k).1 h_1).symm
    subst hx_k
    refine g_iload_n rfl ?_
    refine g_callS (as := [_]) mk_X8_bits ml_X8_60 sm_X8_bits rfl rfl ⟨⟨nle rfl, nle rfl⟩, nle rfl, nle rfl⟩ rfl rfl (nle rfl) ?_
    refine ct_X8_bits ?_
    refine kq_s ?_
    refine g_iret rfl (nle rfl) (nle rfl) ?_
    exact hQ
  · have hlt_k : k < nc := (cmp_ge (c := nc) rfl (by omega) hle_k).2 h_1
    refine g_iload_n rfl ?_
    refine g_join (isJ := B_X8_daysOf_37) (pcJ := 37) (if M (m + 1) (39 + 9 * k + 3) = t then 1 <<< (M (m + 1) (39 + 9 * k + 4) &&& 31) else 0) ?_ (fun hj_15 => ?_)
    · refine g_ior ?_
      refine g_istore_n (nle rfl) ?_
      refine g_iinc (v := nI (k + 1)) rfl (nI_inc _) (nle rfl) ?_
      refine g_goto rfl L_X8_daysOf_4 ?_
      exact g_lo2 (ih_k hlt_k) ⟨rfl, rfl, rfl, rfl, trivial⟩
    · refine g_aload_n rfl ?_
      refine g_iload_n rfl ?_
      refine g_iconst (v := 3) ik_3 ?_
      refine g_callV (as := [_, _]) mk_X8_ofClass ml_X8_40 im_X8_ofClass se_X8_ofClass rfl rfl ⟨⟨nle rfl, nle rfl⟩, nle rfl, nle rfl⟩ hm.1 rfl rfl rfl (nle rfl) ?_
      refine ct_X8_ofClass hm k 3 rfl rfl (by omega) ?_
      refine kq_s ?_
      refine g_iload_n rfl ?_
      refine g_icmp_ne rfl L_X8_daysOf_36 (fun h_2 => ?_) (fun h_2 => ?_)
      · refine g_iconst (v := 0) ik_0 ?_
        refine g_fall rfl L_X8_daysOf_37 ?_
        exact hj_15 _ (by clear hQ hj_15 ih_k; simp_all)
      · refine g_iconst (v := 1) ik_1 ?_
        refine g_aload_n rfl ?_
        refine g_iload_n rfl ?_
        refine g_iconst (v := 4) ik_4 ?_
        refine g_callV (as := [_, _]) mk_X8_ofClass ml_X8_40 im_X8_ofClass se_X8_ofClass rfl rfl ⟨⟨nle rfl, nle rfl⟩, nle rfl, nle rfl⟩ hm.1 rfl rfl rfl (nle rfl) ?_
        refine ct_X8_ofClass hm k 4 rfl rfl (by omega) ?_
        refine kq_s ?_
        refine g_ishl ?_
        refine g_goto rfl L_X8_daysOf_37 ?_
        exact hj_15 _ (by clear hQ hj_15 ih_k; simp_all)
set_option maxRecDepth 100000 in
set_option maxHeartbeats 4000000 in
theorem ct_X8_seatsOf {X : Xs} {κ : Kp} {M : Mem} {Q : Rs → Kp → Mem → Prop} {m : Nat} (hm : IsMod κ.2.1 m) {nc : Nat} (h2 : M (m + 1) 2 = nI nc) (hnc : nc ≤ 10) {d : Int32} (hQ : Q (.inl (some (.int (sumI nc (fun k => if bitS (M (m + 1) (39 + 9 * k + 8)) d then 1 else 0))))) κ M) : Ct X m_X8_seatsOf [.ref m, .int d] κ M Q := by
  refine ct_of B_X8_seatsOf_0 pn_X8 rfl (nle rfl) L_X8_seatsOf_0 ?_
  refine g_iconst (v := 0) ik_0 ?_
  refine g_istore_n (nle rfl) ?_
  refine g_iconst (v := 0) ik_0 ?_
  refine g_istore_n (nle rfl) ?_
  refine g_fall rfl L_X8_seatsOf_4 ?_
  refine g_lo2 (lo' := [(0, some (.ref m)), (1, some (.int d)), (2, some (.int (sumI 0 (fun k => if bitS (M (m + 1) (39 + 9 * k + 8)) d then 1 else 0)))), (3, some (.int (nI 0)))]) ?_ ⟨rfl, rfl, rfl, rfl, trivial⟩
  refine loop_up (P := fun k => G X m_X8_seatsOf B_X8_seatsOf_4 4 [(0, some (.ref m)), (1, some (.int d)), (2, some (.int (sumI k (fun k => if bitS (M (m + 1) (39 + 9 * k + 8)) d then 1 else 0)))), (3, some (.int (nI k)))] [] 0 0 κ M Q) nc (fun k hle_k ih_k => ?_) 0 (Nat.zero_le _)
  refine g_iload_n rfl ?_
  refine g_aload_n rfl ?_
  refine g_getR (w := (m + 1)) fl_X8_7 rfl hm.1 rfl ?_
  refine g_iconst (v := 2) ik_2 ?_
  refine g_iaload (j := 2) hm.2.1 rfl (nle rfl) (nle rfl) ?_
  rw [h2]
  refine g_icmp_ge rfl L_X8_seatsOf_37 (fun h_1 => ?_) (fun h_1 => ?_)
  · have hx_k := ((cmp_ge (c := nc) rfl (by omega) hle_k).1 h_1).symm
    subst hx_k
    refine g_iload_n rfl ?_
    refine g_iret rfl (nle rfl) (nle rfl) ?_
    exact hQ
  · have hlt_k : k < nc := (cmp_ge (c := nc) rfl (by omega) hle_k).2 h_1
    refine g_iload_n rfl ?_
    refine g_join (isJ := B_X8_seatsOf_29) (pcJ := 29) (if bitS (M (m + 1) (39 + 9 * k + 8)) d then 1 else 0) ?_ (fun hj_15 => ?_)
    · refine g_iadd ?_
      refine g_istore_n (nle rfl) ?_
      refine g_iinc (v := nI (k + 1)) rfl (nI_inc _) (nle rfl) ?_
      refine g_goto rfl L_X8_seatsOf_4 ?_
      exact g_lo2 (ih_k hlt_k) ⟨rfl, rfl, rfl, rfl, trivial⟩
    · refine g_aload_n rfl ?_
      refine g_iload_n rfl ?_
      refine g_iload_n rfl ?_
      refine g_callV (as := [_, _]) mk_X8_hasSeat ml_X8_53 im_X8_hasSeat se_X8_hasSeat rfl rfl ⟨⟨nle rfl, nle rfl⟩, nle rfl, nle rfl⟩ hm.1 rfl rfl rfl (nle rfl) ?_
      refine ct_X8_hasSeat hm k rfl (by omega) ?_
      refine kq_s ?_
      refine g_if_eq_b rfl L_X8_seatsOf_28 (fun h_2 => ?_) (fun h_2 => ?_)
      · refine g_iconst (v := 0) ik_0 ?_
        refine g_fall rfl L_X8_seatsOf_29 ?_
        exact hj_15 _ (by clear hQ hj_15 ih_k; simp_all)
      · refine g_iconst (v := 1) ik_1 ?_
        refine g_goto rfl L_X8_seatsOf_29 ?_
        exact hj_15 _ (by clear hQ hj_15 ih_k; simp_all)
theorem dnN_ye {w : Int32} {k d : Nat} {s : Nat → Int32} (h : bitS w (nI d) = true) : dnN w k (d + 1) s = danS (dnN w k d s) k d := if_pos h
theorem dnN_no {w : Int32} {k d : Nat} {s : Nat → Int32} (h : bitS w (nI d) = false) : dnN w k (d + 1) s = dnN w k d s := if_neg (by rw [h]; decide)
set_option maxRecDepth 100000 in
set_option maxHeartbeats 4000000 in
theorem ct_X8_week {X : Xs} {κ : Kp} {M : Mem} {Q : Rs → Kp → Mem → Prop} {m : Nat} (hm : IsMod κ.2.1 m) {nc : Nat} (h2 : M (m + 1) 2 = nI nc) (hnc : nc ≤ 10) {nd : Nat} (h3 : M (m + 1) 3 = nI nd) (hnd : nd ≤ 12)  (hQ : Q (.inl (some (.int (weekH nc nd (M (m + 1)))))) κ (sR M (m + 1) (weekS nc nd (M (m + 1))))) : Ct X m_X8_week [.ref m] κ M Q := by
  refine ct_of B_X8_week_0 pn_X8 rfl (nle rfl) L_X8_week_0 ?_
  refine g_iconst (v := 0) ik_0 ?_
  refine g_istore_n (nle rfl) ?_
  refine g_aload_n rfl ?_
  refine g_getR (w := (m + 1)) fl_X8_7 rfl hm.1 rfl ?_
  refine g_iconst (v := 4) ik_4 ?_
  refine g_dup2 rfl rfl ?_
  refine g_iaload (j := 4) hm.2.1 rfl (nle rfl) (nle rfl) ?_
  refine g_iconst (v := 1) ik_1 ?_
  refine g_iadd ?_
  refine g_iastore (j := 4) hm.2.1 rfl (nle rfl) (nle rfl) ?_
  refine g_iconst (v := 0) ik_0 ?_
  refine g_istore_n (nle rfl) ?_
  refine g_fall rfl L_X8_week_14 ?_
  rw [upM_sR]
  refine g_lo2 (lo' := [(0, some (.ref m)), (1, some (.int (hldN nd 0 (upd (M (m + 1)) 4 (M (m + 1) 4 + 1))))), (2, some (.int (nI 0)))]) ?_ ⟨rfl, rfl, rfl, trivial⟩
  refine loop_up (P := fun k => G X m_X8_week B_X8_week_14 14 [(0, some (.ref m)), (1, some (.int (hldN nd k (upd (M (m + 1)) 4 (M (m + 1) 4 + 1))))), (2, some (.int (nI k)))] [] 0 0 κ (sR M (m + 1) (clsN nd k (upd (M (m + 1)) 4 (M (m + 1) 4 + 1)))) Q) nc (fun k hle_k ih_k => ?_) 0 (Nat.zero_le _)
  refine g_iload_n rfl ?_
  refine g_aload_n rfl ?_
  refine g_getR (w := (m + 1)) fl_X8_7 rfl hm.1 rfl ?_
  refine g_iconst (v := 2) ik_2 ?_
  refine g_iaload (j := 2) hm.2.1 rfl (nle rfl) (nle rfl) ?_
  simp (disch := omega) only [upM_sR, sR_s, sR_sR, upd_ne, upd_same, h2, clsN_2, clsN_3, clsN_11, clsN_12, dnN_3, holdS_3, riseN_3, riseN_12]
  refine g_icmp_ge rfl L_X8_week_137 (fun h_1 => ?_) (fun h_1 => ?_)
  · have hx_k := ((cmp_ge (c := nc) rfl (by omega) hle_k).1 h_1).symm
    subst hx_k
    refine g_iconst (v := 0) ik_0 ?_
    refine g_istore_n (nle rfl) ?_
    refine g_fall rfl L_X8_week_139 ?_
    refine g_lo2 (lo' := [(0, some (.ref m)), (1, some (.int (hldN nd nc (upd (M (m + 1)) 4 (M (m + 1) 4 + 1))))), (2, some (.int (nI 0)))]) ?_ ⟨rfl, rfl, rfl, trivial⟩
    refine loop_up (P := fun e => G X m_X8_week B_X8_week_139 139 [(0, some (.ref m)), (1, some (.int (hldN nd nc (upd (M (m + 1)) 4 (M (m + 1) 4 + 1))))), (2, some (.int (nI e)))] [] 0 0 κ (sR M (m + 1) (riseN e (clsN nd nc (upd (M (m + 1)) 4 (M (m + 1) 4 + 1))))) Q) nd (fun e hle_e ih_e => ?_) 0 (Nat.zero_le _)
    refine g_iload_n rfl ?_
    refine g_aload_n rfl ?_
    refine g_getR (w := (m + 1)) fl_X8_7 rfl hm.1 rfl ?_
    refine g_iconst (v := 3) ik_3 ?_
    refine g_iaload (j := 3) hm.2.1 rfl (nle rfl) (nle rfl) ?_
    simp (disch := omega) only [upM_sR, sR_s, sR_sR, upd_ne, upd_same, h3, clsN_2, clsN_3, clsN_11, clsN_12, dnN_3, holdS_3, riseN_3, riseN_12]
    refine g_icmp_ge rfl L_X8_week_210 (fun h_2 => ?_) (fun h_2 => ?_)
    · have hx_e := ((cmp_ge (c := nd) rfl (by omega) hle_e).1 h_2).symm
      subst hx_e
      refine g_iload_n rfl ?_
      refine g_iret rfl (nle rfl) (nle rfl) ?_
      exact hQ
    · have hlt_e : e < nd := (cmp_ge (c := nd) rfl (by omega) hle_e).2 h_2
      refine g_sipush (v := 129) sk_129 ?_
      refine g_iconst (v := 5) ik_5 ?_
      refine g_iload_n rfl ?_
      refine g_imul ?_
      refine g_iadd ?_
      refine g_istore_n (nle rfl) ?_
      refine g_aload_n rfl ?_
      refine g_getR (w := (m + 1)) fl_X8_7 rfl hm.1 rfl ?_
      refine g_iload_n rfl ?_
      refine g_iconst (v := 1) ik_1 ?_
      refine g_iadd ?_
      refine g_iaload (j := ((129 + (5 * e)) + 1)) hm.2.1 (by simp only [nI, Int32.ofNat_add, Int32.ofNat_mul] <;> rfl) (by omega) (nle rfl) ?_
      refine g_aload_n rfl ?_
      refine g_getR (w := (m + 1)) fl_X8_7 rfl hm.1 rfl ?_
      refine g_bipush (v := 12) bk_12 ?_
      refine g_iaload (j := 12) hm.2.1 rfl (nle rfl) (nle rfl) ?_
      refine g_icmp_lt rfl L_X8_week_204 (fun h_3 => ?_) (fun h_3 => ?_)
      · refine g_iinc (v := nI (e + 1)) rfl (nI_inc _) (nle rfl) ?_
        refine g_goto rfl L_X8_week_139 ?_
        have ih2 := ih_e hlt_e
        refine g_mem ?_ (g_lo2 ih2 ⟨rfl, rfl, rfl, trivial⟩)
        clear ih2 ih_e hQ
        show _ = sR M (m + 1) (riseS (riseN e (clsN nd nc (upd (M (m + 1)) 4 (M (m + 1) 4 + 1)))) e)
        simp only [upM_sR, sR_s, sR_sR, riseS] at *
        simp_all [-Int32.not_lt, -Int32.not_le, riseN_12, clsN_12, i32le]
      · refine g_aload_n rfl ?_
        refine g_getR (w := (m + 1)) fl_X8_7 rfl hm.1 rfl ?_
        refine g_iload_n rfl ?_
        refine g_iaload (j := (129 + (5 * e))) hm.2.1 (by simp only [nI, Int32.ofNat_add, Int32.ofNat_mul] <;> rfl) (by omega) (nle rfl) ?_
        refine g_iconst (v := 5) ik_5 ?_
        refine g_icmp_ge rfl L_X8_week_204 (fun h_4 => ?_) (fun h_4 => ?_)
        · refine g_iinc (v := nI (e + 1)) rfl (nI_inc _) (nle rfl) ?_
          refine g_goto rfl L_X8_week_139 ?_
          have ih2 := ih_e hlt_e
          refine g_mem ?_ (g_lo2 ih2 ⟨rfl, rfl, rfl, trivial⟩)
          clear ih2 ih_e hQ
          show _ = sR M (m + 1) (riseS (riseN e (clsN nd nc (upd (M (m + 1)) 4 (M (m + 1) 4 + 1)))) e)
          simp only [upM_sR, sR_s, sR_sR, riseS] at *
          simp_all [-Int32.not_lt, -Int32.not_le, riseN_12, clsN_12, i32le]
        · refine g_aload_n rfl ?_
          refine g_getR (w := (m + 1)) fl_X8_7 rfl hm.1 rfl ?_
          refine g_iload_n rfl ?_
          refine g_dup2 rfl rfl ?_
          refine g_iaload (j := (129 + (5 * e))) hm.2.1 (by simp only [nI, Int32.ofNat_add, Int32.ofNat_mul] <;> rfl) (by omega) (nle rfl) ?_
          refine g_iconst (v := 1) ik_1 ?_
          refine g_iadd ?_
          refine g_iastore (j := (129 + (5 * e))) hm.2.1 (by simp only [nI, Int32.ofNat_add, Int32.ofNat_mul] <;> rfl) (by omega) (nle rfl) ?_
          refine g_aload_n rfl ?_
          refine g_getR (w := (m + 1)) fl_X8_7 rfl hm.1 rfl ?_
          refine g_iload_n rfl ?_
          refine g_iconst (v := 1) ik_1 ?_
          refine g_iadd ?_
          refine g_iconst (v := 0) ik_0 ?_
          refine g_iastore (j := ((129 + (5 * e)) + 1)) hm.2.1 (by simp only [nI, Int32.ofNat_add, Int32.ofNat_mul] <;> rfl) (by omega) (nle rfl) ?_
          refine g_fall rfl L_X8_week_204 ?_
          refine g_iinc (v := nI (e + 1)) rfl (nI_inc _) (nle rfl) ?_
          refine g_goto rfl L_X8_week_139 ?_
          have ih2 := ih_e hlt_e
          refine g_mem ?_ (g_lo2 ih2 ⟨rfl, rfl, rfl, trivial⟩)
          clear ih2 ih_e hQ
          show _ = sR M (m + 1) (riseS (riseN e (clsN nd nc (upd (M (m + 1)) 4 (M (m + 1) 4 + 1)))) e)
          simp only [upM_sR, sR_s, sR_sR, riseS] at *
          simp_all [-Int32.not_lt, -Int32.not_le, riseN_12, clsN_12, i32le]
  · have hlt_k : k < nc := (cmp_ge (c := nc) rfl (by omega) hle_k).2 h_1
    refine g_aload_n rfl ?_
    refine g_iload_n rfl ?_
    refine g_callV (as := [_]) mk_X8_coming ml_X8_70 im_X8_coming se_X8_coming rfl rfl ⟨⟨nle rfl, nle rfl⟩, nle rfl, nle rfl⟩ hm.1 rfl rfl rfl (nle rfl) ?_
    refine ct_X8_coming hm (by simp (disch := omega) only [upM_sR, sR_s, sR_sR, upd_ne, upd_same, h3, clsN_2, clsN_3, clsN_11, clsN_12, dnN_3, holdS_3, riseN_3, riseN_12]) hnd k rfl (by omega) ?_
    refine kq_s ?_
    simp only [sR_s]
    refine g_istore_n (nle rfl) ?_
    refine g_iload_n rfl ?_
    refine g_callS (as := [_]) mk_X8_bits ml_X8_60 sm_X8_bits rfl rfl ⟨⟨nle rfl, nle rfl⟩, nle rfl, nle rfl⟩ rfl rfl (nle rfl) ?_
    refine ct_X8_bits ?_
    refine kq_s ?_
    refine g_aload_n rfl ?_
    refine g_getR (w := (m + 1)) fl_X8_7 rfl hm.1 rfl ?_
    refine g_bipush (v := 11) bk_11 ?_
    refine g_iaload (j := 11) hm.2.1 rfl (nle rfl) (nle rfl) ?_
    refine g_icmp_ge rfl L_X8_week_58 (fun h_5 => ?_) (fun h_5 => ?_)
    · replace h_5 := Int32.not_lt.mpr h_5
      simp only [sR_s] at h_5
      refine g_iload_n rfl ?_
      refine g_iconst (v := 1) ik_1 ?_
      refine g_iload_n rfl ?_
      refine g_ishl ?_
      refine g_ior ?_
      refine g_istore_n (nle rfl) ?_
      refine g_aload_n rfl ?_
      refine g_getR (w := (m + 1)) fl_X8_7 rfl hm.1 rfl ?_
      refine g_bipush (v := 7) bk_7 ?_
      refine g_dup2 rfl rfl ?_
      refine g_iaload (j := 7) hm.2.1 rfl (nle rfl) (nle rfl) ?_
      refine g_iconst (v := 1) ik_1 ?_
      refine g_iadd ?_
      refine g_iastore (j := 7) hm.2.1 rfl (nle rfl) (nle rfl) ?_
      refine g_aload_n rfl ?_
      refine g_getR (w := (m + 1)) fl_X8_7 rfl hm.1 rfl ?_
      refine g_bipush (v := 39) bk_39 ?_
      refine g_bipush (v := 9) bk_9 ?_
      refine g_iload_n rfl ?_
      refine g_imul ?_
      refine g_iadd ?_
      refine g_bipush (v := 6) bk_6 ?_
      refine g_iadd ?_
      refine g_dup2 rfl rfl ?_
      refine g_iaload (j := ((39 + (9 * k)) + 6)) hm.2.1 (by simp only [nI, Int32.ofNat_add, Int32.ofNat_mul] <;> rfl) (by omega) (nle rfl) ?_
      refine g_iconst (v := 1) ik_1 ?_
      refine g_iadd ?_
      refine g_iastore (j := ((39 + (9 * k)) + 6)) hm.2.1 (by simp only [nI, Int32.ofNat_add, Int32.ofNat_mul] <;> rfl) (by omega) (nle rfl) ?_
      refine g_iconst (v := 0) ik_0 ?_
      refine g_istore (nle rfl) ?_
      refine g_fall rfl L_X8_week_97 ?_
      simp only [upM_sR, sR_s, sR_sR]
      refine g_lo2 (lo' := [(0, some (.ref m)), (1, some (.int (hldN nd k (upd (M (m + 1)) 4 (M (m + 1) 4 + 1)) ||| (1 <<< (nI k &&& 31))))), (2, some (.int (nI k))), (3, some (.int (comI (clsN nd k (upd (M (m + 1)) 4 (M (m + 1) 4 + 1))) k nd))), (4, some (.int (nI 0)))]) ?_ ⟨rfl, rfl, rfl, rfl, rfl, trivial⟩
      refine loop_up (P := fun d => G X m_X8_week B_X8_week_97 97 [(0, some (.ref m)), (1, some (.int (hldN nd k (upd (M (m + 1)) 4 (M (m + 1) 4 + 1)) ||| (1 <<< (nI k &&& 31))))), (2, some (.int (nI k))), (3, some (.int (comI (clsN nd k (upd (M (m + 1)) 4 (M (m + 1) 4 + 1))) k nd))), (4, some (.int (nI d)))] [] 0 0 κ (sR M (m + 1) (dnN (comI (clsN nd k (upd (M (m + 1)) 4 (M (m + 1) 4 + 1))) k nd) k d (holdS (clsN nd k (upd (M (m + 1)) 4 (M (m + 1) 4 + 1))) k))) Q) nd (fun d hle_d ih_d => ?_) 0 (Nat.zero_le _)
      refine g_iload rfl ?_
      refine g_aload_n rfl ?_
      refine g_getR (w := (m + 1)) fl_X8_7 rfl hm.1 rfl ?_
      refine g_iconst (v := 3) ik_3 ?_
      refine g_iaload (j := 3) hm.2.1 rfl (nle rfl) (nle rfl) ?_
      simp (disch := omega) only [upM_sR, sR_s, sR_sR, upd_ne, upd_same, h3, clsN_2, clsN_3, clsN_11, clsN_12, dnN_3, holdS_3, riseN_3, riseN_12]
      refine g_icmp_ge rfl L_X8_week_131 (fun h_6 => ?_) (fun h_6 => ?_)
      · have hx_d := ((cmp_ge (c := nd) rfl (by omega) hle_d).1 h_6).symm
        subst hx_d
        refine g_iinc (v := nI (k + 1)) rfl (nI_inc _) (nle rfl) ?_
        refine g_goto rfl L_X8_week_14 ?_
        obtain ⟨e1, e2⟩ := clsN_ye h_5
        have ih2 := ih_k hlt_k
        rw [e1, e2] at ih2
        exact g_lo2 ih2 ⟨rfl, rfl, rfl, trivial⟩
      · have hlt_d : d < nd := (cmp_ge (c := nd) rfl (by omega) hle_d).2 h_6
        refine g_iload_n rfl ?_
        refine g_iload rfl ?_
        refine g_ishr ?_
        refine g_iconst (v := 1) ik_1 ?_
        refine g_iand ?_
        refine g_iconst (v := 1) ik_1 ?_
        refine g_icmp_ne rfl L_X8_week_125 (fun h_7 => ?_) (fun h_7 => ?_)
        · replace h_7 : bitS (comI (clsN nd k (upd (M (m + 1)) 4 (M (m + 1) 4 + 1))) k nd) (nI d) = false := by simpa [bitS] using h_7
          refine g_iinc (v := nI (d + 1)) rfl (nI_inc _) (nle rfl) ?_
          refine g_goto rfl L_X8_week_97 ?_
          have ih2 := ih_d hlt_d
          rw [dnN_no h_7] at ih2
          exact g_lo2 ih2 ⟨rfl, rfl, rfl, rfl, rfl, trivial⟩
        · replace h_7 : bitS (comI (clsN nd k (upd (M (m + 1)) 4 (M (m + 1) 4 + 1))) k nd) (nI d) = true := by simpa [bitS] using h_7
          refine g_aload_n rfl ?_
          refine g_iload_n rfl ?_
          refine g_iload rfl ?_
          refine g_callV (as := [_, _]) mk_X8_dances ml_X8_73 im_X8_dances se_X8_dances rfl rfl ⟨⟨nle rfl, nle rfl⟩, nle rfl, nle rfl⟩ hm.1 rfl rfl rfl (nle rfl) ?_
          refine ct_X8_dances hm k d rfl rfl (by omega) (by omega) ?_
          refine kq_n ?_
          refine g_fall rfl L_X8_week_125 ?_
          refine g_iinc (v := nI (d + 1)) rfl (nI_inc _) (nle rfl) ?_
          refine g_goto rfl L_X8_week_97 ?_
          have ih2 := ih_d hlt_d
          rw [dnN_ye h_7] at ih2
          refine g_mem ?_ (g_lo2 ih2 ⟨rfl, rfl, rfl, rfl, rfl, trivial⟩)
          simp only [sR_s, sR_sR]
    · replace h_5 := Int32.not_le.mp h_5
      simp only [sR_s] at h_5
      refine g_aload_n rfl ?_
      refine g_getR (w := (m + 1)) fl_X8_7 rfl hm.1 rfl ?_
      refine g_bipush (v := 8) bk_8 ?_
      refine g_dup2 rfl rfl ?_
      refine g_iaload (j := 8) hm.2.1 rfl (nle rfl) (nle rfl) ?_
      refine g_iconst (v := 1) ik_1 ?_
      refine g_iadd ?_
      refine g_iastore (j := 8) hm.2.1 rfl (nle rfl) (nle rfl) ?_
      refine g_goto rfl L_X8_week_131 ?_
      refine g_iinc (v := nI (k + 1)) rfl (nI_inc _) (nle rfl) ?_
      refine g_goto rfl L_X8_week_14 ?_
      obtain ⟨e1, e2⟩ := clsN_no h_5
      have ih2 := ih_k hlt_k
      rw [e1, e2] at ih2
      refine g_mem ?_ (g_lo2 ih2 ⟨rfl, rfl, rfl, trivial⟩)
      simp only [upM_sR, sR_s, sR_sR]
