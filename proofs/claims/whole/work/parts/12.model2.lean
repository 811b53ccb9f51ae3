def atC (s : Nat → Int32) (k : Nat) (day hour : Int32) : Bool := decide (s (39 + 9 * k + 4) = day) && decide (s (39 + 9 * k + 5) = hour)
def whyI (s : Nat → Int32) (nc : Nat) (style level : Int32) (f t : Nat) (day hour : Int32) : Int32 :=
  if anyB nc (fun k => atC s k day hour && decide (s (39 + 9 * k + 2) = nI f)) then 1
  else if anyB nc (fun k => atC s k day hour && decide (s (39 + 9 * k + 3) = nI t)) then 2
  else if (bitS (s (29 + 2 * t)) style && decide (level ≤ s (29 + 2 * t + 1))) = false then 3
  else if sprOK (s (13 + 4 * f)) style level = false then 4
  else if barOK (s (13 + 4 * f + 2)) style level = false then 5
  else if mirOK (s (13 + 4 * f + 1)) style level = false then 6 else 0
def whyS (s : Nat → Int32) (nc d k f : Nat) : Int32 :=
  if bitS (s (39 + 9 * k + 8)) (nI d) then 1
  else if s (129 + 5 * d + 0) + 1 < s (39 + 9 * k + 1) then 2
  else if anyB nc (fun e => bitS (s (39 + 9 * e + 8)) (nI d) && (decide (s (39 + 9 * e + 4) = s (39 + 9 * k + 4)) && decide (s (39 + 9 * e + 5) = s (39 + 9 * k + 5)))) then 3
  else if bitsI (s (39 + 9 * k + 8)) < tkI (s (13 + 4 * f + 3)) (s (13 + 4 * f + 2)) (s (39 + 9 * k + 0)) then 0 else 4
def comI (s : Nat → Int32) (k n : Nat) : Int32 := orI n (fun d => if bitS (s (39 + 9 * k + 8)) (nI d) && decide (0 < s (129 + 5 * d + 2)) then 1 <<< (nI d &&& 31) else 0)
theorem and01 (z : Int32) : (z &&& 1 = 0) = ¬ (z &&& 1 = 1) := by
  have h1 := pk_and z (m := 1) 1 (by decide)
  rw [h1]
  have h2 : z.toBitVec.toNat % 2 ^ 1 < 2 := Nat.mod_lt _ (by decide)
  have h3 : z.toBitVec.toNat % 2 ^ 1 = 0 ∨ z.toBitVec.toNat % 2 ^ 1 = 1 := by omega
  rcases h3 with e | e <;> rw [e] <;> decide
set_option maxRecDepth 100000 in
set_option maxHeartbeats 4000000 in
theorem ct_X8_hasSeat {X : Xs} {κ : Kp} {M : Mem} {Q : Rs → Kp → Mem → Prop} {m : Nat} (hm : IsMod κ.2.1 m) {dI kI : Int32} (k : Nat) (hk : kI = nI k) (hlt : 39 + 9 * k + 8 < 3402) (hQ : Q (.inl (some (.int (bI (bitS (M (m + 1) (39 + 9 * k + 8)) dI))))) κ M) : Ct X m_X8_hasSeat [.ref m, .int dI, .int kI] κ M Q := by
  refine ct_of B_X8_hasSeat_0 pn_X8 rfl (nle rfl) L_X8_hasSeat_0 ?_
  subst hk
  refine g_aload_n rfl ?_
  refine g_iload_n rfl ?_
  refine g_bipush (v := 8) bk_8 ?_
  refine g_callV (as := [_, _]) mk_X8_ofClass ml_X8_40 im_X8_ofClass se_X8_ofClass rfl rfl ⟨⟨nle rfl, nle rfl⟩, nle rfl, nle rfl⟩ hm.1 rfl rfl rfl (nle rfl) ?_
  refine ct_X8_ofClass hm k 8 rfl rfl (by omega) ?_
  refine kq_s ?_
  refine g_iload_n rfl ?_
  refine g_ishr ?_
  refine g_iconst (v := 1) ik_1 ?_
  refine g_iand ?_
  refine g_iconst (v := 1) ik_1 ?_
  refine g_icmp_ne rfl L_X8_hasSeat_19 (fun h_1 => ?_) (fun h_1 => ?_)
  · refine g_iconst (v := 0) ik_0 ?_
    refine g_fall rfl L_X8_hasSeat_20 ?_
    refine g_zret rfl rfl (nle rfl) (nle rfl) ?_
    exact qeq hQ (by clear hQ; simp_all [bI, bitS, i32le, -Int32.not_lt]) rfl
  · refine g_iconst (v := 1) ik_1 ?_
    refine g_goto rfl L_X8_hasSeat_20 ?_
    refine g_zret rfl rfl (nle rfl) (nle rfl) ?_
    exact qeq hQ (by clear hQ; simp_all [bI, bitS, i32le, -Int32.not_lt]) rfl
set_option maxRecDepth 100000 in
set_option maxHeartbeats 4000000 in
theorem ct_X8_takes {X : Xs} {κ : Kp} {M : Mem} {Q : Rs → Kp → Mem → Prop} {m : Nat} (hm : IsMod κ.2.1 m) {style fI : Int32} (f : Nat) (hf : fI = nI f) (hlt : f < 800) (hQ : Q (.inl (some (.int (tkI (M (m + 1) (13 + 4 * f + 3)) (M (m + 1) (13 + 4 * f + 2)) style)))) κ M) : Ct X m_X8_takes [.ref m, .int style, .int fI] κ M Q := by
  refine ct_of B_X8_takes_0 pn_X8 rfl (nle rfl) L_X8_takes_0 ?_
  subst hf
  refine g_aload_n rfl ?_
  refine g_getR (w := (m + 1)) fl_X8_7 rfl hm.1 rfl ?_
  refine g_bipush (v := 13) bk_13 ?_
  refine g_iconst (v := 4) ik_4 ?_
  refine g_iload_n rfl ?_
  refine g_imul ?_
  refine g_iadd ?_
  refine g_iconst (v := 3) ik_3 ?_
  refine g_iadd ?_
  refine g_iaload (j := ((13 + (4 * f)) + 3)) hm.2.1 (by simp only [nI, Int32.ofNat_add, Int32.ofNat_mul] <;> rfl) (by omega) (nle rfl) ?_
  refine g_istore_n (nle rfl) ?_
  refine g_aload_n rfl ?_
  refine g_iload_n rfl ?_
  refine g_callV (as := [_]) mk_X8_barre ml_X8_33 im_X8_barre se_X8_barre rfl rfl ⟨⟨nle rfl, nle rfl⟩, nle rfl, nle rfl⟩ hm.1 rfl rfl rfl (nle rfl) ?_
  refine ct_X8_barre hm f rfl (by omega) ?_
  refine kq_s ?_
  refine g_iconst (v := 2) ik_2 ?_
  refine g_idiv (by decide) ?_
  refine g_istore (nle rfl) ?_
  refine g_iload_n rfl ?_
  refine g_if_ne rfl L_X8_takes_38 (fun h_1 => ?_) (fun h_1 => ?_)
  · refine g_iload_n rfl ?_
    refine g_fall rfl L_X8_takes_39 ?_
    refine g_iret rfl (nle rfl) (nle rfl) ?_
    exact qeq hQ (by clear hQ; simp_all [tkI, i32le, -Int32.not_lt]) rfl
  · refine g_iload rfl ?_
    refine g_iload_n rfl ?_
    refine g_icmp_ge rfl L_X8_takes_38 (fun h_2 => ?_) (fun h_2 => ?_)
    · refine g_iload_n rfl ?_
      refine g_fall rfl L_X8_takes_39 ?_
      refine g_iret rfl (nle rfl) (nle rfl) ?_
      exact qeq hQ (by clear hQ; simp_all [tkI, i32le, -Int32.not_lt]) rfl
    · refine g_iload rfl ?_
      refine g_goto rfl L_X8_takes_39 ?_
      refine g_iret rfl (nle rfl) (nle rfl) ?_
      exact qeq hQ (by clear hQ; simp_all [tkI, i32le, -Int32.not_lt]) rfl
set_option maxRecDepth 100000 in
set_option maxHeartbeats 4000000 in
theorem ct_X8_isSpring {X : Xs} {κ : Kp} {M : Mem} {Q : Rs → Kp → Mem → Prop} {m : Nat} (hm : IsMod κ.2.1 m) {style level fI : Int32} (f : Nat) (hf : fI = nI f) (hlt : f < 800) (hQ : Q (.inl (some (.int (bI (sprOK (M (m + 1) (13 + 4 * f)) style level))))) κ M) : Ct X m_X8_isSpring [.ref m, .int style, .int level, .int fI] κ M Q := by
  refine ct_of B_X8_isSpring_0 pn_X8 rfl (nle rfl) L_X8_isSpring_0 ?_
  subst hf
  refine g_iload_n rfl ?_
  rcases sw_cases style 0 3 (nle rfl) with ⟨j_1, hj_1, hx_1⟩ | ho_1
  · have hc_1 : j_1 = 0 ∨ j_1 = 1 ∨ j_1 = 2 := by omega
    rcases hc_1 with rfl | rfl | rfl
    · replace hx_1 : style = 0 := hx_1.trans (by decide)
      refine g_tabIn (off := 27) (by rw [hx_1]; decide) (by rw [hx_1]; decide) (by rw [hx_1]; decide) rfl L_X8_isSpring_28 ?_
      refine g_aload_n rfl ?_
      refine g_iload_n rfl ?_
      refine g_callV (as := [_]) mk_X8_spring ml_X8_37 im_X8_spring se_X8_spring rfl rfl ⟨⟨nle rfl, nle rfl⟩, nle rfl, nle rfl⟩ hm.1 rfl rfl rfl (nle rfl) ?_
      refine ct_X8_spring hm f rfl (by omega) ?_
      refine kq_s ?_
      refine g_iconst (v := 4) ik_4 ?_
      refine g_icmp_lt rfl L_X8_isSpring_41 (fun h_1 => ?_) (fun h_1 => ?_)
      · refine g_iconst (v := 0) ik_0 ?_
        refine g_fall rfl L_X8_isSpring_42 ?_
        refine g_zret rfl rfl (nle rfl) (nle rfl) ?_
        exact qeq hQ (by clear hQ; simp_all [bI, sprOK, i32le, -Int32.not_lt]) rfl
      · refine g_iconst (v := 1) ik_1 ?_
        refine g_goto rfl L_X8_isSpring_42 ?_
        refine g_zret rfl rfl (nle rfl) (nle rfl) ?_
        exact qeq hQ (by clear hQ; simp_all [bI, sprOK, i32le, -Int32.not_lt]) rfl
    · replace hx_1 : style = 1 := hx_1.trans (by decide)
      refine g_tabIn (off := 42) (by rw [hx_1]; decide) (by rw [hx_1]; decide) (by rw [hx_1]; decide) rfl L_X8_isSpring_43 ?_
      refine g_aload_n rfl ?_
      refine g_iload_n rfl ?_
      refine g_callV (as := [_]) mk_X8_spring ml_X8_37 im_X8_spring se_X8_spring rfl rfl ⟨⟨nle rfl, nle rfl⟩, nle rfl, nle rfl⟩ hm.1 rfl rfl rfl (nle rfl) ?_
      refine ct_X8_spring hm f rfl (by omega) ?_
      refine kq_s ?_
      refine g_iconst (v := 5) ik_5 ?_
      refine g_icmp_gt rfl L_X8_isSpring_56 (fun h_2 => ?_) (fun h_2 => ?_)
      · refine g_iconst (v := 0) ik_0 ?_
        refine g_fall rfl L_X8_isSpring_57 ?_
        refine g_zret rfl rfl (nle rfl) (nle rfl) ?_
        exact qeq hQ (by clear hQ; simp_all [bI, sprOK, i32le, -Int32.not_lt]) rfl
      · refine g_iconst (v := 1) ik_1 ?_
        refine g_goto rfl L_X8_isSpring_57 ?_
        refine g_zret rfl rfl (nle rfl) (nle rfl) ?_
        exact qeq hQ (by clear hQ; simp_all [bI, sprOK, i32le, -Int32.not_lt]) rfl
    · replace hx_1 : style = 2 := hx_1.trans (by decide)
      refine g_tabIn (off := 57) (by rw [hx_1]; decide) (by rw [hx_1]; decide) (by rw [hx_1]; decide) rfl L_X8_isSpring_58 ?_
      refine g_aload_n rfl ?_
      refine g_iload_n rfl ?_
      refine g_callV (as := [_]) mk_X8_spring ml_X8_37 im_X8_spring se_X8_spring rfl rfl ⟨⟨nle rfl, nle rfl⟩, nle rfl, nle rfl⟩ hm.1 rfl rfl rfl (nle rfl) ?_
      refine ct_X8_spring hm f rfl (by omega) ?_
      refine kq_s ?_
      refine g_iconst (v := 3) ik_3 ?_
      refine g_iload_n rfl ?_
      refine g_iadd ?_
      refine g_icmp_lt rfl L_X8_isSpring_73 (fun h_3 => ?_) (fun h_3 => ?_)
      · refine g_iconst (v := 0) ik_0 ?_
        refine g_fall rfl L_X8_isSpring_74 ?_
        refine g_zret rfl rfl (nle rfl) (nle rfl) ?_
        exact qeq hQ (by clear hQ; simp_all [bI, sprOK, i32le, -Int32.not_lt]) rfl
      · refine g_iconst (v := 1) ik_1 ?_
        refine g_goto rfl L_X8_isSpring_74 ?_
        refine g_zret rfl rfl (nle rfl) (nle rfl) ?_
        exact qeq hQ (by clear hQ; simp_all [bI, sprOK, i32le, -Int32.not_lt]) rfl
  · refine g_tabOut (ho_1.imp (fun h => h) (fun h => h)) rfl L_X8_isSpring_75 ?_
    have hd_1_0 : ¬ style = 0 := sw_ne ho_1 0 (by decide)
    have hd_1_1 : ¬ style = 1 := sw_ne ho_1 1 (by decide)
    have hd_1_2 : ¬ style = 2 := sw_ne ho_1 2 (by decide)
    refine g_iconst (v := 1) ik_1 ?_
    refine g_zret rfl rfl (nle rfl) (nle rfl) ?_
    exact qeq hQ (by clear hQ; simp_all [bI, sprOK, i32le, -Int32.not_lt]) rfl
set_option maxRecDepth 100000 in
set_option maxHeartbeats 4000000 in
theorem ct_X8_classTakes {X : Xs} {κ : Kp} {M : Mem} {Q : Rs → Kp → Mem → Prop} {m : Nat} (hm : IsMod κ.2.1 m) {kI : Int32} (k f : Nat) (hk : kI = nI k) (hlt : 39 + 9 * k + 8 < 3402) (hf : M (m + 1) (39 + 9 * k + 2) = nI f) (hf2 : f < 800) (hQ : Q (.inl (some (.int (tkI (M (m + 1) (13 + 4 * f + 3)) (M (m + 1) (13 + 4 * f + 2)) (M (m + 1) (39 + 9 * k + 0)))))) κ M) : Ct X m_X8_classTakes [.ref m, .int kI] κ M Q := by
  refine ct_of B_X8_classTakes_0 pn_X8 rfl (nle rfl) L_X8_classTakes_0 ?_
  subst hk
  refine g_aload_n rfl ?_
  refine g_aload_n rfl ?_
  refine g_iload_n rfl ?_
  refine g_iconst (v := 0) ik_0 ?_
  refine g_callV (as := [_, _]) mk_X8_ofClass ml_X8_40 im_X8_ofClass se_X8_ofClass rfl rfl ⟨⟨nle rfl, nle rfl⟩, nle rfl, nle rfl⟩ hm.1 rfl rfl rfl (nle rfl) ?_
  refine ct_X8_ofClass hm k 0 rfl rfl (by omega) ?_
  refine kq_s ?_
  refine g_aload_n rfl ?_
  refine g_iload_n rfl ?_
  refine g_iconst (v := 2) ik_2 ?_
  refine g_callV (as := [_, _]) mk_X8_ofClass ml_X8_40 im_X8_ofClass se_X8_ofClass rfl rfl ⟨⟨nle rfl, nle rfl⟩, nle rfl, nle rfl⟩ hm.1 rfl rfl rfl (nle rfl) ?_
  refine ct_X8_ofClass hm k 2 rfl rfl (by omega) ?_
  refine kq_s ?_
  rw [hf]
  refine g_callV (as := [_, _]) mk_X8_takes ml_X8_50 im_X8_takes se_X8_takes rfl rfl ⟨⟨nle rfl, nle rfl⟩, nle rfl, nle rfl⟩ hm.1 rfl rfl rfl (nle rfl) ?_
  refine ct_X8_takes hm f rfl (by omega) ?_
  refine kq_s ?_
  refine g_iret rfl (nle rfl) (nle rfl) ?_
  exact hQ
set_option maxRecDepth 100000 in
set_option maxHeartbeats 4000000 in
theorem ct_X8_whyNo {X : Xs} {κ : Kp} {M : Mem} {Q : Rs → Kp → Mem → Prop} {m : Nat} (hm : IsMod κ.2.1 m) {nc : Nat} (h2 : M (m + 1) 2 = nI nc) (hnc : nc ≤ 10) {style level fI tI day hour : Int32} (f t : Nat) (hfI : fI = nI f) (htI : tI = nI t) (hf : f < 4) (ht : t < 5) (hmi : 0 ≤ M (m + 1) (13 + 4 * f + 1)) (hQ : Q (.inl (some (.int (whyI (M (m + 1)) nc style level f t day hour)))) κ M) : Ct X m_X8_whyNo [.ref m, .int style, .int level, .int fI, .int tI, .int day, .int hour] κ M Q := by
  refine ct_of B_X8_whyNo_0 pn_X8 rfl (nle rfl) L_X8_whyNo_0 ?_
  subst hfI
  subst htI
  refine g_iconst (v := 0) ik_0 ?_
  refine g_istore (nle rfl) ?_
  refine g_iconst (v := 0) ik_0 ?_
  refine g_istore (nle rfl) ?_
  refine g_iconst (v := 0) ik_0 ?_
  refine g_istore (nle rfl) ?_
  refine g_fall rfl L_X8_whyNo_9 ?_
  refine g_lo2 (lo' := [(0, some (.ref m)), (1, some (.int style)), (2, some (.int level)), (3, some (.int (nI f))), (4, some (.int (nI t))), (5, some (.int day)), (6, some (.int hour)), (7, some (.int (bI (anyB 0 (fun k => atC (M (m + 1)) k day hour && decide (M (m + 1) (39 + 9 * k + 2) = nI f)))))), (8, some (.int (bI (anyB 0 (fun k => atC (M (m + 1)) k day hour && decide (M (m + 1) (39 + 9 * k + 3) = nI t)))))), (9, some (.int (nI 0)))]) ?_ ⟨rfl, rfl, rfl, rfl, rfl, rfl, rfl, rfl, rfl, rfl, trivial⟩
  refine loop_up (P := fun k => G X m_X8_whyNo B_X8_whyNo_9 9 [(0, some (.ref m)), (1, some (.int style)), (2, some (.int level)), (3, some (.int (nI f))), (4, some (.int (nI t))), (5, some (.int day)), (6, some (.int hour)), (7, some (.int (bI (anyB k (fun k => atC (M (m + 1)) k day hour && decide (M (m + 1) (39 + 9 * k + 2) = nI f)))))), (8, some (.int (bI (anyB k (fun k => atC (M (m + 1)) k day hour && decide (M (m + 1) (39 + 9 * k + 3) = nI t)))))), (9, some (.int (nI k)))] [] 0 0 κ M Q) nc (fun k hle_k ih_k => ?_) 0 (Nat.zero_le _)
  refine g_iload rfl ?_
  refine g_aload_n rfl ?_
  refine g_getR (w := (m + 1)) fl_X8_7 rfl hm.1 rfl ?_
  refine g_iconst (v := 2) ik_2 ?_
  refine g_iaload (j := 2) hm.2.1 rfl (nle rfl) (nle rfl) ?_
  rw [h2]
  refine g_icmp_ge rfl L_X8_whyNo_114 (fun h_1 => ?_) (fun h_1 => ?_)
  · have hx_k := ((cmp_ge (c := nc) rfl (by omega) hle_k).1 h_1).symm
    subst hx_k
    refine g_iload rfl ?_
    refine g_if_ne_b rfl L_X8_whyNo_124 (fun h_2 => ?_) (fun h_2 => ?_)
    · refine g_iload rfl ?_
      refine g_if_eq_b rfl L_X8_whyNo_133 (fun h_3 => ?_) (fun h_3 => ?_)
      · refine g_iconst (v := 2) ik_2 ?_
        refine g_fall rfl L_X8_whyNo_134 ?_
        refine g_iret rfl (nle rfl) (nle rfl) ?_
        exact qeq hQ (by clear hQ; simp_all [whyI, bitS, and01, barOK, mirOK, i32le, -Int32.not_lt]) rfl
      · refine g_iconst (v := 1) ik_1 ?_
        refine g_goto rfl L_X8_whyNo_134 ?_
        refine g_iret rfl (nle rfl) (nle rfl) ?_
        exact qeq hQ (by clear hQ; simp_all [whyI, bitS, and01, barOK, mirOK, i32le, -Int32.not_lt]) rfl
    · refine g_iload rfl ?_
      refine g_if_eq_b rfl L_X8_whyNo_135 (fun h_4 => ?_) (fun h_4 => ?_)
      · refine g_aload_n rfl ?_
        refine g_getR (w := (m + 1)) fl_X8_7 rfl hm.1 rfl ?_
        refine g_bipush (v := 29) bk_29 ?_
        refine g_iconst (v := 2) ik_2 ?_
        refine g_iload rfl ?_
        refine g_imul ?_
        refine g_iadd ?_
        refine g_iaload (j := (29 + (2 * t))) hm.2.1 (by simp only [nI, Int32.ofNat_add, Int32.ofNat_mul] <;> rfl) (by omega) (nle rfl) ?_
        refine g_iload_n rfl ?_
        refine g_ishr ?_
        refine g_iconst (v := 1) ik_1 ?_
        refine g_iand ?_
        refine g_if_eq rfl L_X8_whyNo_172 (fun h_5 => ?_) (fun h_5 => ?_)
        · refine g_iconst (v := 3) ik_3 ?_
          refine g_iret rfl (nle rfl) (nle rfl) ?_
          exact qeq hQ (by clear hQ; simp_all [whyI, bitS, and01, barOK, mirOK, i32le, -Int32.not_lt]) rfl
        · refine g_aload_n rfl ?_
          refine g_getR (w := (m + 1)) fl_X8_7 rfl hm.1 rfl ?_
          refine g_bipush (v := 29) bk_29 ?_
          refine g_iconst (v := 2) ik_2 ?_
          refine g_iload rfl ?_
          refine g_imul ?_
          refine g_iadd ?_
          refine g_iconst (v := 1) ik_1 ?_
          refine g_iadd ?_
          refine g_iaload (j := ((29 + (2 * t)) + 1)) hm.2.1 (by simp only [nI, Int32.ofNat_add, Int32.ofNat_mul] <;> rfl) (by omega) (nle rfl) ?_
          refine g_iload_n rfl ?_
          refine g_icmp_ge rfl L_X8_whyNo_174 (fun h_6 => ?_) (fun h_6 => ?_)
          · refine g_aload_n rfl ?_
            refine g_iload_n rfl ?_
            refine g_iload_n rfl ?_
            refine g_iload_n rfl ?_
            refine g_callV (as := [_, _, _]) mk_X8_isSpring ml_X8_44 im_X8_isSpring se_X8_isSpring rfl rfl ⟨⟨nle rfl, nle rfl⟩, nle rfl, nle rfl⟩ hm.1 rfl rfl rfl (nle rfl) ?_
            refine ct_X8_isSpring hm f rfl (by omega) ?_
            refine kq_s ?_
            refine g_if_ne_b rfl L_X8_whyNo_186 (fun h_7 => ?_) (fun h_7 => ?_)
            · refine g_iload_n rfl ?_
              refine g_if_ne rfl L_X8_whyNo_196 (fun h_8 => ?_) (fun h_8 => ?_)
              · refine g_iload_n rfl ?_
                refine g_iconst (v := 1) ik_1 ?_
                refine g_icmp_ne rfl L_X8_whyNo_205 (fun h_9 => ?_) (fun h_9 => ?_)
                · refine g_iconst (v := 0) ik_0 ?_
                  refine g_fall rfl L_X8_whyNo_206 ?_
                  refine g_istore (nle rfl) ?_
                  refine g_iload_n rfl ?_
                  refine g_if_ne rfl L_X8_whyNo_229 (fun h_10 => ?_) (fun h_10 => ?_)
                  · refine g_aload_n rfl ?_
                    refine g_iload_n rfl ?_
                    refine g_callV (as := [_]) mk_X8_mirrors ml_X8_47 im_X8_mirrors se_X8_mirrors rfl rfl ⟨⟨nle rfl, nle rfl⟩, nle rfl, nle rfl⟩ hm.1 rfl rfl rfl (nle rfl) ?_
                    refine ct_X8_mirrors hm f rfl (by omega) ?_
                    refine kq_s ?_
                    refine g_iload rfl ?_
                    refine g_icmp_ge rfl L_X8_whyNo_244 (fun h_11 => ?_) (fun h_11 => ?_)
                    · refine g_iconst (v := 0) ik_0 ?_
                      refine g_fall rfl L_X8_whyNo_245 ?_
                      refine g_iret rfl (nle rfl) (nle rfl) ?_
                      exact qeq hQ (by clear hQ; simp_all [whyI, bitS, and01, barOK, mirOK, i32le, -Int32.not_lt]) rfl
                    · refine g_bipush (v := 6) bk_6 ?_
                      refine g_goto rfl L_X8_whyNo_245 ?_
                      refine g_iret rfl (nle rfl) (nle rfl) ?_
                      exact qeq hQ (by clear hQ; simp_all [whyI, bitS, and01, barOK, mirOK, i32le, -Int32.not_lt]) rfl
                  · refine g_aload_n rfl ?_
                    refine g_iload_n rfl ?_
                    refine g_callV (as := [_]) mk_X8_barre ml_X8_33 im_X8_barre se_X8_barre rfl rfl ⟨⟨nle rfl, nle rfl⟩, nle rfl, nle rfl⟩ hm.1 rfl rfl rfl (nle rfl) ?_
                    refine ct_X8_barre hm f rfl (by omega) ?_
                    refine kq_s ?_
                    refine g_iconst (v := 2) ik_2 ?_
                    refine g_iload_n rfl ?_
                    refine g_imul ?_
                    refine g_iconst (v := 4) ik_4 ?_
                    refine g_iadd ?_
                    refine g_icmp_ge rfl L_X8_whyNo_229 (fun h_12 => ?_) (fun h_12 => ?_)
                    · refine g_aload_n rfl ?_
                      refine g_iload_n rfl ?_
                      refine g_callV (as := [_]) mk_X8_mirrors ml_X8_47 im_X8_mirrors se_X8_mirrors rfl rfl ⟨⟨nle rfl, nle rfl⟩, nle rfl, nle rfl⟩ hm.1 rfl rfl rfl (nle rfl) ?_
                      refine ct_X8_mirrors hm f rfl (by omega) ?_
                      refine kq_s ?_
                      refine g_iload rfl ?_
                      refine g_icmp_ge rfl L_X8_whyNo_244 (fun h_13 => ?_) (fun h_13 => ?_)
                      · refine g_iconst (v := 0) ik_0 ?_
                        refine g_fall rfl L_X8_whyNo_245 ?_
                        refine g_iret rfl (nle rfl) (nle rfl) ?_
                        exact qeq hQ (by clear hQ; simp_all [whyI, bitS, and01, barOK, mirOK, i32le, -Int32.not_lt]) rfl
                      · refine g_bipush (v := 6) bk_6 ?_
                        refine g_goto rfl L_X8_whyNo_245 ?_
                        refine g_iret rfl (nle rfl) (nle rfl) ?_
                        exact qeq hQ (by clear hQ; simp_all [whyI, bitS, and01, barOK, mirOK, i32le, -Int32.not_lt]) rfl
                    · refine g_iconst (v := 5) ik_5 ?_
                      refine g_goto rfl L_X8_whyNo_245 ?_
                      refine g_iret rfl (nle rfl) (nle rfl) ?_
                      exact qeq hQ (by clear hQ; simp_all [whyI, bitS, and01, barOK, mirOK, i32le, -Int32.not_lt]) rfl
                · refine g_iconst (v := 1) ik_1 ?_
                  refine g_goto rfl L_X8_whyNo_206 ?_
                  refine g_istore (nle rfl) ?_
                  refine g_iload_n rfl ?_
                  refine g_if_ne rfl L_X8_whyNo_229 (fun h_14 => ?_) (fun h_14 => ?_)
                  · refine g_aload_n rfl ?_
                    refine g_iload_n rfl ?_
                    refine g_callV (as := [_]) mk_X8_mirrors ml_X8_47 im_X8_mirrors se_X8_mirrors rfl rfl ⟨⟨nle rfl, nle rfl⟩, nle rfl, nle rfl⟩ hm.1 rfl rfl rfl (nle rfl) ?_
                    refine ct_X8_mirrors hm f rfl (by omega) ?_
                    refine kq_s ?_
                    refine g_iload rfl ?_
                    refine g_icmp_ge rfl L_X8_whyNo_244 (fun h_15 => ?_) (fun h_15 => ?_)
                    · refine g_iconst (v := 0) ik_0 ?_
                      refine g_fall rfl L_X8_whyNo_245 ?_
                      refine g_iret rfl (nle rfl) (nle rfl) ?_
                      exact qeq hQ (by clear hQ; simp_all [whyI, bitS, and01, barOK, mirOK, i32le, -Int32.not_lt]) rfl
                    · refine g_bipush (v := 6) bk_6 ?_
                      refine g_goto rfl L_X8_whyNo_245 ?_
                      refine g_iret rfl (nle rfl) (nle rfl) ?_
                      exact qeq hQ (by clear hQ; simp_all [whyI, bitS, and01, barOK, mirOK, i32le, -Int32.not_lt]) rfl
                  · refine g_aload_n rfl ?_
                    refine g_iload_n rfl ?_
                    refine g_callV (as := [_]) mk_X8_barre ml_X8_33 im_X8_barre se_X8_barre rfl rfl ⟨⟨nle rfl, nle rfl⟩, nle rfl, nle rfl⟩ hm.1 rfl rfl rfl (nle rfl) ?_
                    refine ct_X8_barre hm f rfl (by omega) ?_
                    refine kq_s ?_
                    refine g_iconst (v := 2) ik_2 ?_
                    refine g_iload_n rfl ?_
                    refine g_imul ?_
                    refine g_iconst (v := 4) ik_4 ?_
                    refine g_iadd ?_
                    refine g_icmp_ge rfl L_X8_whyNo_229 (fun h_16 => ?_) (fun h_16 => ?_)
                    · refine g_aload_n rfl ?_
                      refine g_iload_n rfl ?_
                      refine g_callV (as := [_]) mk_X8_mirrors ml_X8_47 im_X8_mirrors se_X8_mirrors rfl rfl ⟨⟨nle rfl, nle rfl⟩, nle rfl, nle rfl⟩ hm.1 rfl rfl rfl (nle rfl) ?_
                      refine ct_X8_mirrors hm f rfl (by omega) ?_
                      refine kq_s ?_
                      refine g_iload rfl ?_
                      refine g_icmp_ge rfl L_X8_whyNo_244 (fun h_17 => ?_) (fun h_17 => ?_)
                      · refine g_iconst (v := 0) ik_0 ?_
                        refine g_fall rfl L_X8_whyNo_245 ?_
                        refine g_iret rfl (nle rfl) (nle rfl) ?_
                        exact qeq hQ (by clear hQ; simp_all [whyI, bitS, and01, barOK, mirOK, i32le, -Int32.not_lt]) rfl
                      · refine g_bipush (v := 6) bk_6 ?_
                        refine g_goto rfl L_X8_whyNo_245 ?_
                        refine g_iret rfl (nle rfl) (nle rfl) ?_
                        exact qeq hQ (by clear hQ; simp_all [whyI, bitS, and01, barOK, mirOK, i32le, -Int32.not_lt]) rfl
                    · refine g_iconst (v := 5) ik_5 ?_
                      refine g_goto rfl L_X8_whyNo_245 ?_
                      refine g_iret rfl (nle rfl) (nle rfl) ?_
                      exact qeq hQ (by clear hQ; simp_all [whyI, bitS, and01, barOK, mirOK, i32le, -Int32.not_lt]) rfl
              · refine g_iload_n rfl ?_
                refine g_iconst (v := 2) ik_2 ?_
                refine g_idiv (by decide) ?_
                refine g_goto rfl L_X8_whyNo_206 ?_
                refine g_istore (nle rfl) ?_
                refine g_iload_n rfl ?_
                refine g_if_ne rfl L_X8_whyNo_229 (fun h_18 => ?_) (fun h_18 => ?_)
                · refine g_aload_n rfl ?_
                  refine g_iload_n rfl ?_
                  refine g_callV (as := [_]) mk_X8_mirrors ml_X8_47 im_X8_mirrors se_X8_mirrors rfl rfl ⟨⟨nle rfl, nle rfl⟩, nle rfl, nle rfl⟩ hm.1 rfl rfl rfl (nle rfl) ?_
                  refine ct_X8_mirrors hm f rfl (by omega) ?_
                  refine kq_s ?_
                  refine g_iload rfl ?_
                  refine g_icmp_ge rfl L_X8_whyNo_244 (fun h_19 => ?_) (fun h_19 => ?_)
                  · refine g_iconst (v := 0) ik_0 ?_
                    refine g_fall rfl L_X8_whyNo_245 ?_
                    refine g_iret rfl (nle rfl) (nle rfl) ?_
                    exact qeq hQ (by clear hQ; simp_all [whyI, bitS, and01, barOK, mirOK, i32le, -Int32.not_lt]) rfl
                  · refine g_bipush (v := 6) bk_6 ?_
                    refine g_goto rfl L_X8_whyNo_245 ?_
                    refine g_iret rfl (nle rfl) (nle rfl) ?_
                    exact qeq hQ (by clear hQ; simp_all [whyI, bitS, and01, barOK, mirOK, i32le, -Int32.not_lt]) rfl
                · refine g_aload_n rfl ?_
                  refine g_iload_n rfl ?_
                  refine g_callV (as := [_]) mk_X8_barre ml_X8_33 im_X8_barre se_X8_barre rfl rfl ⟨⟨nle rfl, nle rfl⟩, nle rfl, nle rfl⟩ hm.1 rfl rfl rfl (nle rfl) ?_
                  refine ct_X8_barre hm f rfl (by omega) ?_
                  refine kq_s ?_
                  refine g_iconst (v := 2) ik_2 ?_
                  refine g_iload_n rfl ?_
                  refine g_imul ?_
                  refine g_iconst (v := 4) ik_4 ?_
                  refine g_iadd ?_
                  refine g_icmp_ge rfl L_X8_whyNo_229 (fun h_20 => ?_) (fun h_20 => ?_)
                  · refine g_aload_n rfl ?_
                    refine g_iload_n rfl ?_
                    refine g_callV (as := [_]) mk_X8_mirrors ml_X8_47 im_X8_mirrors se_X8_mirrors rfl rfl ⟨⟨nle rfl, nle rfl⟩, nle rfl, nle rfl⟩ hm.1 rfl rfl rfl (nle rfl) ?_
                    refine ct_X8_mirrors hm f rfl (by omega) ?_
                    refine kq_s ?_
                    refine g_iload rfl ?_
                    refine g_icmp_ge rfl L_X8_whyNo_244 (fun h_21 => ?_) (fun h_21 => ?_)
                    · refine g_iconst (v := 0) ik_0 ?_
                      refine g_fall rfl L_X8_whyNo_245 ?_
                      refine g_iret rfl (nle rfl) (nle rfl) ?_
                      exact qeq hQ (by clear hQ; simp_all [whyI, bitS, and01, barOK, mirOK, i32le, -Int32.not_lt]) rfl
                    · refine g_bipush (v := 6) bk_6 ?_
                      refine g_goto rfl L_X8_whyNo_245 ?_
                      refine g_iret rfl (nle rfl) (nle rfl) ?_
                      exact qeq hQ (by clear hQ; simp_all [whyI, bitS, and01, barOK, mirOK, i32le, -Int32.not_lt]) rfl
                  · refine g_iconst (v := 5) ik_5 ?_
                    refine g_goto rfl L_X8_whyNo_245 ?_
                    refine g_iret rfl (nle rfl) (nle rfl) ?_
                    exact qeq hQ (by clear hQ; simp_all [whyI, bitS, and01, barOK, mirOK, i32le, -Int32.not_lt]) rfl
            · refine g_iconst (v := 4) ik_4 ?_
              refine g_iret rfl (nle rfl) (nle rfl) ?_
              exact qeq hQ (by clear hQ; simp_all [whyI, bitS, and01, barOK, mirOK, i32le, -Int32.not_lt]) rfl
          · refine g_fall rfl L_X8_whyNo_172 ?_
            refine g_iconst (v := 3) ik_3 ?_
            refine g_iret rfl (nle rfl) (nle rfl) ?_
            exact qeq hQ (by clear hQ; simp_all [whyI, bitS, and01, barOK, mirOK, i32le, -Int32.not_lt]) rfl
      · refine g_fall rfl L_X8_whyNo_124 ?_
        refine g_iload rfl ?_
        refine g_if_eq_b rfl L_X8_whyNo_133 (fun h_22 => ?_) (fun h_22 => ?_)
        · refine g_iconst (v := 2) ik_2 ?_
          refine g_fall rfl L_X8_whyNo_134 ?_
          refine g_iret rfl (nle rfl) (nle rfl) ?_
          exact qeq hQ (by clear hQ; simp_all [whyI, bitS, and01, barOK, mirOK, i32le, -Int32.not_lt]) rfl
        · refine g_iconst (v := 1) ik_1 ?_
          refine g_goto rfl L_X8_whyNo_134 ?_
          refine g_iret rfl (nle rfl) (nle rfl) ?_
          exact qeq hQ (by clear hQ; simp_all [whyI, bitS, and01, barOK, mirOK, i32le, -Int32.not_lt]) rfl
  · have hlt_k : k < nc := (cmp_ge (c := nc) rfl (by omega) hle_k).2 h_1
    refine g_join (isJ := B_X8_whyNo_49) (pcJ := 49) (bI (atC (M (m + 1)) k day hour)) ?_ (fun hj_20 => ?_)
    · refine g_istore (nle rfl) ?_
      refine g_join (isJ := B_X8_whyNo_77) (pcJ := 77) (bI (anyB (k + 1) (fun k => atC (M (m + 1)) k day hour && decide (M (m + 1) (39 + 9 * k + 2) = nI f)))) ?_ (fun hj_51 => ?_)
      · refine g_istore (nle rfl) ?_
        refine g_join (isJ := B_X8_whyNo_106) (pcJ := 106) (bI (anyB (k + 1) (fun k => atC (M (m + 1)) k day hour && decide (M (m + 1) (39 + 9 * k + 3) = nI t)))) ?_ (fun hj_79 => ?_)
        · refine g_istore (nle rfl) ?_
          refine g_iinc (v := nI (k + 1)) rfl (nI_inc _) (nle rfl) ?_
          refine g_goto rfl L_X8_whyNo_9 ?_
          exact g_lo2 (ih_k hlt_k) ⟨rfl, rfl, rfl, rfl, rfl, rfl, rfl, rfl, rfl, rfl, trivial⟩
        · refine g_iload rfl ?_
          refine g_if_ne_b rfl L_X8_whyNo_101 (fun h_23 => ?_) (fun h_23 => ?_)
          · refine g_iconst (v := 1) ik_1 ?_
            refine g_goto rfl L_X8_whyNo_106 ?_
            exact hj_79 _ (by clear hQ hj_79 ih_k; simp_all [bI, anyB])
          · refine g_iload rfl ?_
            refine g_if_eq_b rfl L_X8_whyNo_105 (fun h_24 => ?_) (fun h_24 => ?_)
            · refine g_iconst (v := 0) ik_0 ?_
              refine g_fall rfl L_X8_whyNo_106 ?_
              exact hj_79 _ (by clear hQ hj_79 ih_k; simp_all [bI, anyB])
            · refine g_aload_n rfl ?_
              refine g_iload rfl ?_
              refine g_iconst (v := 3) ik_3 ?_
              refine g_callV (as := [_, _]) mk_X8_ofClass ml_X8_40 im_X8_ofClass se_X8_ofClass rfl rfl ⟨⟨nle rfl, nle rfl⟩, nle rfl, nle rfl⟩ hm.1 rfl rfl rfl (nle rfl) ?_
              refine ct_X8_ofClass hm k 3 rfl rfl (by omega) ?_
              refine kq_s ?_
              refine g_iload rfl ?_
              refine g_icmp_ne rfl L_X8_whyNo_105 (fun h_25 => ?_) (fun h_25 => ?_)
              · refine g_iconst (v := 0) ik_0 ?_
                refine g_fall rfl L_X8_whyNo_106 ?_
                exact hj_79 _ (by clear hQ hj_79 ih_k; simp_all [bI, anyB])
              · refine g_fall rfl L_X8_whyNo_101 ?_
                refine g_iconst (v := 1) ik_1 ?_
                refine g_goto rfl L_X8_whyNo_106 ?_
                exact hj_79 _ (by clear hQ hj_79 ih_k; simp_all [bI, anyB])
      · refine g_iload rfl ?_
        refine g_if_ne_b rfl L_X8_whyNo_72 (fun h_26 => ?_) (fun h_26 => ?_)
        · refine g_iconst (v := 1) ik_1 ?_
          refine g_goto rfl L_X8_whyNo_77 ?_
          exact hj_51 _ (by clear hQ hj_51 ih_k; simp_all [bI, anyB])
        · refine g_iload rfl ?_
          refine g_if_eq_b rfl L_X8_whyNo_76 (fun h_27 => ?_) (fun h_27 => ?_)
          · refine g_iconst (v := 0) ik_0 ?_
            refine g_fall rfl L_X8_whyNo_77 ?_
            exact hj_51 _ (by clear hQ hj_51 ih_k; simp_all [bI, anyB])
          · refine g_aload_n rfl ?_
            refine g_iload rfl ?_
            refine g_iconst (v := 2) ik_2 ?_
            refine g_callV (as := [_, _]) mk_X8_ofClass ml_X8_40 im_X8_ofClass se_X8_ofClass rfl rfl ⟨⟨nle rfl, nle rfl⟩, nle rfl, nle rfl⟩ hm.1 rfl rfl rfl (nle rfl) ?_
            refine ct_X8_ofClass hm k 2 rfl rfl (by omega) ?_
            refine kq_s ?_
            refine g_iload_n rfl ?_
            refine g_icmp_ne rfl L_X8_whyNo_76 (fun h_28 => ?_) (fun h_28 => ?_)
            · refine g_iconst (v := 0) ik_0 ?_
              refine g_fall rfl L_X8_whyNo_77 ?_
              exact hj_51 _ (by clear hQ hj_51 ih_k; simp_all [bI, anyB])
            · refine g_fall rfl L_X8_whyNo_72 ?_
              refine g_iconst (v := 1) ik_1 ?_
              refine g_goto rfl L_X8_whyNo_77 ?_
              exact hj_51 _ (by clear hQ hj_51 ih_k; simp_all [bI, anyB])
    · refine g_aload_n rfl ?_
      refine g_iload rfl ?_
      refine g_iconst (v := 4) ik_4 ?_
      refine g_callV (as := [_, _]) mk_X8_ofClass ml_X8_40 im_X8_ofClass se_X8_ofClass rfl rfl ⟨⟨nle rfl, nle rfl⟩, nle rfl, nle rfl⟩ hm.1 rfl rfl rfl (nle rfl) ?_
      refine ct_X8_ofClass hm k 4 rfl rfl (by omega) ?_
      refine kq_s ?_
      refine g_iload rfl ?_
      refine g_icmp_ne rfl L_X8_whyNo_48 (fun h_29 => ?_) (fun h_29 => ?_)
      · refine g_iconst (v := 0) ik_0 ?_
        refine g_fall rfl L_X8_whyNo_49 ?_
        exact hj_20 _ (by clear hQ hj_20 ih_k; simp_all [bI, atC])
      · refine g_aload_n rfl ?_
        refine g_iload rfl ?_
        refine g_iconst (v := 5) ik_5 ?_
        refine g_callV (as := [_, _]) mk_X8_ofClass ml_X8_40 im_X8_ofClass se_X8_ofClass rfl rfl ⟨⟨nle rfl, nle rfl⟩, nle rfl, nle rfl⟩ hm.1 rfl rfl rfl (nle rfl) ?_
        refine ct_X8_ofClass hm k 5 rfl rfl (by omega) ?_
        refine kq_s ?_
        refine g_iload rfl ?_
        refine g_icmp_ne rfl L_X8_whyNo_48 (fun h_30 => ?_) (fun h_30 => ?_)
        · refine g_iconst (v := 0) ik_0 ?_
          refine g_fall rfl L_X8_whyNo_49 ?_
          exact hj_20 _ (by clear hQ hj_20 ih_k; simp_all [bI, atC])
        · refine g_iconst (v := 1) ik_1 ?_
          refine g_goto rfl L_X8_whyNo_49 ?_
          exact hj_20 _ (by clear hQ hj_20 ih_k; simp_all [bI, atC])
