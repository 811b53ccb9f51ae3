theorem g_mem {X : Xs} {y : MI} {is : List (Instr × Nat)} {pc : Nat} {lo : Lo} {st : List Value} {nc ks : Nat} {κ : Kp} {M M' : Mem} {Q : Rs → Kp → Mem → Prop} (e : M = M') (h : G X y is pc lo st nc ks κ M' Q) : G X y is pc lo st nc ks κ M Q := by rw [e]; exact h
theorem anyB_true {P : Nat → Bool} {k : Nat} : ∀ {n : Nat}, k < n → P k = true → anyB n P = true
  | 0, h, _ => absurd h (Nat.not_lt_zero _)
  | n + 1, h, hp => by
    show (anyB n P || P n) = true
    rcases Nat.lt_succ_iff_lt_or_eq.mp h with q | q
    · rw [anyB_true q hp]; rfl
    · subst q; rw [hp]; simp
def danS (s : Nat → Int32) (k d : Nat) : Nat → Int32 :=
  let a := upd s (129 + 5 * d + 2) (s (129 + 5 * d + 2) - 1)
  let b := upd a (129 + 5 * d + 3) (a (129 + 5 * d + 3) + 1)
  let c := upd b (129 + 5 * d + 1) (b (129 + 5 * d + 1) + if s (39 + 9 * k + 1) < b (129 + 5 * d) then 1 else s (39 + 9 * k + 1))
  let e := upd c (39 + 9 * k + 7) (c (39 + 9 * k + 7) + 1)
  upd e 6 (e 6 + 1)
def holdS (s : Nat → Int32) (k : Nat) : Nat → Int32 :=
  let a := upd s 7 (s 7 + 1)
  upd a (39 + 9 * k + 6) (a (39 + 9 * k + 6) + 1)
def dnN (who : Int32) (k : Nat) : Nat → (Nat → Int32) → (Nat → Int32)
  | 0, s => s
  | d + 1, s => if bitS who (nI d) then danS (dnN who k d s) k d else dnN who k d s
def stepC (nd : Nat) (s : Nat → Int32) (k : Nat) : Nat → Int32 := if bitsI (comI s k nd) < s 11 then upd s 8 (s 8 + 1) else dnN (comI s k nd) k nd (holdS s k)
def clsN (nd : Nat) : Nat → (Nat → Int32) → (Nat → Int32)
  | 0, s => s
  | k + 1, s => stepC nd (clsN nd k s) k
def hldN (nd : Nat) : Nat → (Nat → Int32) → Int32
  | 0, _ => 0
  | k + 1, s => if bitsI (comI (clsN nd k s) k nd) < (clsN nd k s) 11 then hldN nd k s else hldN nd k s ||| (1 <<< (nI k &&& 31))
def riseS (s : Nat → Int32) (d : Nat) : Nat → Int32 := if s 12 ≤ s (129 + 5 * d + 1) ∧ s (129 + 5 * d) < 5 then upd (upd s (129 + 5 * d) (s (129 + 5 * d) + 1)) (129 + 5 * d + 1) 0 else s
def riseN : Nat → (Nat → Int32) → (Nat → Int32)
  | 0, s => s
  | d + 1, s => riseS (riseN d s) d
def weekS (nc nd : Nat) (s : Nat → Int32) : Nat → Int32 := riseN nd (clsN nd nc (upd s 4 (s 4 + 1)))
def weekH (nc nd : Nat) (s : Nat → Int32) : Int32 := hldN nd nc (upd s 4 (s 4 + 1))
def lowJ (j : Nat) : Prop := j < 4 ∨ j = 11 ∨ j = 12
theorem upd_ne {f : Nat → Int32} {k j : Nat} {x : Int32} (h : j ≠ k) : upd f k x j = f j := pk_un h
theorem danS_low {s : Nat → Int32} {k d j : Nat} (h : lowJ j) : danS s k d j = s j := by
  unfold lowJ at h
  simp only [danS]
  rw [upd_ne (by omega), upd_ne (by omega), upd_ne (by omega), upd_ne (by omega), upd_ne (by omega)]
theorem holdS_low {s : Nat → Int32} {k j : Nat} (h : lowJ j) : holdS s k j = s j := by
  unfold lowJ at h
  simp only [holdS]
  rw [upd_ne (by omega), upd_ne (by omega)]
theorem dnN_low {who : Int32} {k j : Nat} (h : lowJ j) : ∀ (d : Nat) (s : Nat → Int32), dnN who k d s j = s j
  | 0, s => rfl
  | d + 1, s => by
    show (if bitS who (nI d) then danS (dnN who k d s) k d else dnN who k d s) j = s j
    split
    · rw [danS_low h, dnN_low h d s]
    · exact dnN_low h d s
theorem stepC_low {nd k j : Nat} {s : Nat → Int32} (h : lowJ j) : stepC nd s k j = s j := by
  unfold stepC
  split
  · unfold lowJ at h
    rw [upd_ne (by omega)]
  · rw [dnN_low h, holdS_low h]
theorem clsN_low {nd j : Nat} (h : lowJ j) : ∀ (k : Nat) (s : Nat → Int32), clsN nd k s j = s j
  | 0, s => rfl
  | k + 1, s => by
    show stepC nd (clsN nd k s) k j = s j
    rw [stepC_low h, clsN_low h k s]
theorem riseS_low {d j : Nat} {s : Nat → Int32} (h : lowJ j) : riseS s d j = s j := by
  unfold riseS
  split
  · unfold lowJ at h
    rw [upd_ne (by omega), upd_ne (by omega)]
  · rfl
theorem riseN_low {j : Nat} (h : lowJ j) : ∀ (d : Nat) (s : Nat → Int32), riseN d s j = s j
  | 0, s => rfl
  | d + 1, s => by
    show riseS (riseN d s) d j = s j
    rw [riseS_low h, riseN_low h d s]
theorem weekS_low {nc nd j : Nat} {s : Nat → Int32} (h : lowJ j) : weekS nc nd s j = s j := by
  unfold weekS
  rw [riseN_low h, clsN_low h, upd_ne (by unfold lowJ at h; omega)]
set_option maxRecDepth 100000 in
set_option maxHeartbeats 4000000 in
theorem ct_X8_coming {X : Xs} {κ : Kp} {M : Mem} {Q : Rs → Kp → Mem → Prop} {m : Nat} (hm : IsMod κ.2.1 m) {nd : Nat} (h3 : M (m + 1) 3 = nI nd) (hnd : nd ≤ 12) {kI : Int32} (k : Nat) (hk : kI = nI k) (hlt : k < 10) (hQ : Q (.inl (some (.int (comI (M (m + 1)) k nd)))) κ M) : Ct X m_X8_coming [.ref m, .int kI] κ M Q := by
  refine ct_of B_X8_coming_0 pn_X8 rfl (nle rfl) L_X8_coming_0 ?_
  subst hk
  refine g_iconst (v := 0) ik_0 ?_
  refine g_istore_n (nle rfl) ?_
  refine g_iconst (v := 0) ik_0 ?_
  refine g_istore_n (nle rfl) ?_
  refine g_fall rfl L_X8_coming_4 ?_
  refine g_lo2 (lo' := [(0, some (.ref m)), (1, some (.int (nI k))), (2, some (.int (comI (M (m + 1)) k 0))), (3, some (.int (nI 0)))]) ?_ ⟨rfl, rfl, rfl, rfl, trivial⟩
  refine loop_up (P := fun d => G X m_X8_coming B_X8_coming_4 4 [(0, some (.ref m)), (1, some (.int (nI k))), (2, some (.int (comI (M (m + 1)) k d))), (3, some (.int (nI d)))] [] 0 0 κ M Q) nd (fun d hle_d ih_d => ?_) 0 (Nat.zero_le _)
  refine g_iload_n rfl ?_
  refine g_aload_n rfl ?_
  refine g_getR (w := (m + 1)) fl_X8_7 rfl hm.1 rfl ?_
  refine g_iconst (v := 3) ik_3 ?_
  refine g_iaload (j := 3) hm.2.1 rfl (nle rfl) (nle rfl) ?_
  rw [h3]
  refine g_icmp_ge rfl L_X8_coming_48 (fun h_1 => ?_) (fun h_1 => ?_)
  · have hx_d := ((cmp_ge (c := nd) rfl (by omega) hle_d).1 h_1).symm
    subst hx_d
    refine g_iload_n rfl ?_
    refine g_iret rfl (nle rfl) (nle rfl) ?_
    exact hQ
  · have hlt_d : d < nd := (cmp_ge (c := nd) rfl (by omega) hle_d).2 h_1
    refine g_iload_n rfl ?_
    refine g_join (isJ := B_X8_coming_40) (pcJ := 40) (if bitS (M (m + 1) (39 + 9 * k + 8)) (nI d) && decide (0 < M (m + 1) (129 + 5 * d + 2)) then 1 <<< (nI d &&& 31) else 0) ?_ (fun hj_15 => ?_)
    · refine g_ior ?_
      refine g_istore_n (nle rfl) ?_
      refine g_iinc (v := nI (d + 1)) rfl (nI_inc _) (nle rfl) ?_
      refine g_goto rfl L_X8_coming_4 ?_
      exact g_lo2 (ih_d hlt_d) ⟨rfl, rfl, rfl, rfl, trivial⟩
    · refine g_aload_n rfl ?_
      refine g_iload_n rfl ?_
      refine g_iload_n rfl ?_
      refine g_callV (as := [_, _]) mk_X8_hasSeat ml_X8_53 im_X8_hasSeat se_X8_hasSeat rfl rfl ⟨⟨nle rfl, nle rfl⟩, nle rfl, nle rfl⟩ hm.1 rfl rfl rfl (nle rfl) ?_
      refine ct_X8_hasSeat hm k rfl (by omega) ?_
      refine kq_s ?_
      refine g_if_eq_b rfl L_X8_coming_39 (fun h_2 => ?_) (fun h_2 => ?_)
      · refine g_iconst (v := 0) ik_0 ?_
        refine g_fall rfl L_X8_coming_40 ?_
        exact hj_15 _ (by clear hQ hj_15 ih_d; simp_all [i32le, -Int32.not_lt])
      · refine g_aload_n rfl ?_
        refine g_iload_n rfl ?_
        refine g_iconst (v := 2) ik_2 ?_
        refine g_callV (as := [_, _]) mk_X8_ofDancer ml_X8_57 im_X8_ofDancer se_X8_ofDancer rfl rfl ⟨⟨nle rfl, nle rfl⟩, nle rfl, nle rfl⟩ hm.1 rfl rfl rfl (nle rfl) ?_
        refine ct_X8_ofDancer hm d 2 rfl rfl (by omega) ?_
        refine kq_s ?_
        refine g_if_le rfl L_X8_coming_39 (fun h_3 => ?_) (fun h_3 => ?_)
        · refine g_iconst (v := 0) ik_0 ?_
          refine g_fall rfl L_X8_coming_40 ?_
          exact hj_15 _ (by clear hQ hj_15 ih_d; simp_all [i32le, -Int32.not_lt])
        · refine g_iconst (v := 1) ik_1 ?_
          refine g_iload_n rfl ?_
          refine g_ishl ?_
          refine g_goto rfl L_X8_coming_40 ?_
          exact hj_15 _ (by clear hQ hj_15 ih_d; simp_all [i32le, -Int32.not_lt])
set_option maxRecDepth 100000 in
set_option maxHeartbeats 4000000 in
theorem ct_X8_whyNoSeat {X : Xs} {κ : Kp} {M : Mem} {Q : Rs → Kp → Mem → Prop} {m : Nat} (hm : IsMod κ.2.1 m) {nc : Nat} (h2 : M (m + 1) 2 = nI nc) (hnc : nc ≤ 10) {dI kI : Int32} (d k f : Nat) (hd : dI = nI d) (hk : kI = nI k) (hd2 : d < 12) (hk2 : k < 10) (hf : M (m + 1) (39 + 9 * k + 2) = nI f) (hf2 : f < 4) (hQ : Q (.inl (some (.int (whyS (M (m + 1)) nc d k f)))) κ M) : Ct X m_X8_whyNoSeat [.ref m, .int dI, .int kI] κ M Q := by
  refine ct_of B_X8_whyNoSeat_0 pn_X8 rfl (nle rfl) L_X8_whyNoSeat_0 ?_
  subst hd
  subst hk
  refine g_aload_n rfl ?_
  refine g_iload_n rfl ?_
  refine g_iload_n rfl ?_
  refine g_callV (as := [_, _]) mk_X8_hasSeat ml_X8_53 im_X8_hasSeat se_X8_hasSeat rfl rfl ⟨⟨nle rfl, nle rfl⟩, nle rfl, nle rfl⟩ hm.1 rfl rfl rfl (nle rfl) ?_
  refine ct_X8_hasSeat hm k rfl (by omega) ?_
  refine kq_s ?_
  refine g_if_eq_b rfl L_X8_whyNoSeat_11 (fun h_1 => ?_) (fun h_1 => ?_)
  · refine g_aload_n rfl ?_
    refine g_iload_n rfl ?_
    refine g_iconst (v := 1) ik_1 ?_
    refine g_callV (as := [_, _]) mk_X8_ofClass ml_X8_40 im_X8_ofClass se_X8_ofClass rfl rfl ⟨⟨nle rfl, nle rfl⟩, nle rfl, nle rfl⟩ hm.1 rfl rfl rfl (nle rfl) ?_
    refine ct_X8_ofClass hm k 1 rfl rfl (by omega) ?_
    refine kq_s ?_
    refine g_aload_n rfl ?_
    refine g_iload_n rfl ?_
    refine g_iconst (v := 0) ik_0 ?_
    refine g_callV (as := [_, _]) mk_X8_ofDancer ml_X8_57 im_X8_ofDancer se_X8_ofDancer rfl rfl ⟨⟨nle rfl, nle rfl⟩, nle rfl, nle rfl⟩ hm.1 rfl rfl rfl (nle rfl) ?_
    refine ct_X8_ofDancer hm d 0 rfl rfl (by omega) ?_
    refine kq_s ?_
    refine g_iconst (v := 1) ik_1 ?_
    refine g_iadd ?_
    refine g_icmp_le rfl L_X8_whyNoSeat_30 (fun h_2 => ?_) (fun h_2 => ?_)
    · refine g_iconst (v := 0) ik_0 ?_
      refine g_istore_n (nle rfl) ?_
      refine g_fall rfl L_X8_whyNoSeat_32 ?_
      refine g_lo2 (lo' := [(0, some (.ref m)), (1, some (.int (nI d))), (2, some (.int (nI k))), (3, some (.int (nI 0)))]) ?_ ⟨rfl, rfl, rfl, rfl, trivial⟩
      refine loop_up (P := fun e => anyB e (fun e => bitS (M (m + 1) (39 + 9 * e + 8)) (nI d) && (decide (M (m + 1) (39 + 9 * e + 4) = M (m + 1) (39 + 9 * k + 4)) && decide (M (m + 1) (39 + 9 * e + 5) = M (m + 1) (39 + 9 * k + 5)))) = false → G X m_X8_whyNoSeat B_X8_whyNoSeat_32 32 [(0, some (.ref m)), (1, some (.int (nI d))), (2, some (.int (nI k))), (3, some (.int (nI e)))] [] 0 0 κ M Q) nc (fun e hle_e ih_e hpre_e => ?_) 0 (Nat.zero_le _) rfl
      refine g_iload_n rfl ?_
      refine g_aload_n rfl ?_
      refine g_getR (w := (m + 1)) fl_X8_7 rfl hm.1 rfl ?_
      refine g_iconst (v := 2) ik_2 ?_
      refine g_iaload (j := 2) hm.2.1 rfl (nle rfl) (nle rfl) ?_
      rw [h2]
      refine g_icmp_ge rfl L_X8_whyNoSeat_89 (fun h_3 => ?_) (fun h_3 => ?_)
      · have hx_e := ((cmp_ge (c := nc) rfl (by omega) hle_e).1 h_3).symm
        subst hx_e
        refine g_aload_n rfl ?_
        refine g_iload_n rfl ?_
        refine g_bipush (v := 8) bk_8 ?_
        refine g_callV (as := [_, _]) mk_X8_ofClass ml_X8_40 im_X8_ofClass se_X8_ofClass rfl rfl ⟨⟨nle rfl, nle rfl⟩, nle rfl, nle rfl⟩ hm.1 rfl rfl rfl (nle rfl) ?_
        refine ct_X8_ofClass hm k 8 rfl rfl (by omega) ?_
        refine kq_s ?_
        refine g_callS (as := [_]) mk_X8_bits ml_X8_60 sm_X8_bits rfl rfl ⟨⟨nle rfl, nle rfl⟩, nle rfl, nle rfl⟩ rfl rfl (nle rfl) ?_
        refine ct_X8_bits ?_
        refine kq_s ?_
        refine g_aload_n rfl ?_
        refine g_iload_n rfl ?_
        refine g_callV (as := [_]) mk_X8_classTakes ml_X8_63 im_X8_classTakes se_X8_classTakes rfl rfl ⟨⟨nle rfl, nle rfl⟩, nle rfl, nle rfl⟩ hm.1 rfl rfl rfl (nle rfl) ?_
        refine ct_X8_classTakes hm k f rfl (by omega) hf (by omega) ?_
        refine kq_s ?_
        refine g_icmp_lt rfl L_X8_whyNoSeat_111 (fun h_4 => ?_) (fun h_4 => ?_)
        · refine g_iconst (v := 0) ik_0 ?_
          refine g_fall rfl L_X8_whyNoSeat_112 ?_
          refine g_iret rfl (nle rfl) (nle rfl) ?_
          exact qeq hQ (by clear hQ; simp_all [whyS, i32le, -Int32.not_lt]) rfl
        · refine g_iconst (v := 4) ik_4 ?_
          refine g_goto rfl L_X8_whyNoSeat_112 ?_
          refine g_iret rfl (nle rfl) (nle rfl) ?_
          exact qeq hQ (by clear hQ; simp_all [whyS, i32le, -Int32.not_lt]) rfl
      · have hlt_e : e < nc := (cmp_ge (c := nc) rfl (by omega) hle_e).2 h_3
        refine g_aload_n rfl ?_
        refine g_iload_n rfl ?_
        refine g_iload_n rfl ?_
        refine g_callV (as := [_, _]) mk_X8_hasSeat ml_X8_53 im_X8_hasSeat se_X8_hasSeat rfl rfl ⟨⟨nle rfl, nle rfl⟩, nle rfl, nle rfl⟩ hm.1 rfl rfl rfl (nle rfl) ?_
        refine ct_X8_hasSeat hm e rfl (by omega) ?_
        refine kq_s ?_
        refine g_if_eq_b rfl L_X8_whyNoSeat_83 (fun h_5 => ?_) (fun h_5 => ?_)
        · refine g_iinc (v := nI (e + 1)) rfl (nI_inc _) (nle rfl) ?_
          refine g_goto rfl L_X8_whyNoSeat_32 ?_
          exact g_lo2 (ih_e hlt_e (by clear hQ ih_e; simp_all [anyB])) ⟨rfl, rfl, rfl, rfl, trivial⟩
        · refine g_aload_n rfl ?_
          refine g_iload_n rfl ?_
          refine g_iconst (v := 4) ik_4 ?_
          refine g_callV (as := [_, _]) mk_X8_ofClass ml_X8_40 im_X8_ofClass se_X8_ofClass rfl rfl ⟨⟨nle rfl, nle rfl⟩, nle rfl, nle rfl⟩ hm.1 rfl rfl rfl (nle rfl) ?_
          refine ct_X8_ofClass hm e 4 rfl rfl (by omega) ?_
          refine kq_s ?_
          refine g_aload_n rfl ?_
          refine g_iload_n rfl ?_
          refine g_iconst (v := 4) ik_4 ?_
          refine g_callV (as := [_, _]) mk_X8_ofClass ml_X8_40 im_X8_ofClass se_X8_ofClass rfl rfl ⟨⟨nle rfl, nle rfl⟩, nle rfl, nle rfl⟩ hm.1 rfl rfl rfl (nle rfl) ?_
          refine ct_X8_ofClass hm k 4 rfl rfl (by omega) ?_
          refine kq_s ?_
          refine g_icmp_ne rfl L_X8_whyNoSeat_83 (fun h_6 => ?_) (fun h_6 => ?_)
          · refine g_iinc (v := nI (e + 1)) rfl (nI_inc _) (nle rfl) ?_
            refine g_goto rfl L_X8_whyNoSeat_32 ?_
            exact g_lo2 (ih_e hlt_e (by clear hQ ih_e; simp_all [anyB])) ⟨rfl, rfl, rfl, rfl, trivial⟩
          · refine g_aload_n rfl ?_
            refine g_iload_n rfl ?_
            refine g_iconst (v := 5) ik_5 ?_
            refine g_callV (as := [_, _]) mk_X8_ofClass ml_X8_40 im_X8_ofClass se_X8_ofClass rfl rfl ⟨⟨nle rfl, nle rfl⟩, nle rfl, nle rfl⟩ hm.1 rfl rfl rfl (nle rfl) ?_
            refine ct_X8_ofClass hm e 5 rfl rfl (by omega) ?_
            refine kq_s ?_
            refine g_aload_n rfl ?_
            refine g_iload_n rfl ?_
            refine g_iconst (v := 5) ik_5 ?_
            refine g_callV (as := [_, _]) mk_X8_ofClass ml_X8_40 im_X8_ofClass se_X8_ofClass rfl rfl ⟨⟨nle rfl, nle rfl⟩, nle rfl, nle rfl⟩ hm.1 rfl rfl rfl (nle rfl) ?_
            refine ct_X8_ofClass hm k 5 rfl rfl (by omega) ?_
            refine kq_s ?_
            refine g_icmp_ne rfl L_X8_whyNoSeat_83 (fun h_7 => ?_) (fun h_7 => ?_)
            · refine g_iinc (v := nI (e + 1)) rfl (nI_inc _) (nle rfl) ?_
              refine g_goto rfl L_X8_whyNoSeat_32 ?_
              exact g_lo2 (ih_e hlt_e (by clear hQ ih_e; simp_all [anyB])) ⟨rfl, rfl, rfl, rfl, trivial⟩
            · refine g_iconst (v := 3) ik_3 ?_
              refine g_iret rfl (nle rfl) (nle rfl) ?_
              have q := anyB_true (P := fun e => bitS (M (m + 1) (39 + 9 * e + 8)) (nI d) && (decide (M (m + 1) (39 + 9 * e + 4) = M (m + 1) (39 + 9 * k + 4)) && decide (M (m + 1) (39 + 9 * e + 5) = M (m + 1) (39 + 9 * k + 5)))) hlt_e (by clear hQ ih_e hpre_e; simp_all)
              exact qeq hQ (by clear hQ ih_e hpre_e; simp_all [whyS, i32le, -Int32.not_lt]) rfl
    · refine g_iconst (v := 2) ik_2 ?_
      refine g_iret rfl (nle rfl) (nle rfl) ?_
      exact qeq hQ (by clear hQ; simp_all [whyS, i32le, -Int32.not_lt]) rfl
  · refine g_iconst (v := 1) ik_1 ?_
    refine g_iret rfl (nle rfl) (nle rfl) ?_
    exact qeq hQ (by clear hQ; simp_all [whyS, i32le, -Int32.not_lt]) rfl
set_option maxRecDepth 100000 in
set_option maxHeartbeats 4000000 in
theorem ct_X8_dances {X : Xs} {κ : Kp} {M : Mem} {Q : Rs → Kp → Mem → Prop} {m : Nat} (hm : IsMod κ.2.1 m)  {kI dI : Int32} (k d : Nat) (hk : kI = nI k) (hd : dI = nI d) (hk2 : k < 10) (hd2 : d < 12) (hQ : Q (.inl none) κ (sR M (m + 1) (danS (M (m + 1)) k d))) : Ct X m_X8_dances [.ref m, .int kI, .int dI] κ M Q := by
  refine ct_of B_X8_dances_0 pn_X8 rfl (nle rfl) L_X8_dances_0 ?_
  subst hk
  subst hd
  refine g_sipush (v := 129) sk_129 ?_
  refine g_iconst (v := 5) ik_5 ?_
  refine g_iload_n rfl ?_
  refine g_imul ?_
  refine g_iadd ?_
  refine g_istore_n (nle rfl) ?_
  refine g_aload_n rfl ?_
  refine g_iload_n rfl ?_
  refine g_iconst (v := 1) ik_1 ?_
  refine g_callV (as := [_, _]) mk_X8_ofClass ml_X8_40 im_X8_ofClass se_X8_ofClass rfl rfl ⟨⟨nle rfl, nle rfl⟩, nle rfl, nle rfl⟩ hm.1 rfl rfl rfl (nle rfl) ?_
  refine ct_X8_ofClass hm k 1 rfl rfl (by omega) ?_
  refine kq_s ?_
  refine g_istore (nle rfl) ?_
  refine g_aload_n rfl ?_
  refine g_getR (w := (m + 1)) fl_X8_7 rfl hm.1 rfl ?_
  refine g_iload_n rfl ?_
  refine g_iconst (v := 2) ik_2 ?_
  refine g_iadd ?_
  refine g_dup2 rfl rfl ?_
  refine g_iaload (j := ((129 + (5 * d)) + 2)) hm.2.1 (by simp only [nI, Int32.ofNat_add, Int32.ofNat_mul] <;> rfl) (by omega) (nle rfl) ?_
  refine g_iconst (v := 1) ik_1 ?_
  refine g_isub ?_
  refine g_iastore (j := ((129 + (5 * d)) + 2)) hm.2.1 (by simp only [nI, Int32.ofNat_add, Int32.ofNat_mul] <;> rfl) (by omega) (nle rfl) ?_
  refine g_aload_n rfl ?_
  refine g_getR (w := (m + 1)) fl_X8_7 rfl hm.1 rfl ?_
  refine g_iload_n rfl ?_
  refine g_iconst (v := 3) ik_3 ?_
  refine g_iadd ?_
  refine g_dup2 rfl rfl ?_
  refine g_iaload (j := ((129 + (5 * d)) + 3)) hm.2.1 (by simp only [nI, Int32.ofNat_add, Int32.ofNat_mul] <;> rfl) (by omega) (nle rfl) ?_
  refine g_iconst (v := 1) ik_1 ?_
  refine g_iadd ?_
  refine g_iastore (j := ((129 + (5 * d)) + 3)) hm.2.1 (by simp only [nI, Int32.ofNat_add, Int32.ofNat_mul] <;> rfl) (by omega) (nle rfl) ?_
  refine g_aload_n rfl ?_
  refine g_getR (w := (m + 1)) fl_X8_7 rfl hm.1 rfl ?_
  refine g_iload_n rfl ?_
  refine g_iconst (v := 1) ik_1 ?_
  refine g_iadd ?_
  refine g_dup2 rfl rfl ?_
  refine g_iaload (j := ((129 + (5 * d)) + 1)) hm.2.1 (by simp only [nI, Int32.ofNat_add, Int32.ofNat_mul] <;> rfl) (by omega) (nle rfl) ?_
  refine g_iload rfl ?_
  refine g_aload_n rfl ?_
  refine g_getR (w := (m + 1)) fl_X8_7 rfl hm.1 rfl ?_
  refine g_iload_n rfl ?_
  refine g_iaload (j := (129 + (5 * d))) hm.2.1 (by simp only [nI, Int32.ofNat_add, Int32.ofNat_mul] <;> rfl) (by omega) (nle rfl) ?_
  refine g_icmp_lt rfl L_X8_dances_65 (fun h_1 => ?_) (fun h_1 => ?_)
  · refine g_iconst (v := 1) ik_1 ?_
    refine g_fall rfl L_X8_dances_66 ?_
    refine g_iadd ?_
    refine g_iastore (j := ((129 + (5 * d)) + 1)) hm.2.1 (by simp only [nI, Int32.ofNat_add, Int32.ofNat_mul] <;> rfl) (by omega) (nle rfl) ?_
    refine g_aload_n rfl ?_
    refine g_getR (w := (m + 1)) fl_X8_7 rfl hm.1 rfl ?_
    refine g_bipush (v := 39) bk_39 ?_
    refine g_bipush (v := 9) bk_9 ?_
    refine g_iload_n rfl ?_
    refine g_imul ?_
    refine g_iadd ?_
    refine g_bipush (v := 7) bk_7 ?_
    refine g_iadd ?_
    refine g_dup2 rfl rfl ?_
    refine g_iaload (j := ((39 + (9 * k)) + 7)) hm.2.1 (by simp only [nI, Int32.ofNat_add, Int32.ofNat_mul] <;> rfl) (by omega) (nle rfl) ?_
    refine g_iconst (v := 1) ik_1 ?_
    refine g_iadd ?_
    refine g_iastore (j := ((39 + (9 * k)) + 7)) hm.2.1 (by simp only [nI, Int32.ofNat_add, Int32.ofNat_mul] <;> rfl) (by omega) (nle rfl) ?_
    refine g_aload_n rfl ?_
    refine g_getR (w := (m + 1)) fl_X8_7 rfl hm.1 rfl ?_
    refine g_bipush (v := 6) bk_6 ?_
    refine g_dup2 rfl rfl ?_
    refine g_iaload (j := 6) hm.2.1 rfl (nle rfl) (nle rfl) ?_
    refine g_iconst (v := 1) ik_1 ?_
    refine g_iadd ?_
    refine g_iastore (j := 6) hm.2.1 rfl (nle rfl) (nle rfl) ?_
    refine g_vret rfl (nle rfl) (nle rfl) ?_
    refine qeqv hQ ?_
    clear hQ
    simp only [upM_sR, sR_s, sR_sR, danS] at *
    simp_all [-Int32.not_lt]
  · refine g_iload rfl ?_
    refine g_goto rfl L_X8_dances_66 ?_
    refine g_iadd ?_
    refine g_iastore (j := ((129 + (5 * d)) + 1)) hm.2.1 (by simp only [nI, Int32.ofNat_add, Int32.ofNat_mul] <;> rfl) (by omega) (nle rfl) ?_
    refine g_aload_n rfl ?_
    refine g_getR (w := (m + 1)) fl_X8_7 rfl hm.1 rfl ?_
    refine g_bipush (v := 39) bk_39 ?_
    refine g_bipush (v := 9) bk_9 ?_
    refine g_iload_n rfl ?_
    refine g_imul ?_
    refine g_iadd ?_
    refine g_bipush (v := 7) bk_7 ?_
    refine g_iadd ?_
    refine g_dup2 rfl rfl ?_
    refine g_iaload (j := ((39 + (9 * k)) + 7)) hm.2.1 (by simp only [nI, Int32.ofNat_add, Int32.ofNat_mul] <;> rfl) (by omega) (nle rfl) ?_
    refine g_iconst (v := 1) ik_1 ?_
    refine g_iadd ?_
    refine g_iastore (j := ((39 + (9 * k)) + 7)) hm.2.1 (by simp only [nI, Int32.ofNat_add, Int32.ofNat_mul] <;> rfl) (by omega) (nle rfl) ?_
    refine g_aload_n rfl ?_
    refine g_getR (w := (m + 1)) fl_X8_7 rfl hm.1 rfl ?_
    refine g_bipush (v := 6) bk_6 ?_
    refine g_dup2 rfl rfl ?_
    refine g_iaload (j := 6) hm.2.1 rfl (nle rfl) (nle rfl) ?_
    refine g_iconst (v := 1) ik_1 ?_
    refine g_iadd ?_
    refine g_iastore (j := 6) hm.2.1 rfl (nle rfl) (nle rfl) ?_
    refine g_vret rfl (nle rfl) (nle rfl) ?_
    refine qeqv hQ ?_
    clear hQ
    simp only [upM_sR, sR_s, sR_sR, danS] at *
    simp_all [-Int32.not_lt]
