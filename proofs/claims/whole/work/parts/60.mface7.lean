def rfH (s : Nat → Int32) (nc : Nat) (style level : Int32) (t : Nat) (day hour : Int32) (f : Nat) : Int32 := if whyI s nc style level f t day hour = 0 then rmI s style f else -1
def rfC (s : Nat → Int32) (nc : Nat) (style level : Int32) (t : Nat) (day hour : Int32) : Nat → Int32 × Int32
  | 0 => (-1, -1)
  | f + 1 => if (rfC s nc style level t day hour f).2 < rfH s nc style level t day hour f then (nI f, rfH s nc style level t day hour f) else rfC s nc style level t day hour f
theorem rfC_y {s : Nat → Int32} {nc : Nat} {style level : Int32} {t : Nat} {day hour : Int32} {f : Nat} (h : (rfC s nc style level t day hour f).2 < rfH s nc style level t day hour f) : rfC s nc style level t day hour (f + 1) = (nI f, rfH s nc style level t day hour f) := if_pos h
theorem rfC_n {s : Nat → Int32} {nc : Nat} {style level : Int32} {t : Nat} {day hour : Int32} {f : Nat} (h : ¬ (rfC s nc style level t day hour f).2 < rfH s nc style level t day hour f) : rfC s nc style level t day hour (f + 1) = rfC s nc style level t day hour f := if_neg h
theorem why_bar {s : Nat → Int32} {nc : Nat} {style level : Int32} {f t : Nat} {day hour : Int32} (h : whyI s nc style level f t day hour = 0) : barOK (s (13 + 4 * f + 2)) style level = true := by
  rcases hb : barOK (s (13 + 4 * f + 2)) style level with _ | _
  · unfold whyI at h
    rw [hb] at h
    split at h
    · exact absurd h (by decide)
    split at h
    · exact absurd h (by decide)
    split at h
    · exact absurd h (by decide)
    split at h
    · exact absurd h (by decide)
    rw [if_pos rfl] at h
    exact absurd h (by decide)
  · rfl
theorem rm_pos {s : Nat → Int32} {nc : Nat} {style level : Int32} {f t : Nat} {day hour : Int32} (hF : FlOK s f) (hl : inB level 1 5 = true) (h : whyI s nc style level f t day hour = 0) : 0 < rmI s style f := by
  obtain ⟨_, ⟨b, _, b2, eb⟩, ⟨p, p1, p2, ep⟩⟩ := hF
  obtain ⟨l, l1, l2, el⟩ := in_rng (lo := 1) (hi := 5) (by omega) (by omega) rfl rfl hl
  have hb := why_bar h
  unfold rmI tkI
  rw [ep]
  split
  · rename_i hq
    unfold barOK at hb
    rw [hq.1] at hb
    have hb2 : 2 * level + 4 ≤ s (13 + 4 * f + 2) := by simpa using hb
    rw [eb, el, show (2 : Int32) * nI l + 4 = nI (2 * l + 4) by rw [show (2 : Int32) * nI l = nI (2 * l) from nI_mul 2 l]; exact nI_add (2 * l) 4] at hb2
    have hb3 := (nI_leI (a := 2 * l + 4) (b := b) (by omega) (by omega)).mp hb2
    rw [eb, show nI b / 2 = nI (b / 2) from pk_div (d := 2) (by omega) (by omega) (by omega)]
    exact (nI_ltI (a := 0) (b := b / 2) (by omega) (by omega)).mpr (by omega)
  · exact (nI_ltI (a := 0) (b := p) (by omega) (by omega)).mpr (by omega)
theorem i_nlt {x : Int32} (h : 0 ≤ x) : ¬ x < -1 := fun q => by
  rw [Int32.lt_iff_toInt_lt] at q
  rw [Int32.le_iff_toInt_le] at h
  have e1 : (-1 : Int32).toInt = -1 := by decide
  have e2 : (0 : Int32).toInt = 0 := by decide
  omega
theorem i_m1lt {x : Int32} (h : 0 < x) : -1 < x := by
  rw [Int32.lt_iff_toInt_lt] at h ⊢
  have e1 : (-1 : Int32).toInt = -1 := by decide
  have e2 : (0 : Int32).toInt = 0 := by decide
  omega
theorem rf_bf {s : Nat → Int32} {nc nf : Nat} {style level : Int32} {t : Nat} {day hour : Int32} (hp : ∀ f, f < nf → whyI s nc style level f t day hour = 0 → 0 < rmI s style f) (n : Nat) (hn : n ≤ nf) : (rfC s nc style level t day hour n = bfC s nc style level t day hour n ∧ 0 ≤ (bfC s nc style level t day hour n).2) ∨ (bfC s nc style level t day hour n = (-1, 0) ∧ rfC s nc style level t day hour n = (-1, -1)) := by
  induction n with
  | zero => exact Or.inr ⟨rfl, rfl⟩
  | succ n ih =>
    have ih := ih (by omega)
    by_cases hw : whyI s nc style level n t day hour = 0
    · have hpp := hp n (by omega) hw
      have e : rfH s nc style level t day hour n = rmI s style n := if_pos hw
      rcases ih with ⟨a, b⟩ | ⟨a, b⟩
      · by_cases hlt : (bfC s nc style level t day hour n).2 < rmI s style n
        · rw [bfC_y ⟨hlt, hw⟩, rfC_y (by rw [a, e]; exact hlt), e]
          exact Or.inl ⟨rfl, Int32.le_of_lt hpp⟩
        · rw [bfC_n (fun q => hlt q.1), rfC_n (by rw [a, e]; exact hlt)]
          exact Or.inl ⟨a, b⟩
      · rw [bfC_y ⟨by rw [a]; exact hpp, hw⟩, rfC_y (by rw [b, e]; exact i_m1lt hpp), e]
        exact Or.inl ⟨rfl, Int32.le_of_lt hpp⟩
    · have e : rfH s nc style level t day hour n = -1 := if_neg hw
      rw [bfC_n (fun q => hw q.2), rfC_n ?_]
      · exact ih
      · rw [e]
        rcases ih with ⟨a, b⟩ | ⟨a, b⟩
        · rw [a]; exact i_nlt b
        · rw [b]; decide
theorem rf_fst {s : Nat → Int32} {nc nf : Nat} {style level : Int32} {t : Nat} {day hour : Int32} (hp : ∀ f, f < nf → whyI s nc style level f t day hour = 0 → 0 < rmI s style f) : (rfC s nc style level t day hour nf).1 = (bfC s nc style level t day hour nf).1 := by
  rcases rf_bf hp nf (Nat.le_refl _) with ⟨a, _⟩ | ⟨a, b⟩
  · rw [a]
  · rw [a, b]
set_option maxRecDepth 100000 in
set_option maxHeartbeats 4000000 in
theorem ct_X8_bestFloor {X : Xs} {κ : Kp} {M : Mem} {Q : Rs → Kp → Mem → Prop} {m : Nat} (hm : IsMod κ.2.1 m) {B : Nat} {s : Nat → Int32} (hs : M (m + 1) = s) (hI0 : IR B s) {st lv t dy hr_ : Int32} (hE1 : isT s t = false → Q (.inl (some (.int 0))) κ (upM M m 0 1)) (hE2 : isT s t = true → isTm st lv dy hr_ = false → Q (.inl (some (.int 0))) κ (upM M m 0 2)) (hY : isT s t = true → isTm st lv dy hr_ = true → ∀ M', FrH M M' m → Q (.inl (some (.int ((bfC s (cN s 2) st lv (tn t) dy hr_ (cN s 0)).1)))) κ M') : Ct X m_X8_bestFloor [.ref m, .int st, .int lv, .int t, .int dy, .int hr_] κ M Q := by
  refine ct_of B_X8_bestFloor_0 pn_X8 rfl (nle rfl) L_X8_bestFloor_0 ?_
  refine g_aload_n rfl ?_
  refine g_aload_n rfl ?_
  refine g_iload_n rfl ?_
  refine g_callV (as := [_]) mk_X8_isTeacher ml_X8_124 im_X8_isTeacher se_X8_isTeacher rfl rfl ⟨⟨nle rfl, nle rfl⟩, nle rfl, nle rfl⟩ hm.1 rfl rfl rfl (nle rfl) ?_
  refine ct_X8_isTeacher hm ?_
  rw [hs]
  refine kq_s ?_
  refine g_if_ne_b rfl L_X8_bestFloor_13 (fun h_1 => ?_) (fun h_1 => ?_)
  · have hqt : isT s t = true := h_1
    refine g_iload_n rfl ?_
    refine g_iload_n rfl ?_
    refine g_iload rfl ?_
    refine g_iload rfl ?_
    refine g_callS (as := [_, _, _, _]) mk_X8_isTime ml_X8_209 sm_X8_isTime rfl rfl ⟨⟨nle rfl, nle rfl⟩, nle rfl, nle rfl⟩ rfl rfl (nle rfl) ?_
    refine ct_X8_isTime ?_
    refine kq_s ?_
    refine g_if_ne_b rfl L_X8_bestFloor_29 (fun h_2 => ?_) (fun h_2 => ?_)
    · have hqa : isTm st lv dy hr_ = true := h_2
      refine g_iconst (v := 0) ik_0 ?_
      refine g_fall rfl L_X8_bestFloor_30 ?_
      refine g_callV (as := [_]) mk_X8_holds ml_X8_89 im_X8_holds se_X8_holds rfl rfl ⟨⟨nle rfl, nle rfl⟩, nle rfl, nle rfl⟩ hm.1 rfl rfl rfl (nle rfl) ?_
      refine ct_X8_holds hm ?_
      have fH := frh M m
      generalize (upM M m 0 0) = M1 at fH ⊢
      have f1 : M1 (m + 1) = s := (fH.2.1 _ (by omega)).trans hs
      have hI1 : IR B (s17 s) := hI0.cg fun j hj => s17_low (by omega)
      refine kq_s ?_
      refine g_if_ne rfl L_X8_bestFloor_38 (fun h_3 => ?_) (fun h_3 => absurd h_3 (by decide))
      refine g_iconst (v := -1) ik_m1 ?_
      refine g_istore (nle rfl) ?_
      refine g_iconst (v := -1) ik_m1 ?_
      refine g_istore (nle rfl) ?_
      refine g_iconst (v := 0) ik_0 ?_
      refine g_istore (nle rfl) ?_
      refine g_fall rfl L_X8_bestFloor_47 ?_
      obtain ⟨nf, nt, nc, nd, hI⟩ := hI0
      have bf := hI.lf
      have bt := hI.lt
      have bc := hI.lc
      obtain ⟨k, hk, ek⟩ := hI.xT.mp hqt
      subst ek
      refine g_lo2 (lo' := [(0, some (.ref m)), (1, some (.int st)), (2, some (.int lv)), (3, some (.int (nI k))), (4, some (.int dy)), (5, some (.int hr_)), (6, some (.int (rfC s nc st lv k dy hr_ 0).1)), (7, some (.int (rfC s nc st lv k dy hr_ 0).2)), (8, some (.int (nI 0)))]) ?_ ⟨rfl, rfl, rfl, rfl, rfl, rfl, rfl, rfl, rfl, trivial⟩
      refine loop_up (P := fun i => G X m_X8_bestFloor B_X8_bestFloor_47 47 [(0, some (.ref m)), (1, some (.int st)), (2, some (.int lv)), (3, some (.int (nI k))), (4, some (.int dy)), (5, some (.int hr_)), (6, some (.int (rfC s nc st lv k dy hr_ i).1)), (7, some (.int (rfC s nc st lv k dy hr_ i).2)), (8, some (.int (nI i)))] [] (0 + (rmOf m_X8_isTeacher).cells + (rmOf m_X8_isTime).cells + (rmOf m_X8_holds).cells) (0 + (rmOf m_X8_isTeacher).slots + (rmOf m_X8_isTime).slots + (rmOf m_X8_holds).slots) κ M1 Q) nf (fun i hle_i ih_i => ?_) 0 (Nat.zero_le _)
      refine g_iload rfl ?_
      refine g_aload_n rfl ?_
      refine g_getR (w := (m + 1)) fl_X8_7 rfl hm.1 rfl ?_
      refine g_iconst (v := 0) ik_0 ?_
      refine g_iaload (j := 0) hm.2.1 rfl (nle rfl) (nle rfl) ?_
      rw [f1]
      refine g_icmp_ge rfl L_X8_bestFloor_125 (fun h_4 => ?_) (fun h_4 => ?_)
      · have hx_i := (cmp_ge (c := nf) hI.f (by omega) hle_i).1 h_4
        refine g_iload rfl ?_
        refine g_iret rfl (nle rfl) (nle rfl) ?_
        refine qeq (hY hqt hqa _ fH) ?_ rfl
        rw [hI.n2, hI.n0, tn_nI (by omega), hx_i]
        unfold isTm at hqa
        rw [Bool.and_eq_true, Bool.and_eq_true] at hqa
        exact rf_fst (fun f hf hw => rm_pos (hI.fl hf) hqa.2.1 hw)
      · have hlt_i : i < nf := (cmp_ge (c := nf) hI.f (by omega) hle_i).2 h_4
        refine g_aload_n rfl ?_
        refine g_iload_n rfl ?_
        refine g_iload_n rfl ?_
        refine g_iload rfl ?_
        refine g_iload_n rfl ?_
        refine g_iload rfl ?_
        refine g_iload rfl ?_
        refine g_callV (as := [_, _, _, _, _, _]) mk_X8_whyNo ml_X8_136 im_X8_whyNo se_X8_whyNo rfl rfl ⟨⟨nle rfl, nle rfl⟩, nle rfl, nle rfl⟩ hm.1 rfl rfl rfl (nle rfl) ?_
        refine ct_X8_whyNo hm (by rw [f1]; exact hI.c) bc i k rfl rfl (by omega) (by omega) (by rw [f1]; obtain ⟨z, -, z2, z3⟩ := (hI.fl hlt_i).1; rw [z3]; exact (nI_leI (a := 0) (b := z) (by omega) (by omega)).mpr (Nat.zero_le _)) ?_
        rw [f1]
        refine kq_s ?_
        refine g_if_ne rfl L_X8_bestFloor_84 (fun h_5 => ?_) (fun h_5 => ?_)
        · have e9 : (-1 : Int32) = rfH s nc st lv k dy hr_ i := (if_neg h_5).symm
          refine g_iconst (v := -1) ik_m1 ?_
          refine g_fall rfl L_X8_bestFloor_85 ?_
          refine g_istore (nle rfl) ?_
          refine g_lo2 (lo' := [(0, some (.ref m)), (1, some (.int st)), (2, some (.int lv)), (3, some (.int (nI k))), (4, some (.int dy)), (5, some (.int hr_)), (6, some (.int (rfC s nc st lv k dy hr_ i).1)), (7, some (.int (rfC s nc st lv k dy hr_ i).2)), (8, some (.int (nI i))), (9, some (.int (rfH s nc st lv k dy hr_ i)))]) ?_ ⟨rfl, rfl, rfl, rfl, rfl, rfl, rfl, rfl, rfl, congrArg (fun z => some (Value.int z)) e9, trivial⟩
          refine g_iload rfl ?_
          refine g_iload rfl ?_
          refine g_icmp_le rfl L_X8_bestFloor_99 (fun h_6 => ?_) (fun h_6 => ?_)
          · have hup : ¬ (rfC s nc st lv k dy hr_ i).2 < rfH s nc st lv k dy hr_ i := Int32.not_lt.mpr h_6
            refine g_iload rfl ?_
            refine g_fall rfl L_X8_bestFloor_101 ?_
            refine g_istore (nle rfl) ?_
            refine g_iload rfl ?_
            refine g_iload rfl ?_
            refine g_icmp_le rfl L_X8_bestFloor_115 (fun h_7 => ?_) (fun h_7 => ?_)
            · refine g_iload rfl ?_
              refine g_fall rfl L_X8_bestFloor_117 ?_
              refine g_istore (nle rfl) ?_
              refine g_iinc (v := nI (i + 1)) rfl (nI_inc _) (nle rfl) ?_
              refine g_goto rfl L_X8_bestFloor_47 ?_
              have ih2 := ih_i hlt_i
              rw [rfC_n hup] at ih2
              exact g_lo2 ih2 ⟨rfl, rfl, rfl, rfl, rfl, rfl, rfl, rfl, rfl, trivial⟩
            · exact absurd (Int32.not_le.mp h_7) hup
          · have hup : (rfC s nc st lv k dy hr_ i).2 < rfH s nc st lv k dy hr_ i := Int32.not_le.mp h_6
            refine g_iload rfl ?_
            refine g_goto rfl L_X8_bestFloor_101 ?_
            refine g_istore (nle rfl) ?_
            refine g_iload rfl ?_
            refine g_iload rfl ?_
            refine g_icmp_le rfl L_X8_bestFloor_115 (fun h_8 => ?_) (fun h_8 => ?_)
            · exact absurd hup (Int32.not_lt.mpr h_8)
            · refine g_iload rfl ?_
              refine g_goto rfl L_X8_bestFloor_117 ?_
              refine g_istore (nle rfl) ?_
              refine g_iinc (v := nI (i + 1)) rfl (nI_inc _) (nle rfl) ?_
              refine g_goto rfl L_X8_bestFloor_47 ?_
              have ih2 := ih_i hlt_i
              rw [rfC_y hup] at ih2
              exact g_lo2 ih2 ⟨rfl, rfl, rfl, rfl, rfl, rfl, rfl, rfl, rfl, trivial⟩
        · have e9 : tkI (s (13 + 4 * i + 3)) (s (13 + 4 * i + 2)) st = rfH s nc st lv k dy hr_ i := (if_pos h_5).symm
          refine g_aload_n rfl ?_
          refine g_iload_n rfl ?_
          refine g_iload rfl ?_
          refine g_callV (as := [_, _]) mk_X8_takes ml_X8_50 im_X8_takes se_X8_takes rfl rfl ⟨⟨nle rfl, nle rfl⟩, nle rfl, nle rfl⟩ hm.1 rfl rfl rfl (nle rfl) ?_
          refine ct_X8_takes hm i rfl (by omega) ?_
          rw [f1]
          refine kq_s ?_
          refine g_goto rfl L_X8_bestFloor_85 ?_
          refine g_istore (nle rfl) ?_
          refine g_lo2 (lo' := [(0, some (.ref m)), (1, some (.int st)), (2, some (.int lv)), (3, some (.int (nI k))), (4, some (.int dy)), (5, some (.int hr_)), (6, some (.int (rfC s nc st lv k dy hr_ i).1)), (7, some (.int (rfC s nc st lv k dy hr_ i).2)), (8, some (.int (nI i))), (9, some (.int (rfH s nc st lv k dy hr_ i)))]) ?_ ⟨rfl, rfl, rfl, rfl, rfl, rfl, rfl, rfl, rfl, congrArg (fun z => some (Value.int z)) e9, trivial⟩
          refine g_iload rfl ?_
          refine g_iload rfl ?_
          refine g_icmp_le rfl L_X8_bestFloor_99 (fun h_9 => ?_) (fun h_9 => ?_)
          · have hup : ¬ (rfC s nc st lv k dy hr_ i).2 < rfH s nc st lv k dy hr_ i := Int32.not_lt.mpr h_9
            refine g_iload rfl ?_
            refine g_fall rfl L_X8_bestFloor_101 ?_
            refine g_istore (nle rfl) ?_
            refine g_iload rfl ?_
            refine g_iload rfl ?_
            refine g_icmp_le rfl L_X8_bestFloor_115 (fun h_10 => ?_) (fun h_10 => ?_)
            · refine g_iload rfl ?_
              refine g_fall rfl L_X8_bestFloor_117 ?_
              refine g_istore (nle rfl) ?_
              refine g_iinc (v := nI (i + 1)) rfl (nI_inc _) (nle rfl) ?_
              refine g_goto rfl L_X8_bestFloor_47 ?_
              have ih2 := ih_i hlt_i
              rw [rfC_n hup] at ih2
              exact g_lo2 ih2 ⟨rfl, rfl, rfl, rfl, rfl, rfl, rfl, rfl, rfl, trivial⟩
            · exact absurd (Int32.not_le.mp h_10) hup
          · have hup : (rfC s nc st lv k dy hr_ i).2 < rfH s nc st lv k dy hr_ i := Int32.not_le.mp h_9
            refine g_iload rfl ?_
            refine g_goto rfl L_X8_bestFloor_101 ?_
            refine g_istore (nle rfl) ?_
            refine g_iload rfl ?_
            refine g_iload rfl ?_
            refine g_icmp_le rfl L_X8_bestFloor_115 (fun h_11 => ?_) (fun h_11 => ?_)
            · exact absurd hup (Int32.not_lt.mpr h_11)
            · refine g_iload rfl ?_
              refine g_goto rfl L_X8_bestFloor_117 ?_
              refine g_istore (nle rfl) ?_
              refine g_iinc (v := nI (i + 1)) rfl (nI_inc _) (nle rfl) ?_
              refine g_goto rfl L_X8_bestFloor_47 ?_
              have ih2 := ih_i hlt_i
              rw [rfC_y hup] at ih2
              exact g_lo2 ih2 ⟨rfl, rfl, rfl, rfl, rfl, rfl, rfl, rfl, rfl, trivial⟩
    · have hqa : isTm st lv dy hr_ = false := h_2
      refine g_iconst (v := 2) ik_2 ?_
      refine g_goto rfl L_X8_bestFloor_30 ?_
      refine g_callV (as := [_]) mk_X8_holds ml_X8_89 im_X8_holds se_X8_holds rfl rfl ⟨⟨nle rfl, nle rfl⟩, nle rfl, nle rfl⟩ hm.1 rfl rfl rfl (nle rfl) ?_
      refine ct_X8_holds hm ?_
      refine kq_s ?_
      refine g_if_ne rfl L_X8_bestFloor_38 (fun h_12 => absurd h_12 (by decide)) (fun h_12 => ?_)
      refine g_iconst (v := 0) ik_0 ?_
      refine g_iret rfl (nle rfl) (nle rfl) ?_
      exact hE2 hqt hqa
  · have hqt : isT s t = false := h_1
    refine g_iconst (v := 1) ik_1 ?_
    refine g_goto rfl L_X8_bestFloor_30 ?_
    refine g_callV (as := [_]) mk_X8_holds ml_X8_89 im_X8_holds se_X8_holds rfl rfl ⟨⟨nle rfl, nle rfl⟩, nle rfl, nle rfl⟩ hm.1 rfl rfl rfl (nle rfl) ?_
    refine ct_X8_holds hm ?_
    refine kq_s ?_
    refine g_if_ne rfl L_X8_bestFloor_38 (fun h_13 => absurd h_13 (by decide)) (fun h_13 => ?_)
    refine g_iconst (v := 0) ik_0 ?_
    refine g_iret rfl (nle rfl) (nle rfl) ?_
    exact hE1 hqt
