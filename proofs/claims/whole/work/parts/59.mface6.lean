theorem lN_nz63 {n : Nat} (h : 0 < n) (h2 : n < 2 ^ 63) : ¬ lN n = 0 := fun q => by
  have := (lN_eq63 (b := 0) h2 (by omega)).mp q
  omega
theorem pw_u {k i : Nat} (h : i < k) : 100000 ^ (k - i) = 100000 ^ (k - 1 - i) * 100000 := by
  rw [show k - i = (k - 1 - i) + 1 by omega, Nat.pow_succ]
theorem pw_lt {n : Nat} (h : n ≤ 3) : 100000 ^ n < 2 ^ 63 := by
  have h : n = 0 ∨ n = 1 ∨ n = 2 ∨ n = 3 := by omega
  rcases h with rfl | rfl | rfl | rfl <;> decide
theorem pw_pos {n : Nat} : 0 < 100000 ^ n := Nat.pow_pos (by omega)
theorem gr_div {σ k i : Nat} (h : i < k) : σ % 100000 ^ (k - i) / 100000 ^ (k - 1 - i) = grN σ k i := by
  rw [pw_u h, Nat.mod_mul_right_div_self]; rfl
theorem gr_mod {σ k i : Nat} (h : i < k) : σ % 100000 ^ (k - i) % 100000 ^ (k - 1 - i) = σ % 100000 ^ (k - (i + 1)) := by
  rw [pw_u h, Nat.mod_mod_of_dvd _ ⟨100000, rfl⟩, show k - 1 - i = k - (i + 1) by omega]
theorem lt63_mod {σ d : Nat} (h : σ < 2 ^ 63) : σ % d < 2 ^ 63 := Nat.lt_of_le_of_lt (Nat.mod_le _ _) h
theorem nI_nm1 {n : Nat} (h : n < 100000) : ¬ nI n = -1 := fun q => by
  have := congrArg Int32.toInt q
  rw [nI_toInt (by omega)] at this
  have h2 : (-1 : Int32).toInt = -1 := by decide
  omega
set_option maxRecDepth 100000 in
set_option maxHeartbeats 4000000 in
theorem ct_X8_runScript {X : Xs} {κ : Kp} {M : Mem} {Q : Rs → Kp → Mem → Prop} {m : Nat} (hm : IsMod κ.2.1 m) {B : Nat} {s : Nat → Int32} (hs : M (m + 1) = s) (hI0 : IR B s) {n : Int32} {sc : Int64} (hE : scV n sc = false → Q (.inl (some (.int 0))) κ (upM M m 0 1)) (hY : scV n sc = true → ∀ k, 1 ≤ k → k ≤ 3 → n = nI k → ∀ σ, σ < 2 ^ 63 → sc = lN σ → ∀ M', AT M M' m s → Q (.inl (some (.int (rsF σ k k 0 (s17 s))))) κ M') : Ct X m_X8_runScript [.ref m, .int n, .long sc] κ M Q := by
  refine ct_of B_X8_runScript_0 pn_X8 rfl (nle rfl) L_X8_runScript_0 ?_
  refine g_aload_n rfl ?_
  refine g_iload_n rfl ?_
  refine g_iconst (v := 1) ik_1 ?_
  refine g_iconst (v := 3) ik_3 ?_
  refine g_callS (as := [_, _, _]) mk_X8_in ml_X8_29 sm_X8_in rfl rfl ⟨⟨nle rfl, nle rfl⟩, nle rfl, nle rfl⟩ rfl rfl (nle rfl) ?_
  refine ct_X8_in ?_
  refine kq_s ?_
  refine g_if_eq_b rfl L_X8_runScript_29 (fun h_1 => ?_) (fun h_1 => ?_)
  · have hbad : scV n sc = false := by unfold scV; rw [h_1]; rfl
    refine g_iconst (v := 1) ik_1 ?_
    refine g_fall rfl L_X8_runScript_30 ?_
    refine g_callV (as := [_]) mk_X8_holds ml_X8_89 im_X8_holds se_X8_holds rfl rfl ⟨⟨nle rfl, nle rfl⟩, nle rfl, nle rfl⟩ hm.1 rfl rfl rfl (nle rfl) ?_
    refine ct_X8_holds hm ?_
    refine kq_s ?_
    refine g_if_ne rfl L_X8_runScript_38 (fun h_2 => absurd h_2 (by decide)) (fun h_2 => ?_)
    refine g_iconst (v := 0) ik_0 ?_
    refine g_iret rfl (nle rfl) (nle rfl) ?_
    exact hE hbad
  · have hq := h_1
    obtain ⟨k, hk1, hk2, ek⟩ := in_rng (lo := 1) (hi := 3) (by omega) (by omega) rfl rfl hq
    subst ek
    refine g_lload_n rfl ?_
    refine g_lconst (v := 0) (by decide) ?_
    refine g_lcmp ?_
    refine g_if_lt rfl L_X8_runScript_29 (fun h_3 => ?_) (fun h_3 => ?_)
    · have hbad : scV (nI k) sc = false := by unfold scV; rw [decide_eq_true ((lg_cmp_lt sc 0).mp h_3)]; simp
      refine g_iconst (v := 1) ik_1 ?_
      refine g_fall rfl L_X8_runScript_30 ?_
      refine g_callV (as := [_]) mk_X8_holds ml_X8_89 im_X8_holds se_X8_holds rfl rfl ⟨⟨nle rfl, nle rfl⟩, nle rfl, nle rfl⟩ hm.1 rfl rfl rfl (nle rfl) ?_
      refine ct_X8_holds hm ?_
      refine kq_s ?_
      refine g_if_ne rfl L_X8_runScript_38 (fun h_4 => absurd h_4 (by decide)) (fun h_4 => ?_)
      refine g_iconst (v := 0) ik_0 ?_
      refine g_iret rfl (nle rfl) (nle rfl) ?_
      exact hE hbad
    · obtain ⟨σ, hσ, eσ⟩ := pos_lN (x := sc) (fun q => h_3 ((lg_cmp_lt sc 0).mpr q))
      subst eσ
      refine g_lload_n rfl ?_
      refine g_iload_n rfl ?_
      refine g_callS (as := [_]) mk_X8_size ml_X8_224 sm_X8_size rfl rfl ⟨⟨nle rfl, nle rfl⟩, nle rfl, nle rfl⟩ rfl rfl (nle rfl) ?_
      refine ct_X8_size ?_
      rw [sz_eq hk1 hk2]
      refine kq_s ?_
      refine g_lcmp ?_
      refine g_if_ge rfl L_X8_runScript_29 (fun h_5 => ?_) (fun h_5 => ?_)
      · have hbad : scV (nI k) (lN σ) = false := by
          rw [scV_nat hk1 hk2 hσ]
          refine decide_eq_false (fun q => ?_)
          have q2 := (lN_lt63 hσ (pw_lt hk2)).mpr q
          exact absurd ((lg_cmp_lt _ _).mpr q2) (Int32.not_lt.mpr h_5)
        refine g_iconst (v := 1) ik_1 ?_
        refine g_fall rfl L_X8_runScript_30 ?_
        refine g_callV (as := [_]) mk_X8_holds ml_X8_89 im_X8_holds se_X8_holds rfl rfl ⟨⟨nle rfl, nle rfl⟩, nle rfl, nle rfl⟩ hm.1 rfl rfl rfl (nle rfl) ?_
        refine ct_X8_holds hm ?_
        refine kq_s ?_
        refine g_if_ne rfl L_X8_runScript_38 (fun h_6 => absurd h_6 (by decide)) (fun h_6 => ?_)
        refine g_iconst (v := 0) ik_0 ?_
        refine g_iret rfl (nle rfl) (nle rfl) ?_
        exact hE hbad
      · have hlt : σ < 100000 ^ k := (lN_lt63 hσ (pw_lt hk2)).mp ((lg_cmp_lt _ _).mp (Int32.not_le.mp h_5))
        have hok : scV (nI k) (lN σ) = true := by
          rw [scV_nat hk1 hk2 hσ]
          exact decide_eq_true hlt
        refine g_iconst (v := 0) ik_0 ?_
        refine g_goto rfl L_X8_runScript_30 ?_
        refine g_callV (as := [_]) mk_X8_holds ml_X8_89 im_X8_holds se_X8_holds rfl rfl ⟨⟨nle rfl, nle rfl⟩, nle rfl, nle rfl⟩ hm.1 rfl rfl rfl (nle rfl) ?_
        refine ct_X8_holds hm ?_
        have fH := frh M m
        generalize (upM M m 0 0) = M1 at fH ⊢
        have f1 : M1 (m + 1) = s := (fH.2.1 _ (by omega)).trans hs
        have hI1 : IR B (s17 s) := hI0.cg fun j hj => s17_low (by omega)
        refine kq_s ?_
        refine g_if_ne rfl L_X8_runScript_38 (fun h_7 => ?_) (fun h_7 => absurd h_7 (by decide))
        refine g_aload_n rfl ?_
        refine g_iconst (v := 0) ik_0 ?_
        refine g_bipush (v := 17) bk_17 ?_
        refine g_callV (as := [_, _]) mk_X8_copies ml_X8_83 im_X8_copies se_X8_copies rfl rfl ⟨⟨nle rfl, nle rfl⟩, nle rfl, nle rfl⟩ hm.1 rfl rfl rfl (nle rfl) ?_
        refine ct_X8_copies hm 0 17 rfl rfl (by omega) (by omega) (by omega) ?_
        rw [f1, show cpB s 0 17 189 = s17 s from rfl]
        refine kq_n ?_
        refine g_iconst (v := -1) ik_m1 ?_
        refine g_istore (nle rfl) ?_
        refine g_lload_n rfl ?_
        refine g_lstore (nle rfl) ?_
        refine g_iconst (v := 0) ik_0 ?_
        refine g_istore (nle rfl) ?_
        refine g_fall rfl L_X8_runScript_54 ?_
        refine g_lo2 (lo' := [(0, some (.ref m)), (1, some (.int (nI k))), (2, some (.long (lN σ))), (4, some (.int (-1))), (5, some (.long (lN (σ % 100000 ^ (k - 0))))), (7, some (.int (nI 0)))]) ?_ ⟨rfl, rfl, rfl, rfl, congrArg (fun z => some (Value.long (lN z))) (Nat.mod_eq_of_lt hlt).symm, rfl, trivial⟩
        refine loop_up (P := fun i => ∀ (f : Int32) (s2 : Nat → Int32), IR (B + 100 * i) s2 → (∀ j, 189 ≤ j → s2 j = s17 s j) → ((f = -1 ∧ rsF σ k k 0 (s17 s) = rsF σ k (k - i) i s2) ∨ (¬ f = -1 ∧ f = rsF σ k k 0 (s17 s))) → G X m_X8_runScript B_X8_runScript_54 54 [(0, some (.ref m)), (1, some (.int (nI k))), (2, some (.long (lN σ))), (4, some (.int f)), (5, some (.long (lN (σ % 100000 ^ (k - i))))), (7, some (.int (nI i)))] [] (0 + (rmOf m_X8_in).cells + (rmOf m_X8_size).cells + (rmOf m_X8_holds).cells + (rmOf m_X8_copies).cells) (0 + (rmOf m_X8_in).slots + (rmOf m_X8_size).slots + (rmOf m_X8_holds).slots + (rmOf m_X8_copies).slots) κ (sR M1 (m + 1) s2) Q) k (fun i hle_i ih_i f s2 hI2 hk2' hfS => ?_) 0 (Nat.zero_le _) (-1) (s17 s) hI1 (fun j hj => rfl) (Or.inl ⟨rfl, rfl⟩)
        refine g_iload rfl ?_
        refine g_iload_n rfl ?_
        refine g_icmp_ge rfl L_X8_runScript_123 (fun h_8 => ?_) (fun h_8 => ?_)
        · have hx_i := (cmp_ge (c := k) rfl (by omega) hle_i).1 h_8
          have hfd : f = rsF σ k k 0 (s17 s) := by
            rcases hfS with ⟨q1, q2⟩ | ⟨_, q⟩
            · rw [q1, q2, hx_i, Nat.sub_self]; rfl
            · exact q
          refine g_aload_n rfl ?_
          refine g_bipush (v := 17) bk_17 ?_
          refine g_iconst (v := 0) ik_0 ?_
          refine g_callV (as := [_, _]) mk_X8_copies ml_X8_83 im_X8_copies se_X8_copies rfl rfl ⟨⟨nle rfl, nle rfl⟩, nle rfl, nle rfl⟩ hm.1 rfl rfl rfl (nle rfl) ?_
          refine ct_X8_copies hm 17 0 rfl rfl (by omega) (by omega) (by omega) ?_
          rw [sR_s, sR_sR]
          refine kq_n ?_
          refine g_iload rfl ?_
          refine g_iret rfl (nle rfl) (nle rfl) ?_
          exact qeq (hY hok k hk1 hk2 rfl σ hσ rfl _ (at_fin fH hk2')) (by rw [hfd]) rfl
        · have hlt_i : i < k := (cmp_ge (c := k) rfl (by omega) hle_i).2 h_8
          refine g_iload rfl ?_
          refine g_iconst (v := -1) ik_m1 ?_
          refine g_icmp_ne rfl L_X8_runScript_123 (fun h_9 => ?_) (fun h_9 => ?_)
          · have hfd : f = rsF σ k k 0 (s17 s) := hfS.elim (fun q => absurd q.1 h_9) (fun q => q.2)
            refine g_aload_n rfl ?_
            refine g_bipush (v := 17) bk_17 ?_
            refine g_iconst (v := 0) ik_0 ?_
            refine g_callV (as := [_, _]) mk_X8_copies ml_X8_83 im_X8_copies se_X8_copies rfl rfl ⟨⟨nle rfl, nle rfl⟩, nle rfl, nle rfl⟩ hm.1 rfl rfl rfl (nle rfl) ?_
            refine ct_X8_copies hm 17 0 rfl rfl (by omega) (by omega) (by omega) ?_
            rw [sR_s, sR_sR]
            refine kq_n ?_
            refine g_iload rfl ?_
            refine g_iret rfl (nle rfl) (nle rfl) ?_
            exact qeq (hY hok k hk1 hk2 rfl σ hσ rfl _ (at_fin fH hk2')) (by rw [hfd]) rfl
          · obtain ⟨ef, hr⟩ := hfS.resolve_right (fun q => q.1 h_9)
            subst ef
            refine g_iload rfl ?_
            refine g_iload_n rfl ?_
            refine g_iconst (v := 1) ik_1 ?_
            refine g_isub ?_
            refine g_icmp_ne rfl L_X8_runScript_78 (fun h_10 => ?_) (fun h_10 => ?_)
            · have hne : ¬ i = k - 1 := fun q => h_10 (by rw [q, nI_pr (by omega)])
              have e8 : lN (100000 ^ (k - 1 - i)) = lN (100000 ^ (k - 1 - i)) := rfl
              refine g_iload_n rfl ?_
              refine g_iconst (v := 1) ik_1 ?_
              refine g_isub ?_
              refine g_iload rfl ?_
              refine g_isub ?_
              refine g_callS (as := [_]) mk_X8_size ml_X8_224 sm_X8_size rfl rfl ⟨⟨nle rfl, nle rfl⟩, nle rfl, nle rfl⟩ rfl rfl (nle rfl) ?_
              rw [show nI k - 1 - nI i = nI (k - 1 - i) by rw [nI_pr (by omega), nI_sub (by omega)]]
              refine ct_X8_size ?_
              rw [sz_eq (by omega) (by omega)]
              refine kq_s ?_
              refine g_fall rfl L_X8_runScript_87 ?_
              refine g_lstore (nle rfl) ?_
              refine g_lo2 (lo' := [(0, some (.ref m)), (1, some (.int (nI k))), (2, some (.long (lN σ))), (4, some (.int (-1))), (5, some (.long (lN (σ % 100000 ^ (k - i))))), (7, some (.int (nI i))), (8, some (.long (lN (100000 ^ (k - 1 - i)))))]) ?_ ⟨rfl, rfl, rfl, rfl, rfl, rfl, congrArg (fun z => some (Value.long z)) e8, trivial⟩
              refine g_aload_n rfl ?_
              refine g_lload rfl ?_
              refine g_lload rfl ?_
              refine g_ldiv (lN_nz63 pw_pos (pw_lt (by omega))) ?_
              rw [pk_lDiv (lt63_mod hσ) pw_pos (pw_lt (by omega)), gr_div hlt_i]
              refine g_l2i ?_
              rw [lN_i]
              refine g_callV (as := [_]) mk_X8_isCommand ml_X8_228 im_X8_isCommand se_X8_isCommand rfl rfl ⟨⟨nle rfl, nle rfl⟩, nle rfl, nle rfl⟩ hm.1 rfl rfl rfl (nle rfl) ?_
              refine ct_X8_isCommand hm (by rw [sR_s]; exact hI2) grN_lt ?_
              rw [sR_s, sR_sR]
              have hgk := gc_keep (g := grN σ k i) hI2
              refine kq_s ?_
              refine g_if_eq_b rfl L_X8_runScript_106 (fun h_11 => ?_) (fun h_11 => ?_)
              · have hgb : gcB (grN σ k i) s2 = false := h_11
                refine g_iload rfl ?_
                refine g_fall rfl L_X8_runScript_108 ?_
                refine g_istore (nle rfl) ?_
                refine g_lload rfl ?_
                refine g_lload rfl ?_
                refine g_lrem (lN_nz63 pw_pos (pw_lt (by omega))) ?_
                rw [pk_lRem (lt63_mod hσ) pw_pos (pw_lt (by omega)), gr_mod hlt_i]
                refine g_lstore (nle rfl) ?_
                refine g_iinc (v := nI (i + 1)) rfl (nI_inc _) (nle rfl) ?_
                refine g_goto rfl L_X8_runScript_54 ?_
                exact g_lo2 (ih_i hlt_i (nI i) _ hgk.1 (fun j hj => (hgk.2 j hj).trans (hk2' j hj)) (Or.inr ⟨nI_nm1 (by omega), (hr.trans (by rw [show k - i = (k - (i + 1)) + 1 by omega]; exact rs_n hgb)).symm⟩)) ⟨rfl, rfl, rfl, rfl, rfl, rfl, trivial⟩
              · have hgb : gcB (grN σ k i) s2 = true := h_11
                refine g_iconst (v := -1) ik_m1 ?_
                refine g_goto rfl L_X8_runScript_108 ?_
                refine g_istore (nle rfl) ?_
                refine g_lload rfl ?_
                refine g_lload rfl ?_
                refine g_lrem (lN_nz63 pw_pos (pw_lt (by omega))) ?_
                rw [pk_lRem (lt63_mod hσ) pw_pos (pw_lt (by omega)), gr_mod hlt_i]
                refine g_lstore (nle rfl) ?_
                refine g_iinc (v := nI (i + 1)) rfl (nI_inc _) (nle rfl) ?_
                refine g_goto rfl L_X8_runScript_54 ?_
                exact g_lo2 (ih_i hlt_i (-1) _ hgk.1 (fun j hj => (hgk.2 j hj).trans (hk2' j hj)) (Or.inl ⟨rfl, hr.trans (by rw [show k - i = (k - (i + 1)) + 1 by omega]; exact rs_y hgb)⟩)) ⟨rfl, rfl, rfl, rfl, rfl, rfl, trivial⟩
            · have heq : i = k - 1 := (nI_eq (by omega) (by omega)).mp (h_10.trans (nI_pr (by omega)))
              have e8 : (1 : Int64) = lN (100000 ^ (k - 1 - i)) := by rw [heq, Nat.sub_self]; rfl
              refine g_lconst (v := 1) (by decide) ?_
              refine g_goto rfl L_X8_runScript_87 ?_
              refine g_lstore (nle rfl) ?_
              refine g_lo2 (lo' := [(0, some (.ref m)), (1, some (.int (nI k))), (2, some (.long (lN σ))), (4, some (.int (-1))), (5, some (.long (lN (σ % 100000 ^ (k - i))))), (7, some (.int (nI i))), (8, some (.long (lN (100000 ^ (k - 1 - i)))))]) ?_ ⟨rfl, rfl, rfl, rfl, rfl, rfl, congrArg (fun z => some (Value.long z)) e8, trivial⟩
              refine g_aload_n rfl ?_
              refine g_lload rfl ?_
              refine g_lload rfl ?_
              refine g_ldiv (lN_nz63 pw_pos (pw_lt (by omega))) ?_
              rw [pk_lDiv (lt63_mod hσ) pw_pos (pw_lt (by omega)), gr_div hlt_i]
              refine g_l2i ?_
              rw [lN_i]
              refine g_callV (as := [_]) mk_X8_isCommand ml_X8_228 im_X8_isCommand se_X8_isCommand rfl rfl ⟨⟨nle rfl, nle rfl⟩, nle rfl, nle rfl⟩ hm.1 rfl rfl rfl (nle rfl) ?_
              refine ct_X8_isCommand hm (by rw [sR_s]; exact hI2) grN_lt ?_
              rw [sR_s, sR_sR]
              have hgk := gc_keep (g := grN σ k i) hI2
              refine kq_s ?_
              refine g_if_eq_b rfl L_X8_runScript_106 (fun h_12 => ?_) (fun h_12 => ?_)
              · have hgb : gcB (grN σ k i) s2 = false := h_12
                refine g_iload rfl ?_
                refine g_fall rfl L_X8_runScript_108 ?_
                refine g_istore (nle rfl) ?_
                refine g_lload rfl ?_
                refine g_lload rfl ?_
                refine g_lrem (lN_nz63 pw_pos (pw_lt (by omega))) ?_
                rw [pk_lRem (lt63_mod hσ) pw_pos (pw_lt (by omega)), gr_mod hlt_i]
                refine g_lstore (nle rfl) ?_
                refine g_iinc (v := nI (i + 1)) rfl (nI_inc _) (nle rfl) ?_
                refine g_goto rfl L_X8_runScript_54 ?_
                exact g_lo2 (ih_i hlt_i (nI i) _ hgk.1 (fun j hj => (hgk.2 j hj).trans (hk2' j hj)) (Or.inr ⟨nI_nm1 (by omega), (hr.trans (by rw [show k - i = (k - (i + 1)) + 1 by omega]; exact rs_n hgb)).symm⟩)) ⟨rfl, rfl, rfl, rfl, rfl, rfl, trivial⟩
              · have hgb : gcB (grN σ k i) s2 = true := h_12
                refine g_iconst (v := -1) ik_m1 ?_
                refine g_goto rfl L_X8_runScript_108 ?_
                refine g_istore (nle rfl) ?_
                refine g_lload rfl ?_
                refine g_lload rfl ?_
                refine g_lrem (lN_nz63 pw_pos (pw_lt (by omega))) ?_
                rw [pk_lRem (lt63_mod hσ) pw_pos (pw_lt (by omega)), gr_mod hlt_i]
                refine g_lstore (nle rfl) ?_
                refine g_iinc (v := nI (i + 1)) rfl (nI_inc _) (nle rfl) ?_
                refine g_goto rfl L_X8_runScript_54 ?_
                exact g_lo2 (ih_i hlt_i (-1) _ hgk.1 (fun j hj => (hgk.2 j hj).trans (hk2' j hj)) (Or.inl ⟨rfl, hr.trans (by rw [show k - i = (k - (i + 1)) + 1 by omega]; exact rs_y hgb)⟩)) ⟨rfl, rfl, rfl, rfl, rfl, rfl, trivial⟩
