/-! ===== p34: the law ===== -/
def Lr0 (z : MI) : Prop := ((rmOf z).frames + 1 ≤ 12 ∧ 8 + (z.2.2.1 + 11) + (rmOf z).locals ≤ 458) ∧ ((rmOf z).cells = 0 ∧ (rmOf z).slots = 0)
def HbL (nc ks : Nat) : Prop := nc ≤ 600000 ∧ ks ≤ 7000000
section GLC
variable {X : Xs} {is : List (Instr × Nat)} {pc : Nat} {lo : Lo} {st stk as : List Value} {nc ks : Nat} {κ : Kp} {M : Mem} {Q : Rs → Kp → Mem → Prop} {idx n r ci N : Nat} {cs : List Nat} {z : MI}
theorem gl_callV (hk : MK z n) (hl : Cond.methodLink RL idx z.1 ∈ tblG) (hi : Cond.instanceMethod z.1 ∈ tblG) (hv : Cond.selects z.1.cls z.1 z.1 ∈ tblG) (h0 : Lr0 z) (hb : HbL nc ks) (hs : κ.2.1 r = some (ci, N, cs)) (hci : (vwCl[ci]?).map (fun q => q.1) = some z.1.cls)
    (hstk : stk = as.reverse ++ .ref r :: st) (hn : as.length = n) (hcat : (st.map Value.category).sum ≤ 8) (hz : Ct X z (.ref r :: as) κ M (Kq X m_L_law is (pc + 3) lo st nc ks Q)) : G X m_L_law ((.invokevirtual idx, 3) :: is) pc lo stk nc ks κ M Q := by
  obtain ⟨h1, h2, h3⟩ := h0
  obtain ⟨b1, b2⟩ := hb
  refine g_callV hk hl hi hv rfl rfl ⟨⟨h1.1, h1.2⟩, by show nc + _ ≤ 699128; omega, by show ks + _ ≤ 7004385; omega⟩ hs hci hstk hn hcat ?_
  rw [h2, h3]
  exact hz
theorem gl_callS (hk : MK z n) (hl : Cond.methodLink RL idx z.1 ∈ tblG) (hi : Cond.static z.1 ∈ tblG) (h0 : Lr0 z) (hb : HbL nc ks)
    (hstk : stk = as.reverse ++ st) (hn : as.length = n) (hcat : (st.map Value.category).sum ≤ 8) (hz : Ct X z as κ M (Kq X m_L_law is (pc + 3) lo st nc ks Q)) : G X m_L_law ((.invokestatic idx, 3) :: is) pc lo stk nc ks κ M Q := by
  obtain ⟨h1, h2, h3⟩ := h0
  obtain ⟨b1, b2⟩ := hb
  refine g_callS hk hl hi rfl rfl ⟨⟨h1.1, h1.2⟩, by show nc + _ ≤ 699128; omega, by show ks + _ ≤ 7004385; omega⟩ hstk hn hcat ?_
  rw [h2, h3]
  exact hz
theorem gl_callH (hb : HbL nc ks) (hstk : stk = as.reverse ++ st) (hn : as.length = 1) (hcat : (st.map Value.category).sum ≤ 8) (hz : Ct X m_L_holds as κ M (Kq X m_L_law is (pc + 3) lo st (nc + 1) (ks + 6) Q)) : G X m_L_law ((.invokestatic 117, 3) :: is) pc lo stk nc ks κ M Q := by
  obtain ⟨b1, b2⟩ := hb
  exact g_callS mk_L_holds ml_L_117 sm_L_holds rfl rfl ⟨⟨nle rfl, nle rfl⟩, by show nc + 1 ≤ 699128; omega, by show ks + 6 ≤ 7004385; omega⟩ hstk hn hcat hz
end GLC
theorem rem_add {cnt : Nat} (h : cnt ≤ 14) : nI cnt + (if cnt < 14 then 1 else 0) = nI (remC cnt) := by
  unfold remC
  by_cases q : cnt < 14
  · rw [if_pos q, if_pos q, nI_1]
  · rw [if_neg q, if_neg q, add_z, show cnt = 14 by omega]
theorem rem_rem {cnt : Nat} (h : cnt ≤ 14) : remC (remC cnt - 1) = remC cnt := by
  unfold remC
  by_cases q : cnt < 14
  · simp only [if_pos q]
    rw [show cnt + 1 - 1 = cnt by omega, if_pos q]
  · simp only [if_neg q]
    rfl
/-- the loop goes on -/
def Nx (X : Xs) (j nc ks : Nat) (Q : Rs → Kp → Mem → Prop) : Prop := ∀ (n : Nat) (S : Nat → Option Sh) (M : Mem) (s : Nat → Int32) (cnt : Nat) (blk : Nat → Nat → Int32), IsDF S 1 → 674 ≤ n → OB (30 * (j + 1)) M 1 s cnt blk → LJ (30 * (j + 1)) s →
  G X m_L_law B_L_law_34 34 [(0, some (.ref 0)), (1, some (.ref 1)), (2, some (.int 1)), (3, some (.int (nI cnt))), (4, some (.int (nI (j + 1))))] [] (nc + 1) (ks + 6) (n, S, true) M Q
theorem law_252 {X : Xs} {nc ks : Nat} {κ : Kp} {M : Mem} {Q : Rs → Kp → Mem → Prop} (hb : HbL nc ks) (hQ : ∀ κ M, Q (.inl (some (.int 1))) κ M) : G X m_L_law B_L_law_252 252 [(2, some (.int 1))] [] nc ks κ M Q := by
  refine g_iload_n rfl ?_
  exact g_zret (ty := .boolean) rfl rfl (by have := hb.1; show nc ≤ 699128; omega) (by have := hb.2; show ks ≤ 7004385; omega) (hQ _ _)
set_option maxRecDepth 100000 in
set_option maxHeartbeats 4000000 in
theorem law_177 {X : Xs} {n : Nat} {S : Nat → Option Sh} {M : Mem} {Q : Rs → Kp → Mem → Prop} {j nc ks cnt : Nat} {s : Nat → Int32} {blk : Nat → Nat → Int32} {x y : Int32} (hx : IsDF S 1) (hn : 674 ≤ n) (hO : OB (30 * j + 18) M 1 s cnt blk) (hJ : LJ (30 * j + 18) s) (hj : j < 64) (hb : HbL (nc + 1) (ks + 6)) (hN : Nx X j nc ks Q) : G X m_L_law B_L_law_177 177 [(0, some (.ref 0)), (1, some (.ref 1)), (2, some (.int 1)), (3, some (.int (nI cnt))), (4, some (.int (nI j))), (5, some (.int x)), (6, some (.int y))] [] nc ks (n, S, true) M Q := by
  obtain ⟨nf, nt, nc', nd, hI, hL⟩ := hJ
  have hJ : LJ (30 * j + 18) s := ⟨nf, nt, nc', nd, hI, hL⟩
  have hb2 := hb
  have hb : HbL nc ks := ⟨Nat.le_trans (Nat.le_succ _) hb2.1, Nat.le_trans (Nat.le_add_right _ 6) hb2.2⟩
  have hS := hO.1
  have h4 : 0 ≤ s 4 := by
    obtain ⟨w, w1, w2, -⟩ := hL.2.2.2.2.1
    rw [w2]; exact nn (by omega)
  refine g_iload_n rfl ?_
  refine g_if_eq rfl L_L_law_192 (fun h_1 => absurd h_1 (by decide)) (fun h_1 => ?_)
  refine g_aload_n rfl ?_
  refine gl_callH (as := [_]) hb rfl rfl (nle rfl) ?_
  refine ct_L_holds (n := n) (by omega) hx hI hL (by omega) hO (fun κ' M' hκ hx' hO' => ?_)
  subst hκ
  have hx := hx'
  have hb := hb2
  have hO := hO'
  have hS := hO.1
  refine kq_s ?_
  refine g_if_eq rfl L_L_law_192 (fun h_2 => absurd h_2 (by decide)) (fun h_2 => ?_)
  refine g_iconst (v := 1) ik_1 ?_
  refine g_goto rfl L_L_law_193 ?_
  refine g_istore_n (nle rfl) ?_
  refine g_iload_n rfl ?_
  refine g_if_eq rfl L_L_law_246 (fun h_3 => absurd h_3 (by decide)) (fun h_3 => ?_)
  refine g_iload rfl ?_
  refine g_iconst (v := 3) ik_3 ?_
  refine g_irem (by decide) ?_
  rw [show nI (j) - nI (j) / 3 * 3 = nI (j % 3) from pk_rem (d := 3) (by omega) (by omega) (by omega)]
  refine g_iconst (v := 1) ik_1 ?_
  refine g_icmp_ne rfl L_L_law_246 (fun h_4 => ?_) (fun h_4 => ?_)
  · refine g_iinc (v := nI (j + 1)) rfl (nI_inc _) (nle rfl) ?_
    refine g_goto rfl L_L_law_34 ?_
    refine g_lo2 (lo' := [(0, some (.ref 0)), (1, some (.ref 1)), (2, some (.int 1)), (3, some (.int (nI cnt))), (4, some (.int (nI (j + 1))))]) ?_ ⟨rfl, rfl, rfl, rfl, rfl, trivial⟩
    exact hN _ _ _ _ _ _ hx (by omega) (hO.up (by omega)) (hJ.up (by omega))
  · refine g_aload_n rfl ?_
    refine g_iload rfl ?_
    refine g_iconst (v := 5) ik_5 ?_
    refine g_ishr ?_
    refine g_iload rfl ?_
    refine g_iconst (v := 5) ik_5 ?_
    refine g_ishr ?_
    refine gl_callS (as := [_, _, _]) mk_L_isAhead ml_L_132 sm_L_isAhead ⟨⟨nle rfl, nle rfl⟩, rfl, rfl⟩ hb rfl rfl (nle rfl) ?_
    refine ct_L_isAhead hx hI (by omega) hO (fun cnt' blk' M' hO' => ?_)
    have hO := hO'
    have hS := hO.1
    refine kq_s ?_
    refine g_istore_n (nle rfl) ?_
    refine g_aload_n rfl ?_
    refine g_iconst (v := 0) ik_0 ?_
    refine gl_callV (as := [_]) mk_X7_save ml_L_121 im_X7_save se_X7_save ⟨⟨nle rfl, nle rfl⟩, rfl, rfl⟩ hb hx.1 rfl rfl rfl (nle rfl) ?_
    refine l_save hx hO (k := 0) (by omega) (fun M' hO' hs1 hs2 => ?_)
    have hO := hO'
    refine kq_s ?_
    refine g_if_lt rfl L_L_law_239 (fun h_5 => absurd h_5 (Int32.not_lt.mpr h4)) (fun h_5 => ?_)
    refine g_aload_n rfl ?_
    refine g_iconst (v := 0) ik_0 ?_
    refine gl_callV (as := [_]) mk_X7_restore ml_L_136 im_X7_restore se_X7_restore ⟨⟨nle rfl, nle rfl⟩, rfl, rfl⟩ hb hx.1 rfl rfl rfl (nle rfl) ?_
    refine l_restore hx hO (k := 0) (by omega) hs1 hs2 (fun M' hO' => ?_)
    refine kq_s ?_
    refine g_if_lt rfl L_L_law_239 (fun h_6 => absurd h_6 (Int32.not_lt.mpr h4)) (fun h_6 => ?_)
    refine g_iconst (v := 0) ik_0 ?_
    refine g_goto rfl L_L_law_241 ?_
    refine g_istore (nle rfl) ?_
    refine g_iload rfl ?_
    refine g_istore_n (nle rfl) ?_
    refine g_fall rfl L_L_law_246 ?_
    refine g_iinc (v := nI (j + 1)) rfl (nI_inc _) (nle rfl) ?_
    refine g_goto rfl L_L_law_34 ?_
    refine g_lo2 (lo' := [(0, some (.ref 0)), (1, some (.ref 1)), (2, some (.int 1)), (3, some (.int (nI 0))), (4, some (.int (nI (j + 1))))]) ?_ ⟨rfl, rfl, rfl, rfl, rfl, trivial⟩
    exact hN _ _ _ _ 0 _ hx (by omega) ((hO' blk).up (by omega)) (hJ.up (by omega))
set_option maxRecDepth 100000 in
set_option maxHeartbeats 4000000 in
theorem law_34 {X : Xs} {n : Nat} {S : Nat → Option Sh} {M : Mem} {Q : Rs → Kp → Mem → Prop} {j nc ks cnt : Nat} {s : Nat → Int32} {blk : Nat → Nat → Int32} (hX : X.1 ≤ 260) (hx : IsDF S 1) (hn : 674 ≤ n) (hO : OB (30 * j) M 1 s cnt blk) (hJ : LJ (30 * j) s) (hj64 : j ≤ 64) (hb2 : HbL (nc + 1) (ks + 6)) (hNx : j < 64 → Nx X j nc ks Q) (hQ : ∀ κ M, Q (.inl (some (.int 1))) κ M) : G X m_L_law B_L_law_34 34 [(0, some (.ref 0)), (1, some (.ref 1)), (2, some (.int 1)), (3, some (.int (nI cnt))), (4, some (.int (nI j)))] [] nc ks (n, S, true) M Q := by
  obtain ⟨nf, nt, nc', nd, hI, hL⟩ := hJ
  have hb : HbL nc ks := ⟨Nat.le_trans (Nat.le_succ _) hb2.1, Nat.le_trans (Nat.le_add_right _ 6) hb2.2⟩
  have hS := hO.1
  have hcn := hO.cn
  refine g_iload rfl ?_
  refine g_bipush (v := 64) bk_64 ?_
  refine g_icmp_ge rfl L_L_law_252 (fun h_1 => ?_) (fun h_1 => ?_)
  · exact g_lo2 (law_252 hb hQ) ⟨rfl, trivial⟩
  · have hj : j < 64 := Nat.not_le.mp (fun e => h_1 ((nI_leI (a := 64) (b := j) (by omega) (by omega)).mpr e))
    have hN := hNx hj
    refine g_iload_n rfl ?_
    refine g_if_eq rfl L_L_law_252 (fun h_2 => absurd h_2 (by decide)) (fun h_2 => ?_)
    refine g_aload_n rfl ?_
    refine g_iconst (v := 2) ik_2 ?_
    refine g_iload rfl ?_
    refine g_imul ?_
    rw [show ((2 : Int32) * nI j) = nI (2 * j) from nI_mul 2 j]
    refine gl_callS (as := [_, _]) mk_L_cell ml_L_124 sm_L_cell ⟨⟨nle rfl, nle rfl⟩, rfl, rfl⟩ hb rfl rfl (nle rfl) ?_
    refine ct_L_cell (k := (2 * j)) (by omega) (by omega) ?_
    generalize cellV X (2 * j) = x
    refine kq_s ?_
    refine g_istore (nle rfl) ?_
    refine g_aload_n rfl ?_
    refine g_iconst (v := 2) ik_2 ?_
    refine g_iload rfl ?_
    refine g_imul ?_
    refine g_iconst (v := 1) ik_1 ?_
    refine g_iadd ?_
    rw [show ((2 : Int32) * nI j) + 1 = nI (2 * j + 1) from by rw [show ((2 : Int32) * nI j) = nI (2 * j) from nI_mul 2 j, nI_1]]
    refine gl_callS (as := [_, _]) mk_L_cell ml_L_124 sm_L_cell ⟨⟨nle rfl, nle rfl⟩, rfl, rfl⟩ hb rfl rfl (nle rfl) ?_
    refine ct_L_cell (k := (2 * j + 1)) (by omega) (by omega) ?_
    generalize cellV X (2 * j + 1) = y
    refine kq_s ?_
    refine g_istore (nle rfl) ?_
    refine g_aload_n rfl ?_
    refine gl_callS (as := [_]) mk_L_looks ml_L_93 sm_L_looks ⟨⟨nle rfl, nle rfl⟩, rfl, rfl⟩ hb rfl rfl (nle rfl) ?_
    refine ct_L_looks hx hS hI ?_
    refine kq_s ?_
    refine g_lstore (nle rfl) ?_
    refine g_aload_n rfl ?_
    refine g_iload rfl ?_
    refine g_iload rfl ?_
    refine gl_callS (as := [_, _, _]) mk_L_act ml_L_128 sm_L_act ⟨⟨nle rfl, nle rfl⟩, rfl, rfl⟩ hb rfl rfl (nle rfl) ?_
    refine ct_L_act (x := x) (y := y) hx hI hO (fun M' hO' => ?_)
    obtain ⟨hp, hJ2⟩ := ok_F hI hL x y
    have hJ3 := hJ2
    obtain ⟨nf2, nt2, nc2, nd2, hI2, hL2⟩ := hJ3
    generalize hpp : actF nf nt nc' nd s x y = pp at hO' hp hJ2 hI2 hL2 ⊢
    have hO2 := hO'
    have hS := hO2.1
    refine kq_s ?_
    refine g_istore (nle rfl) ?_
    refine g_iload_n rfl ?_
    refine g_join (isJ := B_L_law_95) (pcJ := 95) ((if cnt < 14 then 1 else 0)) ?_ (fun hj_84 => ?_)
    · refine g_iadd ?_
      rw [rem_add hcn]
      refine g_istore_n (nle rfl) ?_
      refine g_iload rfl ?_
      refine g_if_lt rfl L_L_law_106 (fun h_3 => absurd h_3 (Int32.not_lt.mpr hp)) (fun h_3 => ?_)
      refine g_iconst (v := 1) ik_1 ?_
      refine g_goto rfl L_L_law_107 ?_
      refine g_istore_n (nle rfl) ?_
      refine g_iload_n rfl ?_
      refine g_if_eq rfl L_L_law_177 (fun h_4 => absurd h_4 (by decide)) (fun h_4 => ?_)
      refine g_iload rfl ?_
      refine g_bipush (v := 8) bk_8 ?_
      refine g_ishr ?_
      refine g_iconst (v := 3) ik_3 ?_
      refine g_iand ?_
      refine g_if_ne rfl L_L_law_177 (fun h_5 => ?_) (fun h_5 => ?_)
      · exact g_lo2 (law_177 hx hn (hO2.up (by omega)) (hJ2.up (by omega)) hj hb2 hN) ⟨rfl, rfl, rfl, rfl, rfl, rfl, rfl, trivial⟩
      · refine g_aload_n rfl ?_
        refine gl_callS (as := [_]) mk_L_looks ml_L_93 sm_L_looks ⟨⟨nle rfl, nle rfl⟩, rfl, rfl⟩ hb rfl rfl (nle rfl) ?_
        refine ct_L_looks hx hS hI2 ?_
        refine kq_s ?_
        refine g_lstore (nle rfl) ?_
        refine g_aload_n rfl ?_
        refine gl_callV (as := []) mk_X7_undo ml_L_100 im_X7_undo se_X7_undo ⟨⟨nle rfl, nle rfl⟩, rfl, rfl⟩ hb hx.1 rfl rfl rfl (nle rfl) ?_
        refine l_undo1 hx hcn hO2 (fun M' hO3 => ?_)
        have hS := hO3.1
        refine kq_s ?_
        refine g_iload_n rfl ?_
        refine g_iconst (v := 1) ik_1 ?_
        refine g_isub ?_
        refine g_icmp_ne rfl L_L_law_175 (fun h_6 => (h_6 (nI_pr (rem_top cnt hcn s blk).1).symm).elim) (fun h_6 => ?_)
        refine g_aload_n rfl ?_
        refine gl_callS (as := [_]) mk_L_looks ml_L_93 sm_L_looks ⟨⟨nle rfl, nle rfl⟩, rfl, rfl⟩ hb rfl rfl (nle rfl) ?_
        refine ct_L_looks hx hS (hI.up (by omega)) ?_
        refine kq_s ?_
        refine g_lload rfl ?_
        refine g_lcmp ?_
        refine g_if_ne rfl L_L_law_175 (fun h_7 => (h_7 (cmp_self _)).elim) (fun h_7 => ?_)
        refine g_aload_n rfl ?_
        refine g_iload rfl ?_
        refine g_iload rfl ?_
        refine gl_callS (as := [_, _, _]) mk_L_act ml_L_128 sm_L_act ⟨⟨nle rfl, nle rfl⟩, rfl, rfl⟩ hb rfl rfl (nle rfl) ?_
        refine ct_L_act (x := x) (y := y) hx (hI.up (Nat.le_add_right _ 9)) hO3 (fun M' hO4 => ?_)
        rw [hpp] at hO4 ⊢
        have hS := hO4.1
        refine kq_s ?_
        refine g_iload rfl ?_
        refine g_icmp_ne rfl L_L_law_175 (fun h_8 => (h_8 rfl).elim) (fun h_8 => ?_)
        refine g_aload_n rfl ?_
        refine gl_callS (as := [_]) mk_L_looks ml_L_93 sm_L_looks ⟨⟨nle rfl, nle rfl⟩, rfl, rfl⟩ hb rfl rfl (nle rfl) ?_
        refine ct_L_looks hx hS (hI2.up (by omega)) ?_
        refine kq_s ?_
        refine g_lload rfl ?_
        refine g_lcmp ?_
        refine g_if_ne rfl L_L_law_175 (fun h_9 => (h_9 (cmp_self _)).elim) (fun h_9 => ?_)
        refine g_iconst (v := 1) ik_1 ?_
        refine g_goto rfl L_L_law_176 ?_
        refine g_istore_n (nle rfl) ?_
        refine g_fall rfl L_L_law_177 ?_
        rw [rem_rem hcn] at hO4
        exact g_lo2 (law_177 hx hn (hO4.up (by omega)) (hJ2.up (by omega)) hj hb2 hN) ⟨rfl, rfl, rfl, rfl, rfl, rfl, rfl, trivial⟩
    · refine g_iload_n rfl ?_
      refine g_bipush (v := 14) bk_14 ?_
      refine g_icmp_ge rfl L_L_law_94 (fun h_10 => ?_) (fun h_10 => ?_)
      · have q_10 : 14 ≤ cnt := (nI_leI (a := 14) (b := cnt) (by omega) (by omega)).mp h_10
        refine g_iconst (v := 0) ik_0 ?_
        refine g_fall rfl L_L_law_95 ?_
        exact hj_84 _ (by first | (rw [if_pos (by omega)]) | (rw [if_neg (by omega)]))
      · have q_10 : cnt < 14 := Nat.not_le.mp (fun e => h_10 ((nI_leI (a := 14) (b := cnt) (by omega) (by omega)).mpr e))
        refine g_iconst (v := 1) ik_1 ?_
        refine g_goto rfl L_L_law_95 ?_
        exact hj_84 _ (by first | (rw [if_pos (by omega)]) | (rw [if_neg (by omega)]))
theorem law_loop {X : Xs} {Q : Rs → Kp → Mem → Prop} (hX : X.1 ≤ 260) (hQ : ∀ κ M, Q (.inl (some (.int 1))) κ M) : ∀ j, j ≤ 64 → ∀ (n : Nat) (S : Nat → Option Sh) (M : Mem) (s : Nat → Int32) (cnt : Nat) (blk : Nat → Nat → Int32), IsDF S 1 → 674 ≤ n → OB (30 * j) M 1 s cnt blk → LJ (30 * j) s →
    G X m_L_law B_L_law_34 34 [(0, some (.ref 0)), (1, some (.ref 1)), (2, some (.int 1)), (3, some (.int (nI cnt))), (4, some (.int (nI j)))] [] (675 + j) (3963 + 6 * j) (n, S, true) M Q := by
  refine loop_up (P := fun j => ∀ (n : Nat) (S : Nat → Option Sh) (M : Mem) (s : Nat → Int32) (cnt : Nat) (blk : Nat → Nat → Int32), IsDF S 1 → 674 ≤ n → OB (30 * j) M 1 s cnt blk → LJ (30 * j) s → G X m_L_law B_L_law_34 34 [(0, some (.ref 0)), (1, some (.ref 1)), (2, some (.int 1)), (3, some (.int (nI cnt))), (4, some (.int (nI j)))] [] (675 + j) (3963 + 6 * j) (n, S, true) M Q) 64 (fun j hle ih n S M s cnt blk hx hn hO hJ => ?_)
  refine law_34 hX hx hn hO hJ hle ⟨by omega, by omega⟩ (fun hj n S M s cnt blk hx hn hO hJ => ?_) hQ
  exact g_widen (by omega) (by omega) (ih hj n S M s cnt blk hx hn hO hJ)
set_option maxRecDepth 100000 in
set_option maxHeartbeats 4000000 in
theorem lw_start {X : Xs} {M : Mem} {Q : Rs → Kp → Mem → Prop} (hX : X.1 ≤ 260) (hQ : ∀ κ M, Q (.inl (some (.int 1))) κ M) : G X m_L_law B_L_law_0 0 [(0, some (.ref 0))] [] 0 0 (0, fun _ => none, true) M Q := by
  refine g_new nw_L_14 rfl rfl (nle rfl) (nle rfl) ?_
  refine g_dup rfl ?_
  refine g_callI (as := []) mk_X7_init ml_L_116 im_X7_init rfl rfl rfl rfl ⟨⟨nle rfl, nle rfl⟩, nle rfl, nle rfl⟩ rfl rfl (nle rfl) ?_
  show Ct X m_X7_init [.ref 1] (1, upS (fun _ => none) 1 _, true) (zM M 1) _
  refine ct_X7_init (upS_s _ _ _) (fun S1 M1 a1 a2 a3 a4 a5 a6 a7 a8 => ?_)
  refine kq_n ?_
  refine g_astore_n (nle rfl) ?_
  show G X m_L_law _ 8 _ _ 674 3957 (674, S1, true) M1 Q
  have hx := a2
  have hI := inv_ne 0 (fun _ => 0)
  have hL := lk_ne 0 (fun _ => 0)
  have hO : OB 0 M1 1 (neS (fun _ => 0)) 0 (fun _ _ => 0) := ⟨a4 _, ⟨0, by omega, by rw [a5]; rfl, by rw [a5]; rfl, by omega, fun i hi => absurd hi (by omega)⟩, a6 2, fun _ => false, fun _ _ => 0, fun k hk => a8 k, fun k hk hb => by cases hb⟩
  have hb : HbL 674 3957 := ⟨by omega, by omega⟩
  have hb2 : HbL 675 3963 := ⟨by omega, by omega⟩
  refine g_aload_n rfl ?_
  refine gl_callH (as := [_]) hb rfl rfl (nle rfl) ?_
  refine ct_L_holds (n := 674) (by omega) hx hI hL (by omega) hO (fun κ' M' hκ hx' hO' => ?_)
  subst hκ
  have hx := hx'
  have hO := hO'
  have hb := hb2
  refine kq_s ?_
  refine g_if_eq rfl L_L_law_27 (fun h_1 => absurd h_1 (by decide)) (fun h_1 => ?_)
  refine g_aload_n rfl ?_
  refine g_iconst (v := 1) ik_1 ?_
  refine gl_callV (as := [_]) mk_X7_save ml_L_121 im_X7_save se_X7_save ⟨⟨nle rfl, nle rfl⟩, rfl, rfl⟩ hb hx.1 rfl rfl rfl (nle rfl) ?_
  refine l_save hx hO (k := 1) (by omega) (fun M' hO' hs1 hs2 => ?_)
  have hO := hO'
  refine kq_s ?_
  refine g_if_ne rfl L_L_law_27 (fun h_2 => (h_2 (show neS (fun _ => 0) 4 = 0 from rfl)).elim) (fun h_2 => ?_)
  refine g_iconst (v := 1) ik_1 ?_
  refine g_goto rfl L_L_law_28 ?_
  refine g_istore_n (nle rfl) ?_
  refine g_iconst (v := 0) ik_0 ?_
  refine g_istore_n (nle rfl) ?_
  refine g_iconst (v := 0) ik_0 ?_
  refine g_istore (nle rfl) ?_
  refine g_fall rfl L_L_law_34 ?_
  exact g_lo2 (law_loop hX hQ 0 (by omega) 675 _ _ _ 0 _ hx (by omega) hO ⟨_, _, _, _, hI, hL⟩) ⟨rfl, rfl, rfl, rfl, rfl, trivial⟩
