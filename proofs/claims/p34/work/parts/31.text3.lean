def FrC (M M' : Mem) (x : Nat) : Prop := (∀ r, r ≠ x → r ≠ x + 2 → M' r = M r) ∧ M' x 2 = M x 2
theorem FrC.rf (M : Mem) (x : Nat) : FrC M M x := ⟨fun _ _ _ => rfl, rfl⟩
theorem FrC.tr {M M' M'' : Mem} {x : Nat} (h : FrC M M' x) (h2 : FrC M' M'' x) : FrC M M'' x := ⟨fun r a b => (h2.1 r a b).trans (h.1 r a b), h2.2.trans h.2⟩
theorem FrX.c {M M' : Mem} {x : Nat} (h : FrX M M' x) : FrC M M' x := ⟨h.1, h.2 2 (by omega) (by omega)⟩
theorem flds_out {c : Nat} (h : c < 99 ∨ 120 < c) : flds c = none := by
  unfold flds
  rw [if_neg (by omega), if_neg (by omega), if_neg (by omega), if_neg (by omega), if_neg (by omega), if_neg (by omega), if_neg (by omega), if_neg (by omega)]
theorem nz {z : Nat → Int32} {i : Nat} {v : Int32} (h : z (0 + i) = v) : z i = v := by rwa [Nat.zero_add] at h
set_option maxRecDepth 100000 in
set_option maxHeartbeats 4000000 in
theorem ct_X6_readCommand {X : Xs} {κ : Kp} {M : Mem} {Q : Rs → Kp → Mem → Prop} {x : Nat} (hx : IsTxt κ.2.1 x) {len p : Nat} {t : Nat → Int32} (h2 : M x 2 = nI len) (h3 : M x 3 = nI p) (ht : M (x + 1) = t) (hT : TxOK t len) (hpl : p < len) (hY : ∀ M' e qs, rdC t len p = (true, e) → flds (ch t p) = some qs → M' x 3 = nI e → M' x 5 = t p → (∀ i, i < qs.length → M' (x + 2) i = valL t qs (p + 1) i) → FrC M M' x → Q (.inl (some (.int 1))) κ M') (hN : ∀ M' e, rdC t len p = (false, e) → M' x 3 = nI e → FrC M M' x → Q (.inl (some (.int 0))) κ M') : Ct X m_X6_readCommand [.ref x] κ M Q := by
  refine ct_of B_X6_readCommand_0 pn_X6 rfl (nle rfl) L_X6_readCommand_0 ?_
  have hlen := hT.1
  have hp : p < 1000 := by omega
  have hc256 := (hT.at hpl).2
  refine g_aload_n rfl ?_
  refine g_callV (as := []) mk_X6_hasMore ml_X6_30 im_X6_hasMore se_X6_hasMore rfl rfl ⟨⟨nle rfl, nle rfl⟩, nle rfl, nle rfl⟩ hx.1 rfl rfl rfl (nle rfl) ?_
  refine ct_X6_hasMore hx h2 h3 ht hT hp ?_
  refine kq_s ?_
  refine g_if_ne_b rfl L_X6_readCommand_9 (fun h_1 => ?_) (fun h_1 => ?_)
  · refine g_aload_n rfl ?_
    refine g_aload_n rfl ?_
    refine g_getR (w := (x + 1)) fl_X6_9 rfl hx.1 rfl ?_
    refine g_aload_n rfl ?_
    refine g_getI fl_X6_27 rfl hx.1 rfl ?_
    simp (disch := omega) only [upM_s, upM_o, upM_j, nI_1, h3]
    refine g_caload (j := p) hx.2.1 rfl (by omega) (nle rfl) ?_
    rw [ht]
    refine g_putI pl_X6_36 rfl hx.1 rfl (by rw [(hT.at hpl).1]; exact (pk_charN (by omega)).1) (by rw [(hT.at hpl).1]; exact (pk_charN (by omega)).2) ?_
    refine g_aload_n rfl ?_
    refine g_dup rfl ?_
    refine g_getI fl_X6_27 rfl hx.1 rfl ?_
    simp (disch := omega) only [upM_s, upM_o, upM_j, nI_1, h3]
    refine g_iconst (v := 1) ik_1 ?_
    refine g_iadd ?_
    refine g_putI pl_X6_27 rfl hx.1 rfl rfl rfl ?_
    refine g_aload_n rfl ?_
    refine g_iconst (v := 0) ik_0 ?_
    refine g_putI pl_X6_40 rfl hx.1 rfl rfl rfl ?_
    rw [nI_1]
    have f2 : (upM (upM (upM M x 5 (t p)) x 3 (nI (p + 1))) x 4 0) x 2 = nI len := by simp (disch := omega) only [upM_j]; exact h2
    have f3 : (upM (upM (upM M x 5 (t p)) x 3 (nI (p + 1))) x 4 0) x 3 = nI (p + 1) := by simp (disch := omega) only [upM_j, upM_s]
    have f4 : (upM (upM (upM M x 5 (t p)) x 3 (nI (p + 1))) x 4 0) x 4 = nI 0 := by simp (disch := omega) only [upM_s]; rfl
    have f5 : (upM (upM (upM M x 5 (t p)) x 3 (nI (p + 1))) x 4 0) x 5 = t p := by simp (disch := omega) only [upM_j, upM_s]
    have fF : ∀ r, r ≠ x → (upM (upM (upM M x 5 (t p)) x 3 (nI (p + 1))) x 4 0) r = M r := fun r hr' => by funext j; simp (disch := omega) only [upM_o]
    generalize (upM (upM (upM M x 5 (t p)) x 3 (nI (p + 1))) x 4 0) = M1 at f2 f3 f4 f5 fF ⊢
    have ft : M1 (x + 1) = t := (fF _ (by omega)).trans ht
    have fC : FrC M M1 x := ⟨fun r a b => fF r a, f2.trans h2.symm⟩
    have hlen := hT.1
    refine g_aload_n rfl ?_
    refine g_getI fl_X6_36 rfl hx.1 rfl ?_
    rw [f5, (hT.at hpl).1]
    rcases sw_cases (nI (ch t p)) 99 22 (nle rfl) with ⟨j_41, hj_41, hx_41⟩ | ho_41
    · have hc_41 : j_41 = 0 ∨ j_41 = 1 ∨ j_41 = 2 ∨ j_41 = 3 ∨ j_41 = 4 ∨ j_41 = 5 ∨ j_41 = 6 ∨ j_41 = 7 ∨ j_41 = 8 ∨ j_41 = 9 ∨ j_41 = 10 ∨ j_41 = 11 ∨ j_41 = 12 ∨ j_41 = 13 ∨ j_41 = 14 ∨ j_41 = 15 ∨ j_41 = 16 ∨ j_41 = 17 ∨ j_41 = 18 ∨ j_41 = 19 ∨ j_41 = 20 ∨ j_41 = 21 := by omega
      rcases hc_41 with rfl | rfl | rfl | rfl | rfl | rfl | rfl | rfl | rfl | rfl | rfl | rfl | rfl | rfl | rfl | rfl | rfl | rfl | rfl | rfl | rfl | rfl
      · replace hx_41 : (nI (ch t p)) = 99 := hx_41.trans (by decide)
        refine g_tabIn (off := 173) (by rw [hx_41]; decide) (by rw [hx_41]; decide) (by rw [hx_41]; decide) rfl L_X6_readCommand_214 ?_
        have hcc : ch t p = 99 := (nI_eq (a := ch t p) (b := 99) (by omega) (by omega)).mp hx_41
        have hfl : flds (ch t p) = some [(false, 0, 3), (false, 1, 5), (false, 0, 3), (false, 0, 4), (false, 0, 5), (false, 0, 5)] := by rw [hcc]; rfl
        refine g_aload_n rfl ?_
        refine g_callV (as := []) mk_X6_readKind ml_X6_50 im_X6_readKind se_X6_readKind rfl rfl ⟨⟨nle rfl, nle rfl⟩, nle rfl, nle rfl⟩ hx.1 rfl rfl rfl (nle rfl) ?_
        refine ct_X6_readKind hx f2 f3 ft hT (by omega) f4 (by omega) (fun M9 hc9 b3_9 b4_9 bv9 bo9 bF9 => ?_) (fun M9 e9 hn9 he9 b3_9 bF9 => ?_)
        · have fr9 := bF9
          refine kq_s ?_
          refine g_if_eq rfl L_X6_readCommand_232 (fun h_2 => absurd h_2 (by decide)) (fun h_2 => ?_)
          refine g_aload_n rfl ?_
          refine g_callV (as := []) mk_X6_readPlace ml_X6_53 im_X6_readPlace se_X6_readPlace rfl rfl ⟨⟨nle rfl, nle rfl⟩, nle rfl, nle rfl⟩ hx.1 rfl rfl rfl (nle rfl) ?_
          refine ct_X6_readPlace hx ((bF9.2 2 (by omega) (by omega)).trans f2) b3_9 ((bF9.1 (x + 1) (by omega) (by omega)).trans ft) hT (by omega) b4_9 (by omega) (fun M10 hc10 b3_10 b4_10 bv10 bo10 bF10 => ?_) (fun M10 e10 hn10 he10 b3_10 bF10 => ?_)
          · have fr10 := (fr9.tr bF10)
            refine kq_s ?_
            refine g_if_eq rfl L_X6_readCommand_232 (fun h_3 => absurd h_3 (by decide)) (fun h_3 => ?_)
            refine g_iconst (v := 1) ik_1 ?_
            refine g_goto rfl L_X6_readCommand_233 ?_
            refine g_zret rfl rfl (nle rfl) (nle rfl) ?_
            refine hY M10 _ [(false, 0, 3), (false, 1, 5), (false, 0, 3), (false, 0, 4), (false, 0, 5), (false, 0, 5)] ((rdC_yes hfl).trans (hc9 ((false, 0, 3) :: (false, 0, 4) :: (false, 0, 5) :: (false, 0, 5) :: []) _ (hc10 ([]) _ (rfl)))) hfl b3_10 ((fr10.2 5 (by omega) (by omega)).trans f5) ?_ (fC.tr fr10.c)
            intro i hi
            replace hi : i < 6 := hi
            have hi2 : i = 0 ∨ i = 1 ∨ i = 2 ∨ i = 3 ∨ i = 4 ∨ i = 5 := by omega
            rcases hi2 with rfl | rfl | rfl | rfl | rfl | rfl
            · exact nz ((bo10 _ (by omega)).trans (bv9 0 (by omega)))
            · exact nz ((bo10 _ (by omega)).trans (bv9 1 (by omega)))
            · exact nz (bv10 0 (by omega))
            · exact nz (bv10 1 (by omega))
            · exact nz (bv10 2 (by omega))
            · exact nz (bv10 3 (by omega))
          · have fr10 := (fr9.tr bF10)
            refine kq_s ?_
            refine g_if_eq rfl L_X6_readCommand_232 (fun h_4 => ?_) (fun h_4 => absurd h_4 (by decide))
            refine g_iconst (v := 0) ik_0 ?_
            refine g_fall rfl L_X6_readCommand_233 ?_
            refine g_zret rfl rfl (nle rfl) (nle rfl) ?_
            exact hN M10 e10 ((rdC_yes hfl).trans (hc9 ((false, 0, 3) :: (false, 0, 4) :: (false, 0, 5) :: (false, 0, 5) :: []) _ (hn10 ([])))) b3_10 (fC.tr fr10.c)
        · have fr9 := bF9
          refine kq_s ?_
          refine g_if_eq rfl L_X6_readCommand_232 (fun h_5 => ?_) (fun h_5 => absurd h_5 (by decide))
          refine g_iconst (v := 0) ik_0 ?_
          refine g_fall rfl L_X6_readCommand_233 ?_
          refine g_zret rfl rfl (nle rfl) (nle rfl) ?_
          exact hN M9 e9 ((rdC_yes hfl).trans (hn9 ((false, 0, 3) :: (false, 0, 4) :: (false, 0, 5) :: (false, 0, 5) :: []))) b3_9 (fC.tr fr9.c)
      · replace hx_41 : (nI (ch t p)) = 100 := hx_41.trans (by decide)
        refine g_tabIn (off := 193) (by rw [hx_41]; decide) (by rw [hx_41]; decide) (by rw [hx_41]; decide) rfl L_X6_readCommand_234 ?_
        have hcc : ch t p = 100 := (nI_eq (a := ch t p) (b := 100) (by omega) (by omega)).mp hx_41
        have hfl : flds (ch t p) = some [] := by rw [hcc]; rfl
        refine g_iconst (v := 1) ik_1 ?_
        refine g_zret rfl rfl (nle rfl) (nle rfl) ?_
        exact hY M1 (p + 1) [] ((rdC_yes hfl).trans rfl) hfl f3 f5 (fun i hi => absurd hi (Nat.not_lt_zero i)) fC
      · replace hx_41 : (nI (ch t p)) = 101 := hx_41.trans (by decide)
        refine g_tabIn (off := 200) (by rw [hx_41]; decide) (by rw [hx_41]; decide) (by rw [hx_41]; decide) rfl L_X6_readCommand_241 ?_
        have hcc : ch t p = 101 := (nI_eq (a := ch t p) (b := 101) (by omega) (by omega)).mp hx_41
        have hfl : flds (ch t p) = some [(true, 0, 11), (false, 0, 9)] := by rw [hcc]; rfl
        refine g_aload_n rfl ?_
        refine g_callV (as := []) mk_X6_readDancer ml_X6_56 im_X6_readDancer se_X6_readDancer rfl rfl ⟨⟨nle rfl, nle rfl⟩, nle rfl, nle rfl⟩ hx.1 rfl rfl rfl (nle rfl) ?_
        refine ct_X6_readDancer hx f2 f3 ft hT (by omega) f4 (by omega) (fun M11 hc11 b3_11 b4_11 bv11 bo11 bF11 => ?_) (fun M11 e11 hn11 he11 b3_11 bF11 => ?_)
        · have fr11 := bF11
          refine kq_s ?_
          refine g_if_eq rfl L_X6_readCommand_259 (fun h_6 => absurd h_6 (by decide)) (fun h_6 => ?_)
          refine g_aload_n rfl ?_
          refine g_callV (as := []) mk_X6_readLesson ml_X6_59 im_X6_readLesson se_X6_readLesson rfl rfl ⟨⟨nle rfl, nle rfl⟩, nle rfl, nle rfl⟩ hx.1 rfl rfl rfl (nle rfl) ?_
          refine ct_X6_readLesson hx ((bF11.2 2 (by omega) (by omega)).trans f2) b3_11 ((bF11.1 (x + 1) (by omega) (by omega)).trans ft) hT (by omega) b4_11 (by omega) (fun M12 hc12 b3_12 b4_12 bv12 bo12 bF12 => ?_) (fun M12 e12 hn12 he12 b3_12 bF12 => ?_)
          · have fr12 := (fr11.tr bF12)
            refine kq_s ?_
            refine g_if_eq rfl L_X6_readCommand_259 (fun h_7 => absurd h_7 (by decide)) (fun h_7 => ?_)
            refine g_iconst (v := 1) ik_1 ?_
            refine g_goto rfl L_X6_readCommand_260 ?_
            refine g_zret rfl rfl (nle rfl) (nle rfl) ?_
            refine hY M12 _ [(true, 0, 11), (false, 0, 9)] ((rdC_yes hfl).trans (hc11 ((false, 0, 9) :: []) _ (hc12 ([]) _ (rfl)))) hfl b3_12 ((fr12.2 5 (by omega) (by omega)).trans f5) ?_ (fC.tr fr12.c)
            intro i hi
            replace hi : i < 2 := hi
            have hi2 : i = 0 ∨ i = 1 := by omega
            rcases hi2 with rfl | rfl
            · exact nz ((bo12 _ (by omega)).trans (bv11 0 (by omega)))
            · exact nz (bv12 0 (by omega))
          · have fr12 := (fr11.tr bF12)
            refine kq_s ?_
            refine g_if_eq rfl L_X6_readCommand_259 (fun h_8 => ?_) (fun h_8 => absurd h_8 (by decide))
            refine g_iconst (v := 0) ik_0 ?_
            refine g_fall rfl L_X6_readCommand_260 ?_
            refine g_zret rfl rfl (nle rfl) (nle rfl) ?_
            exact hN M12 e12 ((rdC_yes hfl).trans (hc11 ((false, 0, 9) :: []) _ (hn12 ([])))) b3_12 (fC.tr fr12.c)
        · have fr11 := bF11
          refine kq_s ?_
          refine g_if_eq rfl L_X6_readCommand_259 (fun h_9 => ?_) (fun h_9 => absurd h_9 (by decide))
          refine g_iconst (v := 0) ik_0 ?_
          refine g_fall rfl L_X6_readCommand_260 ?_
          refine g_zret rfl rfl (nle rfl) (nle rfl) ?_
          exact hN M11 e11 ((rdC_yes hfl).trans (hn11 ((false, 0, 9) :: []))) b3_11 (fC.tr fr11.c)
      · replace hx_41 : (nI (ch t p)) = 102 := hx_41.trans (by decide)
        refine g_tabIn (off := 103) (by rw [hx_41]; decide) (by rw [hx_41]; decide) (by rw [hx_41]; decide) rfl L_X6_readCommand_144 ?_
        have hcc : ch t p = 102 := (nI_eq (a := ch t p) (b := 102) (by omega) (by omega)).mp hx_41
        have hfl : flds (ch t p) = some [(false, 1, 9), (false, 0, 4), (true, 0, 60), (true, 1, 30)] := by rw [hcc]; rfl
        refine g_aload_n rfl ?_
        refine g_iconst (v := 1) ik_1 ?_
        refine g_bipush (v := 9) bk_9 ?_
        refine g_callV (as := [_, _]) mk_X6_readDigit ml_X6_43 im_X6_readDigit se_X6_readDigit rfl rfl ⟨⟨nle rfl, nle rfl⟩, nle rfl, nle rfl⟩ hx.1 rfl rfl rfl (nle rfl) ?_
        refine ct_X6_readDigit hx f2 f3 ft hT (by omega) f4 1 9 rfl rfl (by omega) (by omega) (by omega) (fun M13 hc13 b3_13 b4_13 bv13 bo13 bF13 => ?_) (fun M13 e13 hn13 he13 b3_13 bF13 => ?_)
        · have fr13 := bF13
          refine kq_s ?_
          refine g_if_eq rfl L_X6_readCommand_187 (fun h_10 => absurd h_10 (by decide)) (fun h_10 => ?_)
          refine g_aload_n rfl ?_
          refine g_iconst (v := 0) ik_0 ?_
          refine g_iconst (v := 4) ik_4 ?_
          refine g_callV (as := [_, _]) mk_X6_readDigit ml_X6_43 im_X6_readDigit se_X6_readDigit rfl rfl ⟨⟨nle rfl, nle rfl⟩, nle rfl, nle rfl⟩ hx.1 rfl rfl rfl (nle rfl) ?_
          refine ct_X6_readDigit hx ((bF13.2 2 (by omega) (by omega)).trans f2) b3_13 ((bF13.1 (x + 1) (by omega) (by omega)).trans ft) hT (by omega) b4_13 0 4 rfl rfl (by omega) (by omega) (by omega) (fun M14 hc14 b3_14 b4_14 bv14 bo14 bF14 => ?_) (fun M14 e14 hn14 he14 b3_14 bF14 => ?_)
          · have fr14 := (fr13.tr bF14)
            refine kq_s ?_
            refine g_if_eq rfl L_X6_readCommand_187 (fun h_11 => absurd h_11 (by decide)) (fun h_11 => ?_)
            refine g_aload_n rfl ?_
            refine g_iconst (v := 0) ik_0 ?_
            refine g_bipush (v := 60) bk_60 ?_
            refine g_callV (as := [_, _]) mk_X6_readTwoDigits ml_X6_47 im_X6_readTwoDigits se_X6_readTwoDigits rfl rfl ⟨⟨nle rfl, nle rfl⟩, nle rfl, nle rfl⟩ hx.1 rfl rfl rfl (nle rfl) ?_
            refine ct_X6_readTwoDigits hx ((bF14.2 2 (by omega) (by omega)).trans ((bF13.2 2 (by omega) (by omega)).trans f2)) b3_14 ((bF14.1 (x + 1) (by omega) (by omega)).trans ((bF13.1 (x + 1) (by omega) (by omega)).trans ft)) hT (by omega) b4_14 0 60 rfl rfl (by omega) (by omega) (by omega) (fun M15 hc15 b3_15 b4_15 bv15 bo15 bF15 => ?_) (fun M15 e15 hn15 he15 b3_15 bF15 => ?_)
            · have fr15 := (fr14.tr bF15)
              refine kq_s ?_
              refine g_if_eq rfl L_X6_readCommand_187 (fun h_12 => absurd h_12 (by decide)) (fun h_12 => ?_)
              refine g_aload_n rfl ?_
              refine g_iconst (v := 1) ik_1 ?_
              refine g_bipush (v := 30) bk_30 ?_
              refine g_callV (as := [_, _]) mk_X6_readTwoDigits ml_X6_47 im_X6_readTwoDigits se_X6_readTwoDigits rfl rfl ⟨⟨nle rfl, nle rfl⟩, nle rfl, nle rfl⟩ hx.1 rfl rfl rfl (nle rfl) ?_
              refine ct_X6_readTwoDigits hx ((bF15.2 2 (by omega) (by omega)).trans ((bF14.2 2 (by omega) (by omega)).trans ((bF13.2 2 (by omega) (by omega)).trans f2))) b3_15 ((bF15.1 (x + 1) (by omega) (by omega)).trans ((bF14.1 (x + 1) (by omega) (by omega)).trans ((bF13.1 (x + 1) (by omega) (by omega)).trans ft))) hT (by omega) b4_15 1 30 rfl rfl (by omega) (by omega) (by omega) (fun M16 hc16 b3_16 b4_16 bv16 bo16 bF16 => ?_) (fun M16 e16 hn16 he16 b3_16 bF16 => ?_)
              · have fr16 := (fr15.tr bF16)
                refine kq_s ?_
                refine g_if_eq rfl L_X6_readCommand_187 (fun h_13 => absurd h_13 (by decide)) (fun h_13 => ?_)
                refine g_iconst (v := 1) ik_1 ?_
                refine g_goto rfl L_X6_readCommand_188 ?_
                refine g_zret rfl rfl (nle rfl) (nle rfl) ?_
                refine hY M16 _ [(false, 1, 9), (false, 0, 4), (true, 0, 60), (true, 1, 30)] ((rdC_yes hfl).trans (hc13 ((false, 0, 4) :: (true, 0, 60) :: (true, 1, 30) :: []) _ (hc14 ((true, 0, 60) :: (true, 1, 30) :: []) _ (hc15 ((true, 1, 30) :: []) _ (hc16 ([]) _ (rfl)))))) hfl b3_16 ((fr16.2 5 (by omega) (by omega)).trans f5) ?_ (fC.tr fr16.c)
                intro i hi
                replace hi : i < 4 := hi
                have hi2 : i = 0 ∨ i = 1 ∨ i = 2 ∨ i = 3 := by omega
                rcases hi2 with rfl | rfl | rfl | rfl
                · exact nz ((bo16 _ (by omega)).trans ((bo15 _ (by omega)).trans ((bo14 _ (by omega)).trans (bv13 0 (by omega)))))
                · exact nz ((bo16 _ (by omega)).trans ((bo15 _ (by omega)).trans (bv14 0 (by omega))))
                · exact nz ((bo16 _ (by omega)).trans (bv15 0 (by omega)))
                · exact nz (bv16 0 (by omega))
              · have fr16 := (fr15.tr bF16)
                refine kq_s ?_
                refine g_if_eq rfl L_X6_readCommand_187 (fun h_14 => ?_) (fun h_14 => absurd h_14 (by decide))
                refine g_iconst (v := 0) ik_0 ?_
                refine g_fall rfl L_X6_readCommand_188 ?_
                refine g_zret rfl rfl (nle rfl) (nle rfl) ?_
                exact hN M16 e16 ((rdC_yes hfl).trans (hc13 ((false, 0, 4) :: (true, 0, 60) :: (true, 1, 30) :: []) _ (hc14 ((true, 0, 60) :: (true, 1, 30) :: []) _ (hc15 ((true, 1, 30) :: []) _ (hn16 ([])))))) b3_16 (fC.tr fr16.c)
            · have fr15 := (fr14.tr bF15)
              refine kq_s ?_
              refine g_if_eq rfl L_X6_readCommand_187 (fun h_15 => ?_) (fun h_15 => absurd h_15 (by decide))
              refine g_iconst (v := 0) ik_0 ?_
              refine g_fall rfl L_X6_readCommand_188 ?_
              refine g_zret rfl rfl (nle rfl) (nle rfl) ?_
              exact hN M15 e15 ((rdC_yes hfl).trans (hc13 ((false, 0, 4) :: (true, 0, 60) :: (true, 1, 30) :: []) _ (hc14 ((true, 0, 60) :: (true, 1, 30) :: []) _ (hn15 ((true, 1, 30) :: []))))) b3_15 (fC.tr fr15.c)
          · have fr14 := (fr13.tr bF14)
            refine kq_s ?_
            refine g_if_eq rfl L_X6_readCommand_187 (fun h_16 => ?_) (fun h_16 => absurd h_16 (by decide))
            refine g_iconst (v := 0) ik_0 ?_
            refine g_fall rfl L_X6_readCommand_188 ?_
            refine g_zret rfl rfl (nle rfl) (nle rfl) ?_
            exact hN M14 e14 ((rdC_yes hfl).trans (hc13 ((false, 0, 4) :: (true, 0, 60) :: (true, 1, 30) :: []) _ (hn14 ((true, 0, 60) :: (true, 1, 30) :: [])))) b3_14 (fC.tr fr14.c)
        · have fr13 := bF13
          refine kq_s ?_
          refine g_if_eq rfl L_X6_readCommand_187 (fun h_17 => ?_) (fun h_17 => absurd h_17 (by decide))
          refine g_iconst (v := 0) ik_0 ?_
          refine g_fall rfl L_X6_readCommand_188 ?_
          refine g_zret rfl rfl (nle rfl) (nle rfl) ?_
          exact hN M13 e13 ((rdC_yes hfl).trans (hn13 ((false, 0, 4) :: (true, 0, 60) :: (true, 1, 30) :: []))) b3_13 (fC.tr fr13.c)
      · replace hx_41 : (nI (ch t p)) = 103 := hx_41.trans (by decide)
        refine g_tabIn (off := 233) (by rw [hx_41]; decide) (by rw [hx_41]; decide) (by rw [hx_41]; decide) rfl L_X6_readCommand_274 ?_
        have hcc : ch t p = 103 := (nI_eq (a := ch t p) (b := 103) (by omega) (by omega)).mp hx_41
        have hfl : flds (ch t p) = none := by rw [hcc]; rfl
        refine g_aload_n rfl ?_
        refine g_dup rfl ?_
        refine g_getI fl_X6_27 rfl hx.1 rfl ?_
        simp (disch := omega) only [upM_s, upM_o, upM_j, nI_1, h3]
        simp (disch := omega) only [f3]
        refine g_iconst (v := 1) ik_1 ?_
        refine g_isub ?_
        refine g_putI pl_X6_27 rfl hx.1 rfl rfl rfl ?_
        refine g_iconst (v := 0) ik_0 ?_
        refine g_zret rfl rfl (nle rfl) (nle rfl) ?_
        exact hN _ p (rdC_no hfl) (by simp (disch := omega) only [upM_s, f3, nI_pred]) ⟨fun r a b => by rw [← fC.1 r a b]; funext j; simp (disch := omega) only [upM_o], by rw [← fC.2]; simp (disch := omega) only [upM_j]⟩
      · replace hx_41 : (nI (ch t p)) = 104 := hx_41.trans (by decide)
        refine g_tabIn (off := 233) (by rw [hx_41]; decide) (by rw [hx_41]; decide) (by rw [hx_41]; decide) rfl L_X6_readCommand_274 ?_
        have hcc : ch t p = 104 := (nI_eq (a := ch t p) (b := 104) (by omega) (by omega)).mp hx_41
        have hfl : flds (ch t p) = none := by rw [hcc]; rfl
        refine g_aload_n rfl ?_
        refine g_dup rfl ?_
        refine g_getI fl_X6_27 rfl hx.1 rfl ?_
        simp (disch := omega) only [upM_s, upM_o, upM_j, nI_1, h3]
        simp (disch := omega) only [f3]
        refine g_iconst (v := 1) ik_1 ?_
        refine g_isub ?_
        refine g_putI pl_X6_27 rfl hx.1 rfl rfl rfl ?_
        refine g_iconst (v := 0) ik_0 ?_
        refine g_zret rfl rfl (nle rfl) (nle rfl) ?_
        exact hN _ p (rdC_no hfl) (by simp (disch := omega) only [upM_s, f3, nI_pred]) ⟨fun r a b => by rw [← fC.1 r a b]; funext j; simp (disch := omega) only [upM_o], by rw [← fC.2]; simp (disch := omega) only [upM_j]⟩
      · replace hx_41 : (nI (ch t p)) = 105 := hx_41.trans (by decide)
        refine g_tabIn (off := 233) (by rw [hx_41]; decide) (by rw [hx_41]; decide) (by rw [hx_41]; decide) rfl L_X6_readCommand_274 ?_
        have hcc : ch t p = 105 := (nI_eq (a := ch t p) (b := 105) (by omega) (by omega)).mp hx_41
        have hfl : flds (ch t p) = none := by rw [hcc]; rfl
        refine g_aload_n rfl ?_
        refine g_dup rfl ?_
        refine g_getI fl_X6_27 rfl hx.1 rfl ?_
        simp (disch := omega) only [upM_s, upM_o, upM_j, nI_1, h3]
        simp (disch := omega) only [f3]
        refine g_iconst (v := 1) ik_1 ?_
        refine g_isub ?_
        refine g_putI pl_X6_27 rfl hx.1 rfl rfl rfl ?_
        refine g_iconst (v := 0) ik_0 ?_
        refine g_zret rfl rfl (nle rfl) (nle rfl) ?_
        exact hN _ p (rdC_no hfl) (by simp (disch := omega) only [upM_s, f3, nI_pred]) ⟨fun r a b => by rw [← fC.1 r a b]; funext j; simp (disch := omega) only [upM_o], by rw [← fC.2]; simp (disch := omega) only [upM_j]⟩
      · replace hx_41 : (nI (ch t p)) = 106 := hx_41.trans (by decide)
        refine g_tabIn (off := 233) (by rw [hx_41]; decide) (by rw [hx_41]; decide) (by rw [hx_41]; decide) rfl L_X6_readCommand_274 ?_
        have hcc : ch t p = 106 := (nI_eq (a := ch t p) (b := 106) (by omega) (by omega)).mp hx_41
        have hfl : flds (ch t p) = none := by rw [hcc]; rfl
        refine g_aload_n rfl ?_
        refine g_dup rfl ?_
        refine g_getI fl_X6_27 rfl hx.1 rfl ?_
        simp (disch := omega) only [upM_s, upM_o, upM_j, nI_1, h3]
        simp (disch := omega) only [f3]
        refine g_iconst (v := 1) ik_1 ?_
        refine g_isub ?_
        refine g_putI pl_X6_27 rfl hx.1 rfl rfl rfl ?_
        refine g_iconst (v := 0) ik_0 ?_
        refine g_zret rfl rfl (nle rfl) (nle rfl) ?_
        exact hN _ p (rdC_no hfl) (by simp (disch := omega) only [upM_s, f3, nI_pred]) ⟨fun r a b => by rw [← fC.1 r a b]; funext j; simp (disch := omega) only [upM_o], by rw [← fC.2]; simp (disch := omega) only [upM_j]⟩
      · replace hx_41 : (nI (ch t p)) = 107 := hx_41.trans (by decide)
        refine g_tabIn (off := 233) (by rw [hx_41]; decide) (by rw [hx_41]; decide) (by rw [hx_41]; decide) rfl L_X6_readCommand_274 ?_
        have hcc : ch t p = 107 := (nI_eq (a := ch t p) (b := 107) (by omega) (by omega)).mp hx_41
        have hfl : flds (ch t p) = none := by rw [hcc]; rfl
        refine g_aload_n rfl ?_
        refine g_dup rfl ?_
        refine g_getI fl_X6_27 rfl hx.1 rfl ?_
        simp (disch := omega) only [upM_s, upM_o, upM_j, nI_1, h3]
        simp (disch := omega) only [f3]
        refine g_iconst (v := 1) ik_1 ?_
        refine g_isub ?_
        refine g_putI pl_X6_27 rfl hx.1 rfl rfl rfl ?_
        refine g_iconst (v := 0) ik_0 ?_
        refine g_zret rfl rfl (nle rfl) (nle rfl) ?_
        exact hN _ p (rdC_no hfl) (by simp (disch := omega) only [upM_s, f3, nI_pred]) ⟨fun r a b => by rw [← fC.1 r a b]; funext j; simp (disch := omega) only [upM_o], by rw [← fC.2]; simp (disch := omega) only [upM_j]⟩
      · replace hx_41 : (nI (ch t p)) = 108 := hx_41.trans (by decide)
        refine g_tabIn (off := 200) (by rw [hx_41]; decide) (by rw [hx_41]; decide) (by rw [hx_41]; decide) rfl L_X6_readCommand_241 ?_
        have hcc : ch t p = 108 := (nI_eq (a := ch t p) (b := 108) (by omega) (by omega)).mp hx_41
        have hfl : flds (ch t p) = some [(true, 0, 11), (false, 0, 9)] := by rw [hcc]; rfl
        refine g_aload_n rfl ?_
        refine g_callV (as := []) mk_X6_readDancer ml_X6_56 im_X6_readDancer se_X6_readDancer rfl rfl ⟨⟨nle rfl, nle rfl⟩, nle rfl, nle rfl⟩ hx.1 rfl rfl rfl (nle rfl) ?_
        refine ct_X6_readDancer hx f2 f3 ft hT (by omega) f4 (by omega) (fun M17 hc17 b3_17 b4_17 bv17 bo17 bF17 => ?_) (fun M17 e17 hn17 he17 b3_17 bF17 => ?_)
        · have fr17 := bF17
          refine kq_s ?_
          refine g_if_eq rfl L_X6_readCommand_259 (fun h_18 => absurd h_18 (by decide)) (fun h_18 => ?_)
          refine g_aload_n rfl ?_
          refine g_callV (as := []) mk_X6_readLesson ml_X6_59 im_X6_readLesson se_X6_readLesson rfl rfl ⟨⟨nle rfl, nle rfl⟩, nle rfl, nle rfl⟩ hx.1 rfl rfl rfl (nle rfl) ?_
          refine ct_X6_readLesson hx ((bF17.2 2 (by omega) (by omega)).trans f2) b3_17 ((bF17.1 (x + 1) (by omega) (by omega)).trans ft) hT (by omega) b4_17 (by omega) (fun M18 hc18 b3_18 b4_18 bv18 bo18 bF18 => ?_) (fun M18 e18 hn18 he18 b3_18 bF18 => ?_)
          · have fr18 := (fr17.tr bF18)
            refine kq_s ?_
            refine g_if_eq rfl L_X6_readCommand_259 (fun h_19 => absurd h_19 (by decide)) (fun h_19 => ?_)
            refine g_iconst (v := 1) ik_1 ?_
            refine g_goto rfl L_X6_readCommand_260 ?_
            refine g_zret rfl rfl (nle rfl) (nle rfl) ?_
            refine hY M18 _ [(true, 0, 11), (false, 0, 9)] ((rdC_yes hfl).trans (hc17 ((false, 0, 9) :: []) _ (hc18 ([]) _ (rfl)))) hfl b3_18 ((fr18.2 5 (by omega) (by omega)).trans f5) ?_ (fC.tr fr18.c)
            intro i hi
            replace hi : i < 2 := hi
            have hi2 : i = 0 ∨ i = 1 := by omega
            rcases hi2 with rfl | rfl
            · exact nz ((bo18 _ (by omega)).trans (bv17 0 (by omega)))
            · exact nz (bv18 0 (by omega))
          · have fr18 := (fr17.tr bF18)
            refine kq_s ?_
            refine g_if_eq rfl L_X6_readCommand_259 (fun h_20 => ?_) (fun h_20 => absurd h_20 (by decide))
            refine g_iconst (v := 0) ik_0 ?_
            refine g_fall rfl L_X6_readCommand_260 ?_
            refine g_zret rfl rfl (nle rfl) (nle rfl) ?_
            exact hN M18 e18 ((rdC_yes hfl).trans (hc17 ((false, 0, 9) :: []) _ (hn18 ([])))) b3_18 (fC.tr fr18.c)
        · have fr17 := bF17
          refine kq_s ?_
          refine g_if_eq rfl L_X6_readCommand_259 (fun h_21 => ?_) (fun h_21 => absurd h_21 (by decide))
          refine g_iconst (v := 0) ik_0 ?_
          refine g_fall rfl L_X6_readCommand_260 ?_
          refine g_zret rfl rfl (nle rfl) (nle rfl) ?_
          exact hN M17 e17 ((rdC_yes hfl).trans (hn17 ((false, 0, 9) :: []))) b3_17 (fC.tr fr17.c)
      · replace hx_41 : (nI (ch t p)) = 109 := hx_41.trans (by decide)
        refine g_tabIn (off := 233) (by rw [hx_41]; decide) (by rw [hx_41]; decide) (by rw [hx_41]; decide) rfl L_X6_readCommand_274 ?_
        have hcc : ch t p = 109 := (nI_eq (a := ch t p) (b := 109) (by omega) (by omega)).mp hx_41
        have hfl : flds (ch t p) = none := by rw [hcc]; rfl
        refine g_aload_n rfl ?_
        refine g_dup rfl ?_
        refine g_getI fl_X6_27 rfl hx.1 rfl ?_
        simp (disch := omega) only [upM_s, upM_o, upM_j, nI_1, h3]
        simp (disch := omega) only [f3]
        refine g_iconst (v := 1) ik_1 ?_
        refine g_isub ?_
        refine g_putI pl_X6_27 rfl hx.1 rfl rfl rfl ?_
        refine g_iconst (v := 0) ik_0 ?_
        refine g_zret rfl rfl (nle rfl) (nle rfl) ?_
        exact hN _ p (rdC_no hfl) (by simp (disch := omega) only [upM_s, f3, nI_pred]) ⟨fun r a b => by rw [← fC.1 r a b]; funext j; simp (disch := omega) only [upM_o], by rw [← fC.2]; simp (disch := omega) only [upM_j]⟩
      · replace hx_41 : (nI (ch t p)) = 110 := hx_41.trans (by decide)
        refine g_tabIn (off := 233) (by rw [hx_41]; decide) (by rw [hx_41]; decide) (by rw [hx_41]; decide) rfl L_X6_readCommand_274 ?_
        have hcc : ch t p = 110 := (nI_eq (a := ch t p) (b := 110) (by omega) (by omega)).mp hx_41
        have hfl : flds (ch t p) = none := by rw [hcc]; rfl
        refine g_aload_n rfl ?_
        refine g_dup rfl ?_
        refine g_getI fl_X6_27 rfl hx.1 rfl ?_
        simp (disch := omega) only [upM_s, upM_o, upM_j, nI_1, h3]
        simp (disch := omega) only [f3]
        refine g_iconst (v := 1) ik_1 ?_
        refine g_isub ?_
        refine g_putI pl_X6_27 rfl hx.1 rfl rfl rfl ?_
        refine g_iconst (v := 0) ik_0 ?_
        refine g_zret rfl rfl (nle rfl) (nle rfl) ?_
        exact hN _ p (rdC_no hfl) (by simp (disch := omega) only [upM_s, f3, nI_pred]) ⟨fun r a b => by rw [← fC.1 r a b]; funext j; simp (disch := omega) only [upM_o], by rw [← fC.2]; simp (disch := omega) only [upM_j]⟩
      · replace hx_41 : (nI (ch t p)) = 111 := hx_41.trans (by decide)
        refine g_tabIn (off := 233) (by rw [hx_41]; decide) (by rw [hx_41]; decide) (by rw [hx_41]; decide) rfl L_X6_readCommand_274 ?_
        have hcc : ch t p = 111 := (nI_eq (a := ch t p) (b := 111) (by omega) (by omega)).mp hx_41
        have hfl : flds (ch t p) = none := by rw [hcc]; rfl
        refine g_aload_n rfl ?_
        refine g_dup rfl ?_
        refine g_getI fl_X6_27 rfl hx.1 rfl ?_
        simp (disch := omega) only [upM_s, upM_o, upM_j, nI_1, h3]
        simp (disch := omega) only [f3]
        refine g_iconst (v := 1) ik_1 ?_
        refine g_isub ?_
        refine g_putI pl_X6_27 rfl hx.1 rfl rfl rfl ?_
        refine g_iconst (v := 0) ik_0 ?_
        refine g_zret rfl rfl (nle rfl) (nle rfl) ?_
        exact hN _ p (rdC_no hfl) (by simp (disch := omega) only [upM_s, f3, nI_pred]) ⟨fun r a b => by rw [← fC.1 r a b]; funext j; simp (disch := omega) only [upM_o], by rw [← fC.2]; simp (disch := omega) only [upM_j]⟩
      · replace hx_41 : (nI (ch t p)) = 112 := hx_41.trans (by decide)
        refine g_tabIn (off := 195) (by rw [hx_41]; decide) (by rw [hx_41]; decide) (by rw [hx_41]; decide) rfl L_X6_readCommand_236 ?_
        have hcc : ch t p = 112 := (nI_eq (a := ch t p) (b := 112) (by omega) (by omega)).mp hx_41
        have hfl : flds (ch t p) = some [(true, 0, 11)] := by rw [hcc]; rfl
        refine g_aload_n rfl ?_
        refine g_callV (as := []) mk_X6_readDancer ml_X6_56 im_X6_readDancer se_X6_readDancer rfl rfl ⟨⟨nle rfl, nle rfl⟩, nle rfl, nle rfl⟩ hx.1 rfl rfl rfl (nle rfl) ?_
        refine ct_X6_readDancer hx f2 f3 ft hT (by omega) f4 (by omega) (fun M19 hc19 b3_19 b4_19 bv19 bo19 bF19 => ?_) (fun M19 e19 hn19 he19 b3_19 bF19 => ?_)
        · have fr19 := bF19
          refine kq_s ?_
          refine g_zret rfl rfl (nle rfl) (nle rfl) ?_
          refine hY M19 _ [(true, 0, 11)] ((rdC_yes hfl).trans (hc19 ([]) _ (rfl))) hfl b3_19 ((fr19.2 5 (by omega) (by omega)).trans f5) ?_ (fC.tr fr19.c)
          intro i hi
          replace hi : i < 1 := hi
          have hi2 : i = 0 := by omega
          rcases hi2 with rfl
          · exact nz (bv19 0 (by omega))
        · have fr19 := bF19
          refine kq_s ?_
          refine g_zret rfl rfl (nle rfl) (nle rfl) ?_
          exact hN M19 e19 ((rdC_yes hfl).trans (hn19 ([]))) b3_19 (fC.tr fr19.c)
      · replace hx_41 : (nI (ch t p)) = 113 := hx_41.trans (by decide)
        refine g_tabIn (off := 233) (by rw [hx_41]; decide) (by rw [hx_41]; decide) (by rw [hx_41]; decide) rfl L_X6_readCommand_274 ?_
        have hcc : ch t p = 113 := (nI_eq (a := ch t p) (b := 113) (by omega) (by omega)).mp hx_41
        have hfl : flds (ch t p) = none := by rw [hcc]; rfl
        refine g_aload_n rfl ?_
        refine g_dup rfl ?_
        refine g_getI fl_X6_27 rfl hx.1 rfl ?_
        simp (disch := omega) only [upM_s, upM_o, upM_j, nI_1, h3]
        simp (disch := omega) only [f3]
        refine g_iconst (v := 1) ik_1 ?_
        refine g_isub ?_
        refine g_putI pl_X6_27 rfl hx.1 rfl rfl rfl ?_
        refine g_iconst (v := 0) ik_0 ?_
        refine g_zret rfl rfl (nle rfl) (nle rfl) ?_
        exact hN _ p (rdC_no hfl) (by simp (disch := omega) only [upM_s, f3, nI_pred]) ⟨fun r a b => by rw [← fC.1 r a b]; funext j; simp (disch := omega) only [upM_o], by rw [← fC.2]; simp (disch := omega) only [upM_j]⟩
      · replace hx_41 : (nI (ch t p)) = 114 := hx_41.trans (by decide)
        refine g_tabIn (off := 233) (by rw [hx_41]; decide) (by rw [hx_41]; decide) (by rw [hx_41]; decide) rfl L_X6_readCommand_274 ?_
        have hcc : ch t p = 114 := (nI_eq (a := ch t p) (b := 114) (by omega) (by omega)).mp hx_41
        have hfl : flds (ch t p) = none := by rw [hcc]; rfl
        refine g_aload_n rfl ?_
        refine g_dup rfl ?_
        refine g_getI fl_X6_27 rfl hx.1 rfl ?_
        simp (disch := omega) only [upM_s, upM_o, upM_j, nI_1, h3]
        simp (disch := omega) only [f3]
        refine g_iconst (v := 1) ik_1 ?_
        refine g_isub ?_
        refine g_putI pl_X6_27 rfl hx.1 rfl rfl rfl ?_
        refine g_iconst (v := 0) ik_0 ?_
        refine g_zret rfl rfl (nle rfl) (nle rfl) ?_
        exact hN _ p (rdC_no hfl) (by simp (disch := omega) only [upM_s, f3, nI_pred]) ⟨fun r a b => by rw [← fC.1 r a b]; funext j; simp (disch := omega) only [upM_o], by rw [← fC.2]; simp (disch := omega) only [upM_j]⟩
      · replace hx_41 : (nI (ch t p)) = 115 := hx_41.trans (by decide)
        refine g_tabIn (off := 233) (by rw [hx_41]; decide) (by rw [hx_41]; decide) (by rw [hx_41]; decide) rfl L_X6_readCommand_274 ?_
        have hcc : ch t p = 115 := (nI_eq (a := ch t p) (b := 115) (by omega) (by omega)).mp hx_41
        have hfl : flds (ch t p) = none := by rw [hcc]; rfl
        refine g_aload_n rfl ?_
        refine g_dup rfl ?_
        refine g_getI fl_X6_27 rfl hx.1 rfl ?_
        simp (disch := omega) only [upM_s, upM_o, upM_j, nI_1, h3]
        simp (disch := omega) only [f3]
        refine g_iconst (v := 1) ik_1 ?_
        refine g_isub ?_
        refine g_putI pl_X6_27 rfl hx.1 rfl rfl rfl ?_
        refine g_iconst (v := 0) ik_0 ?_
        refine g_zret rfl rfl (nle rfl) (nle rfl) ?_
        exact hN _ p (rdC_no hfl) (by simp (disch := omega) only [upM_s, f3, nI_pred]) ⟨fun r a b => by rw [← fC.1 r a b]; funext j; simp (disch := omega) only [upM_o], by rw [← fC.2]; simp (disch := omega) only [upM_j]⟩
      · replace hx_41 : (nI (ch t p)) = 116 := hx_41.trans (by decide)
        refine g_tabIn (off := 148) (by rw [hx_41]; decide) (by rw [hx_41]; decide) (by rw [hx_41]; decide) rfl L_X6_readCommand_189 ?_
        have hcc : ch t p = 116 := (nI_eq (a := ch t p) (b := 116) (by omega) (by omega)).mp hx_41
        have hfl : flds (ch t p) = some [(true, 0, 15), (false, 1, 5)] := by rw [hcc]; rfl
        refine g_aload_n rfl ?_
        refine g_iconst (v := 0) ik_0 ?_
        refine g_bipush (v := 15) bk_15 ?_
        refine g_callV (as := [_, _]) mk_X6_readTwoDigits ml_X6_47 im_X6_readTwoDigits se_X6_readTwoDigits rfl rfl ⟨⟨nle rfl, nle rfl⟩, nle rfl, nle rfl⟩ hx.1 rfl rfl rfl (nle rfl) ?_
        refine ct_X6_readTwoDigits hx f2 f3 ft hT (by omega) f4 0 15 rfl rfl (by omega) (by omega) (by omega) (fun M20 hc20 b3_20 b4_20 bv20 bo20 bF20 => ?_) (fun M20 e20 hn20 he20 b3_20 bF20 => ?_)
        · have fr20 := bF20
          refine kq_s ?_
          refine g_if_eq rfl L_X6_readCommand_212 (fun h_22 => absurd h_22 (by decide)) (fun h_22 => ?_)
          refine g_aload_n rfl ?_
          refine g_iconst (v := 1) ik_1 ?_
          refine g_iconst (v := 5) ik_5 ?_
          refine g_callV (as := [_, _]) mk_X6_readDigit ml_X6_43 im_X6_readDigit se_X6_readDigit rfl rfl ⟨⟨nle rfl, nle rfl⟩, nle rfl, nle rfl⟩ hx.1 rfl rfl rfl (nle rfl) ?_
          refine ct_X6_readDigit hx ((bF20.2 2 (by omega) (by omega)).trans f2) b3_20 ((bF20.1 (x + 1) (by omega) (by omega)).trans ft) hT (by omega) b4_20 1 5 rfl rfl (by omega) (by omega) (by omega) (fun M21 hc21 b3_21 b4_21 bv21 bo21 bF21 => ?_) (fun M21 e21 hn21 he21 b3_21 bF21 => ?_)
          · have fr21 := (fr20.tr bF21)
            refine kq_s ?_
            refine g_if_eq rfl L_X6_readCommand_212 (fun h_23 => absurd h_23 (by decide)) (fun h_23 => ?_)
            refine g_iconst (v := 1) ik_1 ?_
            refine g_goto rfl L_X6_readCommand_213 ?_
            refine g_zret rfl rfl (nle rfl) (nle rfl) ?_
            refine hY M21 _ [(true, 0, 15), (false, 1, 5)] ((rdC_yes hfl).trans (hc20 ((false, 1, 5) :: []) _ (hc21 ([]) _ (rfl)))) hfl b3_21 ((fr21.2 5 (by omega) (by omega)).trans f5) ?_ (fC.tr fr21.c)
            intro i hi
            replace hi : i < 2 := hi
            have hi2 : i = 0 ∨ i = 1 := by omega
            rcases hi2 with rfl | rfl
            · exact nz ((bo21 _ (by omega)).trans (bv20 0 (by omega)))
            · exact nz (bv21 0 (by omega))
          · have fr21 := (fr20.tr bF21)
            refine kq_s ?_
            refine g_if_eq rfl L_X6_readCommand_212 (fun h_24 => ?_) (fun h_24 => absurd h_24 (by decide))
            refine g_iconst (v := 0) ik_0 ?_
            refine g_fall rfl L_X6_readCommand_213 ?_
            refine g_zret rfl rfl (nle rfl) (nle rfl) ?_
            exact hN M21 e21 ((rdC_yes hfl).trans (hc20 ((false, 1, 5) :: []) _ (hn21 ([])))) b3_21 (fC.tr fr21.c)
        · have fr20 := bF20
          refine kq_s ?_
          refine g_if_eq rfl L_X6_readCommand_212 (fun h_25 => ?_) (fun h_25 => absurd h_25 (by decide))
          refine g_iconst (v := 0) ik_0 ?_
          refine g_fall rfl L_X6_readCommand_213 ?_
          refine g_zret rfl rfl (nle rfl) (nle rfl) ?_
          exact hN M20 e20 ((rdC_yes hfl).trans (hn20 ((false, 1, 5) :: []))) b3_20 (fC.tr fr20.c)
      · replace hx_41 : (nI (ch t p)) = 117 := hx_41.trans (by decide)
        refine g_tabIn (off := 233) (by rw [hx_41]; decide) (by rw [hx_41]; decide) (by rw [hx_41]; decide) rfl L_X6_readCommand_274 ?_
        have hcc : ch t p = 117 := (nI_eq (a := ch t p) (b := 117) (by omega) (by omega)).mp hx_41
        have hfl : flds (ch t p) = none := by rw [hcc]; rfl
        refine g_aload_n rfl ?_
        refine g_dup rfl ?_
        refine g_getI fl_X6_27 rfl hx.1 rfl ?_
        simp (disch := omega) only [upM_s, upM_o, upM_j, nI_1, h3]
        simp (disch := omega) only [f3]
        refine g_iconst (v := 1) ik_1 ?_
        refine g_isub ?_
        refine g_putI pl_X6_27 rfl hx.1 rfl rfl rfl ?_
        refine g_iconst (v := 0) ik_0 ?_
        refine g_zret rfl rfl (nle rfl) (nle rfl) ?_
        exact hN _ p (rdC_no hfl) (by simp (disch := omega) only [upM_s, f3, nI_pred]) ⟨fun r a b => by rw [← fC.1 r a b]; funext j; simp (disch := omega) only [upM_o], by rw [← fC.2]; simp (disch := omega) only [upM_j]⟩
      · replace hx_41 : (nI (ch t p)) = 118 := hx_41.trans (by decide)
        refine g_tabIn (off := 233) (by rw [hx_41]; decide) (by rw [hx_41]; decide) (by rw [hx_41]; decide) rfl L_X6_readCommand_274 ?_
        have hcc : ch t p = 118 := (nI_eq (a := ch t p) (b := 118) (by omega) (by omega)).mp hx_41
        have hfl : flds (ch t p) = none := by rw [hcc]; rfl
        refine g_aload_n rfl ?_
        refine g_dup rfl ?_
        refine g_getI fl_X6_27 rfl hx.1 rfl ?_
        simp (disch := omega) only [upM_s, upM_o, upM_j, nI_1, h3]
        simp (disch := omega) only [f3]
        refine g_iconst (v := 1) ik_1 ?_
        refine g_isub ?_
        refine g_putI pl_X6_27 rfl hx.1 rfl rfl rfl ?_
        refine g_iconst (v := 0) ik_0 ?_
        refine g_zret rfl rfl (nle rfl) (nle rfl) ?_
        exact hN _ p (rdC_no hfl) (by simp (disch := omega) only [upM_s, f3, nI_pred]) ⟨fun r a b => by rw [← fC.1 r a b]; funext j; simp (disch := omega) only [upM_o], by rw [← fC.2]; simp (disch := omega) only [upM_j]⟩
      · replace hx_41 : (nI (ch t p)) = 119 := hx_41.trans (by decide)
        refine g_tabIn (off := 225) (by rw [hx_41]; decide) (by rw [hx_41]; decide) (by rw [hx_41]; decide) rfl L_X6_readCommand_266 ?_
        have hcc : ch t p = 119 := (nI_eq (a := ch t p) (b := 119) (by omega) (by omega)).mp hx_41
        have hfl : flds (ch t p) = some [(false, 1, 9)] := by rw [hcc]; rfl
        refine g_aload_n rfl ?_
        refine g_iconst (v := 1) ik_1 ?_
        refine g_bipush (v := 9) bk_9 ?_
        refine g_callV (as := [_, _]) mk_X6_readDigit ml_X6_43 im_X6_readDigit se_X6_readDigit rfl rfl ⟨⟨nle rfl, nle rfl⟩, nle rfl, nle rfl⟩ hx.1 rfl rfl rfl (nle rfl) ?_
        refine ct_X6_readDigit hx f2 f3 ft hT (by omega) f4 1 9 rfl rfl (by omega) (by omega) (by omega) (fun M22 hc22 b3_22 b4_22 bv22 bo22 bF22 => ?_) (fun M22 e22 hn22 he22 b3_22 bF22 => ?_)
        · have fr22 := bF22
          refine kq_s ?_
          refine g_zret rfl rfl (nle rfl) (nle rfl) ?_
          refine hY M22 _ [(false, 1, 9)] ((rdC_yes hfl).trans (hc22 ([]) _ (rfl))) hfl b3_22 ((fr22.2 5 (by omega) (by omega)).trans f5) ?_ (fC.tr fr22.c)
          intro i hi
          replace hi : i < 1 := hi
          have hi2 : i = 0 := by omega
          rcases hi2 with rfl
          · exact nz (bv22 0 (by omega))
        · have fr22 := bF22
          refine kq_s ?_
          refine g_zret rfl rfl (nle rfl) (nle rfl) ?_
          exact hN M22 e22 ((rdC_yes hfl).trans (hn22 ([]))) b3_22 (fC.tr fr22.c)
      · replace hx_41 : (nI (ch t p)) = 120 := hx_41.trans (by decide)
        refine g_tabIn (off := 220) (by rw [hx_41]; decide) (by rw [hx_41]; decide) (by rw [hx_41]; decide) rfl L_X6_readCommand_261 ?_
        have hcc : ch t p = 120 := (nI_eq (a := ch t p) (b := 120) (by omega) (by omega)).mp hx_41
        have hfl : flds (ch t p) = some [(false, 0, 9)] := by rw [hcc]; rfl
        refine g_aload_n rfl ?_
        refine g_callV (as := []) mk_X6_readLesson ml_X6_59 im_X6_readLesson se_X6_readLesson rfl rfl ⟨⟨nle rfl, nle rfl⟩, nle rfl, nle rfl⟩ hx.1 rfl rfl rfl (nle rfl) ?_
        refine ct_X6_readLesson hx f2 f3 ft hT (by omega) f4 (by omega) (fun M23 hc23 b3_23 b4_23 bv23 bo23 bF23 => ?_) (fun M23 e23 hn23 he23 b3_23 bF23 => ?_)
        · have fr23 := bF23
          refine kq_s ?_
          refine g_zret rfl rfl (nle rfl) (nle rfl) ?_
          refine hY M23 _ [(false, 0, 9)] ((rdC_yes hfl).trans (hc23 ([]) _ (rfl))) hfl b3_23 ((fr23.2 5 (by omega) (by omega)).trans f5) ?_ (fC.tr fr23.c)
          intro i hi
          replace hi : i < 1 := hi
          have hi2 : i = 0 := by omega
          rcases hi2 with rfl
          · exact nz (bv23 0 (by omega))
        · have fr23 := bF23
          refine kq_s ?_
          refine g_zret rfl rfl (nle rfl) (nle rfl) ?_
          exact hN M23 e23 ((rdC_yes hfl).trans (hn23 ([]))) b3_23 (fC.tr fr23.c)
    · refine g_tabOut (ho_41.imp (fun h => h) (fun h => h)) rfl L_X6_readCommand_274 ?_
      have hfl : flds (ch t p) = none := flds_out (ho_41.imp (fun h => by rw [nI_toInt (by omega)] at h; omega) (fun h => by rw [nI_toInt (by omega)] at h; omega))
      refine g_aload_n rfl ?_
      refine g_dup rfl ?_
      refine g_getI fl_X6_27 rfl hx.1 rfl ?_
      simp (disch := omega) only [upM_s, upM_o, upM_j, nI_1, h3]
      simp (disch := omega) only [f3]
      refine g_iconst (v := 1) ik_1 ?_
      refine g_isub ?_
      refine g_putI pl_X6_27 rfl hx.1 rfl rfl rfl ?_
      refine g_iconst (v := 0) ik_0 ?_
      refine g_zret rfl rfl (nle rfl) (nle rfl) ?_
      exact hN _ p (rdC_no hfl) (by simp (disch := omega) only [upM_s, f3, nI_pred]) ⟨fun r a b => by rw [← fC.1 r a b]; funext j; simp (disch := omega) only [upM_o], by rw [← fC.2]; simp (disch := omega) only [upM_j]⟩
  · exact absurd (of_decide_eq_false h_1) (by omega)
