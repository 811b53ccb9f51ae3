set_option maxRecDepth 100000 in
set_option maxHeartbeats 4000000 in
theorem ct_X6_readLesson {X : Xs} {κ : Kp} {M : Mem} {Q : Rs → Kp → Mem → Prop} {x : Nat} (hx : IsTxt κ.2.1 x) {len p : Nat} {t : Nat → Int32} (h2 : M x 2 = nI len) (h3 : M x 3 = nI p) (ht : M (x + 1) = t) (hT : TxOK t len) (hp : p < 900) {n : Nat} (h4 : M x 4 = nI n) (hn : n + 1 ≤ 6) (hY : ∀ M', (∀ qs r, rdL t len qs (p + 1) = r → rdL t len ((false, 0, 9) :: qs) p = r) → M' x 3 = nI (p + 1) → M' x 4 = nI (n + 1) → (∀ i, i < 1 → M' (x + 2) (n + i) = valL t [(false, 0, 9)] p i) → (∀ i, i < n → M' (x + 2) i = M (x + 2) i) → FrX M M' x → Q (.inl (some (.int 1))) κ M') (hN : ∀ M' e, (∀ qs, rdL t len ((false, 0, 9) :: qs) p = (false, e)) → e < p + 1 → M' x 3 = nI e → FrX M M' x → Q (.inl (some (.int 0))) κ M') : Ct X m_X6_readLesson [.ref x] κ M Q := by
  refine ct_of B_X6_readLesson_0 pn_X6 rfl (nle rfl) L_X6_readLesson_0 ?_
  refine g_aload_n rfl ?_
  refine g_iconst (v := 0) ik_0 ?_
  refine g_bipush (v := 9) bk_9 ?_
  refine g_callV (as := [_, _]) mk_X6_readDigit ml_X6_43 im_X6_readDigit se_X6_readDigit rfl rfl ⟨⟨nle rfl, nle rfl⟩, nle rfl, nle rfl⟩ hx.1 rfl rfl rfl (nle rfl) ?_
  refine ct_X6_readDigit hx h2 h3 ht hT (by omega) h4 0 9 rfl rfl (by omega) (by omega) (by omega) (fun M1 hc1 b3_1 b4_1 bv1 bo1 bF1 => ?_) (fun M1 e1 hn1 he1 b3_1 bF1 => ?_)
  · have fr1 := bF1
    refine kq_s ?_
    refine g_zret rfl rfl (nle rfl) (nle rfl) ?_
    refine hY M1 (fun qs r h => hc1 (qs) _ (h)) b3_1 b4_1 ?_ ?_ fr1
    · intro i hi
      have hi2 : i = 0 := by omega
      rcases hi2 with rfl
      · exact bv1 0 (by omega)
    · intro i hi
      exact bo1 i (by omega)
  · have fr1 := bF1
    refine kq_s ?_
    refine g_zret rfl rfl (nle rfl) (nle rfl) ?_
    exact hN M1 e1 (fun qs => hn1 (qs)) (by omega) b3_1 fr1
set_option maxRecDepth 100000 in
set_option maxHeartbeats 4000000 in
theorem ct_X6_readDancer {X : Xs} {κ : Kp} {M : Mem} {Q : Rs → Kp → Mem → Prop} {x : Nat} (hx : IsTxt κ.2.1 x) {len p : Nat} {t : Nat → Int32} (h2 : M x 2 = nI len) (h3 : M x 3 = nI p) (ht : M (x + 1) = t) (hT : TxOK t len) (hp : p < 900) {n : Nat} (h4 : M x 4 = nI n) (hn : n + 1 ≤ 6) (hY : ∀ M', (∀ qs r, rdL t len qs (p + 2) = r → rdL t len ((true, 0, 11) :: qs) p = r) → M' x 3 = nI (p + 2) → M' x 4 = nI (n + 1) → (∀ i, i < 1 → M' (x + 2) (n + i) = valL t [(true, 0, 11)] p i) → (∀ i, i < n → M' (x + 2) i = M (x + 2) i) → FrX M M' x → Q (.inl (some (.int 1))) κ M') (hN : ∀ M' e, (∀ qs, rdL t len ((true, 0, 11) :: qs) p = (false, e)) → e < p + 2 → M' x 3 = nI e → FrX M M' x → Q (.inl (some (.int 0))) κ M') : Ct X m_X6_readDancer [.ref x] κ M Q := by
  refine ct_of B_X6_readDancer_0 pn_X6 rfl (nle rfl) L_X6_readDancer_0 ?_
  refine g_aload_n rfl ?_
  refine g_iconst (v := 0) ik_0 ?_
  refine g_bipush (v := 11) bk_11 ?_
  refine g_callV (as := [_, _]) mk_X6_readTwoDigits ml_X6_47 im_X6_readTwoDigits se_X6_readTwoDigits rfl rfl ⟨⟨nle rfl, nle rfl⟩, nle rfl, nle rfl⟩ hx.1 rfl rfl rfl (nle rfl) ?_
  refine ct_X6_readTwoDigits hx h2 h3 ht hT (by omega) h4 0 11 rfl rfl (by omega) (by omega) (by omega) (fun M2 hc2 b3_2 b4_2 bv2 bo2 bF2 => ?_) (fun M2 e2 hn2 he2 b3_2 bF2 => ?_)
  · have fr2 := bF2
    refine kq_s ?_
    refine g_zret rfl rfl (nle rfl) (nle rfl) ?_
    refine hY M2 (fun qs r h => hc2 (qs) _ (h)) b3_2 b4_2 ?_ ?_ fr2
    · intro i hi
      have hi2 : i = 0 := by omega
      rcases hi2 with rfl
      · exact bv2 0 (by omega)
    · intro i hi
      exact bo2 i (by omega)
  · have fr2 := bF2
    refine kq_s ?_
    refine g_zret rfl rfl (nle rfl) (nle rfl) ?_
    exact hN M2 e2 (fun qs => hn2 (qs)) (by omega) b3_2 fr2
set_option maxRecDepth 100000 in
set_option maxHeartbeats 4000000 in
theorem ct_X6_readKind {X : Xs} {κ : Kp} {M : Mem} {Q : Rs → Kp → Mem → Prop} {x : Nat} (hx : IsTxt κ.2.1 x) {len p : Nat} {t : Nat → Int32} (h2 : M x 2 = nI len) (h3 : M x 3 = nI p) (ht : M (x + 1) = t) (hT : TxOK t len) (hp : p < 900) {n : Nat} (h4 : M x 4 = nI n) (hn : n + 2 ≤ 6) (hY : ∀ M', (∀ qs r, rdL t len qs (p + 2) = r → rdL t len ((false, 0, 3) :: (false, 1, 5) :: qs) p = r) → M' x 3 = nI (p + 2) → M' x 4 = nI (n + 2) → (∀ i, i < 2 → M' (x + 2) (n + i) = valL t [(false, 0, 3), (false, 1, 5)] p i) → (∀ i, i < n → M' (x + 2) i = M (x + 2) i) → FrX M M' x → Q (.inl (some (.int 1))) κ M') (hN : ∀ M' e, (∀ qs, rdL t len ((false, 0, 3) :: (false, 1, 5) :: qs) p = (false, e)) → e < p + 2 → M' x 3 = nI e → FrX M M' x → Q (.inl (some (.int 0))) κ M') : Ct X m_X6_readKind [.ref x] κ M Q := by
  refine ct_of B_X6_readKind_0 pn_X6 rfl (nle rfl) L_X6_readKind_0 ?_
  refine g_aload_n rfl ?_
  refine g_iconst (v := 0) ik_0 ?_
  refine g_iconst (v := 3) ik_3 ?_
  refine g_callV (as := [_, _]) mk_X6_readDigit ml_X6_43 im_X6_readDigit se_X6_readDigit rfl rfl ⟨⟨nle rfl, nle rfl⟩, nle rfl, nle rfl⟩ hx.1 rfl rfl rfl (nle rfl) ?_
  refine ct_X6_readDigit hx h2 h3 ht hT (by omega) h4 0 3 rfl rfl (by omega) (by omega) (by omega) (fun M3 hc3 b3_3 b4_3 bv3 bo3 bF3 => ?_) (fun M3 e3 hn3 he3 b3_3 bF3 => ?_)
  · have fr3 := bF3
    refine kq_s ?_
    refine g_if_eq rfl L_X6_readKind_22 (fun h_1 => absurd h_1 (by decide)) (fun h_1 => ?_)
    refine g_aload_n rfl ?_
    refine g_iconst (v := 1) ik_1 ?_
    refine g_iconst (v := 5) ik_5 ?_
    refine g_callV (as := [_, _]) mk_X6_readDigit ml_X6_43 im_X6_readDigit se_X6_readDigit rfl rfl ⟨⟨nle rfl, nle rfl⟩, nle rfl, nle rfl⟩ hx.1 rfl rfl rfl (nle rfl) ?_
    refine ct_X6_readDigit hx ((bF3.2 2 (by omega) (by omega)).trans h2) b3_3 ((bF3.1 (x + 1) (by omega) (by omega)).trans ht) hT (by omega) b4_3 1 5 rfl rfl (by omega) (by omega) (by omega) (fun M4 hc4 b3_4 b4_4 bv4 bo4 bF4 => ?_) (fun M4 e4 hn4 he4 b3_4 bF4 => ?_)
    · have fr4 := (fr3.tr bF4)
      refine kq_s ?_
      refine g_if_eq rfl L_X6_readKind_22 (fun h_2 => absurd h_2 (by decide)) (fun h_2 => ?_)
      refine g_iconst (v := 1) ik_1 ?_
      refine g_goto rfl L_X6_readKind_23 ?_
      refine g_zret rfl rfl (nle rfl) (nle rfl) ?_
      refine hY M4 (fun qs r h => hc3 ((false, 1, 5) :: qs) _ (hc4 (qs) _ (h))) b3_4 b4_4 ?_ ?_ fr4
      · intro i hi
        have hi2 : i = 0 ∨ i = 1 := by omega
        rcases hi2 with rfl | rfl
        · exact (bo4 _ (by omega)).trans (bv3 0 (by omega))
        · exact bv4 0 (by omega)
      · intro i hi
        exact (bo4 i (by omega)).trans (bo3 i (by omega))
    · have fr4 := (fr3.tr bF4)
      refine kq_s ?_
      refine g_if_eq rfl L_X6_readKind_22 (fun h_3 => ?_) (fun h_3 => absurd h_3 (by decide))
      refine g_iconst (v := 0) ik_0 ?_
      refine g_fall rfl L_X6_readKind_23 ?_
      refine g_zret rfl rfl (nle rfl) (nle rfl) ?_
      exact hN M4 e4 (fun qs => hc3 ((false, 1, 5) :: qs) _ (hn4 (qs))) (by omega) b3_4 fr4
  · have fr3 := bF3
    refine kq_s ?_
    refine g_if_eq rfl L_X6_readKind_22 (fun h_4 => ?_) (fun h_4 => absurd h_4 (by decide))
    refine g_iconst (v := 0) ik_0 ?_
    refine g_fall rfl L_X6_readKind_23 ?_
    refine g_zret rfl rfl (nle rfl) (nle rfl) ?_
    exact hN M3 e3 (fun qs => hn3 ((false, 1, 5) :: qs)) (by omega) b3_3 fr3
set_option maxRecDepth 100000 in
set_option maxHeartbeats 4000000 in
theorem ct_X6_readPlace {X : Xs} {κ : Kp} {M : Mem} {Q : Rs → Kp → Mem → Prop} {x : Nat} (hx : IsTxt κ.2.1 x) {len p : Nat} {t : Nat → Int32} (h2 : M x 2 = nI len) (h3 : M x 3 = nI p) (ht : M (x + 1) = t) (hT : TxOK t len) (hp : p < 900) {n : Nat} (h4 : M x 4 = nI n) (hn : n + 4 ≤ 6) (hY : ∀ M', (∀ qs r, rdL t len qs (p + 4) = r → rdL t len ((false, 0, 3) :: (false, 0, 4) :: (false, 0, 5) :: (false, 0, 5) :: qs) p = r) → M' x 3 = nI (p + 4) → M' x 4 = nI (n + 4) → (∀ i, i < 4 → M' (x + 2) (n + i) = valL t [(false, 0, 3), (false, 0, 4), (false, 0, 5), (false, 0, 5)] p i) → (∀ i, i < n → M' (x + 2) i = M (x + 2) i) → FrX M M' x → Q (.inl (some (.int 1))) κ M') (hN : ∀ M' e, (∀ qs, rdL t len ((false, 0, 3) :: (false, 0, 4) :: (false, 0, 5) :: (false, 0, 5) :: qs) p = (false, e)) → e < p + 4 → M' x 3 = nI e → FrX M M' x → Q (.inl (some (.int 0))) κ M') : Ct X m_X6_readPlace [.ref x] κ M Q := by
  refine ct_of B_X6_readPlace_0 pn_X6 rfl (nle rfl) L_X6_readPlace_0 ?_
  refine g_aload_n rfl ?_
  refine g_iconst (v := 0) ik_0 ?_
  refine g_iconst (v := 3) ik_3 ?_
  refine g_callV (as := [_, _]) mk_X6_readDigit ml_X6_43 im_X6_readDigit se_X6_readDigit rfl rfl ⟨⟨nle rfl, nle rfl⟩, nle rfl, nle rfl⟩ hx.1 rfl rfl rfl (nle rfl) ?_
  refine ct_X6_readDigit hx h2 h3 ht hT (by omega) h4 0 3 rfl rfl (by omega) (by omega) (by omega) (fun M5 hc5 b3_5 b4_5 bv5 bo5 bF5 => ?_) (fun M5 e5 hn5 he5 b3_5 bF5 => ?_)
  · have fr5 := bF5
    refine kq_s ?_
    refine g_if_eq rfl L_X6_readPlace_40 (fun h_1 => absurd h_1 (by decide)) (fun h_1 => ?_)
    refine g_aload_n rfl ?_
    refine g_iconst (v := 0) ik_0 ?_
    refine g_iconst (v := 4) ik_4 ?_
    refine g_callV (as := [_, _]) mk_X6_readDigit ml_X6_43 im_X6_readDigit se_X6_readDigit rfl rfl ⟨⟨nle rfl, nle rfl⟩, nle rfl, nle rfl⟩ hx.1 rfl rfl rfl (nle rfl) ?_
    refine ct_X6_readDigit hx ((bF5.2 2 (by omega) (by omega)).trans h2) b3_5 ((bF5.1 (x + 1) (by omega) (by omega)).trans ht) hT (by omega) b4_5 0 4 rfl rfl (by omega) (by omega) (by omega) (fun M6 hc6 b3_6 b4_6 bv6 bo6 bF6 => ?_) (fun M6 e6 hn6 he6 b3_6 bF6 => ?_)
    · have fr6 := (fr5.tr bF6)
      refine kq_s ?_
      refine g_if_eq rfl L_X6_readPlace_40 (fun h_2 => absurd h_2 (by decide)) (fun h_2 => ?_)
      refine g_aload_n rfl ?_
      refine g_iconst (v := 0) ik_0 ?_
      refine g_iconst (v := 5) ik_5 ?_
      refine g_callV (as := [_, _]) mk_X6_readDigit ml_X6_43 im_X6_readDigit se_X6_readDigit rfl rfl ⟨⟨nle rfl, nle rfl⟩, nle rfl, nle rfl⟩ hx.1 rfl rfl rfl (nle rfl) ?_
      refine ct_X6_readDigit hx ((bF6.2 2 (by omega) (by omega)).trans ((bF5.2 2 (by omega) (by omega)).trans h2)) b3_6 ((bF6.1 (x + 1) (by omega) (by omega)).trans ((bF5.1 (x + 1) (by omega) (by omega)).trans ht)) hT (by omega) b4_6 0 5 rfl rfl (by omega) (by omega) (by omega) (fun M7 hc7 b3_7 b4_7 bv7 bo7 bF7 => ?_) (fun M7 e7 hn7 he7 b3_7 bF7 => ?_)
      · have fr7 := (fr6.tr bF7)
        refine kq_s ?_
        refine g_if_eq rfl L_X6_readPlace_40 (fun h_3 => absurd h_3 (by decide)) (fun h_3 => ?_)
        refine g_aload_n rfl ?_
        refine g_iconst (v := 0) ik_0 ?_
        refine g_iconst (v := 5) ik_5 ?_
        refine g_callV (as := [_, _]) mk_X6_readDigit ml_X6_43 im_X6_readDigit se_X6_readDigit rfl rfl ⟨⟨nle rfl, nle rfl⟩, nle rfl, nle rfl⟩ hx.1 rfl rfl rfl (nle rfl) ?_
        refine ct_X6_readDigit hx ((bF7.2 2 (by omega) (by omega)).trans ((bF6.2 2 (by omega) (by omega)).trans ((bF5.2 2 (by omega) (by omega)).trans h2))) b3_7 ((bF7.1 (x + 1) (by omega) (by omega)).trans ((bF6.1 (x + 1) (by omega) (by omega)).trans ((bF5.1 (x + 1) (by omega) (by omega)).trans ht))) hT (by omega) b4_7 0 5 rfl rfl (by omega) (by omega) (by omega) (fun M8 hc8 b3_8 b4_8 bv8 bo8 bF8 => ?_) (fun M8 e8 hn8 he8 b3_8 bF8 => ?_)
        · have fr8 := (fr7.tr bF8)
          refine kq_s ?_
          refine g_if_eq rfl L_X6_readPlace_40 (fun h_4 => absurd h_4 (by decide)) (fun h_4 => ?_)
          refine g_iconst (v := 1) ik_1 ?_
          refine g_goto rfl L_X6_readPlace_41 ?_
          refine g_zret rfl rfl (nle rfl) (nle rfl) ?_
          refine hY M8 (fun qs r h => hc5 ((false, 0, 4) :: (false, 0, 5) :: (false, 0, 5) :: qs) _ (hc6 ((false, 0, 5) :: (false, 0, 5) :: qs) _ (hc7 ((false, 0, 5) :: qs) _ (hc8 (qs) _ (h))))) b3_8 b4_8 ?_ ?_ fr8
          · intro i hi
            have hi2 : i = 0 ∨ i = 1 ∨ i = 2 ∨ i = 3 := by omega
            rcases hi2 with rfl | rfl | rfl | rfl
            · exact (bo8 _ (by omega)).trans ((bo7 _ (by omega)).trans ((bo6 _ (by omega)).trans (bv5 0 (by omega))))
            · exact (bo8 _ (by omega)).trans ((bo7 _ (by omega)).trans (bv6 0 (by omega)))
            · exact (bo8 _ (by omega)).trans (bv7 0 (by omega))
            · exact bv8 0 (by omega)
          · intro i hi
            exact (bo8 i (by omega)).trans ((bo7 i (by omega)).trans ((bo6 i (by omega)).trans (bo5 i (by omega))))
        · have fr8 := (fr7.tr bF8)
          refine kq_s ?_
          refine g_if_eq rfl L_X6_readPlace_40 (fun h_5 => ?_) (fun h_5 => absurd h_5 (by decide))
          refine g_iconst (v := 0) ik_0 ?_
          refine g_fall rfl L_X6_readPlace_41 ?_
          refine g_zret rfl rfl (nle rfl) (nle rfl) ?_
          exact hN M8 e8 (fun qs => hc5 ((false, 0, 4) :: (false, 0, 5) :: (false, 0, 5) :: qs) _ (hc6 ((false, 0, 5) :: (false, 0, 5) :: qs) _ (hc7 ((false, 0, 5) :: qs) _ (hn8 (qs))))) (by omega) b3_8 fr8
      · have fr7 := (fr6.tr bF7)
        refine kq_s ?_
        refine g_if_eq rfl L_X6_readPlace_40 (fun h_6 => ?_) (fun h_6 => absurd h_6 (by decide))
        refine g_iconst (v := 0) ik_0 ?_
        refine g_fall rfl L_X6_readPlace_41 ?_
        refine g_zret rfl rfl (nle rfl) (nle rfl) ?_
        exact hN M7 e7 (fun qs => hc5 ((false, 0, 4) :: (false, 0, 5) :: (false, 0, 5) :: qs) _ (hc6 ((false, 0, 5) :: (false, 0, 5) :: qs) _ (hn7 ((false, 0, 5) :: qs)))) (by omega) b3_7 fr7
    · have fr6 := (fr5.tr bF6)
      refine kq_s ?_
      refine g_if_eq rfl L_X6_readPlace_40 (fun h_7 => ?_) (fun h_7 => absurd h_7 (by decide))
      refine g_iconst (v := 0) ik_0 ?_
      refine g_fall rfl L_X6_readPlace_41 ?_
      refine g_zret rfl rfl (nle rfl) (nle rfl) ?_
      exact hN M6 e6 (fun qs => hc5 ((false, 0, 4) :: (false, 0, 5) :: (false, 0, 5) :: qs) _ (hn6 ((false, 0, 5) :: (false, 0, 5) :: qs))) (by omega) b3_6 fr6
  · have fr5 := bF5
    refine kq_s ?_
    refine g_if_eq rfl L_X6_readPlace_40 (fun h_8 => ?_) (fun h_8 => absurd h_8 (by decide))
    refine g_iconst (v := 0) ik_0 ?_
    refine g_fall rfl L_X6_readPlace_41 ?_
    refine g_zret rfl rfl (nle rfl) (nle rfl) ?_
    exact hN M5 e5 (fun qs => hn5 ((false, 0, 4) :: (false, 0, 5) :: (false, 0, 5) :: qs)) (by omega) b3_5 fr5
