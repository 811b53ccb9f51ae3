set_option maxRecDepth 100000 in
set_option maxHeartbeats 4000000 in
theorem ct_X8_readsClass {X : Xs} {κ : Kp} {M : Mem} {Q : Rs → Kp → Mem → Prop} {m : Nat} (hm : IsMod κ.2.1 m) {len p : Nat} {t : Nat → Int32} (h5 : M m 5 = nI len) (h6 : M m 6 = nI p) (ht : M (m + 3) = t) (hT : TxOK t len) (hp : p < 890) {n : Nat} (hn0 : n = 0) (hY : ∀ M', (∀ qs r, rdL t len qs (p + 6) = r → rdL t len ((false, 0, 3) :: (false, 1, 5) :: (false, 0, 3) :: (false, 0, 4) :: (false, 0, 5) :: (false, 0, 5) :: qs) p = r) → M' m 6 = nI (p + 6) → (∀ i, i < 6 → M' (m + 4) (n + i) = valL t [(false, 0, 3), (false, 1, 5), (false, 0, 3), (false, 0, 4), (false, 0, 5), (false, 0, 5)] p i) → (∀ i, i < n → M' (m + 4) i = M (m + 4) i) → FrT M M' m → Q (.inl (some (.int 1))) κ M') (hN : ∀ M' e, (∀ qs, rdL t len ((false, 0, 3) :: (false, 1, 5) :: (false, 0, 3) :: (false, 0, 4) :: (false, 0, 5) :: (false, 0, 5) :: qs) p = (false, e)) → e < p + 6 → M' m 6 = nI e → FrT M M' m → Q (.inl (some (.int 0))) κ M') : Ct X m_X8_readsClass [.ref m] κ M Q := by
  refine ct_of B_X8_readsClass_0 pn_X8 rfl (nle rfl) L_X8_readsClass_0 ?_
  subst hn0
  refine g_aload_n rfl ?_
  refine g_iconst (v := 0) ik_0 ?_
  refine g_iconst (v := 0) ik_0 ?_
  refine g_iconst (v := 3) ik_3 ?_
  refine g_callV (as := [_, _, _]) mk_X8_figure ml_X8_99 im_X8_figure se_X8_figure rfl rfl ⟨⟨nle rfl, nle rfl⟩, nle rfl, nle rfl⟩ hm.1 rfl rfl rfl (nle rfl) ?_
  refine ct_X8_figure hm h5 h6 ht hT (by omega) 0 0 3 rfl rfl rfl (by omega) (by omega) (by omega) (fun hd24 M24 b4_24 b6_24 bF24 => ?_) (fun hd24 => ?_)
  · have hc24 : ∀ qs r, rdL t len qs (p + 1) = r → rdL t len ((false, 0, 3) :: qs) p = r := fun qs r h => rd1y hd24 h
    have bv24 : ∀ i, i < 1 → M24 (m + 4) (0 + i) = valL t [(false, 0, 3)] p i := fun i hi' => by
      have hi0 : i = 0 := by omega
      subst hi0
      rw [b4_24]
      exact upd_same
    have bo24 : ∀ i, i < 0 → M24 (m + 4) i = M (m + 4) i := fun i hi' => by rw [b4_24, upd_ne (by omega)]
    have fr24 := bF24
    refine kq_s ?_
    refine g_if_eq rfl L_X8_readsClass_64 (fun h_1 => absurd h_1 (by decide)) (fun h_1 => ?_)
    refine g_aload_n rfl ?_
    refine g_iconst (v := 1) ik_1 ?_
    refine g_iconst (v := 1) ik_1 ?_
    refine g_iconst (v := 5) ik_5 ?_
    refine g_callV (as := [_, _, _]) mk_X8_figure ml_X8_99 im_X8_figure se_X8_figure rfl rfl ⟨⟨nle rfl, nle rfl⟩, nle rfl, nle rfl⟩ hm.1 rfl rfl rfl (nle rfl) ?_
    refine ct_X8_figure hm ((bF24.2 5 (by omega)).trans h5) b6_24 ((bF24.1 (m + 3) (by omega) (by omega)).trans ht) hT (by omega) 1 1 5 rfl rfl rfl (by omega) (by omega) (by omega) (fun hd25 M25 b4_25 b6_25 bF25 => ?_) (fun hd25 => ?_)
    · have hc25 : ∀ qs r, rdL t len qs ((p + 1) + 1) = r → rdL t len ((false, 1, 5) :: qs) (p + 1) = r := fun qs r h => rd1y hd25 h
      have bv25 : ∀ i, i < 1 → M25 (m + 4) (1 + i) = valL t [(false, 1, 5)] (p + 1) i := fun i hi' => by
        have hi0 : i = 0 := by omega
        subst hi0
        rw [b4_25]
        exact upd_same
      have bo25 : ∀ i, i < 1 → M25 (m + 4) i = M24 (m + 4) i := fun i hi' => by rw [b4_25, upd_ne (by omega)]
      have fr25 := (fr24.tr bF25)
      refine kq_s ?_
      refine g_if_eq rfl L_X8_readsClass_64 (fun h_2 => absurd h_2 (by decide)) (fun h_2 => ?_)
      refine g_aload_n rfl ?_
      refine g_iconst (v := 2) ik_2 ?_
      refine g_iconst (v := 0) ik_0 ?_
      refine g_iconst (v := 3) ik_3 ?_
      refine g_callV (as := [_, _, _]) mk_X8_figure ml_X8_99 im_X8_figure se_X8_figure rfl rfl ⟨⟨nle rfl, nle rfl⟩, nle rfl, nle rfl⟩ hm.1 rfl rfl rfl (nle rfl) ?_
      refine ct_X8_figure hm ((bF25.2 5 (by omega)).trans ((bF24.2 5 (by omega)).trans h5)) b6_25 ((bF25.1 (m + 3) (by omega) (by omega)).trans ((bF24.1 (m + 3) (by omega) (by omega)).trans ht)) hT (by omega) 2 0 3 rfl rfl rfl (by omega) (by omega) (by omega) (fun hd26 M26 b4_26 b6_26 bF26 => ?_) (fun hd26 => ?_)
      · have hc26 : ∀ qs r, rdL t len qs (((p + 1) + 1) + 1) = r → rdL t len ((false, 0, 3) :: qs) ((p + 1) + 1) = r := fun qs r h => rd1y hd26 h
        have bv26 : ∀ i, i < 1 → M26 (m + 4) (2 + i) = valL t [(false, 0, 3)] ((p + 1) + 1) i := fun i hi' => by
          have hi0 : i = 0 := by omega
          subst hi0
          rw [b4_26]
          exact upd_same
        have bo26 : ∀ i, i < 2 → M26 (m + 4) i = M25 (m + 4) i := fun i hi' => by rw [b4_26, upd_ne (by omega)]
        have fr26 := (fr25.tr bF26)
        refine kq_s ?_
        refine g_if_eq rfl L_X8_readsClass_64 (fun h_3 => absurd h_3 (by decide)) (fun h_3 => ?_)
        refine g_aload_n rfl ?_
        refine g_iconst (v := 3) ik_3 ?_
        refine g_iconst (v := 0) ik_0 ?_
        refine g_iconst (v := 4) ik_4 ?_
        refine g_callV (as := [_, _, _]) mk_X8_figure ml_X8_99 im_X8_figure se_X8_figure rfl rfl ⟨⟨nle rfl, nle rfl⟩, nle rfl, nle rfl⟩ hm.1 rfl rfl rfl (nle rfl) ?_
        refine ct_X8_figure hm ((bF26.2 5 (by omega)).trans ((bF25.2 5 (by omega)).trans ((bF24.2 5 (by omega)).trans h5))) b6_26 ((bF26.1 (m + 3) (by omega) (by omega)).trans ((bF25.1 (m + 3) (by omega) (by omega)).trans ((bF24.1 (m + 3) (by omega) (by omega)).trans ht))) hT (by omega) 3 0 4 rfl rfl rfl (by omega) (by omega) (by omega) (fun hd27 M27 b4_27 b6_27 bF27 => ?_) (fun hd27 => ?_)
        · have hc27 : ∀ qs r, rdL t len qs ((((p + 1) + 1) + 1) + 1) = r → rdL t len ((false, 0, 4) :: qs) (((p + 1) + 1) + 1) = r := fun qs r h => rd1y hd27 h
          have bv27 : ∀ i, i < 1 → M27 (m + 4) (3 + i) = valL t [(false, 0, 4)] (((p + 1) + 1) + 1) i := fun i hi' => by
            have hi0 : i = 0 := by omega
            subst hi0
            rw [b4_27]
            exact upd_same
          have bo27 : ∀ i, i < 3 → M27 (m + 4) i = M26 (m + 4) i := fun i hi' => by rw [b4_27, upd_ne (by omega)]
          have fr27 := (fr26.tr bF27)
          refine kq_s ?_
          refine g_if_eq rfl L_X8_readsClass_64 (fun h_4 => absurd h_4 (by decide)) (fun h_4 => ?_)
          refine g_aload_n rfl ?_
          refine g_iconst (v := 4) ik_4 ?_
          refine g_iconst (v := 0) ik_0 ?_
          refine g_iconst (v := 5) ik_5 ?_
          refine g_callV (as := [_, _, _]) mk_X8_figure ml_X8_99 im_X8_figure se_X8_figure rfl rfl ⟨⟨nle rfl, nle rfl⟩, nle rfl, nle rfl⟩ hm.1 rfl rfl rfl (nle rfl) ?_
          refine ct_X8_figure hm ((bF27.2 5 (by omega)).trans ((bF26.2 5 (by omega)).trans ((bF25.2 5 (by omega)).trans ((bF24.2 5 (by omega)).trans h5)))) b6_27 ((bF27.1 (m + 3) (by omega) (by omega)).trans ((bF26.1 (m + 3) (by omega) (by omega)).trans ((bF25.1 (m + 3) (by omega) (by omega)).trans ((bF24.1 (m + 3) (by omega) (by omega)).trans ht)))) hT (by omega) 4 0 5 rfl rfl rfl (by omega) (by omega) (by omega) (fun hd28 M28 b4_28 b6_28 bF28 => ?_) (fun hd28 => ?_)
          · have hc28 : ∀ qs r, rdL t len qs (((((p + 1) + 1) + 1) + 1) + 1) = r → rdL t len ((false, 0, 5) :: qs) ((((p + 1) + 1) + 1) + 1) = r := fun qs r h => rd1y hd28 h
            have bv28 : ∀ i, i < 1 → M28 (m + 4) (4 + i) = valL t [(false, 0, 5)] ((((p + 1) + 1) + 1) + 1) i := fun i hi' => by
              have hi0 : i = 0 := by omega
              subst hi0
              rw [b4_28]
              exact upd_same
            have bo28 : ∀ i, i < 4 → M28 (m + 4) i = M27 (m + 4) i := fun i hi' => by rw [b4_28, upd_ne (by omega)]
            have fr28 := (fr27.tr bF28)
            refine kq_s ?_
            refine g_if_eq rfl L_X8_readsClass_64 (fun h_5 => absurd h_5 (by decide)) (fun h_5 => ?_)
            refine g_aload_n rfl ?_
            refine g_iconst (v := 5) ik_5 ?_
            refine g_iconst (v := 0) ik_0 ?_
            refine g_iconst (v := 5) ik_5 ?_
            refine g_callV (as := [_, _, _]) mk_X8_figure ml_X8_99 im_X8_figure se_X8_figure rfl rfl ⟨⟨nle rfl, nle rfl⟩, nle rfl, nle rfl⟩ hm.1 rfl rfl rfl (nle rfl) ?_
            refine ct_X8_figure hm ((bF28.2 5 (by omega)).trans ((bF27.2 5 (by omega)).trans ((bF26.2 5 (by omega)).trans ((bF25.2 5 (by omega)).trans ((bF24.2 5 (by omega)).trans h5))))) b6_28 ((bF28.1 (m + 3) (by omega) (by omega)).trans ((bF27.1 (m + 3) (by omega) (by omega)).trans ((bF26.1 (m + 3) (by omega) (by omega)).trans ((bF25.1 (m + 3) (by omega) (by omega)).trans ((bF24.1 (m + 3) (by omega) (by omega)).trans ht))))) hT (by omega) 5 0 5 rfl rfl rfl (by omega) (by omega) (by omega) (fun hd29 M29 b4_29 b6_29 bF29 => ?_) (fun hd29 => ?_)
            · have hc29 : ∀ qs r, rdL t len qs ((((((p + 1) + 1) + 1) + 1) + 1) + 1) = r → rdL t len ((false, 0, 5) :: qs) (((((p + 1) + 1) + 1) + 1) + 1) = r := fun qs r h => rd1y hd29 h
              have bv29 : ∀ i, i < 1 → M29 (m + 4) (5 + i) = valL t [(false, 0, 5)] (((((p + 1) + 1) + 1) + 1) + 1) i := fun i hi' => by
                have hi0 : i = 0 := by omega
                subst hi0
                rw [b4_29]
                exact upd_same
              have bo29 : ∀ i, i < 5 → M29 (m + 4) i = M28 (m + 4) i := fun i hi' => by rw [b4_29, upd_ne (by omega)]
              have fr29 := (fr28.tr bF29)
              refine kq_s ?_
              refine g_if_eq rfl L_X8_readsClass_64 (fun h_6 => absurd h_6 (by decide)) (fun h_6 => ?_)
              refine g_iconst (v := 1) ik_1 ?_
              refine g_goto rfl L_X8_readsClass_65 ?_
              refine g_zret rfl rfl (nle rfl) (nle rfl) ?_
              refine hY M29 (fun qs r h => hc24 ((false, 1, 5) :: (false, 0, 3) :: (false, 0, 4) :: (false, 0, 5) :: (false, 0, 5) :: qs) _ (hc25 ((false, 0, 3) :: (false, 0, 4) :: (false, 0, 5) :: (false, 0, 5) :: qs) _ (hc26 ((false, 0, 4) :: (false, 0, 5) :: (false, 0, 5) :: qs) _ (hc27 ((false, 0, 5) :: (false, 0, 5) :: qs) _ (hc28 ((false, 0, 5) :: qs) _ (hc29 (qs) _ (h))))))) b6_29 ?_ ?_ fr29
              · intro i hi
                have hi2 : i = 0 ∨ i = 1 ∨ i = 2 ∨ i = 3 ∨ i = 4 ∨ i = 5 := by omega
                rcases hi2 with rfl | rfl | rfl | rfl | rfl | rfl
                · exact (bo29 _ (by omega)).trans ((bo28 _ (by omega)).trans ((bo27 _ (by omega)).trans ((bo26 _ (by omega)).trans ((bo25 _ (by omega)).trans (bv24 0 (by omega))))))
                · exact (bo29 _ (by omega)).trans ((bo28 _ (by omega)).trans ((bo27 _ (by omega)).trans ((bo26 _ (by omega)).trans (bv25 0 (by omega)))))
                · exact (bo29 _ (by omega)).trans ((bo28 _ (by omega)).trans ((bo27 _ (by omega)).trans (bv26 0 (by omega))))
                · exact (bo29 _ (by omega)).trans ((bo28 _ (by omega)).trans (bv27 0 (by omega)))
                · exact (bo29 _ (by omega)).trans (bv28 0 (by omega))
                · exact bv29 0 (by omega)
              · intro i hi
                exact (bo29 i (by omega)).trans ((bo28 i (by omega)).trans ((bo27 i (by omega)).trans ((bo26 i (by omega)).trans ((bo25 i (by omega)).trans (bo24 i (by omega))))))
            · have hn29 : ∀ qs, rdL t len ((false, 0, 5) :: qs) (((((p + 1) + 1) + 1) + 1) + 1) = (false, (((((p + 1) + 1) + 1) + 1) + 1)) := fun qs => rd1n hd29
              refine kq_s ?_
              refine g_if_eq rfl L_X8_readsClass_64 (fun h_7 => ?_) (fun h_7 => absurd h_7 (by decide))
              refine g_iconst (v := 0) ik_0 ?_
              refine g_fall rfl L_X8_readsClass_65 ?_
              refine g_zret rfl rfl (nle rfl) (nle rfl) ?_
              exact hN M28 (((((p + 1) + 1) + 1) + 1) + 1) (fun qs => hc24 ((false, 1, 5) :: (false, 0, 3) :: (false, 0, 4) :: (false, 0, 5) :: (false, 0, 5) :: qs) _ (hc25 ((false, 0, 3) :: (false, 0, 4) :: (false, 0, 5) :: (false, 0, 5) :: qs) _ (hc26 ((false, 0, 4) :: (false, 0, 5) :: (false, 0, 5) :: qs) _ (hc27 ((false, 0, 5) :: (false, 0, 5) :: qs) _ (hc28 ((false, 0, 5) :: qs) _ (hn29 (qs))))))) (by omega) b6_28 fr28
          · have hn28 : ∀ qs, rdL t len ((false, 0, 5) :: qs) ((((p + 1) + 1) + 1) + 1) = (false, ((((p + 1) + 1) + 1) + 1)) := fun qs => rd1n hd28
            refine kq_s ?_
            refine g_if_eq rfl L_X8_readsClass_64 (fun h_8 => ?_) (fun h_8 => absurd h_8 (by decide))
            refine g_iconst (v := 0) ik_0 ?_
            refine g_fall rfl L_X8_readsClass_65 ?_
            refine g_zret rfl rfl (nle rfl) (nle rfl) ?_
            exact hN M27 ((((p + 1) + 1) + 1) + 1) (fun qs => hc24 ((false, 1, 5) :: (false, 0, 3) :: (false, 0, 4) :: (false, 0, 5) :: (false, 0, 5) :: qs) _ (hc25 ((false, 0, 3) :: (false, 0, 4) :: (false, 0, 5) :: (false, 0, 5) :: qs) _ (hc26 ((false, 0, 4) :: (false, 0, 5) :: (false, 0, 5) :: qs) _ (hc27 ((false, 0, 5) :: (false, 0, 5) :: qs) _ (hn28 ((false, 0, 5) :: qs)))))) (by omega) b6_27 fr27
        · have hn27 : ∀ qs, rdL t len ((false, 0, 4) :: qs) (((p + 1) + 1) + 1) = (false, (((p + 1) + 1) + 1)) := fun qs => rd1n hd27
          refine kq_s ?_
          refine g_if_eq rfl L_X8_readsClass_64 (fun h_9 => ?_) (fun h_9 => absurd h_9 (by decide))
          refine g_iconst (v := 0) ik_0 ?_
          refine g_fall rfl L_X8_readsClass_65 ?_
          refine g_zret rfl rfl (nle rfl) (nle rfl) ?_
          exact hN M26 (((p + 1) + 1) + 1) (fun qs => hc24 ((false, 1, 5) :: (false, 0, 3) :: (false, 0, 4) :: (false, 0, 5) :: (false, 0, 5) :: qs) _ (hc25 ((false, 0, 3) :: (false, 0, 4) :: (false, 0, 5) :: (false, 0, 5) :: qs) _ (hc26 ((false, 0, 4) :: (false, 0, 5) :: (false, 0, 5) :: qs) _ (hn27 ((false, 0, 5) :: (false, 0, 5) :: qs))))) (by omega) b6_26 fr26
      · have hn26 : ∀ qs, rdL t len ((false, 0, 3) :: qs) ((p + 1) + 1) = (false, ((p + 1) + 1)) := fun qs => rd1n hd26
        refine kq_s ?_
        refine g_if_eq rfl L_X8_readsClass_64 (fun h_10 => ?_) (fun h_10 => absurd h_10 (by decide))
        refine g_iconst (v := 0) ik_0 ?_
        refine g_fall rfl L_X8_readsClass_65 ?_
        refine g_zret rfl rfl (nle rfl) (nle rfl) ?_
        exact hN M25 ((p + 1) + 1) (fun qs => hc24 ((false, 1, 5) :: (false, 0, 3) :: (false, 0, 4) :: (false, 0, 5) :: (false, 0, 5) :: qs) _ (hc25 ((false, 0, 3) :: (false, 0, 4) :: (false, 0, 5) :: (false, 0, 5) :: qs) _ (hn26 ((false, 0, 4) :: (false, 0, 5) :: (false, 0, 5) :: qs)))) (by omega) b6_25 fr25
    · have hn25 : ∀ qs, rdL t len ((false, 1, 5) :: qs) (p + 1) = (false, (p + 1)) := fun qs => rd1n hd25
      refine kq_s ?_
      refine g_if_eq rfl L_X8_readsClass_64 (fun h_11 => ?_) (fun h_11 => absurd h_11 (by decide))
      refine g_iconst (v := 0) ik_0 ?_
      refine g_fall rfl L_X8_readsClass_65 ?_
      refine g_zret rfl rfl (nle rfl) (nle rfl) ?_
      exact hN M24 (p + 1) (fun qs => hc24 ((false, 1, 5) :: (false, 0, 3) :: (false, 0, 4) :: (false, 0, 5) :: (false, 0, 5) :: qs) _ (hn25 ((false, 0, 3) :: (false, 0, 4) :: (false, 0, 5) :: (false, 0, 5) :: qs))) (by omega) b6_24 fr24
  · have hn24 : ∀ qs, rdL t len ((false, 0, 3) :: qs) p = (false, p) := fun qs => rd1n hd24
    refine kq_s ?_
    refine g_if_eq rfl L_X8_readsClass_64 (fun h_12 => ?_) (fun h_12 => absurd h_12 (by decide))
    refine g_iconst (v := 0) ik_0 ?_
    refine g_fall rfl L_X8_readsClass_65 ?_
    refine g_zret rfl rfl (nle rfl) (nle rfl) ?_
    exact hN M p (fun qs => hn24 ((false, 1, 5) :: (false, 0, 3) :: (false, 0, 4) :: (false, 0, 5) :: (false, 0, 5) :: qs)) (by omega) h6 (FrT.rf M m)
set_option maxRecDepth 100000 in
set_option maxHeartbeats 4000000 in
theorem ct_X8_readsCommand {X : Xs} {κ : Kp} {M : Mem} {Q : Rs → Kp → Mem → Prop} {m : Nat} (hm : IsMod κ.2.1 m) {len p : Nat} {t : Nat → Int32} (h5 : M m 5 = nI len) (h6 : M m 6 = nI p) (ht : M (m + 3) = t) (hT : TxOK t len) (hpl : p < len) (hY : ∀ M' e qs, rdC t len p = (true, e) → flds (ch t p) = some qs → M' m 6 = nI e → M' m 7 = t p → (∀ i, i < qs.length → M' (m + 4) i = valL t qs (p + 1) i) → FrU M M' m → Q (.inl (some (.int 1))) κ M') (hN : ∀ M' e, rdC t len p = (false, e) → M' m 6 = nI e → FrU M M' m → Q (.inl (some (.int 0))) κ M') : Ct X m_X8_readsCommand [.ref m] κ M Q := by
  refine ct_of B_X8_readsCommand_0 pn_X8 rfl (nle rfl) L_X8_readsCommand_0 ?_
  have hlen0 := hT.1
  refine g_aload_n rfl ?_
  refine g_aload_n rfl ?_
  refine g_callV (as := []) mk_X8_sign ml_X8_96 im_X8_sign se_X8_sign rfl rfl ⟨⟨nle rfl, nle rfl⟩, nle rfl, nle rfl⟩ hm.1 rfl rfl rfl (nle rfl) ?_
  refine ct_X8_sign hm h5 h6 ht hT (by omega) ?_
  refine kq_s ?_
  rw [sg_in hpl]
  refine g_putI pl_X8_102 rfl hm.1 rfl rfl rfl ?_
  have f5 : (upM M m 7 (t p)) m 5 = nI len := by simp (disch := omega) only [upM_j]; exact h5
  have f6 : (upM M m 7 (t p)) m 6 = nI p := by simp (disch := omega) only [upM_j]; exact h6
  have f7 : (upM M m 7 (t p)) m 7 = t p := by simp (disch := omega) only [upM_s]
  have fC : FrU M (upM M m 7 (t p)) m := ⟨fun r a b => by funext j; simp (disch := omega) only [upM_o], fun j a b => by simp (disch := omega) only [upM_j]⟩
  generalize (upM M m 7 (t p)) = M1 at f5 f6 f7 fC ⊢
  have ft : M1 (m + 3) = t := (fC.1 _ (by omega) (by omega)).trans ht
  have hlen := hT.1
  have hcb := (hT.at hpl).2
  have hca := (hT.at hpl).1
  refine g_aload_n rfl ?_
  refine g_bipush (v := 102) bk_102 ?_
  refine g_callV (as := [_]) mk_X8_takesSign ml_X8_105 im_X8_takesSign se_X8_takesSign rfl rfl ⟨⟨nle rfl, nle rfl⟩, nle rfl, nle rfl⟩ hm.1 rfl rfl rfl (nle rfl) ?_
  refine ct_X8_takesSign hm f5 f6 ft hT (by omega) (fun hs30 M30 b6_30 bf30 bj30 => ?_) (fun hs30 => ?_)
  · rw [sg_in hpl, hca] at hs30
    have hcc : ch t p = 102 := (nI_eq (a := ch t p) (b := 102) (by omega) (by omega)).mp hs30
    have hfl : flds (ch t p) = some [(false, 1, 9), (false, 0, 4), (true, 0, 60), (true, 1, 30)] := by rw [hcc]; rfl
    have fC30 : FrU M M30 m := fC.tr ⟨fun r a b => bf30 r a, fun j a b => bj30 j a⟩
    replace fC := fC30
    replace f7 : M30 m 7 = t p := (bj30 7 (by omega)).trans f7
    refine kq_s ?_
    refine g_if_eq rfl L_X8_readsCommand_66 (fun h_1 => absurd h_1 (by decide)) (fun h_1 => ?_)
    refine g_aload_n rfl ?_
    refine g_iconst (v := 0) ik_0 ?_
    refine g_iconst (v := 1) ik_1 ?_
    refine g_bipush (v := 9) bk_9 ?_
    refine g_callV (as := [_, _, _]) mk_X8_figure ml_X8_99 im_X8_figure se_X8_figure rfl rfl ⟨⟨nle rfl, nle rfl⟩, nle rfl, nle rfl⟩ hm.1 rfl rfl rfl (nle rfl) ?_
    refine ct_X8_figure hm ((bj30 5 (by omega)).trans f5) b6_30 ((bf30 (m + 3) (by omega)).trans ft) hT (by omega) 0 1 9 rfl rfl rfl (by omega) (by omega) (by omega) (fun hd31 M31 b4_31 b6_31 bF31 => ?_) (fun hd31 => ?_)
    · have hc31 : ∀ qs r, rdL t len qs ((p + 1) + 1) = r → rdL t len ((false, 1, 9) :: qs) (p + 1) = r := fun qs r h => rd1y hd31 h
      have bv31 : ∀ i, i < 1 → M31 (m + 4) (0 + i) = valL t [(false, 1, 9)] (p + 1) i := fun i hi' => by
        have hi0 : i = 0 := by omega
        subst hi0
        rw [b4_31]
        exact upd_same
      have bo31 : ∀ i, i < 0 → M31 (m + 4) i = M30 (m + 4) i := fun i hi' => by rw [b4_31, upd_ne (by omega)]
      have fr31 := bF31
      refine kq_s ?_
      refine g_if_eq rfl L_X8_readsCommand_64 (fun h_2 => absurd h_2 (by decide)) (fun h_2 => ?_)
      refine g_aload_n rfl ?_
      refine g_iconst (v := 1) ik_1 ?_
      refine g_iconst (v := 0) ik_0 ?_
      refine g_iconst (v := 4) ik_4 ?_
      refine g_callV (as := [_, _, _]) mk_X8_figure ml_X8_99 im_X8_figure se_X8_figure rfl rfl ⟨⟨nle rfl, nle rfl⟩, nle rfl, nle rfl⟩ hm.1 rfl rfl rfl (nle rfl) ?_
      refine ct_X8_figure hm ((bF31.2 5 (by omega)).trans ((bj30 5 (by omega)).trans f5)) b6_31 ((bF31.1 (m + 3) (by omega) (by omega)).trans ((bf30 (m + 3) (by omega)).trans ft)) hT (by omega) 1 0 4 rfl rfl rfl (by omega) (by omega) (by omega) (fun hd32 M32 b4_32 b6_32 bF32 => ?_) (fun hd32 => ?_)
      · have hc32 : ∀ qs r, rdL t len qs (((p + 1) + 1) + 1) = r → rdL t len ((false, 0, 4) :: qs) ((p + 1) + 1) = r := fun qs r h => rd1y hd32 h
        have bv32 : ∀ i, i < 1 → M32 (m + 4) (1 + i) = valL t [(false, 0, 4)] ((p + 1) + 1) i := fun i hi' => by
          have hi0 : i = 0 := by omega
          subst hi0
          rw [b4_32]
          exact upd_same
        have bo32 : ∀ i, i < 1 → M32 (m + 4) i = M31 (m + 4) i := fun i hi' => by rw [b4_32, upd_ne (by omega)]
        have fr32 := (fr31.tr bF32)
        refine kq_s ?_
        refine g_if_eq rfl L_X8_readsCommand_64 (fun h_3 => absurd h_3 (by decide)) (fun h_3 => ?_)
        refine g_aload_n rfl ?_
        refine g_iconst (v := 2) ik_2 ?_
        refine g_iconst (v := 0) ik_0 ?_
        refine g_bipush (v := 60) bk_60 ?_
        refine g_callV (as := [_, _, _]) mk_X8_figures ml_X8_108 im_X8_figures se_X8_figures rfl rfl ⟨⟨nle rfl, nle rfl⟩, nle rfl, nle rfl⟩ hm.1 rfl rfl rfl (nle rfl) ?_
        refine ct_X8_figures hm ((bF32.2 5 (by omega)).trans ((bF31.2 5 (by omega)).trans ((bj30 5 (by omega)).trans f5))) b6_32 ((bF32.1 (m + 3) (by omega) (by omega)).trans ((bF31.1 (m + 3) (by omega) (by omega)).trans ((bf30 (m + 3) (by omega)).trans ft))) hT (by omega) 2 0 60 rfl rfl rfl (by omega) (by omega) (by omega) (fun M33 hc33 b6_33 bv33 bo33 bF33 => ?_) (fun M33 e33 hn33 he33 b6_33 bF33 => ?_)
        · have fr33 := (fr32.tr bF33)
          refine kq_s ?_
          refine g_if_eq rfl L_X8_readsCommand_64 (fun h_4 => absurd h_4 (by decide)) (fun h_4 => ?_)
          refine g_aload_n rfl ?_
          refine g_iconst (v := 3) ik_3 ?_
          refine g_iconst (v := 1) ik_1 ?_
          refine g_bipush (v := 30) bk_30 ?_
          refine g_callV (as := [_, _, _]) mk_X8_figures ml_X8_108 im_X8_figures se_X8_figures rfl rfl ⟨⟨nle rfl, nle rfl⟩, nle rfl, nle rfl⟩ hm.1 rfl rfl rfl (nle rfl) ?_
          refine ct_X8_figures hm ((bF33.2 5 (by omega)).trans ((bF32.2 5 (by omega)).trans ((bF31.2 5 (by omega)).trans ((bj30 5 (by omega)).trans f5)))) b6_33 ((bF33.1 (m + 3) (by omega) (by omega)).trans ((bF32.1 (m + 3) (by omega) (by omega)).trans ((bF31.1 (m + 3) (by omega) (by omega)).trans ((bf30 (m + 3) (by omega)).trans ft)))) hT (by omega) 3 1 30 rfl rfl rfl (by omega) (by omega) (by omega) (fun M34 hc34 b6_34 bv34 bo34 bF34 => ?_) (fun M34 e34 hn34 he34 b6_34 bF34 => ?_)
          · have fr34 := (fr33.tr bF34)
            refine kq_s ?_
            refine g_if_eq rfl L_X8_readsCommand_64 (fun h_5 => absurd h_5 (by decide)) (fun h_5 => ?_)
            refine g_iconst (v := 1) ik_1 ?_
            refine g_goto rfl L_X8_readsCommand_65 ?_
            refine g_zret rfl rfl (nle rfl) (nle rfl) ?_
            refine hY M34 _ [(false, 1, 9), (false, 0, 4), (true, 0, 60), (true, 1, 30)] ((rdC_yes hfl).trans (hc31 ((false, 0, 4) :: (true, 0, 60) :: (true, 1, 30) :: []) _ (hc32 ((true, 0, 60) :: (true, 1, 30) :: []) _ (hc33 ((true, 1, 30) :: []) _ (hc34 ([]) _ (rfl)))))) hfl b6_34 ((fr34.2 7 (by omega)).trans f7) ?_ (fC.tr fr34.u)
            intro i hi
            replace hi : i < 4 := hi
            have hi2 : i = 0 ∨ i = 1 ∨ i = 2 ∨ i = 3 := by omega
            rcases hi2 with rfl | rfl | rfl | rfl
            · exact (bo34 _ (by omega)).trans ((bo33 _ (by omega)).trans ((bo32 _ (by omega)).trans (bv31 0 (by omega))))
            · exact (bo34 _ (by omega)).trans ((bo33 _ (by omega)).trans (bv32 0 (by omega)))
            · exact (bo34 _ (by omega)).trans (bv33 0 (by omega))
            · exact bv34 0 (by omega)
          · have fr34 := (fr33.tr bF34)
            refine kq_s ?_
            refine g_if_eq rfl L_X8_readsCommand_64 (fun h_6 => ?_) (fun h_6 => absurd h_6 (by decide))
            refine g_iconst (v := 0) ik_0 ?_
            refine g_fall rfl L_X8_readsCommand_65 ?_
            refine g_zret rfl rfl (nle rfl) (nle rfl) ?_
            exact hN M34 e34 ((rdC_yes hfl).trans (hc31 ((false, 0, 4) :: (true, 0, 60) :: (true, 1, 30) :: []) _ (hc32 ((true, 0, 60) :: (true, 1, 30) :: []) _ (hc33 ((true, 1, 30) :: []) _ (hn34 ([])))))) b6_34 (fC.tr fr34.u)
        · have fr33 := (fr32.tr bF33)
          refine kq_s ?_
          refine g_if_eq rfl L_X8_readsCommand_64 (fun h_7 => ?_) (fun h_7 => absurd h_7 (by decide))
          refine g_iconst (v := 0) ik_0 ?_
          refine g_fall rfl L_X8_readsCommand_65 ?_
          refine g_zret rfl rfl (nle rfl) (nle rfl) ?_
          exact hN M33 e33 ((rdC_yes hfl).trans (hc31 ((false, 0, 4) :: (true, 0, 60) :: (true, 1, 30) :: []) _ (hc32 ((true, 0, 60) :: (true, 1, 30) :: []) _ (hn33 ((true, 1, 30) :: []))))) b6_33 (fC.tr fr33.u)
      · have hn32 : ∀ qs, rdL t len ((false, 0, 4) :: qs) ((p + 1) + 1) = (false, ((p + 1) + 1)) := fun qs => rd1n hd32
        refine kq_s ?_
        refine g_if_eq rfl L_X8_readsCommand_64 (fun h_8 => ?_) (fun h_8 => absurd h_8 (by decide))
        refine g_iconst (v := 0) ik_0 ?_
        refine g_fall rfl L_X8_readsCommand_65 ?_
        refine g_zret rfl rfl (nle rfl) (nle rfl) ?_
        exact hN M31 ((p + 1) + 1) ((rdC_yes hfl).trans (hc31 ((false, 0, 4) :: (true, 0, 60) :: (true, 1, 30) :: []) _ (hn32 ((true, 0, 60) :: (true, 1, 30) :: [])))) b6_31 (fC.tr fr31.u)
    · have hn31 : ∀ qs, rdL t len ((false, 1, 9) :: qs) (p + 1) = (false, (p + 1)) := fun qs => rd1n hd31
      refine kq_s ?_
      refine g_if_eq rfl L_X8_readsCommand_64 (fun h_9 => ?_) (fun h_9 => absurd h_9 (by decide))
      refine g_iconst (v := 0) ik_0 ?_
      refine g_fall rfl L_X8_readsCommand_65 ?_
      refine g_zret rfl rfl (nle rfl) (nle rfl) ?_
      exact hN M30 (p + 1) ((rdC_yes hfl).trans (hn31 ((false, 0, 4) :: (true, 0, 60) :: (true, 1, 30) :: []))) b6_30 (fC.tr (FrT.rf M30 m).u)
  · rw [sg_in hpl, hca] at hs30
    have hn102 : ¬ ch t p = 102 := fun q => hs30 (by rw [q]; rfl)
    refine kq_s ?_
    refine g_if_eq rfl L_X8_readsCommand_66 (fun h_10 => ?_) (fun h_10 => absurd h_10 (by decide))
    refine g_aload_n rfl ?_
    refine g_bipush (v := 116) bk_116 ?_
    refine g_callV (as := [_]) mk_X8_takesSign ml_X8_105 im_X8_takesSign se_X8_takesSign rfl rfl ⟨⟨nle rfl, nle rfl⟩, nle rfl, nle rfl⟩ hm.1 rfl rfl rfl (nle rfl) ?_
    refine ct_X8_takesSign hm f5 f6 ft hT (by omega) (fun hs35 M35 b6_35 bf35 bj35 => ?_) (fun hs35 => ?_)
    · rw [sg_in hpl, hca] at hs35
      have hcc : ch t p = 116 := (nI_eq (a := ch t p) (b := 116) (by omega) (by omega)).mp hs35
      have hfl : flds (ch t p) = some [(true, 0, 15), (false, 1, 5)] := by rw [hcc]; rfl
      have fC35 : FrU M M35 m := fC.tr ⟨fun r a b => bf35 r a, fun j a b => bj35 j a⟩
      replace fC := fC35
      replace f7 : M35 m 7 = t p := (bj35 7 (by omega)).trans f7
      refine kq_s ?_
      refine g_if_eq rfl L_X8_readsCommand_102 (fun h_11 => absurd h_11 (by decide)) (fun h_11 => ?_)
      refine g_aload_n rfl ?_
      refine g_iconst (v := 0) ik_0 ?_
      refine g_iconst (v := 0) ik_0 ?_
      refine g_bipush (v := 15) bk_15 ?_
      refine g_callV (as := [_, _, _]) mk_X8_figures ml_X8_108 im_X8_figures se_X8_figures rfl rfl ⟨⟨nle rfl, nle rfl⟩, nle rfl, nle rfl⟩ hm.1 rfl rfl rfl (nle rfl) ?_
      refine ct_X8_figures hm ((bj35 5 (by omega)).trans f5) b6_35 ((bf35 (m + 3) (by omega)).trans ft) hT (by omega) 0 0 15 rfl rfl rfl (by omega) (by omega) (by omega) (fun M36 hc36 b6_36 bv36 bo36 bF36 => ?_) (fun M36 e36 hn36 he36 b6_36 bF36 => ?_)
      · have fr36 := bF36
        refine kq_s ?_
        refine g_if_eq rfl L_X8_readsCommand_100 (fun h_12 => absurd h_12 (by decide)) (fun h_12 => ?_)
        refine g_aload_n rfl ?_
        refine g_iconst (v := 1) ik_1 ?_
        refine g_iconst (v := 1) ik_1 ?_
        refine g_iconst (v := 5) ik_5 ?_
        refine g_callV (as := [_, _, _]) mk_X8_figure ml_X8_99 im_X8_figure se_X8_figure rfl rfl ⟨⟨nle rfl, nle rfl⟩, nle rfl, nle rfl⟩ hm.1 rfl rfl rfl (nle rfl) ?_
        refine ct_X8_figure hm ((bF36.2 5 (by omega)).trans ((bj35 5 (by omega)).trans f5)) b6_36 ((bF36.1 (m + 3) (by omega) (by omega)).trans ((bf35 (m + 3) (by omega)).trans ft)) hT (by omega) 1 1 5 rfl rfl rfl (by omega) (by omega) (by omega) (fun hd37 M37 b4_37 b6_37 bF37 => ?_) (fun hd37 => ?_)
        · have hc37 : ∀ qs r, rdL t len qs (((p + 1) + 2) + 1) = r → rdL t len ((false, 1, 5) :: qs) ((p + 1) + 2) = r := fun qs r h => rd1y hd37 h
          have bv37 : ∀ i, i < 1 → M37 (m + 4) (1 + i) = valL t [(false, 1, 5)] ((p + 1) + 2) i := fun i hi' => by
            have hi0 : i = 0 := by omega
            subst hi0
            rw [b4_37]
            exact upd_same
          have bo37 : ∀ i, i < 1 → M37 (m + 4) i = M36 (m + 4) i := fun i hi' => by rw [b4_37, upd_ne (by omega)]
          have fr37 := (fr36.tr bF37)
          refine kq_s ?_
          refine g_if_eq rfl L_X8_readsCommand_100 (fun h_13 => absurd h_13 (by decide)) (fun h_13 => ?_)
          refine g_iconst (v := 1) ik_1 ?_
          refine g_goto rfl L_X8_readsCommand_101 ?_
          refine g_zret rfl rfl (nle rfl) (nle rfl) ?_
          refine hY M37 _ [(true, 0, 15), (false, 1, 5)] ((rdC_yes hfl).trans (hc36 ((false, 1, 5) :: []) _ (hc37 ([]) _ (rfl)))) hfl b6_37 ((fr37.2 7 (by omega)).trans f7) ?_ (fC.tr fr37.u)
          intro i hi
          replace hi : i < 2 := hi
          have hi2 : i = 0 ∨ i = 1 := by omega
          rcases hi2 with rfl | rfl
          · exact (bo37 _ (by omega)).trans (bv36 0 (by omega))
          · exact bv37 0 (by omega)
        · have hn37 : ∀ qs, rdL t len ((false, 1, 5) :: qs) ((p + 1) + 2) = (false, ((p + 1) + 2)) := fun qs => rd1n hd37
          refine kq_s ?_
          refine g_if_eq rfl L_X8_readsCommand_100 (fun h_14 => ?_) (fun h_14 => absurd h_14 (by decide))
          refine g_iconst (v := 0) ik_0 ?_
          refine g_fall rfl L_X8_readsCommand_101 ?_
          refine g_zret rfl rfl (nle rfl) (nle rfl) ?_
          exact hN M36 ((p + 1) + 2) ((rdC_yes hfl).trans (hc36 ((false, 1, 5) :: []) _ (hn37 ([])))) b6_36 (fC.tr fr36.u)
      · have fr36 := bF36
        refine kq_s ?_
        refine g_if_eq rfl L_X8_readsCommand_100 (fun h_15 => ?_) (fun h_15 => absurd h_15 (by decide))
        refine g_iconst (v := 0) ik_0 ?_
        refine g_fall rfl L_X8_readsCommand_101 ?_
        refine g_zret rfl rfl (nle rfl) (nle rfl) ?_
        exact hN M36 e36 ((rdC_yes hfl).trans (hn36 ((false, 1, 5) :: []))) b6_36 (fC.tr fr36.u)
    · rw [sg_in hpl, hca] at hs35
      have hn116 : ¬ ch t p = 116 := fun q => hs35 (by rw [q]; rfl)
      refine kq_s ?_
      refine g_if_eq rfl L_X8_readsCommand_102 (fun h_16 => ?_) (fun h_16 => absurd h_16 (by decide))
      refine g_aload_n rfl ?_
      refine g_bipush (v := 99) bk_99 ?_
      refine g_callV (as := [_]) mk_X8_takesSign ml_X8_105 im_X8_takesSign se_X8_takesSign rfl rfl ⟨⟨nle rfl, nle rfl⟩, nle rfl, nle rfl⟩ hm.1 rfl rfl rfl (nle rfl) ?_
      refine ct_X8_takesSign hm f5 f6 ft hT (by omega) (fun hs38 M38 b6_38 bf38 bj38 => ?_) (fun hs38 => ?_)
      · rw [sg_in hpl, hca] at hs38
        have hcc : ch t p = 99 := (nI_eq (a := ch t p) (b := 99) (by omega) (by omega)).mp hs38
        have hfl : flds (ch t p) = some [(false, 0, 3), (false, 1, 5), (false, 0, 3), (false, 0, 4), (false, 0, 5), (false, 0, 5)] := by rw [hcc]; rfl
        have fC38 : FrU M M38 m := fC.tr ⟨fun r a b => bf38 r a, fun j a b => bj38 j a⟩
        replace fC := fC38
        replace f7 : M38 m 7 = t p := (bj38 7 (by omega)).trans f7
        refine kq_s ?_
        refine g_if_eq rfl L_X8_readsCommand_116 (fun h_17 => absurd h_17 (by decide)) (fun h_17 => ?_)
        refine g_aload_n rfl ?_
        refine g_callV (as := []) mk_X8_readsClass ml_X8_111 im_X8_readsClass se_X8_readsClass rfl rfl ⟨⟨nle rfl, nle rfl⟩, nle rfl, nle rfl⟩ hm.1 rfl rfl rfl (nle rfl) ?_
        refine ct_X8_readsClass hm ((bj38 5 (by omega)).trans f5) b6_38 ((bf38 (m + 3) (by omega)).trans ft) hT (by omega) rfl (fun M39 hc39 b6_39 bv39 bo39 bF39 => ?_) (fun M39 e39 hn39 he39 b6_39 bF39 => ?_)
        · have fr39 := bF39
          refine kq_s ?_
          refine g_zret rfl rfl (nle rfl) (nle rfl) ?_
          refine hY M39 _ [(false, 0, 3), (false, 1, 5), (false, 0, 3), (false, 0, 4), (false, 0, 5), (false, 0, 5)] ((rdC_yes hfl).trans (hc39 ([]) _ (rfl))) hfl b6_39 ((fr39.2 7 (by omega)).trans f7) ?_ (fC.tr fr39.u)
          intro i hi
          replace hi : i < 6 := hi
          have hi2 : i = 0 ∨ i = 1 ∨ i = 2 ∨ i = 3 ∨ i = 4 ∨ i = 5 := by omega
          rcases hi2 with rfl | rfl | rfl | rfl | rfl | rfl
          · exact nz (bv39 0 (by omega))
          · exact nz (bv39 1 (by omega))
          · exact nz (bv39 2 (by omega))
          · exact nz (bv39 3 (by omega))
          · exact nz (bv39 4 (by omega))
          · exact nz (bv39 5 (by omega))
        · have fr39 := bF39
          refine kq_s ?_
          refine g_zret rfl rfl (nle rfl) (nle rfl) ?_
          exact hN M39 e39 ((rdC_yes hfl).trans (hn39 [])) b6_39 (fC.tr fr39.u)
      · rw [sg_in hpl, hca] at hs38
        have hn99 : ¬ ch t p = 99 := fun q => hs38 (by rw [q]; rfl)
        refine kq_s ?_
        refine g_if_eq rfl L_X8_readsCommand_116 (fun h_18 => ?_) (fun h_18 => absurd h_18 (by decide))
        refine g_aload_n rfl ?_
        refine g_bipush (v := 112) bk_112 ?_
        refine g_callV (as := [_]) mk_X8_takesSign ml_X8_105 im_X8_takesSign se_X8_takesSign rfl rfl ⟨⟨nle rfl, nle rfl⟩, nle rfl, nle rfl⟩ hm.1 rfl rfl rfl (nle rfl) ?_
        refine ct_X8_takesSign hm f5 f6 ft hT (by omega) (fun hs40 M40 b6_40 bf40 bj40 => ?_) (fun hs40 => ?_)
        · rw [sg_in hpl, hca] at hs40
          have hcc : ch t p = 112 := (nI_eq (a := ch t p) (b := 112) (by omega) (by omega)).mp hs40
          have hfl : flds (ch t p) = some [(true, 0, 11)] := by rw [hcc]; rfl
          have fC40 : FrU M M40 m := fC.tr ⟨fun r a b => bf40 r a, fun j a b => bj40 j a⟩
          replace fC := fC40
          replace f7 : M40 m 7 = t p := (bj40 7 (by omega)).trans f7
          refine kq_s ?_
          refine g_if_eq rfl L_X8_readsCommand_134 (fun h_19 => absurd h_19 (by decide)) (fun h_19 => ?_)
          refine g_aload_n rfl ?_
          refine g_iconst (v := 0) ik_0 ?_
          refine g_iconst (v := 0) ik_0 ?_
          refine g_bipush (v := 11) bk_11 ?_
          refine g_callV (as := [_, _, _]) mk_X8_figures ml_X8_108 im_X8_figures se_X8_figures rfl rfl ⟨⟨nle rfl, nle rfl⟩, nle rfl, nle rfl⟩ hm.1 rfl rfl rfl (nle rfl) ?_
          refine ct_X8_figures hm ((bj40 5 (by omega)).trans f5) b6_40 ((bf40 (m + 3) (by omega)).trans ft) hT (by omega) 0 0 11 rfl rfl rfl (by omega) (by omega) (by omega) (fun M41 hc41 b6_41 bv41 bo41 bF41 => ?_) (fun M41 e41 hn41 he41 b6_41 bF41 => ?_)
          · have fr41 := bF41
            refine kq_s ?_
            refine g_zret rfl rfl (nle rfl) (nle rfl) ?_
            refine hY M41 _ [(true, 0, 11)] ((rdC_yes hfl).trans (hc41 ([]) _ (rfl))) hfl b6_41 ((fr41.2 7 (by omega)).trans f7) ?_ (fC.tr fr41.u)
            intro i hi
            replace hi : i < 1 := hi
            have hi2 : i = 0 := by omega
            rcases hi2 with rfl
            · exact bv41 0 (by omega)
          · have fr41 := bF41
            refine kq_s ?_
            refine g_zret rfl rfl (nle rfl) (nle rfl) ?_
            exact hN M41 e41 ((rdC_yes hfl).trans (hn41 ([]))) b6_41 (fC.tr fr41.u)
        · rw [sg_in hpl, hca] at hs40
          have hn112 : ¬ ch t p = 112 := fun q => hs40 (by rw [q]; rfl)
          refine kq_s ?_
          refine g_if_eq rfl L_X8_readsCommand_134 (fun h_20 => ?_) (fun h_20 => absurd h_20 (by decide))
          refine g_aload_n rfl ?_
          refine g_bipush (v := 101) bk_101 ?_
          refine g_callV (as := [_]) mk_X8_takesSign ml_X8_105 im_X8_takesSign se_X8_takesSign rfl rfl ⟨⟨nle rfl, nle rfl⟩, nle rfl, nle rfl⟩ hm.1 rfl rfl rfl (nle rfl) ?_
          refine ct_X8_takesSign hm f5 f6 ft hT (by omega) (fun hs42 M42 b6_42 bf42 bj42 => ?_) (fun hs42 => ?_)
          · rw [sg_in hpl, hca] at hs42
            have hcc : ch t p = 101 := (nI_eq (a := ch t p) (b := 101) (by omega) (by omega)).mp hs42
            have hfl : flds (ch t p) = some [(true, 0, 11), (false, 0, 9)] := by rw [hcc]; rfl
            have fC42 : FrU M M42 m := fC.tr ⟨fun r a b => bf42 r a, fun j a b => bj42 j a⟩
            replace fC := fC42
            replace f7 : M42 m 7 = t p := (bj42 7 (by omega)).trans f7
            refine kq_s ?_
            refine g_if_ne rfl L_X8_readsCommand_152 (fun h_21 => ?_) (fun h_21 => absurd h_21 (by decide))
            refine g_aload_n rfl ?_
            refine g_iconst (v := 0) ik_0 ?_
            refine g_iconst (v := 0) ik_0 ?_
            refine g_bipush (v := 11) bk_11 ?_
            refine g_callV (as := [_, _, _]) mk_X8_figures ml_X8_108 im_X8_figures se_X8_figures rfl rfl ⟨⟨nle rfl, nle rfl⟩, nle rfl, nle rfl⟩ hm.1 rfl rfl rfl (nle rfl) ?_
            refine ct_X8_figures hm ((bj42 5 (by omega)).trans f5) b6_42 ((bf42 (m + 3) (by omega)).trans ft) hT (by omega) 0 0 11 rfl rfl rfl (by omega) (by omega) (by omega) (fun M43 hc43 b6_43 bv43 bo43 bF43 => ?_) (fun M43 e43 hn43 he43 b6_43 bF43 => ?_)
            · have fr43 := bF43
              refine kq_s ?_
              refine g_if_eq rfl L_X8_readsCommand_178 (fun h_22 => absurd h_22 (by decide)) (fun h_22 => ?_)
              refine g_aload_n rfl ?_
              refine g_iconst (v := 1) ik_1 ?_
              refine g_iconst (v := 0) ik_0 ?_
              refine g_bipush (v := 9) bk_9 ?_
              refine g_callV (as := [_, _, _]) mk_X8_figure ml_X8_99 im_X8_figure se_X8_figure rfl rfl ⟨⟨nle rfl, nle rfl⟩, nle rfl, nle rfl⟩ hm.1 rfl rfl rfl (nle rfl) ?_
              refine ct_X8_figure hm ((bF43.2 5 (by omega)).trans ((bj42 5 (by omega)).trans f5)) b6_43 ((bF43.1 (m + 3) (by omega) (by omega)).trans ((bf42 (m + 3) (by omega)).trans ft)) hT (by omega) 1 0 9 rfl rfl rfl (by omega) (by omega) (by omega) (fun hd44 M44 b4_44 b6_44 bF44 => ?_) (fun hd44 => ?_)
              · have hc44 : ∀ qs r, rdL t len qs (((p + 1) + 2) + 1) = r → rdL t len ((false, 0, 9) :: qs) ((p + 1) + 2) = r := fun qs r h => rd1y hd44 h
                have bv44 : ∀ i, i < 1 → M44 (m + 4) (1 + i) = valL t [(false, 0, 9)] ((p + 1) + 2) i := fun i hi' => by
                  have hi0 : i = 0 := by omega
                  subst hi0
                  rw [b4_44]
                  exact upd_same
                have bo44 : ∀ i, i < 1 → M44 (m + 4) i = M43 (m + 4) i := fun i hi' => by rw [b4_44, upd_ne (by omega)]
                have fr44 := (fr43.tr bF44)
                refine kq_s ?_
                refine g_if_eq rfl L_X8_readsCommand_178 (fun h_23 => absurd h_23 (by decide)) (fun h_23 => ?_)
                refine g_iconst (v := 1) ik_1 ?_
                refine g_goto rfl L_X8_readsCommand_179 ?_
                refine g_zret rfl rfl (nle rfl) (nle rfl) ?_
                refine hY M44 _ [(true, 0, 11), (false, 0, 9)] ((rdC_yes hfl).trans (hc43 ((false, 0, 9) :: []) _ (hc44 ([]) _ (rfl)))) hfl b6_44 ((fr44.2 7 (by omega)).trans f7) ?_ (fC.tr fr44.u)
                intro i hi
                replace hi : i < 2 := hi
                have hi2 : i = 0 ∨ i = 1 := by omega
                rcases hi2 with rfl | rfl
                · exact (bo44 _ (by omega)).trans (bv43 0 (by omega))
                · exact bv44 0 (by omega)
              · have hn44 : ∀ qs, rdL t len ((false, 0, 9) :: qs) ((p + 1) + 2) = (false, ((p + 1) + 2)) := fun qs => rd1n hd44
                refine kq_s ?_
                refine g_if_eq rfl L_X8_readsCommand_178 (fun h_24 => ?_) (fun h_24 => absurd h_24 (by decide))
                refine g_iconst (v := 0) ik_0 ?_
                refine g_fall rfl L_X8_readsCommand_179 ?_
                refine g_zret rfl rfl (nle rfl) (nle rfl) ?_
                exact hN M43 ((p + 1) + 2) ((rdC_yes hfl).trans (hc43 ((false, 0, 9) :: []) _ (hn44 ([])))) b6_43 (fC.tr fr43.u)
            · have fr43 := bF43
              refine kq_s ?_
              refine g_if_eq rfl L_X8_readsCommand_178 (fun h_25 => ?_) (fun h_25 => absurd h_25 (by decide))
              refine g_iconst (v := 0) ik_0 ?_
              refine g_fall rfl L_X8_readsCommand_179 ?_
              refine g_zret rfl rfl (nle rfl) (nle rfl) ?_
              exact hN M43 e43 ((rdC_yes hfl).trans (hn43 ((false, 0, 9) :: []))) b6_43 (fC.tr fr43.u)
          · rw [sg_in hpl, hca] at hs42
            have hn101 : ¬ ch t p = 101 := fun q => hs42 (by rw [q]; rfl)
            refine kq_s ?_
            refine g_if_ne rfl L_X8_readsCommand_152 (fun h_26 => absurd h_26 (by decide)) (fun h_26 => ?_)
            refine g_aload_n rfl ?_
            refine g_bipush (v := 108) bk_108 ?_
            refine g_callV (as := [_]) mk_X8_takesSign ml_X8_105 im_X8_takesSign se_X8_takesSign rfl rfl ⟨⟨nle rfl, nle rfl⟩, nle rfl, nle rfl⟩ hm.1 rfl rfl rfl (nle rfl) ?_
            refine ct_X8_takesSign hm f5 f6 ft hT (by omega) (fun hs45 M45 b6_45 bf45 bj45 => ?_) (fun hs45 => ?_)
            · rw [sg_in hpl, hca] at hs45
              have hcc : ch t p = 108 := (nI_eq (a := ch t p) (b := 108) (by omega) (by omega)).mp hs45
              have hfl : flds (ch t p) = some [(true, 0, 11), (false, 0, 9)] := by rw [hcc]; rfl
              have fC45 : FrU M M45 m := fC.tr ⟨fun r a b => bf45 r a, fun j a b => bj45 j a⟩
              replace fC := fC45
              replace f7 : M45 m 7 = t p := (bj45 7 (by omega)).trans f7
              refine kq_s ?_
              refine g_if_eq rfl L_X8_readsCommand_180 (fun h_27 => absurd h_27 (by decide)) (fun h_27 => ?_)
              refine g_fall rfl L_X8_readsCommand_152 ?_
              refine g_aload_n rfl ?_
              refine g_iconst (v := 0) ik_0 ?_
              refine g_iconst (v := 0) ik_0 ?_
              refine g_bipush (v := 11) bk_11 ?_
              refine g_callV (as := [_, _, _]) mk_X8_figures ml_X8_108 im_X8_figures se_X8_figures rfl rfl ⟨⟨nle rfl, nle rfl⟩, nle rfl, nle rfl⟩ hm.1 rfl rfl rfl (nle rfl) ?_
              refine ct_X8_figures hm ((bj45 5 (by omega)).trans f5) b6_45 ((bf45 (m + 3) (by omega)).trans ft) hT (by omega) 0 0 11 rfl rfl rfl (by omega) (by omega) (by omega) (fun M46 hc46 b6_46 bv46 bo46 bF46 => ?_) (fun M46 e46 hn46 he46 b6_46 bF46 => ?_)
              · have fr46 := bF46
                refine kq_s ?_
                refine g_if_eq rfl L_X8_readsCommand_178 (fun h_28 => absurd h_28 (by decide)) (fun h_28 => ?_)
                refine g_aload_n rfl ?_
                refine g_iconst (v := 1) ik_1 ?_
                refine g_iconst (v := 0) ik_0 ?_
                refine g_bipush (v := 9) bk_9 ?_
                refine g_callV (as := [_, _, _]) mk_X8_figure ml_X8_99 im_X8_figure se_X8_figure rfl rfl ⟨⟨nle rfl, nle rfl⟩, nle rfl, nle rfl⟩ hm.1 rfl rfl rfl (nle rfl) ?_
                refine ct_X8_figure hm ((bF46.2 5 (by omega)).trans ((bj45 5 (by omega)).trans f5)) b6_46 ((bF46.1 (m + 3) (by omega) (by omega)).trans ((bf45 (m + 3) (by omega)).trans ft)) hT (by omega) 1 0 9 rfl rfl rfl (by omega) (by omega) (by omega) (fun hd47 M47 b4_47 b6_47 bF47 => ?_) (fun hd47 => ?_)
                · have hc47 : ∀ qs r, rdL t len qs (((p + 1) + 2) + 1) = r → rdL t len ((false, 0, 9) :: qs) ((p + 1) + 2) = r := fun qs r h => rd1y hd47 h
                  have bv47 : ∀ i, i < 1 → M47 (m + 4) (1 + i) = valL t [(false, 0, 9)] ((p + 1) + 2) i := fun i hi' => by
                    have hi0 : i = 0 := by omega
                    subst hi0
                    rw [b4_47]
                    exact upd_same
                  have bo47 : ∀ i, i < 1 → M47 (m + 4) i = M46 (m + 4) i := fun i hi' => by rw [b4_47, upd_ne (by omega)]
                  have fr47 := (fr46.tr bF47)
                  refine kq_s ?_
                  refine g_if_eq rfl L_X8_readsCommand_178 (fun h_29 => absurd h_29 (by decide)) (fun h_29 => ?_)
                  refine g_iconst (v := 1) ik_1 ?_
                  refine g_goto rfl L_X8_readsCommand_179 ?_
                  refine g_zret rfl rfl (nle rfl) (nle rfl) ?_
                  refine hY M47 _ [(true, 0, 11), (false, 0, 9)] ((rdC_yes hfl).trans (hc46 ((false, 0, 9) :: []) _ (hc47 ([]) _ (rfl)))) hfl b6_47 ((fr47.2 7 (by omega)).trans f7) ?_ (fC.tr fr47.u)
                  intro i hi
                  replace hi : i < 2 := hi
                  have hi2 : i = 0 ∨ i = 1 := by omega
                  rcases hi2 with rfl | rfl
                  · exact (bo47 _ (by omega)).trans (bv46 0 (by omega))
                  · exact bv47 0 (by omega)
                · have hn47 : ∀ qs, rdL t len ((false, 0, 9) :: qs) ((p + 1) + 2) = (false, ((p + 1) + 2)) := fun qs => rd1n hd47
                  refine kq_s ?_
                  refine g_if_eq rfl L_X8_readsCommand_178 (fun h_30 => ?_) (fun h_30 => absurd h_30 (by decide))
                  refine g_iconst (v := 0) ik_0 ?_
                  refine g_fall rfl L_X8_readsCommand_179 ?_
                  refine g_zret rfl rfl (nle rfl) (nle rfl) ?_
                  exact hN M46 ((p + 1) + 2) ((rdC_yes hfl).trans (hc46 ((false, 0, 9) :: []) _ (hn47 ([])))) b6_46 (fC.tr fr46.u)
              · have fr46 := bF46
                refine kq_s ?_
                refine g_if_eq rfl L_X8_readsCommand_178 (fun h_31 => ?_) (fun h_31 => absurd h_31 (by decide))
                refine g_iconst (v := 0) ik_0 ?_
                refine g_fall rfl L_X8_readsCommand_179 ?_
                refine g_zret rfl rfl (nle rfl) (nle rfl) ?_
                exact hN M46 e46 ((rdC_yes hfl).trans (hn46 ((false, 0, 9) :: []))) b6_46 (fC.tr fr46.u)
            · rw [sg_in hpl, hca] at hs45
              have hn108 : ¬ ch t p = 108 := fun q => hs45 (by rw [q]; rfl)
              refine kq_s ?_
              refine g_if_eq rfl L_X8_readsCommand_180 (fun h_32 => ?_) (fun h_32 => absurd h_32 (by decide))
              refine g_aload_n rfl ?_
              refine g_bipush (v := 120) bk_120 ?_
              refine g_callV (as := [_]) mk_X8_takesSign ml_X8_105 im_X8_takesSign se_X8_takesSign rfl rfl ⟨⟨nle rfl, nle rfl⟩, nle rfl, nle rfl⟩ hm.1 rfl rfl rfl (nle rfl) ?_
              refine ct_X8_takesSign hm f5 f6 ft hT (by omega) (fun hs48 M48 b6_48 bf48 bj48 => ?_) (fun hs48 => ?_)
              · rw [sg_in hpl, hca] at hs48
                have hcc : ch t p = 120 := (nI_eq (a := ch t p) (b := 120) (by omega) (by omega)).mp hs48
                have hfl : flds (ch t p) = some [(false, 0, 9)] := by rw [hcc]; rfl
                have fC48 : FrU M M48 m := fC.tr ⟨fun r a b => bf48 r a, fun j a b => bj48 j a⟩
                replace fC := fC48
                replace f7 : M48 m 7 = t p := (bj48 7 (by omega)).trans f7
                refine kq_s ?_
                refine g_if_ne rfl L_X8_readsCommand_198 (fun h_33 => ?_) (fun h_33 => absurd h_33 (by decide))
                refine g_aload_n rfl ?_
                refine g_iconst (v := 0) ik_0 ?_
                refine g_aload_n rfl ?_
                refine g_getI fl_X8_102 rfl hm.1 rfl ?_
                rw [f7]
                refine g_bipush (v := 120) bk_120 ?_
                refine g_icmp_ne rfl L_X8_readsCommand_213 (fun h_34 => absurd (hca.trans (by rw [hcc]; rfl)) h_34) (fun h_34 => ?_)
                refine g_iconst (v := 0) ik_0 ?_
                refine g_goto rfl L_X8_readsCommand_214 ?_
                refine g_bipush (v := 9) bk_9 ?_
                refine g_callV (as := [_, _, _]) mk_X8_figure ml_X8_99 im_X8_figure se_X8_figure rfl rfl ⟨⟨nle rfl, nle rfl⟩, nle rfl, nle rfl⟩ hm.1 rfl rfl rfl (nle rfl) ?_
                refine ct_X8_figure hm ((bj48 5 (by omega)).trans f5) b6_48 ((bf48 (m + 3) (by omega)).trans ft) hT (by omega) 0 0 9 rfl rfl rfl (by omega) (by omega) (by omega) (fun hd49 M49 b4_49 b6_49 bF49 => ?_) (fun hd49 => ?_)
                · have hc49 : ∀ qs r, rdL t len qs ((p + 1) + 1) = r → rdL t len ((false, 0, 9) :: qs) (p + 1) = r := fun qs r h => rd1y hd49 h
                  have bv49 : ∀ i, i < 1 → M49 (m + 4) (0 + i) = valL t [(false, 0, 9)] (p + 1) i := fun i hi' => by
                    have hi0 : i = 0 := by omega
                    subst hi0
                    rw [b4_49]
                    exact upd_same
                  have bo49 : ∀ i, i < 0 → M49 (m + 4) i = M48 (m + 4) i := fun i hi' => by rw [b4_49, upd_ne (by omega)]
                  have fr49 := bF49
                  refine kq_s ?_
                  refine g_zret rfl rfl (nle rfl) (nle rfl) ?_
                  refine hY M49 _ [(false, 0, 9)] ((rdC_yes hfl).trans (hc49 ([]) _ (rfl))) hfl b6_49 ((fr49.2 7 (by omega)).trans f7) ?_ (fC.tr fr49.u)
                  intro i hi
                  replace hi : i < 1 := hi
                  have hi2 : i = 0 := by omega
                  rcases hi2 with rfl
                  · exact bv49 0 (by omega)
                · have hn49 : ∀ qs, rdL t len ((false, 0, 9) :: qs) (p + 1) = (false, (p + 1)) := fun qs => rd1n hd49
                  refine kq_s ?_
                  refine g_zret rfl rfl (nle rfl) (nle rfl) ?_
                  exact hN M48 (p + 1) ((rdC_yes hfl).trans (hn49 ([]))) b6_48 (fC.tr (FrT.rf M48 m).u)
              · rw [sg_in hpl, hca] at hs48
                have hn120 : ¬ ch t p = 120 := fun q => hs48 (by rw [q]; rfl)
                refine kq_s ?_
                refine g_if_ne rfl L_X8_readsCommand_198 (fun h_35 => absurd h_35 (by decide)) (fun h_35 => ?_)
                refine g_aload_n rfl ?_
                refine g_bipush (v := 119) bk_119 ?_
                refine g_callV (as := [_]) mk_X8_takesSign ml_X8_105 im_X8_takesSign se_X8_takesSign rfl rfl ⟨⟨nle rfl, nle rfl⟩, nle rfl, nle rfl⟩ hm.1 rfl rfl rfl (nle rfl) ?_
                refine ct_X8_takesSign hm f5 f6 ft hT (by omega) (fun hs50 M50 b6_50 bf50 bj50 => ?_) (fun hs50 => ?_)
                · rw [sg_in hpl, hca] at hs50
                  have hcc : ch t p = 119 := (nI_eq (a := ch t p) (b := 119) (by omega) (by omega)).mp hs50
                  have hfl : flds (ch t p) = some [(false, 1, 9)] := by rw [hcc]; rfl
                  have fC50 : FrU M M50 m := fC.tr ⟨fun r a b => bf50 r a, fun j a b => bj50 j a⟩
                  replace fC := fC50
                  replace f7 : M50 m 7 = t p := (bj50 7 (by omega)).trans f7
                  refine kq_s ?_
                  refine g_if_eq rfl L_X8_readsCommand_220 (fun h_36 => absurd h_36 (by decide)) (fun h_36 => ?_)
                  refine g_fall rfl L_X8_readsCommand_198 ?_
                  refine g_aload_n rfl ?_
                  refine g_iconst (v := 0) ik_0 ?_
                  refine g_aload_n rfl ?_
                  refine g_getI fl_X8_102 rfl hm.1 rfl ?_
                  rw [f7]
                  refine g_bipush (v := 120) bk_120 ?_
                  refine g_icmp_ne rfl L_X8_readsCommand_213 (fun h_37 => ?_) (fun h_37 => absurd ((nI_eq (a := ch t p) (b := 120) (by omega) (by omega)).mp (hca.symm.trans h_37)) (by omega))
                  refine g_iconst (v := 1) ik_1 ?_
                  refine g_fall rfl L_X8_readsCommand_214 ?_
                  refine g_bipush (v := 9) bk_9 ?_
                  refine g_callV (as := [_, _, _]) mk_X8_figure ml_X8_99 im_X8_figure se_X8_figure rfl rfl ⟨⟨nle rfl, nle rfl⟩, nle rfl, nle rfl⟩ hm.1 rfl rfl rfl (nle rfl) ?_
                  refine ct_X8_figure hm ((bj50 5 (by omega)).trans f5) b6_50 ((bf50 (m + 3) (by omega)).trans ft) hT (by omega) 0 1 9 rfl rfl rfl (by omega) (by omega) (by omega) (fun hd51 M51 b4_51 b6_51 bF51 => ?_) (fun hd51 => ?_)
                  · have hc51 : ∀ qs r, rdL t len qs ((p + 1) + 1) = r → rdL t len ((false, 1, 9) :: qs) (p + 1) = r := fun qs r h => rd1y hd51 h
                    have bv51 : ∀ i, i < 1 → M51 (m + 4) (0 + i) = valL t [(false, 1, 9)] (p + 1) i := fun i hi' => by
                      have hi0 : i = 0 := by omega
                      subst hi0
                      rw [b4_51]
                      exact upd_same
                    have bo51 : ∀ i, i < 0 → M51 (m + 4) i = M50 (m + 4) i := fun i hi' => by rw [b4_51, upd_ne (by omega)]
                    have fr51 := bF51
                    refine kq_s ?_
                    refine g_zret rfl rfl (nle rfl) (nle rfl) ?_
                    refine hY M51 _ [(false, 1, 9)] ((rdC_yes hfl).trans (hc51 ([]) _ (rfl))) hfl b6_51 ((fr51.2 7 (by omega)).trans f7) ?_ (fC.tr fr51.u)
                    intro i hi
                    replace hi : i < 1 := hi
                    have hi2 : i = 0 := by omega
                    rcases hi2 with rfl
                    · exact bv51 0 (by omega)
                  · have hn51 : ∀ qs, rdL t len ((false, 1, 9) :: qs) (p + 1) = (false, (p + 1)) := fun qs => rd1n hd51
                    refine kq_s ?_
                    refine g_zret rfl rfl (nle rfl) (nle rfl) ?_
                    exact hN M50 (p + 1) ((rdC_yes hfl).trans (hn51 ([]))) b6_50 (fC.tr (FrT.rf M50 m).u)
                · rw [sg_in hpl, hca] at hs50
                  have hn119 : ¬ ch t p = 119 := fun q => hs50 (by rw [q]; rfl)
                  refine kq_s ?_
                  refine g_if_eq rfl L_X8_readsCommand_220 (fun h_38 => ?_) (fun h_38 => absurd h_38 (by decide))
                  refine g_aload_n rfl ?_
                  refine g_bipush (v := 100) bk_100 ?_
                  refine g_callV (as := [_]) mk_X8_takesSign ml_X8_105 im_X8_takesSign se_X8_takesSign rfl rfl ⟨⟨nle rfl, nle rfl⟩, nle rfl, nle rfl⟩ hm.1 rfl rfl rfl (nle rfl) ?_
                  refine ct_X8_takesSign hm f5 f6 ft hT (by omega) (fun hs52 M52 b6_52 bf52 bj52 => ?_) (fun hs52 => ?_)
                  · rw [sg_in hpl, hca] at hs52
                    have hcc : ch t p = 100 := (nI_eq (a := ch t p) (b := 100) (by omega) (by omega)).mp hs52
                    have hfl : flds (ch t p) = some [] := by rw [hcc]; rfl
                    have fC52 : FrU M M52 m := fC.tr ⟨fun r a b => bf52 r a, fun j a b => bj52 j a⟩
                    replace fC := fC52
                    replace f7 : M52 m 7 = t p := (bj52 7 (by omega)).trans f7
                    refine kq_s ?_
                    refine g_zret rfl rfl (nle rfl) (nle rfl) ?_
                    exact hY M52 (p + 1) [] ((rdC_yes hfl).trans rfl) hfl b6_52 f7 (fun i hi => absurd hi (Nat.not_lt_zero i)) fC
                  · rw [sg_in hpl, hca] at hs52
                    have hn100 : ¬ ch t p = 100 := fun q => hs52 (by rw [q]; rfl)
                    refine kq_s ?_
                    refine g_zret rfl rfl (nle rfl) (nle rfl) ?_
                    exact hN M1 p (rdC_no (by unfold flds; rw [if_neg hn102, if_neg hn116, if_neg hn99, if_neg hn112, if_neg (fun q => q.elim hn101 hn108), if_neg hn120, if_neg hn119, if_neg hn100])) f6 fC
