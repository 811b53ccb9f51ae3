theorem g_ab1 {X : Xs} {y : MI} {is : List (Instr × Nat)} {pc : Nat} {lo : Lo} {st : List Value} {nc ks : Nat} {M : Mem} {Q : Rs → Kp → Mem → Prop} {n o : Nat} {fl : Bool} {S : Nat → Option Sh} {sh1 : Sh} (kk : ∀ (S1 : Nat → Option Sh), S1 o = some sh1 → (∀ r, r ≠ o → S1 r = S r) → G X y is pc lo st nc ks (n, S1, fl) M Q) : G X y is pc lo st nc ks (n, upS S o sh1, fl) M Q := kk _ (upS_s _ _ _) (fun r h => upS_o _ _ _ h)
theorem IsTxt.st (S S' : Nat → Option Sh) (o : Nat) (h : ∀ r, o ≤ r → r < o + 3 → S' r = S r) (hP : IsTxt S o) : IsTxt S' o := ⟨(h _ (by omega) (by omega)).trans hP.1, (h _ (by omega) (by omega)).trans hP.2.1, (h _ (by omega) (by omega)).trans hP.2.2⟩
theorem IsHis.st (S S' : Nat → Option Sh) (o : Nat) (h : ∀ r, o ≤ r → r < o + 520 → S' r = S r) (hP : IsHis S o) : IsHis S' o := ⟨(h _ (by omega) (by omega)).trans hP.1, (h _ (by omega) (by omega)).trans hP.2.1, fun i hi => IsStu.st S S' _ (fun r a b => h r (by omega) (by omega)) (hP.2.2 i hi)⟩
theorem IsDF.st (S S' : Nat → Option Sh) (o : Nat) (h : ∀ r, o ≤ r → r < o + 674 → S' r = S r) (hP : IsDF S o) : IsDF S' o := by
  obtain ⟨a1, a2, a3, a4, a5, a6, a7, a8⟩ := hP
  exact ⟨(h _ (by omega) (by omega)).trans a1, IsTxt.st S S' _ (fun r a b => h r (by omega) (by omega)) a2, IsStu.st S S' _ (fun r a b => h r (by omega) (by omega)) a3, IsStu.st S S' _ (fun r a b => h r (by omega) (by omega)) a4, IsHis.st S S' _ (fun r a b => h r (by omega) (by omega)) a5, (h _ (by omega) (by omega)).trans a6, fun i hi => IsStu.st S S' _ (fun r a b => h r (by omega) (by omega)) (a7 i hi), (h _ (by omega) (by omega)).trans a8⟩
theorem sf_new {M : Mem} {o : Nat} (h : ∀ s, RepS M o 0 0 0 0 (neS s)) (h2 : M o 12 = 0) (s : Nat → Int32) : SF 0 M o (neS s) := ⟨0, 0, 0, 0, h s, inv_ne 0 s, by rw [h2]; rfl⟩
set_option maxRecDepth 100000 in
set_option maxHeartbeats 2000000 in
theorem ct_X2_init {X : Xs} {S : Nat → Option Sh} {M : Mem} {Q : Rs → Kp → Mem → Prop} {o : Nat} (hs : S o = some (2, 3, [1, 0, 0])) (hQ : ∀ (S' : Nat → Option Sh) (M' : Mem), (∀ r, r < o → S' r = S r) → IsHis S' o → (∀ r, r ≤ o → M' r = M r) → Q (.inl none) (o + 519, S', true) M') : Ct X m_X2_init [.ref o] (o, S, true) M Q := by
  refine ct_of B_X2_init_0 pn_X2 rfl (nle rfl) L_X2_init_0 ?_
  refine g_aload_n rfl ?_
  refine g_objI ml_X2_3 obj_im obj_cd rfl (nle rfl) (nle rfl) ?_
  refine g_aload_n rfl ?_
  refine g_bipush (v := 14) bk_14 ?_
  refine g_anewarray (N := 14) aw_X2_9 rfl rfl (by decide) rfl (nle rfl) (nle rfl) ?_
  refine g_putR pl_X2_11 rfl rfl ((upS_o _ _ _ (by show o ≠ o + 1; omega)).trans hs) (fun _ => rfl) (fun _ => rfl) ?_
  refine g_ab (by show o + 1 ≠ o; omega) (fun S1 M1 a1 a2 a3 a4 a5 => ?_)
  refine g_iconst (v := 0) ik_0 ?_
  refine g_istore_n (nle rfl) ?_
  refine g_fall rfl L_X2_init_15 ?_
  refine g_lo2 (lo' := [(0, some (.ref o)), (1, some (.int (nI (0))))]) ?_ ⟨rfl, rfl, trivial⟩
  refine loop_up (P := fun k => ∀ (Sl : Nat → Option Sh) (Ml : Mem), Fl (20 + 4) 14 37 (o + 1) k S1 Sl M1 Ml IsStu → G X m_X2_init B_X2_init_15 15 [(0, some (.ref o)), (1, some (.int (nI (k))))] [] (1 + 37 * k) (14 + 211 * k) (o + 1 + 37 * k, Sl, true) Ml Q) 14 (fun k hk ih Sl Ml hF => ?_) 0 (Nat.zero_le _) S1 M1 (Fl.nil a2)
  have hsL := (hF.1 o (by omega)).trans a1
  refine g_iload_n rfl ?_
  refine g_bipush (v := 14) bk_14 ?_
  refine g_icmp_ge rfl L_X2_init_40 (fun h => ?_) (fun h => ?_)
  rotate_left
  · have hlt : k < 14 := (cmp_ge (c := 14) rfl (nle rfl) hk).2 h
    obtain ⟨cs, hc1, hc2, hc3⟩ := hF.2.1
    refine g_aload_n rfl ?_
    refine g_getR (w := o + 1) fl_X2_11 rfl hsL rfl ?_
    refine g_iload_n rfl ?_
    refine g_new nw_X2_9 rfl rfl (by show 1 + 37 * k + 1 ≤ 519; omega) (by show 14 + 211 * k + 14 ≤ 2968; omega) ?_
    refine g_dup rfl ?_
    refine g_callI (as := []) mk_X4_init ml_X2_17 im_X4_init rfl rfl rfl rfl ⟨⟨nle rfl, nle rfl⟩, by show 1 + 37 * k + 1 + 36 ≤ 519; omega, by show 14 + 211 * k + 14 + 197 ≤ 2968; omega⟩ rfl rfl (nle rfl) ?_
    refine ct_X4_init (upS_s _ _ _) (fun S' M' h1 h2 h3 h4 h5 => ?_)
    refine kq_n ?_
    have hca : S' (o + 1) = some (20 + 4, 14, cs) := (h1 _ (by show o + 1 < o + 1 + 37 * k + 1; omega)).trans ((upS_o _ _ _ (by show o + 1 ≠ o + 1 + 37 * k + 1; omega)).trans hc1)
    refine g_aastore (j := k) (ci := 4) hca h3.1 (by decide) hc2 rfl hlt (nle rfl) ?_
    refine g_iinc (v := nI (k + 1)) rfl (nI_inc _) (nle rfl) ?_
    refine g_goto rfl L_X2_init_15 ?_
    have e := ih hlt _ _ (Fl.step IsStu.st hF hlt (by decide) (fun r hr => (h1 r (by show r < o + 1 + 37 * k + 1; omega)).trans (upS_o _ _ _ (by show r ≠ o + 1 + 37 * k + 1; omega))) (fun r hr => (h2 r (by show r < o + 1 + 37 * k + 1; omega)).trans (funext fun j => zM_o _ _ (by show r ≠ o + 1 + 37 * k + 1; omega) j)) h3 hc1)
    rw [show o + 1 + 37 * (k + 1) = o + 1 + 37 * k + 1 + 36 by omega] at e
    exact g_widen (by show 1 + 37 * k + 1 + 36 ≤ 1 + 37 * (k + 1); omega) (by show 14 + 211 * k + 14 + 197 ≤ 14 + 211 * (k + 1); omega) (g_lo2 e ⟨rfl, rfl, trivial⟩)
  have hkN := (cmp_ge (c := 14) rfl (nle rfl) hk).1 h
  subst hkN
  show G X m_X2_init _ _ _ _ (519) (2968) (o + 519, Sl, true) Ml Q
  have hka := hF.fin37
  have hke : ∀ i, i < 14 → IsStu Sl (o + 2 + 37 * i) := fun i hi => by
    have := hF.2.2.1 i hi
    rw [show o + 1 + 37 * i + 1 = o + 2 + 37 * i by omega] at this
    exact this
  refine g_vret rfl (nle rfl) (nle rfl) ?_
  exact hQ Sl Ml (fun r hr => (hF.1 r (by omega)).trans (a3 r (by omega) (by show r ≠ o + 1; omega))) ⟨hsL, hka, hke⟩ (fun r hr => (hF.2.2.2 r (by omega)).trans (a4 r (by show r ≠ o + 1; omega)))
set_option maxRecDepth 100000 in
set_option maxHeartbeats 2000000 in
theorem ct_X7_init {X : Xs} {S : Nat → Option Sh} {M : Mem} {Q : Rs → Kp → Mem → Prop} {x : Nat} (hs : S x = some (7, 6, [1, 1, 1, 1, 1, 1])) (hQ : ∀ (S' : Nat → Option Sh) (M' : Mem), (∀ r, r < x → S' r = S r) → IsDF S' x → (∀ r, r < x → M' r = M r) → (∀ s, SF 0 M' (x + 4) (neS s)) → M' (x + 78) = (fun _ => 0) → (∀ j, M' (x + 1) j = 0) → (∀ j, M' (x + 1 + 1) j = 0) → (∀ j, M' (x + 673) j = 0) → Q (.inl none) (x + 673, S', true) M') : Ct X m_X7_init [.ref x] (x, S, true) M Q := by
  refine ct_of B_X7_init_0 pn_X7 rfl (nle rfl) L_X7_init_0 ?_
  refine g_aload_n rfl ?_
  refine g_objI ml_X7_1 obj_im obj_cd rfl (nle rfl) (nle rfl) ?_
  refine g_aload_n rfl ?_
  refine g_new nw_X7_7 rfl rfl (nle rfl) (nle rfl) ?_
  refine g_dup rfl ?_
  refine g_callI (as := []) mk_X6_init ml_X7_9 im_X6_init rfl rfl rfl rfl ⟨⟨nle rfl, nle rfl⟩, nle rfl, nle rfl⟩ rfl rfl (nle rfl) ?_
  show Ct X m_X6_init [.ref (x + 1)] (x + 1, upS S (x + 1) _, true) (zM M (x + 1)) _
  refine ct_X6_init (upS_s _ _ _) (fun A0 M0 i01 i02 i03 i04 => ?_)
  refine kq_n ?_
  show G X m_X7_init _ _ _ _ (3) (132) (x + 3, A0, true) M0 Q
  have b0 : ∀ r, r < x + 1 → A0 r = S r := fun r hr => (i01 r hr).trans (upS_o _ _ _ (by omega))
  have c0 : ∀ r, r < x + 1 → M0 r = M r := fun r hr => (i03 r (by omega)).trans (funext fun j => zM_o _ _ (by omega) j)
  refine g_putR pl_X7_10 rfl rfl ((b0 x (by omega)).trans hs) (fun _ => rfl) (fun _ => rfl) ?_
  refine g_ab1 (fun S0 p01 p02 => ?_)
  refine g_aload_n rfl ?_
  refine g_new nw_X7_16 rfl rfl (nle rfl) (nle rfl) ?_
  refine g_dup rfl ?_
  refine g_callI (as := []) mk_X4_init ml_X7_18 im_X4_init rfl rfl rfl rfl ⟨⟨nle rfl, nle rfl⟩, nle rfl, nle rfl⟩ rfl rfl (nle rfl) ?_
  show Ct X m_X4_init [.ref (x + 4)] (x + 4, upS S0 (x + 4) _, true) (zM M0 (x + 4)) _
  refine ct_X4_init (upS_s _ _ _) (fun A1 M1 i11 i13 i12 i14 i15 => ?_)
  refine kq_n ?_
  show G X m_X7_init _ _ _ _ (40) (343) (x + 40, A1, true) M1 Q
  have b1 : ∀ r, r < x + 4 → A1 r = S0 r := fun r hr => (i11 r hr).trans (upS_o _ _ _ (by omega))
  have c1 : ∀ r, r < x + 4 → M1 r = M0 r := fun r hr => (i13 r (by omega)).trans (funext fun j => zM_o _ _ (by omega) j)
  refine g_putR pl_X7_19 rfl rfl ((b1 x (by omega)).trans p01) (fun _ => rfl) (fun _ => rfl) ?_
  refine g_ab1 (fun S1 p11 p12 => ?_)
  refine g_aload_n rfl ?_
  refine g_new nw_X7_16 rfl rfl (nle rfl) (nle rfl) ?_
  refine g_dup rfl ?_
  refine g_callI (as := []) mk_X4_init ml_X7_18 im_X4_init rfl rfl rfl rfl ⟨⟨nle rfl, nle rfl⟩, nle rfl, nle rfl⟩ rfl rfl (nle rfl) ?_
  show Ct X m_X4_init [.ref (x + 41)] (x + 41, upS S1 (x + 41) _, true) (zM M1 (x + 41)) _
  refine ct_X4_init (upS_s _ _ _) (fun A2 M2 i21 i23 i22 i24 i25 => ?_)
  refine kq_n ?_
  show G X m_X7_init _ _ _ _ (77) (554) (x + 77, A2, true) M2 Q
  have b2 : ∀ r, r < x + 41 → A2 r = S1 r := fun r hr => (i21 r hr).trans (upS_o _ _ _ (by omega))
  have c2 : ∀ r, r < x + 41 → M2 r = M1 r := fun r hr => (i23 r (by omega)).trans (funext fun j => zM_o _ _ (by omega) j)
  refine g_putR pl_X7_23 rfl rfl ((b2 x (by omega)).trans p11) (fun _ => rfl) (fun _ => rfl) ?_
  refine g_ab1 (fun S2 p21 p22 => ?_)
  refine g_aload_n rfl ?_
  refine g_new nw_X7_26 rfl rfl (nle rfl) (nle rfl) ?_
  refine g_dup rfl ?_
  refine g_callI (as := []) mk_X2_init ml_X7_28 im_X2_init rfl rfl rfl rfl ⟨⟨nle rfl, nle rfl⟩, nle rfl, nle rfl⟩ rfl rfl (nle rfl) ?_
  show Ct X m_X2_init [.ref (x + 78)] (x + 78, upS S2 (x + 78) _, true) (zM M2 (x + 78)) _
  refine ct_X2_init (upS_s _ _ _) (fun A3 M3 i31 i32 i33 => ?_)
  refine kq_n ?_
  show G X m_X7_init _ _ _ _ (597) (3525) (x + 597, A3, true) M3 Q
  have b3 : ∀ r, r < x + 78 → A3 r = S2 r := fun r hr => (i31 r hr).trans (upS_o _ _ _ (by omega))
  have c3 : ∀ r, r < x + 78 → M3 r = M2 r := fun r hr => (i33 r (by omega)).trans (funext fun j => zM_o _ _ (by omega) j)
  refine g_putR pl_X7_29 rfl rfl ((b3 x (by omega)).trans p21) (fun _ => rfl) (fun _ => rfl) ?_
  refine g_ab1 (fun S3 p31 p32 => ?_)
  refine g_aload_n rfl ?_
  refine g_iconst (v := 2) ik_2 ?_
  refine g_anewarray (N := 2) aw_X7_16 rfl rfl (by decide) rfl (nle rfl) (nle rfl) ?_
  show G X m_X7_init _ _ _ _ (598) (3527) (x + 598, upS S3 (x + 598) (20 + 4, 2, List.replicate 2 1), true) (zM M3 (x + 598)) Q
  refine g_putR pl_X7_33 rfl rfl ((upS_o _ _ _ (by omega)).trans p31) (fun _ => rfl) (fun _ => rfl) ?_
  refine g_ab (by omega) (fun S4 M4 p41 p42 p43 p44 p45 => ?_)
  refine g_iconst (v := 0) ik_0 ?_
  refine g_istore_n (nle rfl) ?_
  refine g_fall rfl L_X7_init_58 ?_
  refine g_lo2 (lo' := [(0, some (.ref x)), (1, some (.int (nI (0))))]) ?_ ⟨rfl, rfl, trivial⟩
  refine loop_up (P := fun k => ∀ (Sl : Nat → Option Sh) (Ml : Mem), Fl (20 + 4) 2 37 (x + 598) k S4 Sl M4 Ml IsStu → G X m_X7_init B_X7_init_58 58 [(0, some (.ref x)), (1, some (.int (nI (k))))] [] (598 + 37 * k) (3527 + 211 * k) (x + 598 + 37 * k, Sl, true) Ml Q) 2 (fun k hk ih Sl Ml hF => ?_) 0 (Nat.zero_le _) S4 M4 (Fl.nil p42)
  have hsL := (hF.1 x (by omega)).trans p41
  refine g_iload_n rfl ?_
  refine g_iconst (v := 2) ik_2 ?_
  refine g_icmp_ge rfl L_X7_init_82 (fun h => ?_) (fun h => ?_)
  rotate_left
  · have hlt : k < 2 := (cmp_ge (c := 2) rfl (nle rfl) hk).2 h
    obtain ⟨cs, hc1, hc2, hc3⟩ := hF.2.1
    refine g_aload_n rfl ?_
    refine g_getR (w := x + 598) fl_X7_33 rfl hsL rfl ?_
    refine g_iload_n rfl ?_
    refine g_new nw_X7_16 rfl rfl (by show 598 + 37 * k + 1 ≤ 673; omega) (by show 3527 + 211 * k + 14 ≤ 3951; omega) ?_
    refine g_dup rfl ?_
    refine g_callI (as := []) mk_X4_init ml_X7_18 im_X4_init rfl rfl rfl rfl ⟨⟨nle rfl, nle rfl⟩, by show 598 + 37 * k + 1 + 36 ≤ 673; omega, by show 3527 + 211 * k + 14 + 197 ≤ 3951; omega⟩ rfl rfl (nle rfl) ?_
    refine ct_X4_init (upS_s _ _ _) (fun S' M' h1 h2 h3 h4 h5 => ?_)
    refine kq_n ?_
    have hca : S' (x + 598) = some (20 + 4, 2, cs) := (h1 _ (by show x + 598 < x + 598 + 37 * k + 1; omega)).trans ((upS_o _ _ _ (by show x + 598 ≠ x + 598 + 37 * k + 1; omega)).trans hc1)
    refine g_aastore (j := k) (ci := 4) hca h3.1 (by decide) hc2 rfl hlt (nle rfl) ?_
    refine g_iinc (v := nI (k + 1)) rfl (nI_inc _) (nle rfl) ?_
    refine g_goto rfl L_X7_init_58 ?_
    have e := ih hlt _ _ (Fl.step IsStu.st hF hlt (by decide) (fun r hr => (h1 r (by show r < x + 598 + 37 * k + 1; omega)).trans (upS_o _ _ _ (by show r ≠ x + 598 + 37 * k + 1; omega))) (fun r hr => (h2 r (by show r < x + 598 + 37 * k + 1; omega)).trans (funext fun j => zM_o _ _ (by show r ≠ x + 598 + 37 * k + 1; omega) j)) h3 hc1)
    rw [show x + 598 + 37 * (k + 1) = x + 598 + 37 * k + 1 + 36 by omega] at e
    exact g_widen (by show 598 + 37 * k + 1 + 36 ≤ 598 + 37 * (k + 1); omega) (by show 3527 + 211 * k + 14 + 197 ≤ 3527 + 211 * (k + 1); omega) (g_lo2 e ⟨rfl, rfl, trivial⟩)
  have hkN := (cmp_ge (c := 2) rfl (nle rfl) hk).1 h
  subst hkN
  show G X m_X7_init _ _ _ _ (672) (3949) (x + 672, Sl, true) Ml Q
  have hka := hF.fin37
  have hke : ∀ i, i < 2 → IsStu Sl (x + 599 + 37 * i) := fun i hi => by
    have := hF.2.2.1 i hi
    rw [show x + 598 + 37 * i + 1 = x + 599 + 37 * i by omega] at this
    exact this
  refine g_aload_n rfl ?_
  refine g_iconst (v := 2) ik_2 ?_
  refine g_newarray (tag := 18) (N := 2) ac_boolean ⟨by decide, by decide⟩ rfl rfl (by decide) rfl (nle rfl) (nle rfl) ?_
  show G X m_X7_init _ _ _ _ (673) (3951) (x + 673, upS Sl (x + 673) (18, 2, []), true) (zM Ml (x + 673)) Q
  refine g_putR pl_X7_37 rfl rfl ((upS_o _ _ _ (by omega)).trans hsL) (fun _ => rfl) (fun _ => rfl) ?_
  refine g_ab (by omega) (fun S5 M5 p51 p52 p53 p54 p55 => ?_)
  refine g_vret rfl (nle rfl) (nle rfl) ?_
  have z4 : ∀ r, r ≠ x → r < x + 598 → S5 r = S3 r := fun r h1 h2 => (p53 r h1 (by omega)).trans ((hF.1 r h2).trans (p43 r h1 (by omega)))
  have z3 : ∀ r, r ≠ x → r < x + 598 → S5 r = A3 r := fun r h1 h2 => (z4 r h1 h2).trans (p32 r h1)
  have z2 : ∀ r, r ≠ x → r < x + 78 → S5 r = A2 r := fun r h1 h2 => (z3 r h1 (by omega)).trans ((b3 r h2).trans (p22 r h1))
  have z1 : ∀ r, r ≠ x → r < x + 41 → S5 r = A1 r := fun r h1 h2 => (z2 r h1 (by omega)).trans ((b2 r h2).trans (p12 r h1))
  have z0 : ∀ r, r ≠ x → r < x + 4 → S5 r = A0 r := fun r h1 h2 => (z1 r h1 (by omega)).trans ((b1 r h2).trans (p02 r h1))
  have zz : ∀ r, r < x → S5 r = S r := fun r h => (z0 r (by omega) (by omega)).trans (b0 r (by omega))
  have y3 : ∀ r, r < x + 598 → M5 r = M3 r := fun r h => (p54 r (by omega)).trans ((hF.2.2.2 r h).trans (p44 r (by omega)))
  have y2 : ∀ r, r < x + 78 → M5 r = M2 r := fun r h => (y3 r (by omega)).trans (c3 r h)
  have y1 : ∀ r, r < x + 41 → M5 r = M1 r := fun r h => (y2 r (by omega)).trans (c2 r h)
  have y0 : ∀ r, r < x + 4 → M5 r = M0 r := fun r h => (y1 r (by omega)).trans (c1 r h)
  have yy : ∀ r, r < x → M5 r = M r := fun r h => (y0 r (by omega)).trans (c0 r (by omega))
  have hka5 : S5 (x + 598) = some (24, 2, rcs37 (x + 599) 2) := (p53 _ (by omega) (by omega)).trans hka
  refine hQ S5 M5 zz ⟨p51, IsTxt.st A0 S5 _ (fun r h1 h2 => z0 r (by omega) (by omega)) i02, IsStu.st A1 S5 _ (fun r h1 h2 => z1 r (by omega) (by omega)) i12, IsStu.st A2 S5 _ (fun r h1 h2 => z2 r (by omega) (by omega)) i22, IsHis.st A3 S5 _ (fun r h1 h2 => z3 r (by omega) (by omega)) i32, hka5, fun i hi => IsStu.st Sl S5 _ (fun r h1 h2 => p53 r (by omega) (by omega)) (hke i hi), p52⟩ yy (fun s => ?_) ?_ (fun j => ?_) (fun j => ?_) p55
  · exact (sf_new i14 i15 s).fr fun r h1 h2 => y1 r (by omega)
  · funext j
    rw [y3 _ (by omega), i33 _ (Nat.le_refl _)]; exact zM_s _ _ _
  · rw [y0 _ (by omega), i03 _ (Nat.le_refl _)]; exact zM_s _ _ _
  · rw [y0 _ (by omega)]; exact i04 j
