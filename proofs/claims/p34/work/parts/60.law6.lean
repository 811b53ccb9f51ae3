set_option maxRecDepth 100000 in
set_option maxHeartbeats 2000000 in
theorem ct_X4_init {X : Xs} {S : Nat → Option Sh} {M : Mem} {Q : Rs → Kp → Mem → Prop} {o : Nat} (hs : S o = some (4, 14, [1, 1, 1, 1, 1, 0, 0, 0, 0, 0, 0, 0, 0, 0])) (hQ : ∀ (S' : Nat → Option Sh) (M' : Mem), (∀ r, r < o → S' r = S r) → (∀ r, r < o → M' r = M r) → IsStu S' o → (∀ s, RepS M' o 0 0 0 0 (neS s)) → M' o 12 = 0 → Q (.inl none) (o + 36, S', true) M') : Ct X m_X4_init [.ref o] (o, S, true) M Q := by
  refine ct_of B_X4_init_0 pn_X4 rfl (nle rfl) L_X4_init_0 ?_
  refine g_aload_n rfl ?_
  refine g_objI ml_X4_3 obj_im obj_cd rfl (nle rfl) (nle rfl) ?_
  refine g_aload_n rfl ?_
  refine g_iconst (v := 4) ik_4 ?_
  refine g_anewarray (N := 4) aw_X4_9 rfl rfl (by decide) rfl (by show 0 + 1 ≤ 36; omega) (by show 0 + 4 ≤ 197; omega) ?_
  show G X m_X4_init _ _ _ _ (1) (4) (o + 1, upS S (o + 1) (20 + 1, 4, List.replicate 4 1), true) (zM M (o + 1)) Q
  refine g_putR pl_X4_11 rfl rfl ((upS_o _ _ _ (by omega)).trans hs) (fun _ => rfl) (fun _ => rfl) ?_
  refine g_ab (by omega) (fun S0a M0a p01 p02 p03 p04 p05 => ?_)
  have fS0 : ∀ r, r < o → S0a r = S r := fun r hr => (p03 r (by omega) (by omega)).trans rfl
  have fM0 : ∀ r, r < o → M0a r = M r := fun r hr => (p04 r (by omega)).trans rfl
  refine g_iconst (v := 0) ik_0 ?_
  refine g_istore_n (nle rfl) ?_
  refine g_fall rfl L_X4_init_14 ?_
  refine g_lo2 (lo' := [(0, some (.ref o)), (1, some (.int (nI (0))))]) ?_ ⟨rfl, rfl, trivial⟩
  refine loop_up (P := fun k => ∀ (S0b : Nat → Option Sh) (M0b : Mem), Fl (20 + 1) 4 1 (o + 1) k S0a S0b M0a M0b (LfP floSh) → G X m_X4_init B_X4_init_14 14 [(0, some (.ref o)), (1, some (.int (nI (k))))] [] (1 + 1 * k) (4 + 4 * k) (o + 1 + 1 * k, S0b, true) M0b Q) 4 (fun k hk ih S0b M0b hF0 => ?_) 0 (Nat.zero_le _) S0a M0a (Fl.nil p02)
  have hs0 := (hF0.1 o (by omega)).trans p01
  refine g_iload_n rfl ?_
  refine g_iconst (v := 4) ik_4 ?_
  refine g_icmp_ge rfl L_X4_init_38 (fun h => ?_) (fun h => ?_)
  rotate_left
  · have hlt : k < 4 := (cmp_ge (c := 4) rfl (nle rfl) hk).2 h
    obtain ⟨cs, hc1, hc2, hc3⟩ := hF0.2.1
    refine g_aload_n rfl ?_
    refine g_getR (w := o + 1) fl_X4_11 rfl hs0 rfl ?_
    refine g_iload_n rfl ?_
    refine g_new nw_X4_9 rfl rfl (by show 1 + 1 * k + 1 ≤ 36; omega) (by show 4 + 4 * k + 4 ≤ 197; omega) ?_
    refine g_dup rfl ?_
    refine g_callIN (host := RX7) (as := []) mk_X1_init (List.mem_of_getElem? (i := 0) rfl) im_X1_init rfl rfl rfl rfl ⟨⟨nle rfl, nle rfl⟩, by show 1 + 1 * k + 1 + 0 ≤ 36; omega, by show 4 + 4 * k + 4 + 0 ≤ 197; omega⟩ rfl rfl (nle rfl) ?_
    refine ct_X1_init ?_
    refine kq_n ?_
    refine g_aastore (j := k) (ci := 1) ((upS_o _ _ _ (by show o + 1 ≠ o + 1 + 1 * k + 1; omega)).trans hc1) (upS_s _ _ _) (by decide) hc2 rfl hlt (nle rfl) ?_
    refine g_iinc (v := nI (k + 1)) rfl (nI_inc _) (nle rfl) ?_
    refine g_goto rfl L_X4_init_14 ?_
    exact g_widen (by show 1 + 1 * k + 1 + 0 ≤ 1 + 1 * (k + 1); omega) (by show 4 + 4 * k + 4 + 0 ≤ 4 + 4 * (k + 1); omega) (g_lo2 (ih hlt _ _ (Fl.step (LfP.st _) hF0 hlt (by decide) (fun r hr => upS_o _ _ _ (by show r ≠ o + 1 + 1 * k + 1; omega)) (fun r hr => funext fun j => zM_o _ _ (by show r ≠ o + 1 + 1 * k + 1; omega) j) (upS_s _ _ _) hc1)) ⟨rfl, rfl, trivial⟩)
  have hkN := (cmp_ge (c := 4) rfl (nle rfl) hk).1 h
  subst hkN
  show G X m_X4_init _ _ _ _ (5) (20) (o + 5, S0b, true) M0b Q
  have ka0 := hF0.fin1
  have ke0 : ∀ i, i < 4 → S0b (o + 2 + i) = some floSh := fun i hi => by
    have := hF0.2.2.1 i hi
    rw [show o + 1 + 1 * i + 1 = o + 2 + i by omega] at this
    exact this
  have eS0 : ∀ r, r < o → S0b r = S r := fun r hr => (hF0.1 r (by omega)).trans (fS0 r hr)
  have eM0 : ∀ r, r < o → M0b r = M r := fun r hr => (hF0.2.2.2 r (by omega)).trans (fM0 r hr)
  refine g_aload_n rfl ?_
  refine g_iconst (v := 5) ik_5 ?_
  refine g_anewarray (N := 5) aw_X4_18 rfl rfl (by decide) rfl (by show 5 + 1 ≤ 36; omega) (by show 20 + 5 ≤ 197; omega) ?_
  show G X m_X4_init _ _ _ _ (6) (25) (o + 6, upS S0b (o + 6) (20 + 5, 5, List.replicate 5 1), true) (zM M0b (o + 6)) Q
  refine g_putR pl_X4_20 rfl rfl ((upS_o _ _ _ (by omega)).trans hs0) (fun _ => rfl) (fun _ => rfl) ?_
  refine g_ab (by omega) (fun S1a M1a p11 p12 p13 p14 p15 => ?_)
  have ka01a := (p13 (o + 1) (by omega) (by omega)).trans ka0
  have ke01a : ∀ i, i < 4 → S1a (o + 2 + i) = some floSh := fun i hi => (p13 _ (by omega) (by omega)).trans (ke0 i hi)
  have fS1 : ∀ r, r < o → S1a r = S r := fun r hr => (p13 r (by omega) (by omega)).trans (eS0 r hr)
  have fM1 : ∀ r, r < o → M1a r = M r := fun r hr => (p14 r (by omega)).trans (eM0 r hr)
  refine g_iconst (v := 0) ik_0 ?_
  refine g_istore_n (nle rfl) ?_
  refine g_fall rfl L_X4_init_48 ?_
  refine g_lo2 (lo' := [(0, some (.ref o)), (1, some (.int (nI (0))))]) ?_ ⟨rfl, rfl, trivial⟩
  refine loop_up (P := fun k => ∀ (S1b : Nat → Option Sh) (M1b : Mem), Fl (20 + 5) 5 1 (o + 6) k S1a S1b M1a M1b (LfP teaSh) → G X m_X4_init B_X4_init_48 48 [(0, some (.ref o)), (1, some (.int (nI (k))))] [] (6 + 1 * k) (25 + 2 * k) (o + 6 + 1 * k, S1b, true) M1b Q) 5 (fun k hk ih S1b M1b hF1 => ?_) 0 (Nat.zero_le _) S1a M1a (Fl.nil p12)
  have hs1 := (hF1.1 o (by omega)).trans p11
  refine g_iload_n rfl ?_
  refine g_iconst (v := 5) ik_5 ?_
  refine g_icmp_ge rfl L_X4_init_72 (fun h => ?_) (fun h => ?_)
  rotate_left
  · have hlt : k < 5 := (cmp_ge (c := 5) rfl (nle rfl) hk).2 h
    obtain ⟨cs, hc1, hc2, hc3⟩ := hF1.2.1
    refine g_aload_n rfl ?_
    refine g_getR (w := o + 6) fl_X4_20 rfl hs1 rfl ?_
    refine g_iload_n rfl ?_
    refine g_new nw_X4_18 rfl rfl (by show 6 + 1 * k + 1 ≤ 36; omega) (by show 25 + 2 * k + 2 ≤ 197; omega) ?_
    refine g_dup rfl ?_
    refine g_callIN (host := RX7) (as := []) mk_X5_init (List.mem_of_getElem? (i := 1) rfl) im_X5_init rfl rfl rfl rfl ⟨⟨nle rfl, nle rfl⟩, by show 6 + 1 * k + 1 + 0 ≤ 36; omega, by show 25 + 2 * k + 2 + 0 ≤ 197; omega⟩ rfl rfl (nle rfl) ?_
    refine ct_X5_init ?_
    refine kq_n ?_
    refine g_aastore (j := k) (ci := 5) ((upS_o _ _ _ (by show o + 6 ≠ o + 6 + 1 * k + 1; omega)).trans hc1) (upS_s _ _ _) (by decide) hc2 rfl hlt (nle rfl) ?_
    refine g_iinc (v := nI (k + 1)) rfl (nI_inc _) (nle rfl) ?_
    refine g_goto rfl L_X4_init_48 ?_
    exact g_widen (by show 6 + 1 * k + 1 + 0 ≤ 6 + 1 * (k + 1); omega) (by show 25 + 2 * k + 2 + 0 ≤ 25 + 2 * (k + 1); omega) (g_lo2 (ih hlt _ _ (Fl.step (LfP.st _) hF1 hlt (by decide) (fun r hr => upS_o _ _ _ (by show r ≠ o + 6 + 1 * k + 1; omega)) (fun r hr => funext fun j => zM_o _ _ (by show r ≠ o + 6 + 1 * k + 1; omega) j) (upS_s _ _ _) hc1)) ⟨rfl, rfl, trivial⟩)
  have hkN := (cmp_ge (c := 5) rfl (nle rfl) hk).1 h
  subst hkN
  show G X m_X4_init _ _ _ _ (11) (35) (o + 11, S1b, true) M1b Q
  have ka01ab := (hF1.1 (o + 1) (by omega)).trans ka01a
  have ke01ab : ∀ i, i < 4 → S1b (o + 2 + i) = some floSh := fun i hi => (hF1.1 _ (by omega)).trans (ke01a i hi)
  have ka1 := hF1.fin1
  have ke1 : ∀ i, i < 5 → S1b (o + 7 + i) = some teaSh := fun i hi => by
    have := hF1.2.2.1 i hi
    rw [show o + 6 + 1 * i + 1 = o + 7 + i by omega] at this
    exact this
  have eS1 : ∀ r, r < o → S1b r = S r := fun r hr => (hF1.1 r (by omega)).trans (fS1 r hr)
  have eM1 : ∀ r, r < o → M1b r = M r := fun r hr => (hF1.2.2.2 r (by omega)).trans (fM1 r hr)
  refine g_aload_n rfl ?_
  refine g_bipush (v := 10) bk_10 ?_
  refine g_anewarray (N := 10) aw_X4_25 rfl rfl (by decide) rfl (by show 11 + 1 ≤ 36; omega) (by show 35 + 10 ≤ 197; omega) ?_
  show G X m_X4_init _ _ _ _ (12) (45) (o + 12, upS S1b (o + 12) (20 + 3, 10, List.replicate 10 1), true) (zM M1b (o + 12)) Q
  refine g_putR pl_X4_27 rfl rfl ((upS_o _ _ _ (by omega)).trans hs1) (fun _ => rfl) (fun _ => rfl) ?_
  refine g_ab (by omega) (fun S2a M2a p21 p22 p23 p24 p25 => ?_)
  have ka01ab2a := (p23 (o + 1) (by omega) (by omega)).trans ka01ab
  have ke01ab2a : ∀ i, i < 4 → S2a (o + 2 + i) = some floSh := fun i hi => (p23 _ (by omega) (by omega)).trans (ke01ab i hi)
  have ka12a := (p23 (o + 6) (by omega) (by omega)).trans ka1
  have ke12a : ∀ i, i < 5 → S2a (o + 7 + i) = some teaSh := fun i hi => (p23 _ (by omega) (by omega)).trans (ke1 i hi)
  have fS2 : ∀ r, r < o → S2a r = S r := fun r hr => (p23 r (by omega) (by omega)).trans (eS1 r hr)
  have fM2 : ∀ r, r < o → M2a r = M r := fun r hr => (p24 r (by omega)).trans (eM1 r hr)
  refine g_iconst (v := 0) ik_0 ?_
  refine g_istore_n (nle rfl) ?_
  refine g_fall rfl L_X4_init_83 ?_
  refine g_lo2 (lo' := [(0, some (.ref o)), (1, some (.int (nI (0))))]) ?_ ⟨rfl, rfl, trivial⟩
  refine loop_up (P := fun k => ∀ (S2b : Nat → Option Sh) (M2b : Mem), Fl (20 + 3) 10 1 (o + 12) k S2a S2b M2a M2b (LfP lesSh) → G X m_X4_init B_X4_init_83 83 [(0, some (.ref o)), (1, some (.int (nI (k))))] [] (12 + 1 * k) (45 + 9 * k) (o + 12 + 1 * k, S2b, true) M2b Q) 10 (fun k hk ih S2b M2b hF2 => ?_) 0 (Nat.zero_le _) S2a M2a (Fl.nil p22)
  have hs2 := (hF2.1 o (by omega)).trans p21
  refine g_iload_n rfl ?_
  refine g_bipush (v := 10) bk_10 ?_
  refine g_icmp_ge rfl L_X4_init_108 (fun h => ?_) (fun h => ?_)
  rotate_left
  · have hlt : k < 10 := (cmp_ge (c := 10) rfl (nle rfl) hk).2 h
    obtain ⟨cs, hc1, hc2, hc3⟩ := hF2.2.1
    refine g_aload_n rfl ?_
    refine g_getR (w := o + 12) fl_X4_27 rfl hs2 rfl ?_
    refine g_iload_n rfl ?_
    refine g_new nw_X4_25 rfl rfl (by show 12 + 1 * k + 1 ≤ 36; omega) (by show 45 + 9 * k + 9 ≤ 197; omega) ?_
    refine g_dup rfl ?_
    refine g_callIN (host := RX7) (as := []) mk_X3_init (List.mem_of_getElem? (i := 2) rfl) im_X3_init rfl rfl rfl rfl ⟨⟨nle rfl, nle rfl⟩, by show 12 + 1 * k + 1 + 0 ≤ 36; omega, by show 45 + 9 * k + 9 + 0 ≤ 197; omega⟩ rfl rfl (nle rfl) ?_
    refine ct_X3_init ?_
    refine kq_n ?_
    refine g_aastore (j := k) (ci := 3) ((upS_o _ _ _ (by show o + 12 ≠ o + 12 + 1 * k + 1; omega)).trans hc1) (upS_s _ _ _) (by decide) hc2 rfl hlt (nle rfl) ?_
    refine g_iinc (v := nI (k + 1)) rfl (nI_inc _) (nle rfl) ?_
    refine g_goto rfl L_X4_init_83 ?_
    exact g_widen (by show 12 + 1 * k + 1 + 0 ≤ 12 + 1 * (k + 1); omega) (by show 45 + 9 * k + 9 + 0 ≤ 45 + 9 * (k + 1); omega) (g_lo2 (ih hlt _ _ (Fl.step (LfP.st _) hF2 hlt (by decide) (fun r hr => upS_o _ _ _ (by show r ≠ o + 12 + 1 * k + 1; omega)) (fun r hr => funext fun j => zM_o _ _ (by show r ≠ o + 12 + 1 * k + 1; omega) j) (upS_s _ _ _) hc1)) ⟨rfl, rfl, trivial⟩)
  have hkN := (cmp_ge (c := 10) rfl (nle rfl) hk).1 h
  subst hkN
  show G X m_X4_init _ _ _ _ (22) (135) (o + 22, S2b, true) M2b Q
  have ka01ab2ab := (hF2.1 (o + 1) (by omega)).trans ka01ab2a
  have ke01ab2ab : ∀ i, i < 4 → S2b (o + 2 + i) = some floSh := fun i hi => (hF2.1 _ (by omega)).trans (ke01ab2a i hi)
  have ka12ab := (hF2.1 (o + 6) (by omega)).trans ka12a
  have ke12ab : ∀ i, i < 5 → S2b (o + 7 + i) = some teaSh := fun i hi => (hF2.1 _ (by omega)).trans (ke12a i hi)
  have ka2 := hF2.fin1
  have ke2 : ∀ i, i < 10 → S2b (o + 13 + i) = some lesSh := fun i hi => by
    have := hF2.2.2.1 i hi
    rw [show o + 12 + 1 * i + 1 = o + 13 + i by omega] at this
    exact this
  have eS2 : ∀ r, r < o → S2b r = S r := fun r hr => (hF2.1 r (by omega)).trans (fS2 r hr)
  have eM2 : ∀ r, r < o → M2b r = M r := fun r hr => (hF2.2.2.2 r (by omega)).trans (fM2 r hr)
  refine g_aload_n rfl ?_
  refine g_bipush (v := 12) bk_12 ?_
  refine g_anewarray (N := 12) aw_X4_32 rfl rfl (by decide) rfl (by show 22 + 1 ≤ 36; omega) (by show 135 + 12 ≤ 197; omega) ?_
  show G X m_X4_init _ _ _ _ (23) (147) (o + 23, upS S2b (o + 23) (20 + 0, 12, List.replicate 12 1), true) (zM M2b (o + 23)) Q
  refine g_putR pl_X4_34 rfl rfl ((upS_o _ _ _ (by omega)).trans hs2) (fun _ => rfl) (fun _ => rfl) ?_
  refine g_ab (by omega) (fun S3a M3a p31 p32 p33 p34 p35 => ?_)
  have ka01ab2ab3a := (p33 (o + 1) (by omega) (by omega)).trans ka01ab2ab
  have ke01ab2ab3a : ∀ i, i < 4 → S3a (o + 2 + i) = some floSh := fun i hi => (p33 _ (by omega) (by omega)).trans (ke01ab2ab i hi)
  have ka12ab3a := (p33 (o + 6) (by omega) (by omega)).trans ka12ab
  have ke12ab3a : ∀ i, i < 5 → S3a (o + 7 + i) = some teaSh := fun i hi => (p33 _ (by omega) (by omega)).trans (ke12ab i hi)
  have ka23a := (p33 (o + 12) (by omega) (by omega)).trans ka2
  have ke23a : ∀ i, i < 10 → S3a (o + 13 + i) = some lesSh := fun i hi => (p33 _ (by omega) (by omega)).trans (ke2 i hi)
  have fS3 : ∀ r, r < o → S3a r = S r := fun r hr => (p33 r (by omega) (by omega)).trans (eS2 r hr)
  have fM3 : ∀ r, r < o → M3a r = M r := fun r hr => (p34 r (by omega)).trans (eM2 r hr)
  refine g_iconst (v := 0) ik_0 ?_
  refine g_istore_n (nle rfl) ?_
  refine g_fall rfl L_X4_init_119 ?_
  refine g_lo2 (lo' := [(0, some (.ref o)), (1, some (.int (nI (0))))]) ?_ ⟨rfl, rfl, trivial⟩
  refine loop_up (P := fun k => ∀ (S3b : Nat → Option Sh) (M3b : Mem), Fl (20 + 0) 12 1 (o + 23) k S3a S3b M3a M3b (LfP danSh) → G X m_X4_init B_X4_init_119 119 [(0, some (.ref o)), (1, some (.int (nI (k))))] [] (23 + 1 * k) (147 + 4 * k) (o + 23 + 1 * k, S3b, true) M3b Q) 12 (fun k hk ih S3b M3b hF3 => ?_) 0 (Nat.zero_le _) S3a M3a (Fl.nil p32)
  have hs3 := (hF3.1 o (by omega)).trans p31
  refine g_iload_n rfl ?_
  refine g_bipush (v := 12) bk_12 ?_
  refine g_icmp_ge rfl L_X4_init_144 (fun h => ?_) (fun h => ?_)
  rotate_left
  · have hlt : k < 12 := (cmp_ge (c := 12) rfl (nle rfl) hk).2 h
    obtain ⟨cs, hc1, hc2, hc3⟩ := hF3.2.1
    refine g_aload_n rfl ?_
    refine g_getR (w := o + 23) fl_X4_34 rfl hs3 rfl ?_
    refine g_iload_n rfl ?_
    refine g_new nw_X4_32 rfl rfl (by show 23 + 1 * k + 1 ≤ 36; omega) (by show 147 + 4 * k + 4 ≤ 197; omega) ?_
    refine g_dup rfl ?_
    refine g_callIN (host := RX7) (as := []) mk_X0_init (List.mem_of_getElem? (i := 3) rfl) im_X0_init rfl rfl rfl rfl ⟨⟨nle rfl, nle rfl⟩, by show 23 + 1 * k + 1 + 0 ≤ 36; omega, by show 147 + 4 * k + 4 + 0 ≤ 197; omega⟩ rfl rfl (nle rfl) ?_
    refine ct_X0_init ?_
    refine kq_n ?_
    refine g_aastore (j := k) (ci := 0) ((upS_o _ _ _ (by show o + 23 ≠ o + 23 + 1 * k + 1; omega)).trans hc1) (upS_s _ _ _) (by decide) hc2 rfl hlt (nle rfl) ?_
    refine g_iinc (v := nI (k + 1)) rfl (nI_inc _) (nle rfl) ?_
    refine g_goto rfl L_X4_init_119 ?_
    exact g_widen (by show 23 + 1 * k + 1 + 0 ≤ 23 + 1 * (k + 1); omega) (by show 147 + 4 * k + 4 + 0 ≤ 147 + 4 * (k + 1); omega) (g_lo2 (ih hlt _ _ (Fl.step (LfP.st _) hF3 hlt (by decide) (fun r hr => upS_o _ _ _ (by show r ≠ o + 23 + 1 * k + 1; omega)) (fun r hr => funext fun j => zM_o _ _ (by show r ≠ o + 23 + 1 * k + 1; omega) j) (upS_s _ _ _) hc1)) ⟨rfl, rfl, trivial⟩)
  have hkN := (cmp_ge (c := 12) rfl (nle rfl) hk).1 h
  subst hkN
  show G X m_X4_init _ _ _ _ (35) (195) (o + 35, S3b, true) M3b Q
  have ka01ab2ab3ab := (hF3.1 (o + 1) (by omega)).trans ka01ab2ab3a
  have ke01ab2ab3ab : ∀ i, i < 4 → S3b (o + 2 + i) = some floSh := fun i hi => (hF3.1 _ (by omega)).trans (ke01ab2ab3a i hi)
  have ka12ab3ab := (hF3.1 (o + 6) (by omega)).trans ka12ab3a
  have ke12ab3ab : ∀ i, i < 5 → S3b (o + 7 + i) = some teaSh := fun i hi => (hF3.1 _ (by omega)).trans (ke12ab3a i hi)
  have ka23ab := (hF3.1 (o + 12) (by omega)).trans ka23a
  have ke23ab : ∀ i, i < 10 → S3b (o + 13 + i) = some lesSh := fun i hi => (hF3.1 _ (by omega)).trans (ke23a i hi)
  have ka3 := hF3.fin1
  have ke3 : ∀ i, i < 12 → S3b (o + 24 + i) = some danSh := fun i hi => by
    have := hF3.2.2.1 i hi
    rw [show o + 23 + 1 * i + 1 = o + 24 + i by omega] at this
    exact this
  have eS3 : ∀ r, r < o → S3b r = S r := fun r hr => (hF3.1 r (by omega)).trans (fS3 r hr)
  have eM3 : ∀ r, r < o → M3b r = M r := fun r hr => (hF3.2.2.2 r (by omega)).trans (fM3 r hr)
  refine g_aload_n rfl ?_
  refine g_iconst (v := 2) ik_2 ?_
  refine g_newarray (tag := 16) (N := 2) ac_int ⟨by decide, by decide⟩ rfl rfl (by decide) rfl (by show 35 + 1 ≤ 36; omega) (by show 195 + 2 ≤ 197; omega) ?_
  show G X m_X4_init _ _ _ _ (36) (197) (o + 36, upS S3b (o + 36) (16, 2, []), true) (zM M3b (o + 36)) Q
  refine g_putR pl_X4_39 rfl rfl ((upS_o _ _ _ (by omega)).trans hs3) (fun _ => rfl) (fun _ => rfl) ?_
  refine g_ab (by omega) (fun Sz Mz z1 z2 z3 z4 z5 => ?_)
  have ka01ab2ab3abz := (z3 (o + 1) (by omega) (by omega)).trans ka01ab2ab3ab
  have ke01ab2ab3abz : ∀ i, i < 4 → Sz (o + 2 + i) = some floSh := fun i hi => (z3 _ (by omega) (by omega)).trans (ke01ab2ab3ab i hi)
  have ka12ab3abz := (z3 (o + 6) (by omega) (by omega)).trans ka12ab3ab
  have ke12ab3abz : ∀ i, i < 5 → Sz (o + 7 + i) = some teaSh := fun i hi => (z3 _ (by omega) (by omega)).trans (ke12ab3ab i hi)
  have ka23abz := (z3 (o + 12) (by omega) (by omega)).trans ka23ab
  have ke23abz : ∀ i, i < 10 → Sz (o + 13 + i) = some lesSh := fun i hi => (z3 _ (by omega) (by omega)).trans (ke23ab i hi)
  have ka3z := (z3 (o + 23) (by omega) (by omega)).trans ka3
  have ke3z : ∀ i, i < 12 → Sz (o + 24 + i) = some danSh := fun i hi => (z3 _ (by omega) (by omega)).trans (ke3 i hi)
  have hstu : IsStu Sz o := ⟨z1, ka01ab2ab3abz, ke01ab2ab3abz, ka12ab3abz, ke12ab3abz, ka23abz, ke23abz, ka3z, ke3z, z2⟩
  refine g_aload_n rfl ?_
  refine g_callV (as := []) mk_X4_makeNew ml_X4_43 im_X4_makeNew se_X4_makeNew rfl rfl ⟨⟨nle rfl, nle rfl⟩, nle rfl, nle rfl⟩ hstu.1 rfl rfl rfl (nle rfl) ?_
  refine ct_X4_makeNew hstu (fun M' g1 g2 g3 => ?_)
  refine kq_n ?_
  refine g_vret rfl (nle rfl) (nle rfl) ?_
  exact hQ Sz M' (fun r hr => (z3 r (by omega) (by omega)).trans (eS3 r hr)) (fun r hr => (g3 r (Or.inl hr)).trans ((z4 r (by omega)).trans (eM3 r hr))) hstu g1 g2
