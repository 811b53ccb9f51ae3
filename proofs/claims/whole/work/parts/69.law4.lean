theorem L7 {L i : Nat} (hL : L ≤ 3584) (hi : i ≤ 3584) (h : ¬ (nI L - 7 < nI i)) : i + 7 ≤ L := by
  rcases Nat.lt_or_ge L 7 with q | q
  · have h0 : ∀ z : Int32, z < nI 0 → z < nI i := fun z hz => Int32.lt_of_lt_of_le hz ((nI_leI (by omega) (by omega)).mpr (Nat.zero_le i))
    have hc : L = 0 ∨ L = 1 ∨ L = 2 ∨ L = 3 ∨ L = 4 ∨ L = 5 ∨ L = 6 := by omega
    exact absurd (h0 (nI L - 7) (by rcases hc with rfl | rfl | rfl | rfl | rfl | rfl | rfl <;> decide)) h
  · have e : nI L - 7 = nI (L - 7) := by
      have e1 : nI L = nI (L - 7) + nI 7 := by rw [nI_add, Nat.sub_add_cancel q]
      rw [e1]
      exact Int32.add_sub_cancel _ _
    rw [e] at h
    rcases Nat.lt_or_ge (L - 7) i with g | g
    · exact absurd ((nI_ltI (by omega) (by omega)).mpr g) h
    · omega
set_option maxRecDepth 100000 in
set_option maxHeartbeats 2000000 in
theorem lw_step {X : Xs} {x m out : Nat} {S : Nat → Option Sh} {Q : Rs → Kp → Mem → Prop} (hX : X.1 ≤ 3584) (hx : IsDF S x) (hm : IsMod S m) (ho : S out = some (19, 1, [])) (hd : x + 674 ≤ m) (hd2 : m + 5 ≤ out) (hQ : ∀ κ M, Q (.inl (some (.int 1))) κ M) {j : Nat} (hj : j ≤ 512) (ih : 7 * j + 7 ≤ X.1 → ∀ (κ : Kp) (M : Mem), κ.2.1 = S → J (1100 * j + 1100) M x m → G X m_L_law B_L_law_23 23 (LoL x m out (7 * j + 7)) [] (680 + 7 * j + 7) (7497 + 42 * j + 42) κ M Q) {κ : Kp} {M : Mem} (hS : κ.2.1 = S) (hJ : J (1100 * j) M x m) : G X m_L_law B_L_law_23 23 (LoL x m out (7 * j)) [] (680 + 7 * j) (7497 + 42 * j) κ M Q := by
  refine g_iload rfl ?_
  refine g_aload_n rfl ?_
  refine g_slen ?_
  refine g_bipush (v := 7) bk_7 ?_
  refine g_isub ?_
  refine g_icmp_gt (tgt := 2161) rfl L_L_law_2161 (fun h1 => ?_) (fun h1 => ?_)
  · refine g_iconst (v := 1) ik_1 ?_
    exact g_zret (ty := .boolean) rfl rfl (by show 680 + 7 * j ≤ 601024; omega) (by show 7497 + 42 * j ≤ 7293034; omega) (hQ _ _)
  have hi : 7 * j + 7 ≤ X.1 := L7 hX (by omega) h1
  have hN : Nxt X x m out (7 * j) (1100 * j) (680 + 7 * j) (7497 + 42 * j) κ.2.1 Q := by
    intro κ' M' hS' hJ'
    refine g_iinc (v := nI (7 * j + 7)) rfl (nI_add (7 * j) 7) (nle rfl) ?_
    refine g_goto (tgt := 23) rfl L_L_law_23 ?_
    exact g_lo2 (lo' := LoL x m out (7 * j + 7)) (ih hi κ' M' (hS'.trans hS) hJ') ⟨rfl, rfl, rfl, rfl, rfl, trivial⟩
  have h3 : 680 + 7 * j + 7 ≤ 601024 := by omega
  have h4 : 7497 + 42 * j + 42 ≤ 7293034 := by omega
  have hB : 1100 * j < 1000000 := by omega
  have hW : LwH x m out (1100 * j) κ M := ⟨by rw [hS]; exact hx, by rw [hS]; exact hm, by rw [hS]; exact ho, hd, hd2, hJ⟩
  refine g_aload_n rfl ?_
  refine g_iload rfl ?_
  refine g_sload (j := 7 * j) rfl (by omega) (by omega) ?_
  refine g_bipush (v := 31) bk_31 ?_
  refine g_iand ?_
  rcases sw_cases (X.2 (7 * j) &&& 31) 0 31 (nle rfl) with ⟨c, hc, hxc⟩ | hout
  · have hcc : c = 0 ∨ c = 1 ∨ c = 2 ∨ c = 3 ∨ c = 4 ∨ c = 5 ∨ c = 6 ∨ c = 7 ∨ c = 8 ∨ c = 9 ∨ c = 10 ∨ c = 11 ∨ c = 12 ∨ c = 13 ∨ c = 14 ∨ c = 15 ∨ c = 16 ∨ c = 17 ∨ c = 18 ∨ c = 19 ∨ c = 20 ∨ c = 21 ∨ c = 22 ∨ c = 23 ∨ c = 24 ∨ c = 25 ∨ c = 26 ∨ c = 27 ∨ c = 28 ∨ c = 29 ∨ c = 30 := by omega
    rcases hcc with rfl | rfl | rfl | rfl | rfl | rfl | rfl | rfl | rfl | rfl | rfl | rfl | rfl | rfl | rfl | rfl | rfl | rfl | rfl | rfl | rfl | rfl | rfl | rfl | rfl | rfl | rfl | rfl | rfl | rfl | rfl
    · replace hxc : X.2 (7 * j) &&& 31 = 0 := hxc.trans (by decide)
      refine g_tabIn (off := 140) (by rw [hxc]; decide) (by rw [hxc]; decide) (by rw [hxc]; decide) rfl L_L_law_180 ?_
      exact lw_c0 hW hi hX h3 h4 hB hN
    · replace hxc : X.2 (7 * j) &&& 31 = 1 := hxc.trans (by decide)
      refine g_tabIn (off := 196) (by rw [hxc]; decide) (by rw [hxc]; decide) (by rw [hxc]; decide) rfl L_L_law_236 ?_
      exact lw_c1 hW hi hX h3 h4 hB hN
    · replace hxc : X.2 (7 * j) &&& 31 = 2 := hxc.trans (by decide)
      refine g_tabIn (off := 209) (by rw [hxc]; decide) (by rw [hxc]; decide) (by rw [hxc]; decide) rfl L_L_law_249 ?_
      exact lw_c2 hW hi hX h3 h4 hB hN
    · replace hxc : X.2 (7 * j) &&& 31 = 3 := hxc.trans (by decide)
      refine g_tabIn (off := 222) (by rw [hxc]; decide) (by rw [hxc]; decide) (by rw [hxc]; decide) rfl L_L_law_262 ?_
      exact lw_c3 hW hi hX h3 h4 hB hN
    · replace hxc : X.2 (7 * j) &&& 31 = 4 := hxc.trans (by decide)
      refine g_tabIn (off := 266) (by rw [hxc]; decide) (by rw [hxc]; decide) (by rw [hxc]; decide) rfl L_L_law_306 ?_
      exact lw_c4 hW hi hX h3 h4 hB hN
    · replace hxc : X.2 (7 * j) &&& 31 = 5 := hxc.trans (by decide)
      refine g_tabIn (off := 322) (by rw [hxc]; decide) (by rw [hxc]; decide) (by rw [hxc]; decide) rfl L_L_law_362 ?_
      exact lw_c5 hW hi hX h3 h4 hB hN
    · replace hxc : X.2 (7 * j) &&& 31 = 6 := hxc.trans (by decide)
      refine g_tabIn (off := 390) (by rw [hxc]; decide) (by rw [hxc]; decide) (by rw [hxc]; decide) rfl L_L_law_430 ?_
      exact lw_c6 hW hi hX h3 h4 hB hN
    · replace hxc : X.2 (7 * j) &&& 31 = 7 := hxc.trans (by decide)
      refine g_tabIn (off := 458) (by rw [hxc]; decide) (by rw [hxc]; decide) (by rw [hxc]; decide) rfl L_L_law_498 ?_
      exact lw_c7 hW hi hX h3 h4 hB hN
    · replace hxc : X.2 (7 * j) &&& 31 = 8 := hxc.trans (by decide)
      refine g_tabIn (off := 526) (by rw [hxc]; decide) (by rw [hxc]; decide) (by rw [hxc]; decide) rfl L_L_law_566 ?_
      exact lw_c8 hW hi hX h3 h4 hB hN
    · replace hxc : X.2 (7 * j) &&& 31 = 9 := hxc.trans (by decide)
      refine g_tabIn (off := 594) (by rw [hxc]; decide) (by rw [hxc]; decide) (by rw [hxc]; decide) rfl L_L_law_634 ?_
      exact lw_c9 hW hi hX h3 h4 hB hN
    · replace hxc : X.2 (7 * j) &&& 31 = 10 := hxc.trans (by decide)
      refine g_tabIn (off := 650) (by rw [hxc]; decide) (by rw [hxc]; decide) (by rw [hxc]; decide) rfl L_L_law_690 ?_
      exact lw_c10 hW hi hX h3 h4 hB hN
    · replace hxc : X.2 (7 * j) &&& 31 = 11 := hxc.trans (by decide)
      refine g_tabIn (off := 706) (by rw [hxc]; decide) (by rw [hxc]; decide) (by rw [hxc]; decide) rfl L_L_law_746 ?_
      exact lw_c11 hW hi hX h3 h4 hB hN
    · replace hxc : X.2 (7 * j) &&& 31 = 12 := hxc.trans (by decide)
      refine g_tabIn (off := 798) (by rw [hxc]; decide) (by rw [hxc]; decide) (by rw [hxc]; decide) rfl L_L_law_838 ?_
      exact lw_c12 hW hi hX h3 h4 hB hN
    · replace hxc : X.2 (7 * j) &&& 31 = 13 := hxc.trans (by decide)
      refine g_tabIn (off := 866) (by rw [hxc]; decide) (by rw [hxc]; decide) (by rw [hxc]; decide) rfl L_L_law_906 ?_
      exact lw_c13 hW hi hX h3 h4 hB hN
    · replace hxc : X.2 (7 * j) &&& 31 = 14 := hxc.trans (by decide)
      refine g_tabIn (off := 984) (by rw [hxc]; decide) (by rw [hxc]; decide) (by rw [hxc]; decide) rfl L_L_law_1024 ?_
      exact lw_c14 hW hi hX h3 h4 hB hN
    · replace hxc : X.2 (7 * j) &&& 31 = 15 := hxc.trans (by decide)
      refine g_tabIn (off := 1040) (by rw [hxc]; decide) (by rw [hxc]; decide) (by rw [hxc]; decide) rfl L_L_law_1080 ?_
      exact lw_c15 hW hi hX h3 h4 hB hN
    · replace hxc : X.2 (7 * j) &&& 31 = 16 := hxc.trans (by decide)
      refine g_tabIn (off := 1084) (by rw [hxc]; decide) (by rw [hxc]; decide) (by rw [hxc]; decide) rfl L_L_law_1124 ?_
      exact lw_c16 hW hi hX h3 h4 hB hN
    · replace hxc : X.2 (7 * j) &&& 31 = 17 := hxc.trans (by decide)
      refine g_tabIn (off := 1140) (by rw [hxc]; decide) (by rw [hxc]; decide) (by rw [hxc]; decide) rfl L_L_law_1180 ?_
      exact lw_c17 hW hi hX h3 h4 hB hN
    · replace hxc : X.2 (7 * j) &&& 31 = 18 := hxc.trans (by decide)
      refine g_tabIn (off := 1208) (by rw [hxc]; decide) (by rw [hxc]; decide) (by rw [hxc]; decide) rfl L_L_law_1248 ?_
      exact lw_c18 hW hi hX h3 h4 hB hN
    · replace hxc : X.2 (7 * j) &&& 31 = 19 := hxc.trans (by decide)
      refine g_tabIn (off := 1276) (by rw [hxc]; decide) (by rw [hxc]; decide) (by rw [hxc]; decide) rfl L_L_law_1316 ?_
      exact lw_c19 hW hi hX h3 h4 hB hN
    · replace hxc : X.2 (7 * j) &&& 31 = 20 := hxc.trans (by decide)
      refine g_tabIn (off := 1332) (by rw [hxc]; decide) (by rw [hxc]; decide) (by rw [hxc]; decide) rfl L_L_law_1372 ?_
      exact lw_c20 hW hi hX h3 h4 hB hN
    · replace hxc : X.2 (7 * j) &&& 31 = 21 := hxc.trans (by decide)
      refine g_tabIn (off := 1400) (by rw [hxc]; decide) (by rw [hxc]; decide) (by rw [hxc]; decide) rfl L_L_law_1440 ?_
      exact lw_c21 hW hi hX h3 h4 hB hN
    · replace hxc : X.2 (7 * j) &&& 31 = 22 := hxc.trans (by decide)
      refine g_tabIn (off := 1444) (by rw [hxc]; decide) (by rw [hxc]; decide) (by rw [hxc]; decide) rfl L_L_law_1484 ?_
      exact lw_c22 hW hi hX h3 h4 hB hN
    · replace hxc : X.2 (7 * j) &&& 31 = 23 := hxc.trans (by decide)
      refine g_tabIn (off := 1562) (by rw [hxc]; decide) (by rw [hxc]; decide) (by rw [hxc]; decide) rfl L_L_law_1602 ?_
      exact lw_c23 hW hi hX h3 h4 hB hN
    · replace hxc : X.2 (7 * j) &&& 31 = 24 := hxc.trans (by decide)
      refine g_tabIn (off := 1630) (by rw [hxc]; decide) (by rw [hxc]; decide) (by rw [hxc]; decide) rfl L_L_law_1670 ?_
      exact lw_c24 hW hi hX h3 h4 hB hN
    · replace hxc : X.2 (7 * j) &&& 31 = 25 := hxc.trans (by decide)
      refine g_tabIn (off := 1734) (by rw [hxc]; decide) (by rw [hxc]; decide) (by rw [hxc]; decide) rfl L_L_law_1774 ?_
      exact lw_c25 hW hi hX h3 h4 hB hN
    · replace hxc : X.2 (7 * j) &&& 31 = 26 := hxc.trans (by decide)
      refine g_tabIn (off := 1790) (by rw [hxc]; decide) (by rw [hxc]; decide) (by rw [hxc]; decide) rfl L_L_law_1830 ?_
      exact lw_c26 hW hi hX h3 h4 hB hN
    · replace hxc : X.2 (7 * j) &&& 31 = 27 := hxc.trans (by decide)
      refine g_tabIn (off := 1803) (by rw [hxc]; decide) (by rw [hxc]; decide) (by rw [hxc]; decide) rfl L_L_law_1843 ?_
      exact lw_c27 hW hi hX h3 h4 hB hN
    · replace hxc : X.2 (7 * j) &&& 31 = 28 := hxc.trans (by decide)
      refine g_tabIn (off := 1903) (by rw [hxc]; decide) (by rw [hxc]; decide) (by rw [hxc]; decide) rfl L_L_law_1943 ?_
      exact lw_c28 hW hi hX h3 h4 hB hN
    · replace hxc : X.2 (7 * j) &&& 31 = 29 := hxc.trans (by decide)
      refine g_tabIn (off := 2003) (by rw [hxc]; decide) (by rw [hxc]; decide) (by rw [hxc]; decide) rfl L_L_law_2043 ?_
      exact lw_c29 hW hi hX h3 h4 hB hN
    · replace hxc : X.2 (7 * j) &&& 31 = 30 := hxc.trans (by decide)
      refine g_tabIn (off := 2059) (by rw [hxc]; decide) (by rw [hxc]; decide) (by rw [hxc]; decide) rfl L_L_law_2099 ?_
      exact lw_c30 hW hi hX h3 h4 hB hN
  · refine g_tabOut (hout.imp (fun h => h) (fun h => h)) rfl L_L_law_2155 ?_
    exact g_widen (Nat.le_add_right _ _) (Nat.le_add_right _ _) (hN κ M rfl (J_keep hJ (Nat.le_add_right _ _) (fun _ _ => rfl) rfl rfl (fun _ _ => rfl) rfl rfl rfl rfl))
theorem lw_loop {X : Xs} {x m out : Nat} {S : Nat → Option Sh} {Q : Rs → Kp → Mem → Prop} (hX : X.1 ≤ 3584) (hx : IsDF S x) (hm : IsMod S m) (ho : S out = some (19, 1, [])) (hd : x + 674 ≤ m) (hd2 : m + 5 ≤ out) (hQ : ∀ κ M, Q (.inl (some (.int 1))) κ M) : ∀ n j, j + n = 512 → ∀ (κ : Kp) (M : Mem), κ.2.1 = S → J (1100 * j) M x m → G X m_L_law B_L_law_23 23 (LoL x m out (7 * j)) [] (680 + 7 * j) (7497 + 42 * j) κ M Q := by
  intro n
  induction n with
  | zero => exact fun j hn κ M hS hJ => lw_step hX hx hm ho hd hd2 hQ (by omega) (fun h => absurd h (by omega)) hS hJ
  | succ n ih =>
    refine fun j hn κ M hS hJ => lw_step hX hx hm ho hd hd2 hQ (by omega) (fun h κ' M' hS' hJ' => ?_) hS hJ
    have e := ih (j + 1) (by omega) κ' M' hS' (by rw [Nat.mul_succ]; exact hJ')
    rw [show 7 * (j + 1) = 7 * j + 7 from rfl, show 42 * (j + 1) = 42 * j + 42 from rfl, ← Nat.add_assoc, ← Nat.add_assoc] at e
    exact e
