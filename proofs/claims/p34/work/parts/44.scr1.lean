/-- a command of a script, g < 100000: whether it succeeds, and what it leaves -/
def gcB (g : Nat) (s : Nat → Int32) : Bool :=
  if g / 10000 = 1 then (decide (g % 100 = 0) && (gSe s (nI (g / 1000 % 10)) (nI (g / 100 % 10)) && decide (wSe s (nI (g / 1000 % 10)) (nI (g / 100 % 10)) = 0)))
  else if g / 10000 = 2 then (decide (g % 100 = 0) && gLe s (nI (g / 1000 % 10)) (nI (g / 100 % 10)))
  else if g / 10000 = 3 then (decide (30001 ≤ g) && decide (g ≤ 30009))
  else if g / 10000 = 4 then (decide (g % 1000 = 0) && cpass s (nI (g / 1000 % 10)))
  else if g / 10000 = 5 then (decide (g % 1000 = 0) && isC s (nI (g / 1000 % 10)))
  else if g / 10000 = 6 then (decide (g % 1000 < 10) && (isD s (nI (g / 1000 % 10)) && decide (nI (g % 100) ≤ s (129 + 5 * (g / 1000 % 10)))))
  else if g / 10000 = 7 then (decide (g / 100 % 10 = 0) && (isD s (nI (g / 1000 % 10)) && decide (nI (g % 100) ≤ s (129 + 5 * (g / 1000 % 10) + 2))))
  else if g / 10000 = 8 then (decide (g / 100 % 10 = 0) && (isC s (nI (g / 1000 % 10)) && decide (nI (g % 100) ≤ bitsI (s (39 + 9 * (g / 1000 % 10) + 8)))))
  else if g / 10000 = 9 then (decide (g / 1000 % 10 = 0) && (decide (g / 100 % 10 = 0) && decide (nI (g % 100) ≤ s 7))) else false
def gcS (g : Nat) (s : Nat → Int32) : Nat → Int32 :=
  if g / 10000 = 1 then (if (decide (g % 100 = 0) && gSe s (nI (g / 1000 % 10)) (nI (g / 100 % 10))) = true then tsT s (nI (g / 1000 % 10)) (nI (g / 100 % 10)) else s)
  else if g / 10000 = 2 then (if (decide (g % 100 = 0) && gLe s (nI (g / 1000 % 10)) (nI (g / 100 % 10))) = true then leS s (nI (g / 1000 % 10)) (tn (nI (g / 100 % 10))) else s)
  else if g / 10000 = 3 then (if (decide (30001 ≤ g) && decide (g ≤ 30009)) = true then wkC (g % 100) s else s)
  else if g / 10000 = 4 then (if (decide (g % 1000 = 0) && cpass s (nI (g / 1000 % 10))) = true then paS s (tn (nI (g / 1000 % 10))) else s)
  else if g / 10000 = 5 then (if (decide (g % 1000 = 0) && isC s (nI (g / 1000 % 10))) = true then drS s (cN s 2) (tn (nI (g / 1000 % 10))) else s)
  else s
theorem gcB_1 {g : Nat} {s : Nat → Int32} (hk : g / 10000 = 1) : gcB g s = (decide (g % 100 = 0) && (gSe s (nI (g / 1000 % 10)) (nI (g / 100 % 10)) && decide (wSe s (nI (g / 1000 % 10)) (nI (g / 100 % 10)) = 0))) := if_pos hk
theorem gcS_1 {g : Nat} {s : Nat → Int32} (hk : g / 10000 = 1) : gcS g s = if (decide (g % 100 = 0) && gSe s (nI (g / 1000 % 10)) (nI (g / 100 % 10))) = true then tsT s (nI (g / 1000 % 10)) (nI (g / 100 % 10)) else s := if_pos hk
theorem gcB_2 {g : Nat} {s : Nat → Int32} (hk : g / 10000 = 2) : gcB g s = (decide (g % 100 = 0) && gLe s (nI (g / 1000 % 10)) (nI (g / 100 % 10))) := (if_neg (by omega)).trans (if_pos hk)
theorem gcS_2 {g : Nat} {s : Nat → Int32} (hk : g / 10000 = 2) : gcS g s = if (decide (g % 100 = 0) && gLe s (nI (g / 1000 % 10)) (nI (g / 100 % 10))) = true then leS s (nI (g / 1000 % 10)) (tn (nI (g / 100 % 10))) else s := (if_neg (by omega)).trans (if_pos hk)
theorem gcB_3 {g : Nat} {s : Nat → Int32} (hk : g / 10000 = 3) : gcB g s = (decide (30001 ≤ g) && decide (g ≤ 30009)) := (if_neg (by omega)).trans ((if_neg (by omega)).trans (if_pos hk))
theorem gcS_3 {g : Nat} {s : Nat → Int32} (hk : g / 10000 = 3) : gcS g s = if (decide (30001 ≤ g) && decide (g ≤ 30009)) = true then wkC (g % 100) s else s := (if_neg (by omega)).trans ((if_neg (by omega)).trans (if_pos hk))
theorem gcB_4 {g : Nat} {s : Nat → Int32} (hk : g / 10000 = 4) : gcB g s = (decide (g % 1000 = 0) && cpass s (nI (g / 1000 % 10))) := (if_neg (by omega)).trans ((if_neg (by omega)).trans ((if_neg (by omega)).trans (if_pos hk)))
theorem gcS_4 {g : Nat} {s : Nat → Int32} (hk : g / 10000 = 4) : gcS g s = if (decide (g % 1000 = 0) && cpass s (nI (g / 1000 % 10))) = true then paS s (tn (nI (g / 1000 % 10))) else s := (if_neg (by omega)).trans ((if_neg (by omega)).trans ((if_neg (by omega)).trans (if_pos hk)))
theorem gcB_5 {g : Nat} {s : Nat → Int32} (hk : g / 10000 = 5) : gcB g s = (decide (g % 1000 = 0) && isC s (nI (g / 1000 % 10))) := (if_neg (by omega)).trans ((if_neg (by omega)).trans ((if_neg (by omega)).trans ((if_neg (by omega)).trans (if_pos hk))))
theorem gcS_5 {g : Nat} {s : Nat → Int32} (hk : g / 10000 = 5) : gcS g s = if (decide (g % 1000 = 0) && isC s (nI (g / 1000 % 10))) = true then drS s (cN s 2) (tn (nI (g / 1000 % 10))) else s := (if_neg (by omega)).trans ((if_neg (by omega)).trans ((if_neg (by omega)).trans ((if_neg (by omega)).trans (if_pos hk))))
theorem gcB_6 {g : Nat} {s : Nat → Int32} (hk : g / 10000 = 6) : gcB g s = (decide (g % 1000 < 10) && (isD s (nI (g / 1000 % 10)) && decide (nI (g % 100) ≤ s (129 + 5 * (g / 1000 % 10))))) := (if_neg (by omega)).trans ((if_neg (by omega)).trans ((if_neg (by omega)).trans ((if_neg (by omega)).trans ((if_neg (by omega)).trans (if_pos hk)))))
theorem gcS_6 {g : Nat} {s : Nat → Int32} (hk : g / 10000 = 6) : gcS g s = s := (if_neg (by omega)).trans ((if_neg (by omega)).trans ((if_neg (by omega)).trans ((if_neg (by omega)).trans (if_neg (by omega)))))
theorem gcB_7 {g : Nat} {s : Nat → Int32} (hk : g / 10000 = 7) : gcB g s = (decide (g / 100 % 10 = 0) && (isD s (nI (g / 1000 % 10)) && decide (nI (g % 100) ≤ s (129 + 5 * (g / 1000 % 10) + 2)))) := (if_neg (by omega)).trans ((if_neg (by omega)).trans ((if_neg (by omega)).trans ((if_neg (by omega)).trans ((if_neg (by omega)).trans ((if_neg (by omega)).trans (if_pos hk))))))
theorem gcS_7 {g : Nat} {s : Nat → Int32} (hk : g / 10000 = 7) : gcS g s = s := (if_neg (by omega)).trans ((if_neg (by omega)).trans ((if_neg (by omega)).trans ((if_neg (by omega)).trans (if_neg (by omega)))))
theorem gcB_8 {g : Nat} {s : Nat → Int32} (hk : g / 10000 = 8) : gcB g s = (decide (g / 100 % 10 = 0) && (isC s (nI (g / 1000 % 10)) && decide (nI (g % 100) ≤ bitsI (s (39 + 9 * (g / 1000 % 10) + 8))))) := (if_neg (by omega)).trans ((if_neg (by omega)).trans ((if_neg (by omega)).trans ((if_neg (by omega)).trans ((if_neg (by omega)).trans ((if_neg (by omega)).trans ((if_neg (by omega)).trans (if_pos hk)))))))
theorem gcS_8 {g : Nat} {s : Nat → Int32} (hk : g / 10000 = 8) : gcS g s = s := (if_neg (by omega)).trans ((if_neg (by omega)).trans ((if_neg (by omega)).trans ((if_neg (by omega)).trans (if_neg (by omega)))))
theorem gcB_9 {g : Nat} {s : Nat → Int32} (hk : g / 10000 = 9) : gcB g s = (decide (g / 1000 % 10 = 0) && (decide (g / 100 % 10 = 0) && decide (nI (g % 100) ≤ s 7))) := (if_neg (by omega)).trans ((if_neg (by omega)).trans ((if_neg (by omega)).trans ((if_neg (by omega)).trans ((if_neg (by omega)).trans ((if_neg (by omega)).trans ((if_neg (by omega)).trans ((if_neg (by omega)).trans (if_pos hk))))))))
theorem gcS_9 {g : Nat} {s : Nat → Int32} (hk : g / 10000 = 9) : gcS g s = s := (if_neg (by omega)).trans ((if_neg (by omega)).trans ((if_neg (by omega)).trans ((if_neg (by omega)).trans (if_neg (by omega)))))
theorem gcB_0 {g : Nat} {s : Nat → Int32} (hk : g / 10000 < 1 ∨ 9 < g / 10000) : gcB g s = false := (if_neg (by omega)).trans ((if_neg (by omega)).trans ((if_neg (by omega)).trans ((if_neg (by omega)).trans ((if_neg (by omega)).trans ((if_neg (by omega)).trans ((if_neg (by omega)).trans ((if_neg (by omega)).trans (if_neg (by omega)))))))))
theorem gcS_0 {g : Nat} {s : Nat → Int32} (hk : g / 10000 < 1 ∨ 9 < g / 10000) : gcS g s = s := (if_neg (by omega)).trans ((if_neg (by omega)).trans ((if_neg (by omega)).trans ((if_neg (by omega)).trans (if_neg (by omega)))))
theorem in19 {g : Nat} (hg : g < 100000) : inB (nI (g % 10000)) 1 9 = (decide (1 ≤ g % 10000) && decide (g % 10000 ≤ 9)) := by
  unfold inB
  congr 1
  · exact decide_eq_decide.mpr (nI_leI (a := 1) (b := g % 10000) (by omega) (by omega))
  · exact decide_eq_decide.mpr (nI_leI (a := g % 10000) (b := 9) (by omega) (by omega))
theorem isD_has {B nf nt nc nd : Nat} {s : Nat → Int32} {M : Mem} {o : Nat} (hr : RepS M o nf nt nc nd s) (hI : Inv B nf nt nc nd s) {v : Int32} : isD s v = hasB v (M o 8) := by
  unfold isD
  rw [hr.c8 hI, hI.d, hasB_in (by have := hI.ld; omega)]
theorem isC_has {B nf nt nc nd : Nat} {s : Nat → Int32} {M : Mem} {o : Nat} (hr : RepS M o nf nt nc nd s) (hI : Inv B nf nt nc nd s) {v : Int32} : isC s v = hasB v (M o 7) := by
  unfold isC
  rw [hr.c7 hI, hI.c, hasB_in (by have := hI.lc; omega)]
theorem isF_has {B nf nt nc nd : Nat} {s : Nat → Int32} {M : Mem} {o : Nat} (hr : RepS M o nf nt nc nd s) (hI : Inv B nf nt nc nd s) {v : Int32} : isF s v = hasB v (M o 5) := by
  unfold isF
  rw [hr.c5 hI, hI.f, hasB_in (by have := hI.lf; omega)]
theorem isT_has {B nf nt nc nd : Nat} {s : Nat → Int32} {M : Mem} {o : Nat} (hr : RepS M o nf nt nc nd s) (hI : Inv B nf nt nc nd s) {v : Int32} : isT s v = hasB v (M o 6) := by
  unfold isT
  rw [hr.c6 hI, hI.t, hasB_in (by have := hI.lt; omega)]
set_option maxRecDepth 100000 in
set_option maxHeartbeats 4000000 in
theorem ct_X7_tryGroup {X : Xs} {κ : Kp} {M : Mem} {Q : Rs → Kp → Mem → Prop} {x : Nat} (hx : IsDF κ.2.1 x) {B : Nat} {s : Nat → Int32} (hS : SR B M (x + 41) s) {g : Nat} (hg0 : g < 100000) (hY : gcB g s = true → ∀ M', SR (B + 9) M' (x + 41) (gcS g s) → FrS M M' (x + 41) → Q (.inl (some (.int 1))) κ M') (hN : gcB g s = false → ∀ M', SR (B + 9) M' (x + 41) (gcS g s) → FrS M M' (x + 41) → Q (.inl (some (.int 0))) κ M') : Ct X m_X7_tryGroup [.ref x, .int (nI g)] κ M Q := by
  refine ct_of B_X7_tryGroup_0 pn_X7 rfl (nle rfl) L_X7_tryGroup_0 ?_
  have hS0 := hS
  refine g_iload_n rfl ?_
  refine g_sipush (v := 1000) sk_1000 ?_
  refine g_idiv (by decide) ?_
  rw [show nI (g) / 1000 = nI (g / 1000) from pk_div (d := 1000) (by omega) (by omega) (by omega)]
  refine g_bipush (v := 10) bk_10 ?_
  refine g_irem (by decide) ?_
  rw [show nI ((g / 1000)) - nI ((g / 1000)) / 10 * 10 = nI ((g / 1000) % 10) from pk_rem (d := 10) (by omega) (by omega) (by omega)]
  refine g_istore_n (nle rfl) ?_
  refine g_iload_n rfl ?_
  refine g_bipush (v := 100) bk_100 ?_
  refine g_idiv (by decide) ?_
  rw [show nI (g) / 100 = nI (g / 100) from pk_div (d := 100) (by omega) (by omega) (by omega)]
  refine g_bipush (v := 10) bk_10 ?_
  refine g_irem (by decide) ?_
  rw [show nI ((g / 100)) - nI ((g / 100)) / 10 * 10 = nI ((g / 100) % 10) from pk_rem (d := 10) (by omega) (by omega) (by omega)]
  refine g_istore_n (nle rfl) ?_
  refine g_iload_n rfl ?_
  refine g_sipush (v := 10000) sk_10000 ?_
  refine g_irem (by decide) ?_
  rw [show nI (g) - nI (g) / 10000 * 10000 = nI (g % 10000) from pk_rem (d := 10000) (by omega) (by omega) (by omega)]
  refine g_istore (nle rfl) ?_
  refine g_iload_n rfl ?_
  refine g_sipush (v := 1000) sk_1000 ?_
  refine g_irem (by decide) ?_
  rw [show nI (g) - nI (g) / 1000 * 1000 = nI (g % 1000) from pk_rem (d := 1000) (by omega) (by omega) (by omega)]
  refine g_istore (nle rfl) ?_
  refine g_iload_n rfl ?_
  refine g_bipush (v := 100) bk_100 ?_
  refine g_irem (by decide) ?_
  rw [show nI (g) - nI (g) / 100 * 100 = nI (g % 100) from pk_rem (d := 100) (by omega) (by omega) (by omega)]
  refine g_istore (nle rfl) ?_
  refine g_iload_n rfl ?_
  refine g_sipush (v := 10000) sk_10000 ?_
  refine g_idiv (by decide) ?_
  rw [show nI (g) / 10000 = nI (g / 10000) from pk_div (d := 10000) (by omega) (by omega) (by omega)]
  rcases sw_cases (nI (g / 10000)) 1 9 (nle rfl) with ⟨j_42, hj_42, hx_42⟩ | ho_42
  · have hc_42 : j_42 = 0 ∨ j_42 = 1 ∨ j_42 = 2 ∨ j_42 = 3 ∨ j_42 = 4 ∨ j_42 = 5 ∨ j_42 = 6 ∨ j_42 = 7 ∨ j_42 = 8 := by omega
    rcases hc_42 with rfl | rfl | rfl | rfl | rfl | rfl | rfl | rfl | rfl
    · replace hx_42 : (nI (g / 10000)) = 1 := hx_42.trans (by decide)
      refine g_tabIn (off := 50) (by rw [hx_42]; decide) (by rw [hx_42]; decide) (by rw [hx_42]; decide) rfl L_X7_tryGroup_92 ?_
      have hk : g / 10000 = 1 := (nI_eq (a := g / 10000) (b := 1) (by omega) (by omega)).mp hx_42
      refine g_iload rfl ?_
      refine g_if_ne rfl L_X7_tryGroup_113 (fun h_1 => ?_) (fun h_1 => ?_)
      · have hz : ¬ g % 100 = 0 := fun z => h_1 (by rw [z]; rfl)
        refine g_iconst (v := 0) ik_0 ?_
        refine g_fall rfl L_X7_tryGroup_114 ?_
        refine g_zret rfl rfl (nle rfl) (nle rfl) ?_
        have hB : gcB g s = false := by rw [gcB_1 hk, decide_eq_false hz]; rfl
        have hSS : gcS g s = s := by rw [gcS_1 hk, decide_eq_false hz]; rfl
        exact hN hB M (by rw [hSS]; exact hS0.up (by omega)) (FrS.rf M _)
      · have hz_50 : g % 100 = 0 := (nI_eq (a := g % 100) (b := 0) (by omega) (by omega)).mp h_1
        refine g_aload_n rfl ?_
        refine g_getR (w := (x + 41)) fl_X7_23 rfl hx.1 rfl ?_
        refine g_iload_n rfl ?_
        refine g_iload_n rfl ?_
        refine g_callV (as := [_, _]) mk_X4_takeSeat ml_X7_289 im_X4_takeSeat se_X4_takeSeat rfl rfl ⟨⟨nle rfl, nle rfl⟩, nle rfl, nle rfl⟩ hx.2.2.2.1.s0 rfl rfl rfl (nle rfl) ?_
        refine k_takeSeat hx.2.2.2.1 hS (fun hg => ?_) (fun hg hw => ?_) (fun hg hw M1 hS1 hF1 => ?_)
        · refine kq_s ?_
          refine g_if_ne rfl L_X7_tryGroup_113 (fun h_2 => ?_) (fun h_2 => absurd h_2 (by decide))
          refine g_iconst (v := 0) ik_0 ?_
          refine g_fall rfl L_X7_tryGroup_114 ?_
          refine g_zret rfl rfl (nle rfl) (nle rfl) ?_
          have hB : gcB g s = false := by rw [gcB_1 hk, hg]; simp
          have hSS : gcS g s = s := by rw [gcS_1 hk, hg]; simp
          exact hN hB M (by rw [hSS]; exact hS0.up (by omega)) (FrS.rf M _)
        · refine kq_s ?_
          refine g_if_ne rfl L_X7_tryGroup_113 (fun h_3 => ?_) (fun h_3 => absurd h_3 hw)
          refine g_iconst (v := 0) ik_0 ?_
          refine g_fall rfl L_X7_tryGroup_114 ?_
          refine g_zret rfl rfl (nle rfl) (nle rfl) ?_
          have hB : gcB g s = false := by rw [gcB_1 hk, decide_eq_false hw]; simp
          have hSS : gcS g s = upd s 9 (s 9 + 1) := by rw [gcS_1 hk, hg, decide_eq_true (show g % 100 = 0 by omega)]; exact if_neg hw
          exact hN hB M (by rw [hSS]; exact (hS0.up (by omega)).r9) (FrS.rf M _)
        · refine kq_s ?_
          refine g_if_ne rfl L_X7_tryGroup_113 (fun h_4 => absurd h_4 (by decide)) (fun h_4 => ?_)
          refine g_iconst (v := 1) ik_1 ?_
          refine g_goto rfl L_X7_tryGroup_114 ?_
          refine g_zret rfl rfl (nle rfl) (nle rfl) ?_
          have hB : gcB g s = true := by rw [gcB_1 hk, decide_eq_true hw, hg, decide_eq_true (show g % 100 = 0 by omega)]; rfl
          have hSS : gcS g s = enS s (nI (g / 1000 % 10)) (tn (nI (g / 100 % 10))) := by rw [gcS_1 hk, hg, decide_eq_true (show g % 100 = 0 by omega)]; exact if_pos hw
          exact hY hB M1 (by rw [hSS]; exact hS1.up (by omega)) hF1
    · replace hx_42 : (nI (g / 10000)) = 2 := hx_42.trans (by decide)
      refine g_tabIn (off := 73) (by rw [hx_42]; decide) (by rw [hx_42]; decide) (by rw [hx_42]; decide) rfl L_X7_tryGroup_115 ?_
      have hk : g / 10000 = 2 := (nI_eq (a := g / 10000) (b := 2) (by omega) (by omega)).mp hx_42
      refine g_iload rfl ?_
      refine g_if_ne rfl L_X7_tryGroup_137 (fun h_5 => ?_) (fun h_5 => ?_)
      · have hz : ¬ g % 100 = 0 := fun z => h_5 (by rw [z]; rfl)
        refine g_iconst (v := 0) ik_0 ?_
        refine g_fall rfl L_X7_tryGroup_138 ?_
        refine g_zret rfl rfl (nle rfl) (nle rfl) ?_
        have hB : gcB g s = false := by rw [gcB_2 hk, decide_eq_false hz]; rfl
        have hSS : gcS g s = s := by rw [gcS_2 hk, decide_eq_false hz]; rfl
        exact hN hB M (by rw [hSS]; exact hS0.up (by omega)) (FrS.rf M _)
      · have hz_93 : g % 100 = 0 := (nI_eq (a := g % 100) (b := 0) (by omega) (by omega)).mp h_5
        refine g_aload_n rfl ?_
        refine g_getR (w := (x + 41)) fl_X7_23 rfl hx.1 rfl ?_
        refine g_iload_n rfl ?_
        refine g_iload_n rfl ?_
        refine g_callV (as := [_, _]) mk_X4_giveUpSeat ml_X7_296 im_X4_giveUpSeat se_X4_giveUpSeat rfl rfl ⟨⟨nle rfl, nle rfl⟩, nle rfl, nle rfl⟩ hx.2.2.2.1.s0 rfl rfl rfl (nle rfl) ?_
        refine k_giveUpSeat hx.2.2.2.1 hS (fun hg => ?_) (fun hg M1 hS1 hF1 => ?_)
        · refine kq_s ?_
          refine g_iconst (v := -1) ik_m1 ?_
          refine g_icmp_eq rfl L_X7_tryGroup_137 (fun h_6 => ?_) (fun h_6 => absurd h_6 (by decide))
          refine g_iconst (v := 0) ik_0 ?_
          refine g_fall rfl L_X7_tryGroup_138 ?_
          refine g_zret rfl rfl (nle rfl) (nle rfl) ?_
          have hB : gcB g s = false := by rw [gcB_2 hk, hg]; simp
          have hSS : gcS g s = s := by rw [gcS_2 hk, hg]; simp
          exact hN hB M (by rw [hSS]; exact hS0.up (by omega)) (FrS.rf M _)
        · obtain ⟨u, hu, eu⟩ := bits_nn (leS s (nI (g / 1000 % 10)) (tn (nI (g / 100 % 10))) (39 + 9 * tn (nI (g / 100 % 10)) + 8))
          refine kq_s ?_
          refine g_iconst (v := -1) ik_m1 ?_
          refine g_icmp_eq rfl L_X7_tryGroup_137 (fun h_7 => (c48 (by omega) (eu.symm.trans h_7)).elim) (fun h_7 => ?_)
          refine g_iconst (v := 1) ik_1 ?_
          refine g_goto rfl L_X7_tryGroup_138 ?_
          refine g_zret rfl rfl (nle rfl) (nle rfl) ?_
          have hB : gcB g s = true := by rw [gcB_2 hk, hg, decide_eq_true (show g % 100 = 0 by omega)]; rfl
          have hSS : gcS g s = leS s (nI (g / 1000 % 10)) (tn (nI (g / 100 % 10))) := by rw [gcS_2 hk, hg, decide_eq_true (show g % 100 = 0 by omega)]; rfl
          exact hY hB M1 (by rw [hSS]; exact hS1.up (by omega)) hF1
    · replace hx_42 : (nI (g / 10000)) = 3 := hx_42.trans (by decide)
      refine g_tabIn (off := 97) (by rw [hx_42]; decide) (by rw [hx_42]; decide) (by rw [hx_42]; decide) rfl L_X7_tryGroup_139 ?_
      have hk : g / 10000 = 3 := (nI_eq (a := g / 10000) (b := 3) (by omega) (by omega)).mp hx_42
      refine g_iload rfl ?_
      refine g_iconst (v := 1) ik_1 ?_
      refine g_bipush (v := 9) bk_9 ?_
      refine g_callS (as := [_, _, _]) mk_X7_isWithin ml_X7_41 sm_X7_isWithin rfl rfl ⟨⟨nle rfl, nle rfl⟩, nle rfl, nle rfl⟩ rfl rfl (nle rfl) ?_
      refine ct_X7_isWithin ?_
      refine kq_s ?_
      refine g_if_eq_b rfl L_X7_tryGroup_167 (fun h_8 => ?_) (fun h_8 => ?_)
      · have hin := (in19 hg0).symm.trans h_8
        refine g_iconst (v := 0) ik_0 ?_
        refine g_fall rfl L_X7_tryGroup_168 ?_
        refine g_zret rfl rfl (nle rfl) (nle rfl) ?_
        have hB : gcB g s = false := by
          rw [gcB_3 hk]
          rw [Bool.and_eq_false_iff] at hin ⊢
          exact hin.imp (fun z => decide_eq_false (fun y => (of_decide_eq_false z) (by omega))) (fun z => decide_eq_false (fun y => (of_decide_eq_false z) (by omega)))
        have hSS : gcS g s = s := by rw [gcS_3 hk, (gcB_3 (s := s) hk).symm.trans hB]; rfl
        exact hN hB M (by rw [hSS]; exact hS0.up (by omega)) (FrS.rf M _)
      · have hin := (in19 hg0).symm.trans h_8
        refine g_aload_n rfl ?_
        refine g_getR (w := (x + 41)) fl_X7_23 rfl hx.1 rfl ?_
        refine g_iload rfl ?_
        refine g_callV (as := [_]) mk_X4_passWeeks ml_X7_299 im_X4_passWeeks se_X4_passWeeks rfl rfl ⟨⟨nle rfl, nle rfl⟩, nle rfl, nle rfl⟩ hx.2.2.2.1.s0 rfl rfl rfl (nle rfl) ?_
        refine k_passWeeks hx.2.2.2.1 hS (g % 10000) rfl (by omega) (fun u M1 hu eu hS1 hF1 => ?_)
        · refine kq_s ?_
          refine g_iconst (v := -1) ik_m1 ?_
          refine g_icmp_eq rfl L_X7_tryGroup_167 (fun h_9 => (c48 (by omega) h_9).elim) (fun h_9 => ?_)
          refine g_iconst (v := 1) ik_1 ?_
          refine g_goto rfl L_X7_tryGroup_168 ?_
          refine g_zret rfl rfl (nle rfl) (nle rfl) ?_
          rw [Bool.and_eq_true] at hin
          have h1 := of_decide_eq_true hin.1
          have h2 := of_decide_eq_true hin.2
          have hB : gcB g s = true := by rw [gcB_3 hk, decide_eq_true (show 30001 ≤ g by omega), decide_eq_true (show g ≤ 30009 by omega)]; rfl
          have hSS : gcS g s = wkC (g % 100) s := by rw [gcS_3 hk, (gcB_3 (s := s) hk).symm.trans hB]; rfl
          exact hY hB M1 (by rw [hSS, show g % 100 = g % 10000 by omega]; exact hS1.up (by omega)) hF1
    · replace hx_42 : (nI (g / 10000)) = 4 := hx_42.trans (by decide)
      refine g_tabIn (off := 127) (by rw [hx_42]; decide) (by rw [hx_42]; decide) (by rw [hx_42]; decide) rfl L_X7_tryGroup_169 ?_
      have hk : g / 10000 = 4 := (nI_eq (a := g / 10000) (b := 4) (by omega) (by omega)).mp hx_42
      refine g_iload rfl ?_
      refine g_if_ne rfl L_X7_tryGroup_190 (fun h_10 => ?_) (fun h_10 => ?_)
      · have hz : ¬ g % 1000 = 0 := fun z => h_10 (by rw [z]; rfl)
        refine g_iconst (v := 0) ik_0 ?_
        refine g_fall rfl L_X7_tryGroup_191 ?_
        refine g_zret rfl rfl (nle rfl) (nle rfl) ?_
        have hB : gcB g s = false := by rw [gcB_4 hk, decide_eq_false hz]; rfl
        have hSS : gcS g s = s := by rw [gcS_4 hk, decide_eq_false hz]; rfl
        exact hN hB M (by rw [hSS]; exact hS0.up (by omega)) (FrS.rf M _)
      · have hz_169 : g % 1000 = 0 := (nI_eq (a := g % 1000) (b := 0) (by omega) (by omega)).mp h_10
        refine g_aload_n rfl ?_
        refine g_getR (w := (x + 41)) fl_X7_23 rfl hx.1 rfl ?_
        refine g_iload_n rfl ?_
        refine g_callV (as := [_]) mk_X4_givePass ml_X7_286 im_X4_givePass se_X4_givePass rfl rfl ⟨⟨nle rfl, nle rfl⟩, nle rfl, nle rfl⟩ hx.2.2.2.1.s0 rfl rfl rfl (nle rfl) ?_
        refine k_givePass hx.2.2.2.1 hS (fun hg => ?_) (fun hg n hn en M1 hS1 hF1 => ?_)
        · refine kq_s ?_
          refine g_iconst (v := -1) ik_m1 ?_
          refine g_icmp_eq rfl L_X7_tryGroup_190 (fun h_11 => ?_) (fun h_11 => absurd h_11 (by decide))
          refine g_iconst (v := 0) ik_0 ?_
          refine g_fall rfl L_X7_tryGroup_191 ?_
          refine g_zret rfl rfl (nle rfl) (nle rfl) ?_
          have hB : gcB g s = false := by rw [gcB_4 hk, hg]; simp
          have hSS : gcS g s = s := by rw [gcS_4 hk, hg]; simp
          exact hN hB M (by rw [hSS]; exact hS0.up (by omega)) (FrS.rf M _)
        · refine kq_s ?_
          refine g_iconst (v := -1) ik_m1 ?_
          refine g_icmp_eq rfl L_X7_tryGroup_190 (fun h_12 => (c48 (by omega) h_12).elim) (fun h_12 => ?_)
          refine g_iconst (v := 1) ik_1 ?_
          refine g_goto rfl L_X7_tryGroup_191 ?_
          refine g_zret rfl rfl (nle rfl) (nle rfl) ?_
          have hB : gcB g s = true := by rw [gcB_4 hk, hg, decide_eq_true (show g % 1000 = 0 by omega)]; rfl
          have hSS : gcS g s = paS s (tn (nI (g / 1000 % 10))) := by rw [gcS_4 hk, hg, decide_eq_true (show g % 1000 = 0 by omega)]; rfl
          exact hY hB M1 (by rw [hSS]; exact hS1.up (by omega)) hF1
    · replace hx_42 : (nI (g / 10000)) = 5 := hx_42.trans (by decide)
      refine g_tabIn (off := 150) (by rw [hx_42]; decide) (by rw [hx_42]; decide) (by rw [hx_42]; decide) rfl L_X7_tryGroup_192 ?_
      have hk : g / 10000 = 5 := (nI_eq (a := g / 10000) (b := 5) (by omega) (by omega)).mp hx_42
      refine g_iload rfl ?_
      refine g_if_ne rfl L_X7_tryGroup_213 (fun h_13 => ?_) (fun h_13 => ?_)
      · have hz : ¬ g % 1000 = 0 := fun z => h_13 (by rw [z]; rfl)
        refine g_iconst (v := 0) ik_0 ?_
        refine g_fall rfl L_X7_tryGroup_214 ?_
        refine g_zret rfl rfl (nle rfl) (nle rfl) ?_
        have hB : gcB g s = false := by rw [gcB_5 hk, decide_eq_false hz]; rfl
        have hSS : gcS g s = s := by rw [gcS_5 hk, decide_eq_false hz]; rfl
        exact hN hB M (by rw [hSS]; exact hS0.up (by omega)) (FrS.rf M _)
      · have hz_205 : g % 1000 = 0 := (nI_eq (a := g % 1000) (b := 0) (by omega) (by omega)).mp h_13
        refine g_aload_n rfl ?_
        refine g_getR (w := (x + 41)) fl_X7_23 rfl hx.1 rfl ?_
        refine g_iload_n rfl ?_
        refine g_callV (as := [_]) mk_X4_dropLesson ml_X7_277 im_X4_dropLesson se_X4_dropLesson rfl rfl ⟨⟨nle rfl, nle rfl⟩, nle rfl, nle rfl⟩ hx.2.2.2.1.s0 rfl rfl rfl (nle rfl) ?_
        refine k_dropLesson hx.2.2.2.1 hS (fun hg => ?_) (fun hg M1 hS1 hF1 => ?_)
        · refine kq_s ?_
          refine g_iconst (v := -1) ik_m1 ?_
          refine g_icmp_eq rfl L_X7_tryGroup_213 (fun h_14 => ?_) (fun h_14 => absurd h_14 (by decide))
          refine g_iconst (v := 0) ik_0 ?_
          refine g_fall rfl L_X7_tryGroup_214 ?_
          refine g_zret rfl rfl (nle rfl) (nle rfl) ?_
          have hB : gcB g s = false := by rw [gcB_5 hk, hg]; simp
          have hSS : gcS g s = s := by rw [gcS_5 hk, hg]; simp
          exact hN hB M (by rw [hSS]; exact hS0.up (by omega)) (FrS.rf M _)
        · obtain ⟨u, hu, eu⟩ := bits_nn (s (39 + 9 * tn (nI (g / 1000 % 10)) + 8))
          refine kq_s ?_
          refine g_iconst (v := -1) ik_m1 ?_
          refine g_icmp_eq rfl L_X7_tryGroup_213 (fun h_15 => (c48 (by omega) (eu.symm.trans h_15)).elim) (fun h_15 => ?_)
          refine g_iconst (v := 1) ik_1 ?_
          refine g_goto rfl L_X7_tryGroup_214 ?_
          refine g_zret rfl rfl (nle rfl) (nle rfl) ?_
          have hB : gcB g s = true := by rw [gcB_5 hk, hg, decide_eq_true (show g % 1000 = 0 by omega)]; rfl
          have hSS : gcS g s = drS s (cN s 2) (tn (nI (g / 1000 % 10))) := by rw [gcS_5 hk, hg, decide_eq_true (show g % 1000 = 0 by omega)]; rfl
          exact hY hB M1 (by rw [hSS]; exact hS1.up (by omega)) hF1
    · replace hx_42 : (nI (g / 10000)) = 6 := hx_42.trans (by decide)
      refine g_tabIn (off := 173) (by rw [hx_42]; decide) (by rw [hx_42]; decide) (by rw [hx_42]; decide) rfl L_X7_tryGroup_215 ?_
      have hk : g / 10000 = 6 := (nI_eq (a := g / 10000) (b := 6) (by omega) (by omega)).mp hx_42
      refine g_iload rfl ?_
      refine g_bipush (v := 10) bk_10 ?_
      refine g_icmp_ge rfl L_X7_tryGroup_254 (fun h_16 => ?_) (fun h_16 => ?_)
      · have hz : ¬ g % 1000 < 10 := fun q => absurd ((nI_ltI (a := g % 1000) (b := 10) (by omega) (by omega)).mpr q) (Int32.not_lt.mpr h_16)
        refine g_iconst (v := 0) ik_0 ?_
        refine g_fall rfl L_X7_tryGroup_255 ?_
        refine g_zret rfl rfl (nle rfl) (nle rfl) ?_
        have hSS := gcS_6 (s := s) hk
        have hB : gcB g s = false := by rw [gcB_6 hk, decide_eq_false hz]; rfl
        exact hN hB M (by rw [hSS]; exact hS0.up (by omega)) (FrS.rf M _)
      · have hz6 : g % 1000 < 10 := (nI_ltI (a := g % 1000) (b := 10) (by omega) (by omega)).mp (Int32.not_le.mp h_16)
        refine g_aload_n rfl ?_
        refine g_getR (w := (x + 41)) fl_X7_23 rfl hx.1 rfl ?_
        refine g_iload_n rfl ?_
        refine g_callV (as := [_]) mk_X4_hasDancer ml_X7_223 im_X4_hasDancer se_X4_hasDancer rfl rfl ⟨⟨nle rfl, nle rfl⟩, nle rfl, nle rfl⟩ hx.2.2.2.1.s0 rfl rfl rfl (nle rfl) ?_
        obtain ⟨nf, nt, nc, nd, hr, hI⟩ := hS
        refine ct_X4_hasDancer hx.2.2.2.1 ?_
        refine kq_s ?_
        refine g_if_eq_b rfl L_X7_tryGroup_254 (fun h_17 => ?_) (fun h_17 => ?_)
        · have hb : isD s (nI (g / 1000 % 10)) = false := by rw [isD_has hr hI]; exact h_17
          refine g_iconst (v := 0) ik_0 ?_
          refine g_fall rfl L_X7_tryGroup_255 ?_
          refine g_zret rfl rfl (nle rfl) (nle rfl) ?_
          have hSS := gcS_6 (s := s) hk
          have hB : gcB g s = false := by rw [gcB_6 hk, hb, Bool.false_and, Bool.and_false]
          exact hN hB M (by rw [hSS]; exact hS0.up (by omega)) (FrS.rf M _)
        · have hb : isD s (nI (g / 1000 % 10)) = true := by rw [isD_has hr hI]; exact h_17
          have hdx : g / 1000 % 10 < nd := by
            obtain ⟨d, hd, ed⟩ := hI.xD.mp hb
            have := (nI_eq (a := g / 1000 % 10) (b := d) (by omega) (by have := hI.ld; omega)).mp ed
            omega
          have bn := hI.ld
          refine g_aload_n rfl ?_
          refine g_getR (w := (x + 41)) fl_X7_23 rfl hx.1 rfl ?_
          refine g_getR (w := ((x + 41) + 23)) fl_X7_226 rfl hx.2.2.2.1.s0 rfl ?_
          refine g_iload_n rfl ?_
          refine g_aaload (j := ((g / 1000) % 10)) (w := ((x + 41) + 24 + ((g / 1000) % 10))) hx.2.2.2.1.da (nle rfl) (by simp only [nI, Int32.ofNat_add, Int32.ofNat_mul] <;> rfl) (by omega) (nle rfl) (rcs_get (by omega)) ?_
          refine g_getI fl_X7_230 rfl (hx.2.2.2.1.di (by omega)) rfl ?_
          rw [(hr.2.2.2.2 _ hdx).1]
          refine g_iload rfl ?_
          refine g_icmp_lt rfl L_X7_tryGroup_254 (fun h_18 => ?_) (fun h_18 => ?_)
          · have hc := h_18
            refine g_iconst (v := 0) ik_0 ?_
            refine g_fall rfl L_X7_tryGroup_255 ?_
            refine g_zret rfl rfl (nle rfl) (nle rfl) ?_
            have hSS := gcS_6 (s := s) hk
            have hB : gcB g s = false := by rw [gcB_6 hk, decide_eq_false (Int32.not_le.mpr (by rw [show g % 100 = g % 1000 by omega]; exact hc)), Bool.and_false, Bool.and_false]
            exact hN hB M (by rw [hSS]; exact hS0.up (by omega)) (FrS.rf M _)
          · have hc := h_18
            refine g_iconst (v := 1) ik_1 ?_
            refine g_goto rfl L_X7_tryGroup_255 ?_
            refine g_zret rfl rfl (nle rfl) (nle rfl) ?_
            have hSS := gcS_6 (s := s) hk
            have hB : gcB g s = true := by rw [gcB_6 hk, decide_eq_true hz6, decide_eq_true (Int32.not_lt.mp (by rw [show g % 100 = g % 1000 by omega]; exact hc)), hb]; rfl
            exact hY hB M (by rw [hSS]; exact hS0.up (by omega)) (FrS.rf M _)
    · replace hx_42 : (nI (g / 10000)) = 7 := hx_42.trans (by decide)
      refine g_tabIn (off := 214) (by rw [hx_42]; decide) (by rw [hx_42]; decide) (by rw [hx_42]; decide) rfl L_X7_tryGroup_256 ?_
      have hk : g / 10000 = 7 := (nI_eq (a := g / 10000) (b := 7) (by omega) (by omega)).mp hx_42
      refine g_iload_n rfl ?_
      refine g_if_ne rfl L_X7_tryGroup_292 (fun h_19 => ?_) (fun h_19 => ?_)
      · have hz : ¬ g / 100 % 10 = 0 := fun z => h_19 (by rw [z]; rfl)
        refine g_iconst (v := 0) ik_0 ?_
        refine g_fall rfl L_X7_tryGroup_293 ?_
        refine g_zret rfl rfl (nle rfl) (nle rfl) ?_
        have hSS := gcS_7 (s := s) hk
        have hB : gcB g s = false := by rw [gcB_7 hk, decide_eq_false hz]; rfl
        exact hN hB M (by rw [hSS]; exact hS0.up (by omega)) (FrS.rf M _)
      · have hz_300 : g / 100 % 10 = 0 := (nI_eq (a := g / 100 % 10) (b := 0) (by omega) (by omega)).mp h_19
        refine g_aload_n rfl ?_
        refine g_getR (w := (x + 41)) fl_X7_23 rfl hx.1 rfl ?_
        refine g_iload_n rfl ?_
        refine g_callV (as := [_]) mk_X4_hasDancer ml_X7_223 im_X4_hasDancer se_X4_hasDancer rfl rfl ⟨⟨nle rfl, nle rfl⟩, nle rfl, nle rfl⟩ hx.2.2.2.1.s0 rfl rfl rfl (nle rfl) ?_
        obtain ⟨nf, nt, nc, nd, hr, hI⟩ := hS
        refine ct_X4_hasDancer hx.2.2.2.1 ?_
        refine kq_s ?_
        refine g_if_eq_b rfl L_X7_tryGroup_292 (fun h_20 => ?_) (fun h_20 => ?_)
        · have hb : isD s (nI (g / 1000 % 10)) = false := by rw [isD_has hr hI]; exact h_20
          refine g_iconst (v := 0) ik_0 ?_
          refine g_fall rfl L_X7_tryGroup_293 ?_
          refine g_zret rfl rfl (nle rfl) (nle rfl) ?_
          have hSS := gcS_7 (s := s) hk
          have hB : gcB g s = false := by rw [gcB_7 hk, hb, Bool.false_and, Bool.and_false]
          exact hN hB M (by rw [hSS]; exact hS0.up (by omega)) (FrS.rf M _)
        · have hb : isD s (nI (g / 1000 % 10)) = true := by rw [isD_has hr hI]; exact h_20
          have hdx : g / 1000 % 10 < nd := by
            obtain ⟨d, hd, ed⟩ := hI.xD.mp hb
            have := (nI_eq (a := g / 1000 % 10) (b := d) (by omega) (by have := hI.ld; omega)).mp ed
            omega
          have bn := hI.ld
          refine g_aload_n rfl ?_
          refine g_getR (w := (x + 41)) fl_X7_23 rfl hx.1 rfl ?_
          refine g_getR (w := ((x + 41) + 23)) fl_X7_226 rfl hx.2.2.2.1.s0 rfl ?_
          refine g_iload_n rfl ?_
          refine g_aaload (j := ((g / 1000) % 10)) (w := ((x + 41) + 24 + ((g / 1000) % 10))) hx.2.2.2.1.da (nle rfl) (by simp only [nI, Int32.ofNat_add, Int32.ofNat_mul] <;> rfl) (by omega) (nle rfl) (rcs_get (by omega)) ?_
          refine g_getI fl_X7_236 rfl (hx.2.2.2.1.di (by omega)) rfl ?_
          rw [(hr.2.2.2.2 _ hdx).2.2.1]
          refine g_iload rfl ?_
          refine g_icmp_lt rfl L_X7_tryGroup_292 (fun h_21 => ?_) (fun h_21 => ?_)
          · have hc := h_21
            refine g_iconst (v := 0) ik_0 ?_
            refine g_fall rfl L_X7_tryGroup_293 ?_
            refine g_zret rfl rfl (nle rfl) (nle rfl) ?_
            have hSS := gcS_7 (s := s) hk
            have hB : gcB g s = false := by rw [gcB_7 hk, decide_eq_false (Int32.not_le.mpr hc), Bool.and_false, Bool.and_false]
            exact hN hB M (by rw [hSS]; exact hS0.up (by omega)) (FrS.rf M _)
          · have hc := h_21
            refine g_iconst (v := 1) ik_1 ?_
            refine g_goto rfl L_X7_tryGroup_293 ?_
            refine g_zret rfl rfl (nle rfl) (nle rfl) ?_
            have hSS := gcS_7 (s := s) hk
            have hB : gcB g s = true := by rw [gcB_7 hk, decide_eq_true (show g / 100 % 10 = 0 by omega), decide_eq_true (Int32.not_lt.mp hc), hb]; rfl
            exact hY hB M (by rw [hSS]; exact hS0.up (by omega)) (FrS.rf M _)
    · replace hx_42 : (nI (g / 10000)) = 8 := hx_42.trans (by decide)
      refine g_tabIn (off := 252) (by rw [hx_42]; decide) (by rw [hx_42]; decide) (by rw [hx_42]; decide) rfl L_X7_tryGroup_294 ?_
      have hk : g / 10000 = 8 := (nI_eq (a := g / 10000) (b := 8) (by omega) (by omega)).mp hx_42
      refine g_iload_n rfl ?_
      refine g_if_ne rfl L_X7_tryGroup_330 (fun h_22 => ?_) (fun h_22 => ?_)
      · have hz : ¬ g / 100 % 10 = 0 := fun z => h_22 (by rw [z]; rfl)
        refine g_iconst (v := 0) ik_0 ?_
        refine g_fall rfl L_X7_tryGroup_331 ?_
        refine g_zret rfl rfl (nle rfl) (nle rfl) ?_
        have hSS := gcS_8 (s := s) hk
        have hB : gcB g s = false := by rw [gcB_8 hk, decide_eq_false hz]; rfl
        exact hN hB M (by rw [hSS]; exact hS0.up (by omega)) (FrS.rf M _)
      · have hz_357 : g / 100 % 10 = 0 := (nI_eq (a := g / 100 % 10) (b := 0) (by omega) (by omega)).mp h_22
        refine g_aload_n rfl ?_
        refine g_getR (w := (x + 41)) fl_X7_23 rfl hx.1 rfl ?_
        refine g_iload_n rfl ?_
        refine g_callV (as := [_]) mk_X4_hasLesson ml_X7_185 im_X4_hasLesson se_X4_hasLesson rfl rfl ⟨⟨nle rfl, nle rfl⟩, nle rfl, nle rfl⟩ hx.2.2.2.1.s0 rfl rfl rfl (nle rfl) ?_
        obtain ⟨nf, nt, nc, nd, hr, hI⟩ := hS
        refine ct_X4_hasLesson hx.2.2.2.1 ?_
        refine kq_s ?_
        refine g_if_eq_b rfl L_X7_tryGroup_330 (fun h_23 => ?_) (fun h_23 => ?_)
        · have hb : isC s (nI (g / 1000 % 10)) = false := by rw [isC_has hr hI]; exact h_23
          refine g_iconst (v := 0) ik_0 ?_
          refine g_fall rfl L_X7_tryGroup_331 ?_
          refine g_zret rfl rfl (nle rfl) (nle rfl) ?_
          have hSS := gcS_8 (s := s) hk
          have hB : gcB g s = false := by rw [gcB_8 hk, hb, Bool.false_and, Bool.and_false]
          exact hN hB M (by rw [hSS]; exact hS0.up (by omega)) (FrS.rf M _)
        · have hb : isC s (nI (g / 1000 % 10)) = true := by rw [isC_has hr hI]; exact h_23
          have hdx : g / 1000 % 10 < nc := by
            obtain ⟨d, hd, ed⟩ := hI.xC.mp hb
            have := (nI_eq (a := g / 1000 % 10) (b := d) (by omega) (by have := hI.lc; omega)).mp ed
            omega
          have bc := hI.lc
          refine g_aload_n rfl ?_
          refine g_getR (w := (x + 41)) fl_X7_23 rfl hx.1 rfl ?_
          refine g_getR (w := ((x + 41) + 12)) fl_X7_188 rfl hx.2.2.2.1.s0 rfl ?_
          refine g_iload_n rfl ?_
          refine g_aaload (j := ((g / 1000) % 10)) (w := ((x + 41) + 13 + ((g / 1000) % 10))) hx.2.2.2.1.la (nle rfl) (by simp only [nI, Int32.ofNat_add, Int32.ofNat_mul] <;> rfl) (by omega) (nle rfl) (rcs_get (by omega)) ?_
          refine g_callV (as := []) mk_X3_countSeats ml_X7_216 im_X3_countSeats se_X3_countSeats rfl rfl ⟨⟨nle rfl, nle rfl⟩, nle rfl, nle rfl⟩ (hx.2.2.2.1.li (by omega)) rfl rfl rfl (nle rfl) ?_
          refine ct_X3_countSeats (hx.2.2.2.1.li (by omega)) ?_
          refine kq_s ?_
          rw [(hr.2.2.2.1 _ hdx).2.2.2.2.2.2.1, bc_bd (hI.cl hdx).2.2.2]
          refine g_iload rfl ?_
          refine g_icmp_lt rfl L_X7_tryGroup_330 (fun h_24 => ?_) (fun h_24 => ?_)
          · have hc := h_24
            refine g_iconst (v := 0) ik_0 ?_
            refine g_fall rfl L_X7_tryGroup_331 ?_
            refine g_zret rfl rfl (nle rfl) (nle rfl) ?_
            have hSS := gcS_8 (s := s) hk
            have hB : gcB g s = false := by rw [gcB_8 hk, decide_eq_false (Int32.not_le.mpr hc), Bool.and_false, Bool.and_false]
            exact hN hB M (by rw [hSS]; exact hS0.up (by omega)) (FrS.rf M _)
          · have hc := h_24
            refine g_iconst (v := 1) ik_1 ?_
            refine g_goto rfl L_X7_tryGroup_331 ?_
            refine g_zret rfl rfl (nle rfl) (nle rfl) ?_
            have hSS := gcS_8 (s := s) hk
            have hB : gcB g s = true := by rw [gcB_8 hk, decide_eq_true (show g / 100 % 10 = 0 by omega), decide_eq_true (Int32.not_lt.mp hc), hb]; rfl
            exact hY hB M (by rw [hSS]; exact hS0.up (by omega)) (FrS.rf M _)
    · replace hx_42 : (nI (g / 10000)) = 9 := hx_42.trans (by decide)
      refine g_tabIn (off := 290) (by rw [hx_42]; decide) (by rw [hx_42]; decide) (by rw [hx_42]; decide) rfl L_X7_tryGroup_332 ?_
      have hk : g / 10000 = 9 := (nI_eq (a := g / 10000) (b := 9) (by omega) (by omega)).mp hx_42
      have hr9 : M (x + 41) 10 = s 7 := by
        obtain ⟨nf, nt, nc, nd, hr, hI⟩ := hS
        exact hr.1.2.2.2.2.2.1
      refine g_iload_n rfl ?_
      refine g_if_ne rfl L_X7_tryGroup_356 (fun h_25 => ?_) (fun h_25 => ?_)
      · have hz : ¬ g / 1000 % 10 = 0 := fun z => h_25 (by rw [z]; rfl)
        refine g_iconst (v := 0) ik_0 ?_
        refine g_fall rfl L_X7_tryGroup_357 ?_
        refine g_zret rfl rfl (nle rfl) (nle rfl) ?_
        have hSS := gcS_9 (s := s) hk
        have hB : gcB g s = false := by rw [gcB_9 hk, decide_eq_false hz]; rfl
        exact hN hB M (by rw [hSS]; exact hS0.up (by omega)) (FrS.rf M _)
      · have hz_419 : g / 1000 % 10 = 0 := (nI_eq (a := g / 1000 % 10) (b := 0) (by omega) (by omega)).mp h_25
        refine g_iload_n rfl ?_
        refine g_if_ne rfl L_X7_tryGroup_356 (fun h_26 => ?_) (fun h_26 => ?_)
        · have hz : ¬ g / 100 % 10 = 0 := fun z => h_26 (by rw [z]; rfl)
          refine g_iconst (v := 0) ik_0 ?_
          refine g_fall rfl L_X7_tryGroup_357 ?_
          refine g_zret rfl rfl (nle rfl) (nle rfl) ?_
          have hSS := gcS_9 (s := s) hk
          have hB : gcB g s = false := by rw [gcB_9 hk, decide_eq_false hz, Bool.false_and, Bool.and_false]
          exact hN hB M (by rw [hSS]; exact hS0.up (by omega)) (FrS.rf M _)
        · have hz_429 : g / 100 % 10 = 0 := (nI_eq (a := g / 100 % 10) (b := 0) (by omega) (by omega)).mp h_26
          refine g_aload_n rfl ?_
          refine g_getR (w := (x + 41)) fl_X7_23 rfl hx.1 rfl ?_
          refine g_getI fl_X7_119 rfl hx.2.2.2.1.s0 rfl ?_
          rw [hr9]
          refine g_iload rfl ?_
          refine g_icmp_lt rfl L_X7_tryGroup_356 (fun h_27 => ?_) (fun h_27 => ?_)
          · have hc := h_27
            refine g_iconst (v := 0) ik_0 ?_
            refine g_fall rfl L_X7_tryGroup_357 ?_
            refine g_zret rfl rfl (nle rfl) (nle rfl) ?_
            have hSS := gcS_9 (s := s) hk
            have hB : gcB g s = false := by rw [gcB_9 hk, decide_eq_false (Int32.not_le.mpr hc), Bool.and_false, Bool.and_false]
            exact hN hB M (by rw [hSS]; exact hS0.up (by omega)) (FrS.rf M _)
          · have hc := h_27
            refine g_iconst (v := 1) ik_1 ?_
            refine g_goto rfl L_X7_tryGroup_357 ?_
            refine g_zret rfl rfl (nle rfl) (nle rfl) ?_
            have hSS := gcS_9 (s := s) hk
            have hB : gcB g s = true := by rw [gcB_9 hk, decide_eq_true (show g / 1000 % 10 = 0 by omega), decide_eq_true (show g / 100 % 10 = 0 by omega), decide_eq_true (Int32.not_lt.mp hc)]; rfl
            exact hY hB M (by rw [hSS]; exact hS0.up (by omega)) (FrS.rf M _)
  · refine g_tabOut (ho_42.imp (fun h => h) (fun h => h)) rfl L_X7_tryGroup_358 ?_
    have hd_42_0 : ¬ (nI (g / 10000)) = 1 := sw_ne ho_42 1 (by decide)
    have hd_42_1 : ¬ (nI (g / 10000)) = 2 := sw_ne ho_42 2 (by decide)
    have hd_42_2 : ¬ (nI (g / 10000)) = 3 := sw_ne ho_42 3 (by decide)
    have hd_42_3 : ¬ (nI (g / 10000)) = 4 := sw_ne ho_42 4 (by decide)
    have hd_42_4 : ¬ (nI (g / 10000)) = 5 := sw_ne ho_42 5 (by decide)
    have hd_42_5 : ¬ (nI (g / 10000)) = 6 := sw_ne ho_42 6 (by decide)
    have hd_42_6 : ¬ (nI (g / 10000)) = 7 := sw_ne ho_42 7 (by decide)
    have hd_42_7 : ¬ (nI (g / 10000)) = 8 := sw_ne ho_42 8 (by decide)
    have hd_42_8 : ¬ (nI (g / 10000)) = 9 := sw_ne ho_42 9 (by decide)
    have hk : g / 10000 < 1 ∨ 9 < g / 10000 := by
      rcases ho_42 with h | h
      · rw [nI_toInt (by omega)] at h; omega
      · rw [nI_toInt (by omega)] at h; omega
    refine g_iconst (v := 0) ik_0 ?_
    refine g_zret rfl rfl (nle rfl) (nle rfl) ?_
    exact hN (gcB_0 hk) M (by rw [gcS_0 hk]; exact hS0.up (by omega)) (FrS.rf M _)
