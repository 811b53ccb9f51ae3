theorem in_out {x : Int32} {n : Nat} (h : x.toInt < (0 : Nat) ∨ ((0 + n : Nat) : Int) - 1 < x.toInt) (hn : 1 ≤ n ∧ n < 100) {hi : Int32} (e : hi = nI (n - 1)) : inB x 0 hi = false := by
  cases hb : inB x 0 hi with
  | false => rfl
  | true =>
    exfalso
    unfold inB at hb
    rw [Bool.and_eq_true] at hb
    have h1 := Int32.le_iff_toInt_le.mp (of_decide_eq_true hb.1)
    have h2 := Int32.le_iff_toInt_le.mp (of_decide_eq_true hb.2)
    have h3 : (0 : Int32).toInt = 0 := by decide
    rw [e, nI_toInt (by omega)] at h2
    omega
theorem in_no {x hi : Int32} {n k : Nat} (e : hi = nI n) (hn : n < 100) (hk : k ≤ n) (hx : x = nI k) : inB x 0 hi = true := by
  subst e hx
  unfold inB
  rw [Bool.and_eq_true]
  exact ⟨decide_eq_true ((nI_leI (a := 0) (b := k) (by omega) (by omega)).mpr (Nat.zero_le _)), decide_eq_true ((nI_leI (by omega) (by omega)).mpr hk)⟩
def seatsV (s : Nat → Int32) : Int32 := sumI (cN s 2) (fun k => bitsI (s (39 + 9 * k + 8)))
def leftV (s : Nat → Int32) : Int32 := sumI (cN s 3) (fun d => s (129 + 5 * d + 2))
def abV (s : Nat → Int32) (w : Nat) : Int32 := if w = 5 then seatsV s else if w = 8 then leftV s else if w < 5 then s w else if w < 8 then s (w - 1) else s (w - 2)
def clsV (s : Nat → Int32) (w : Nat) (v : Int32) : Int32 := sumI (cN s 2) (fun k => if s (39 + 9 * k + w) = v then 1 else 0)
def flV (s : Nat → Int32) (k w : Nat) : Int32 := if w < 4 then s (13 + 4 * k + w) else if w = 4 then clsV s 2 (nI k) else 36 - clsV s 2 (nI k)
def dayV (s : Nat → Int32) (k : Nat) : Int32 := bitsI (orI (cN s 2) (fun c => if s (39 + 9 * c + 3) = nI k then 1 <<< (s (39 + 9 * c + 4) &&& 31) else 0))
def teV (s : Nat → Int32) (k w : Nat) : Int32 := if w < 2 then s (29 + 2 * k + w) else if w = 2 then clsV s 3 (nI k) else dayV s k
def tkV (s : Nat → Int32) (k : Nat) : Int32 := tkI (s (13 + 4 * tn (s (39 + 9 * k + 2)) + 3)) (s (13 + 4 * tn (s (39 + 9 * k + 2)) + 2)) (s (39 + 9 * k + 0))
def clV (s : Nat → Int32) (k w : Nat) : Int32 := if w = 6 then tkV s k else if w = 7 then bitsI (s (39 + 9 * k + 8)) else if w < 6 then s (39 + 9 * k + w) else s (39 + 9 * k + (w - 2))
def daV (s : Nat → Int32) (d w : Nat) : Int32 := if w = 5 then sumI (cN s 2) (fun k => if bitS (s (39 + 9 * k + 8)) (nI d) = true then 1 else 0) else s (129 + 5 * d + w)
section EQS
variable {B nf nt nc nd : Nat} {s : Nat → Int32} {M : Mem} {o : Nat}
theorem e_seats (hr : RepS M o nf nt nc nd s) (hI : Inv B nf nt nc nd s) : sumI nc (fun k => bcI (M (o + 13 + k) 6)) = seatsV s := by
  unfold seatsV
  rw [hI.n2]
  exact sumI_congr fun k hk => by rw [(hr.2.2.2.1 k hk).2.2.2.2.2.2.1, bc_bd (hI.cl hk).2.2.2]
theorem e_left (hr : RepS M o nf nt nc nd s) (hI : Inv B nf nt nc nd s) : sumI nd (fun k => M (o + 24 + k) 2) = leftV s := by
  unfold leftV
  rw [hI.n3]
  exact sumI_congr fun k hk => (hr.2.2.2.2 k hk).2.2.1
theorem e_passes (hr : RepS M o nf nt nc nd s) (hI : Inv B nf nt nc nd s) : sumI nd (fun k => M (o + 24 + k) 3) = s 5 := by
  rw [hI.sm.1]
  exact sumI_congr fun k hk => (hr.2.2.2.2 k hk).2.2.2
theorem e_uses (hr : RepS M o nf nt nc nd s) (hI : Inv B nf nt nc nd s) : sumI nd (fun k => 10 * M (o + 24 + k) 3 - M (o + 24 + k) 2) = s 6 := by
  rw [hI.sm.2.1]
  exact sumI_congr fun k hk => by rw [(hr.2.2.2.2 k hk).2.2.1, (hr.2.2.2.2 k hk).2.2.2, (hI.da hk).2]
theorem e_uses2 (hr : RepS M o nf nt nc nd s) (hI : Inv B nf nt nc nd s) : M o 13 + sumI nc (fun k => M (o + 13 + k) 8) = s 6 := by
  rw [hI.sm.2.2, hr.1.2.2.2.2.2.2.2.1]
  exact congrArg _ (sumI_congr fun k hk => (hr.2.2.2.1 k hk).2.2.2.2.2.2.2.2)
theorem e_onf (hr : RepS M o nf nt nc nd s) (hI : Inv B nf nt nc nd s) (v : Int32) : sumI nc (fun k => if M (o + 13 + k) 2 = v then (1 : Int32) else 0) = clsV s 2 v := by
  unfold clsV
  rw [hI.n2]
  exact sumI_congr fun k hk => by rw [(hr.2.2.2.1 k hk).2.2.1]
theorem e_byt (hr : RepS M o nf nt nc nd s) (hI : Inv B nf nt nc nd s) (v : Int32) : sumI nc (fun k => if M (o + 13 + k) 3 = v then (1 : Int32) else 0) = clsV s 3 v := by
  unfold clsV
  rw [hI.n2]
  exact sumI_congr fun k hk => by rw [(hr.2.2.2.1 k hk).2.2.2.1]
theorem e_days (hr : RepS M o nf nt nc nd s) (hI : Inv B nf nt nc nd s) (t : Nat) : bcI (orI nc (fun k => if M (o + 13 + k) 3 = nI t then 1 <<< (M (o + 13 + k) 4 &&& 31) else 0)) = dayV s t := by
  unfold dayV
  rw [hI.n2, orI_congr (g := fun c => if s (39 + 9 * c + 3) = nI t then 1 <<< (s (39 + 9 * c + 4) &&& 31) else 0) fun k hk => by rw [(hr.2.2.2.1 k hk).2.2.2.1, (hr.2.2.2.1 k hk).2.2.2.2.1]]
  exact bc_bd (bd_days (t := t) (fun k hk => hI.cl hk))
theorem e_sod (hr : RepS M o nf nt nc nd s) (hI : Inv B nf nt nc nd s) (d : Int32) : sumI nc (fun k => if bitS (M (o + 13 + k) 6) d = true then (1 : Int32) else 0) = sumI nc (fun k => if bitS (s (39 + 9 * k + 8)) d = true then 1 else 0) := sumI_congr fun k hk => by rw [(hr.2.2.2.1 k hk).2.2.2.2.2.2.1]
theorem e_tk (hr : RepS M o nf nt nc nd s) (hI : Inv B nf nt nc nd s) {k f : Nat} (hk : k < nc) (hf : f < nf) (ef : s (39 + 9 * k + 2) = nI f) : tkI (M (o + 2 + f) 3) (M (o + 2 + f) 2) (M (o + 13 + k) 0) = tkV s k := by
  unfold tkV
  rw [ef, tn_nI (by have := hI.lf; omega), (hr.2.1 f hf).2.2.1, (hr.2.1 f hf).2.2.2, (hr.2.2.2.1 k hk).1]
end EQS
set_option maxRecDepth 100000 in
set_option maxHeartbeats 4000000 in
theorem ct_X7_about {X : Xs} {κ : Kp} {M : Mem} {Q : Rs → Kp → Mem → Prop} {x : Nat} (hx : IsDF κ.2.1 x) {B : Nat} {s : Nat → Int32} (hS : SF B M (x + 4) s) {what : Int32} (hE : inB what 0 11 = false → False) (hY : ∀ w, w < 12 → what = nI w → Q (.inl (some (.int (abV s w)))) κ M) : Ct X m_X7_about [.ref x, .int what] κ M Q := by
  refine ct_of B_X7_about_0 pn_X7 rfl (nle rfl) L_X7_about_0 ?_
  obtain ⟨nf, nt, nc, nd, hr, hI, h9⟩ := hS
  have bf := hI.lf
  have bt := hI.lt
  have bc := hI.lc
  have bn := hI.ld
  have n0 := hI.n0
  have n1 := hI.n1
  have n2 := hI.n2
  have n3 := hI.n3
  refine g_iload_n rfl ?_
  rcases sw_cases what 0 12 (nle rfl) with ⟨j_1, hj_1, hx_1⟩ | ho_1
  · have hc_1 : j_1 = 0 ∨ j_1 = 1 ∨ j_1 = 2 ∨ j_1 = 3 ∨ j_1 = 4 ∨ j_1 = 5 ∨ j_1 = 6 ∨ j_1 = 7 ∨ j_1 = 8 ∨ j_1 = 9 ∨ j_1 = 10 ∨ j_1 = 11 := by omega
    rcases hc_1 with rfl | rfl | rfl | rfl | rfl | rfl | rfl | rfl | rfl | rfl | rfl | rfl
    · replace hx_1 : what = 0 := hx_1.trans (by decide)
      refine g_tabIn (off := 63) (by rw [hx_1]; decide) (by rw [hx_1]; decide) (by rw [hx_1]; decide) rfl L_X7_about_64 ?_
      have hwv := hx_1
      refine g_aload_n rfl ?_
      refine g_getR (w := (x + 4)) fl_X7_19 rfl hx.1 rfl ?_
      refine g_getI fl_X7_92 rfl hx.2.2.1.s0 rfl ?_
      rw [hr.1.1]
      refine g_iret rfl (nle rfl) (nle rfl) ?_
      exact hY 0 (by omega) hwv
    · replace hx_1 : what = 1 := hx_1.trans (by decide)
      refine g_tabIn (off := 71) (by rw [hx_1]; decide) (by rw [hx_1]; decide) (by rw [hx_1]; decide) rfl L_X7_about_72 ?_
      have hwv := hx_1
      refine g_aload_n rfl ?_
      refine g_getR (w := (x + 4)) fl_X7_19 rfl hx.1 rfl ?_
      refine g_getI fl_X7_95 rfl hx.2.2.1.s0 rfl ?_
      rw [hr.1.2.1]
      refine g_iret rfl (nle rfl) (nle rfl) ?_
      exact hY 1 (by omega) hwv
    · replace hx_1 : what = 2 := hx_1.trans (by decide)
      refine g_tabIn (off := 79) (by rw [hx_1]; decide) (by rw [hx_1]; decide) (by rw [hx_1]; decide) rfl L_X7_about_80 ?_
      have hwv := hx_1
      refine g_aload_n rfl ?_
      refine g_getR (w := (x + 4)) fl_X7_19 rfl hx.1 rfl ?_
      refine g_getI fl_X7_98 rfl hx.2.2.1.s0 rfl ?_
      rw [hr.1.2.2.1]
      refine g_iret rfl (nle rfl) (nle rfl) ?_
      exact hY 2 (by omega) hwv
    · replace hx_1 : what = 3 := hx_1.trans (by decide)
      refine g_tabIn (off := 87) (by rw [hx_1]; decide) (by rw [hx_1]; decide) (by rw [hx_1]; decide) rfl L_X7_about_88 ?_
      have hwv := hx_1
      refine g_aload_n rfl ?_
      refine g_getR (w := (x + 4)) fl_X7_19 rfl hx.1 rfl ?_
      refine g_getI fl_X7_101 rfl hx.2.2.1.s0 rfl ?_
      rw [hr.1.2.2.2.1]
      refine g_iret rfl (nle rfl) (nle rfl) ?_
      exact hY 3 (by omega) hwv
    · replace hx_1 : what = 4 := hx_1.trans (by decide)
      refine g_tabIn (off := 95) (by rw [hx_1]; decide) (by rw [hx_1]; decide) (by rw [hx_1]; decide) rfl L_X7_about_96 ?_
      have hwv := hx_1
      refine g_aload_n rfl ?_
      refine g_getR (w := (x + 4)) fl_X7_19 rfl hx.1 rfl ?_
      refine g_getI fl_X7_104 rfl hx.2.2.1.s0 rfl ?_
      rw [hr.1.2.2.2.2.1]
      refine g_iret rfl (nle rfl) (nle rfl) ?_
      exact hY 4 (by omega) hwv
    · replace hx_1 : what = 5 := hx_1.trans (by decide)
      refine g_tabIn (off := 103) (by rw [hx_1]; decide) (by rw [hx_1]; decide) (by rw [hx_1]; decide) rfl L_X7_about_104 ?_
      have hwv := hx_1
      refine g_aload_n rfl ?_
      refine g_getR (w := (x + 4)) fl_X7_19 rfl hx.1 rfl ?_
      refine g_callV (as := []) mk_X4_countSeats ml_X7_107 im_X4_countSeats se_X4_countSeats rfl rfl ⟨⟨nle rfl, nle rfl⟩, nle rfl, nle rfl⟩ hx.2.2.1.s0 rfl rfl rfl (nle rfl) ?_
      refine ct_X4_countSeats hx.2.2.1 (hr.c7 hI) bc ?_
      rw [e_seats hr hI]
      refine kq_s ?_
      refine g_iret rfl (nle rfl) (nle rfl) ?_
      exact hY 5 (by omega) hwv
    · replace hx_1 : what = 6 := hx_1.trans (by decide)
      refine g_tabIn (off := 111) (by rw [hx_1]; decide) (by rw [hx_1]; decide) (by rw [hx_1]; decide) rfl L_X7_about_112 ?_
      have hwv := hx_1
      refine g_aload_n rfl ?_
      refine g_getR (w := (x + 4)) fl_X7_19 rfl hx.1 rfl ?_
      refine g_callV (as := []) mk_X4_countPasses ml_X7_110 im_X4_countPasses se_X4_countPasses rfl rfl ⟨⟨nle rfl, nle rfl⟩, nle rfl, nle rfl⟩ hx.2.2.1.s0 rfl rfl rfl (nle rfl) ?_
      refine ct_X4_countPasses hx.2.2.1 (hr.c8 hI) bn ?_
      rw [e_passes hr hI]
      refine kq_s ?_
      refine g_iret rfl (nle rfl) (nle rfl) ?_
      exact hY 6 (by omega) hwv
    · replace hx_1 : what = 7 := hx_1.trans (by decide)
      refine g_tabIn (off := 119) (by rw [hx_1]; decide) (by rw [hx_1]; decide) (by rw [hx_1]; decide) rfl L_X7_about_120 ?_
      have hwv := hx_1
      refine g_aload_n rfl ?_
      refine g_getR (w := (x + 4)) fl_X7_19 rfl hx.1 rfl ?_
      refine g_callV (as := []) mk_X4_countUsesByDancers ml_X7_113 im_X4_countUsesByDancers se_X4_countUsesByDancers rfl rfl ⟨⟨nle rfl, nle rfl⟩, nle rfl, nle rfl⟩ hx.2.2.1.s0 rfl rfl rfl (nle rfl) ?_
      refine ct_X4_countUsesByDancers hx.2.2.1 (hr.c8 hI) bn ?_
      rw [e_uses hr hI]
      refine kq_s ?_
      refine g_iret rfl (nle rfl) (nle rfl) ?_
      exact hY 7 (by omega) hwv
    · replace hx_1 : what = 8 := hx_1.trans (by decide)
      refine g_tabIn (off := 127) (by rw [hx_1]; decide) (by rw [hx_1]; decide) (by rw [hx_1]; decide) rfl L_X7_about_128 ?_
      have hwv := hx_1
      refine g_aload_n rfl ?_
      refine g_getR (w := (x + 4)) fl_X7_19 rfl hx.1 rfl ?_
      refine g_callV (as := []) mk_X4_countLeft ml_X7_116 im_X4_countLeft se_X4_countLeft rfl rfl ⟨⟨nle rfl, nle rfl⟩, nle rfl, nle rfl⟩ hx.2.2.1.s0 rfl rfl rfl (nle rfl) ?_
      refine ct_X4_countLeft hx.2.2.1 (hr.c8 hI) bn ?_
      rw [e_left hr hI]
      refine kq_s ?_
      refine g_iret rfl (nle rfl) (nle rfl) ?_
      exact hY 8 (by omega) hwv
    · replace hx_1 : what = 9 := hx_1.trans (by decide)
      refine g_tabIn (off := 135) (by rw [hx_1]; decide) (by rw [hx_1]; decide) (by rw [hx_1]; decide) rfl L_X7_about_136 ?_
      have hwv := hx_1
      refine g_aload_n rfl ?_
      refine g_getR (w := (x + 4)) fl_X7_19 rfl hx.1 rfl ?_
      refine g_getI fl_X7_119 rfl hx.2.2.1.s0 rfl ?_
      rw [hr.1.2.2.2.2.2.1]
      refine g_iret rfl (nle rfl) (nle rfl) ?_
      exact hY 9 (by omega) hwv
    · replace hx_1 : what = 10 := hx_1.trans (by decide)
      refine g_tabIn (off := 143) (by rw [hx_1]; decide) (by rw [hx_1]; decide) (by rw [hx_1]; decide) rfl L_X7_about_144 ?_
      have hwv := hx_1
      refine g_aload_n rfl ?_
      refine g_getR (w := (x + 4)) fl_X7_19 rfl hx.1 rfl ?_
      refine g_getI fl_X7_122 rfl hx.2.2.1.s0 rfl ?_
      rw [hr.1.2.2.2.2.2.2.1]
      refine g_iret rfl (nle rfl) (nle rfl) ?_
      exact hY 10 (by omega) hwv
    · replace hx_1 : what = 11 := hx_1.trans (by decide)
      refine g_tabIn (off := 151) (by rw [hx_1]; decide) (by rw [hx_1]; decide) (by rw [hx_1]; decide) rfl L_X7_about_152 ?_
      have hwv := hx_1
      refine g_aload_n rfl ?_
      refine g_getR (w := (x + 4)) fl_X7_19 rfl hx.1 rfl ?_
      refine g_getI fl_X7_125 rfl hx.2.2.1.s0 rfl ?_
      rw [h9]
      refine g_iret rfl (nle rfl) (nle rfl) ?_
      exact hY 11 (by omega) hwv
  · refine g_tabOut (ho_1.imp (fun h => h) (fun h => h)) rfl L_X7_about_160 ?_
    have hd_1_0 : ¬ what = 0 := sw_ne ho_1 0 (by decide)
    have hd_1_1 : ¬ what = 1 := sw_ne ho_1 1 (by decide)
    have hd_1_2 : ¬ what = 2 := sw_ne ho_1 2 (by decide)
    have hd_1_3 : ¬ what = 3 := sw_ne ho_1 3 (by decide)
    have hd_1_4 : ¬ what = 4 := sw_ne ho_1 4 (by decide)
    have hd_1_5 : ¬ what = 5 := sw_ne ho_1 5 (by decide)
    have hd_1_6 : ¬ what = 6 := sw_ne ho_1 6 (by decide)
    have hd_1_7 : ¬ what = 7 := sw_ne ho_1 7 (by decide)
    have hd_1_8 : ¬ what = 8 := sw_ne ho_1 8 (by decide)
    have hd_1_9 : ¬ what = 9 := sw_ne ho_1 9 (by decide)
    have hd_1_10 : ¬ what = 10 := sw_ne ho_1 10 (by decide)
    have hd_1_11 : ¬ what = 11 := sw_ne ho_1 11 (by decide)
    have hout := in_out ho_1 (by omega) (hi := 11) rfl
    exact (hE hout).elim
set_option maxRecDepth 100000 in
set_option maxHeartbeats 4000000 in
theorem ct_X7_floorOf {X : Xs} {κ : Kp} {M : Mem} {Q : Rs → Kp → Mem → Prop} {x : Nat} (hx : IsDF κ.2.1 x) {B : Nat} {s : Nat → Int32} (hS : SF B M (x + 4) s) {v what : Int32} (hE1 : isF s v = false → False) (hE2 : isF s v = true → inB what 0 5 = false → False) (hY : isF s v = true → ∀ k, k < 100 → v = nI k → ∀ w, w < 6 → what = nI w → Q (.inl (some (.int (flV s k w)))) κ M) : Ct X m_X7_floorOf [.ref x, .int v, .int what] κ M Q := by
  refine ct_of B_X7_floorOf_0 pn_X7 rfl (nle rfl) L_X7_floorOf_0 ?_
  obtain ⟨nf, nt, nc, nd, hr, hI, h9⟩ := hS
  have bf := hI.lf
  have bt := hI.lt
  have bc := hI.lc
  have bn := hI.ld
  have n0 := hI.n0
  have n1 := hI.n1
  have n2 := hI.n2
  have n3 := hI.n3
  refine g_aload_n rfl ?_
  refine g_getR (w := (x + 4)) fl_X7_19 rfl hx.1 rfl ?_
  refine g_iload_n rfl ?_
  refine g_callV (as := [_]) mk_X4_hasFloor ml_X7_135 im_X4_hasFloor se_X4_hasFloor rfl rfl ⟨⟨nle rfl, nle rfl⟩, nle rfl, nle rfl⟩ hx.2.2.1.s0 rfl rfl rfl (nle rfl) ?_
  refine ct_X4_hasFloor hx.2.2.1 ?_
  rw [← isF_has hr hI]
  refine kq_s ?_
  refine g_callS (as := [_]) mk_X7_requireIndex ml_X7_139 sm_X7_requireIndex rfl rfl ⟨⟨nle rfl, nle rfl⟩, nle rfl, nle rfl⟩ rfl rfl (nle rfl) ?_
  refine ct_X7_requireIndex (fun hq => ?_) (fun hq => ?_)
  · obtain ⟨k, hk, ek⟩ := hI.xF.mp hq
    subst ek
    refine kq_n ?_
    refine g_aload_n rfl ?_
    refine g_getR (w := (x + 4)) fl_X7_19 rfl hx.1 rfl ?_
    refine g_getR (w := ((x + 4) + 1)) fl_X7_142 rfl hx.2.2.1.s0 rfl ?_
    refine g_iload_n rfl ?_
    refine g_aaload (j := k) (w := ((x + 4) + 2 + k)) hx.2.2.1.fa (nle rfl) rfl (by omega) (nle rfl) (rcs_get (by omega)) ?_
    refine g_astore_n (nle rfl) ?_
    refine g_iload_n rfl ?_
    rcases sw_cases what 0 6 (nle rfl) with ⟨j_22, hj_22, hx_22⟩ | ho_22
    · have hc_22 : j_22 = 0 ∨ j_22 = 1 ∨ j_22 = 2 ∨ j_22 = 3 ∨ j_22 = 4 ∨ j_22 = 5 := by omega
      rcases hc_22 with rfl | rfl | rfl | rfl | rfl | rfl
      · replace hx_22 : what = 0 := hx_22.trans (by decide)
        refine g_tabIn (off := 38) (by rw [hx_22]; decide) (by rw [hx_22]; decide) (by rw [hx_22]; decide) rfl L_X7_floorOf_60 ?_
        have hwv := hx_22
        refine g_aload_n rfl ?_
        refine g_getI fl_X7_146 rfl (hx.2.2.1.fi (by omega)) rfl ?_
        rw [(hr.2.1 k hk).1]
        refine g_iret rfl (nle rfl) (nle rfl) ?_
        exact hY hq k (by omega) rfl 0 (by omega) hwv
      · replace hx_22 : what = 1 := hx_22.trans (by decide)
        refine g_tabIn (off := 43) (by rw [hx_22]; decide) (by rw [hx_22]; decide) (by rw [hx_22]; decide) rfl L_X7_floorOf_65 ?_
        have hwv := hx_22
        refine g_aload_n rfl ?_
        refine g_getI fl_X7_151 rfl (hx.2.2.1.fi (by omega)) rfl ?_
        rw [(hr.2.1 k hk).2.1]
        refine g_iret rfl (nle rfl) (nle rfl) ?_
        exact hY hq k (by omega) rfl 1 (by omega) hwv
      · replace hx_22 : what = 2 := hx_22.trans (by decide)
        refine g_tabIn (off := 48) (by rw [hx_22]; decide) (by rw [hx_22]; decide) (by rw [hx_22]; decide) rfl L_X7_floorOf_70 ?_
        have hwv := hx_22
        refine g_aload_n rfl ?_
        refine g_getI fl_X7_154 rfl (hx.2.2.1.fi (by omega)) rfl ?_
        rw [(hr.2.1 k hk).2.2.1]
        refine g_iret rfl (nle rfl) (nle rfl) ?_
        exact hY hq k (by omega) rfl 2 (by omega) hwv
      · replace hx_22 : what = 3 := hx_22.trans (by decide)
        refine g_tabIn (off := 53) (by rw [hx_22]; decide) (by rw [hx_22]; decide) (by rw [hx_22]; decide) rfl L_X7_floorOf_75 ?_
        have hwv := hx_22
        refine g_aload_n rfl ?_
        refine g_getI fl_X7_157 rfl (hx.2.2.1.fi (by omega)) rfl ?_
        rw [(hr.2.1 k hk).2.2.2]
        refine g_iret rfl (nle rfl) (nle rfl) ?_
        exact hY hq k (by omega) rfl 3 (by omega) hwv
      · replace hx_22 : what = 4 := hx_22.trans (by decide)
        refine g_tabIn (off := 58) (by rw [hx_22]; decide) (by rw [hx_22]; decide) (by rw [hx_22]; decide) rfl L_X7_floorOf_80 ?_
        have hwv := hx_22
        refine g_aload_n rfl ?_
        refine g_getR (w := (x + 4)) fl_X7_19 rfl hx.1 rfl ?_
        refine g_iload_n rfl ?_
        refine g_callV (as := [_]) mk_X4_countLessonsOnFloor ml_X7_160 im_X4_countLessonsOnFloor se_X4_countLessonsOnFloor rfl rfl ⟨⟨nle rfl, nle rfl⟩, nle rfl, nle rfl⟩ hx.2.2.1.s0 rfl rfl rfl (nle rfl) ?_
        refine ct_X4_countLessonsOnFloor hx.2.2.1 (hr.c7 hI) bc ?_
        rw [e_onf hr hI]
        refine kq_s ?_
        refine g_iret rfl (nle rfl) (nle rfl) ?_
        exact hY hq k (by omega) rfl 4 (by omega) hwv
      · replace hx_22 : what = 5 := hx_22.trans (by decide)
        refine g_tabIn (off := 67) (by rw [hx_22]; decide) (by rw [hx_22]; decide) (by rw [hx_22]; decide) rfl L_X7_floorOf_89 ?_
        have hwv := hx_22
        refine g_bipush (v := 36) bk_36 ?_
        refine g_aload_n rfl ?_
        refine g_getR (w := (x + 4)) fl_X7_19 rfl hx.1 rfl ?_
        refine g_iload_n rfl ?_
        refine g_callV (as := [_]) mk_X4_countLessonsOnFloor ml_X7_160 im_X4_countLessonsOnFloor se_X4_countLessonsOnFloor rfl rfl ⟨⟨nle rfl, nle rfl⟩, nle rfl, nle rfl⟩ hx.2.2.1.s0 rfl rfl rfl (nle rfl) ?_
        refine ct_X4_countLessonsOnFloor hx.2.2.1 (hr.c7 hI) bc ?_
        rw [e_onf hr hI]
        refine kq_s ?_
        refine g_isub ?_
        refine g_iret rfl (nle rfl) (nle rfl) ?_
        exact hY hq k (by omega) rfl 5 (by omega) hwv
    · refine g_tabOut (ho_22.imp (fun h => h) (fun h => h)) rfl L_X7_floorOf_101 ?_
      have hd_22_0 : ¬ what = 0 := sw_ne ho_22 0 (by decide)
      have hd_22_1 : ¬ what = 1 := sw_ne ho_22 1 (by decide)
      have hd_22_2 : ¬ what = 2 := sw_ne ho_22 2 (by decide)
      have hd_22_3 : ¬ what = 3 := sw_ne ho_22 3 (by decide)
      have hd_22_4 : ¬ what = 4 := sw_ne ho_22 4 (by decide)
      have hd_22_5 : ¬ what = 5 := sw_ne ho_22 5 (by decide)
      have hout := in_out ho_22 (by omega) (hi := 5) rfl
      exact (hE2 hq hout).elim
  · exact hE1 hq
set_option maxRecDepth 100000 in
set_option maxHeartbeats 4000000 in
theorem ct_X7_teacherOf {X : Xs} {κ : Kp} {M : Mem} {Q : Rs → Kp → Mem → Prop} {x : Nat} (hx : IsDF κ.2.1 x) {B : Nat} {s : Nat → Int32} (hS : SF B M (x + 4) s) {v what : Int32} (hE1 : isT s v = false → False) (hE2 : isT s v = true → inB what 0 3 = false → False) (hY : isT s v = true → ∀ k, k < 100 → v = nI k → ∀ w, w < 4 → what = nI w → Q (.inl (some (.int (teV s k w)))) κ M) : Ct X m_X7_teacherOf [.ref x, .int v, .int what] κ M Q := by
  refine ct_of B_X7_teacherOf_0 pn_X7 rfl (nle rfl) L_X7_teacherOf_0 ?_
  obtain ⟨nf, nt, nc, nd, hr, hI, h9⟩ := hS
  have bf := hI.lf
  have bt := hI.lt
  have bc := hI.lc
  have bn := hI.ld
  have n0 := hI.n0
  have n1 := hI.n1
  have n2 := hI.n2
  have n3 := hI.n3
  refine g_aload_n rfl ?_
  refine g_getR (w := (x + 4)) fl_X7_19 rfl hx.1 rfl ?_
  refine g_iload_n rfl ?_
  refine g_callV (as := [_]) mk_X4_hasTeacher ml_X7_164 im_X4_hasTeacher se_X4_hasTeacher rfl rfl ⟨⟨nle rfl, nle rfl⟩, nle rfl, nle rfl⟩ hx.2.2.1.s0 rfl rfl rfl (nle rfl) ?_
  refine ct_X4_hasTeacher hx.2.2.1 ?_
  rw [← isT_has hr hI]
  refine kq_s ?_
  refine g_callS (as := [_]) mk_X7_requireIndex ml_X7_139 sm_X7_requireIndex rfl rfl ⟨⟨nle rfl, nle rfl⟩, nle rfl, nle rfl⟩ rfl rfl (nle rfl) ?_
  refine ct_X7_requireIndex (fun hq => ?_) (fun hq => ?_)
  · obtain ⟨k, hk, ek⟩ := hI.xT.mp hq
    subst ek
    refine kq_n ?_
    refine g_aload_n rfl ?_
    refine g_getR (w := (x + 4)) fl_X7_19 rfl hx.1 rfl ?_
    refine g_getR (w := ((x + 4) + 6)) fl_X7_167 rfl hx.2.2.1.s0 rfl ?_
    refine g_iload_n rfl ?_
    refine g_aaload (j := k) (w := ((x + 4) + 7 + k)) hx.2.2.1.ta (nle rfl) rfl (by omega) (nle rfl) (rcs_get (by omega)) ?_
    refine g_astore_n (nle rfl) ?_
    refine g_iload_n rfl ?_
    rcases sw_cases what 0 4 (nle rfl) with ⟨j_22, hj_22, hx_22⟩ | ho_22
    · have hc_22 : j_22 = 0 ∨ j_22 = 1 ∨ j_22 = 2 ∨ j_22 = 3 := by omega
      rcases hc_22 with rfl | rfl | rfl | rfl
      · replace hx_22 : what = 0 := hx_22.trans (by decide)
        refine g_tabIn (off := 30) (by rw [hx_22]; decide) (by rw [hx_22]; decide) (by rw [hx_22]; decide) rfl L_X7_teacherOf_52 ?_
        have hwv := hx_22
        refine g_aload_n rfl ?_
        refine g_getI fl_X7_171 rfl (hx.2.2.1.ti (by omega)) rfl ?_
        rw [(hr.2.2.1 k hk).1]
        refine g_iret rfl (nle rfl) (nle rfl) ?_
        exact hY hq k (by omega) rfl 0 (by omega) hwv
      · replace hx_22 : what = 1 := hx_22.trans (by decide)
        refine g_tabIn (off := 35) (by rw [hx_22]; decide) (by rw [hx_22]; decide) (by rw [hx_22]; decide) rfl L_X7_teacherOf_57 ?_
        have hwv := hx_22
        refine g_aload_n rfl ?_
        refine g_getI fl_X7_176 rfl (hx.2.2.1.ti (by omega)) rfl ?_
        rw [(hr.2.2.1 k hk).2]
        refine g_iret rfl (nle rfl) (nle rfl) ?_
        exact hY hq k (by omega) rfl 1 (by omega) hwv
      · replace hx_22 : what = 2 := hx_22.trans (by decide)
        refine g_tabIn (off := 40) (by rw [hx_22]; decide) (by rw [hx_22]; decide) (by rw [hx_22]; decide) rfl L_X7_teacherOf_62 ?_
        have hwv := hx_22
        refine g_aload_n rfl ?_
        refine g_getR (w := (x + 4)) fl_X7_19 rfl hx.1 rfl ?_
        refine g_iload_n rfl ?_
        refine g_callV (as := [_]) mk_X4_countLessonsOfTeacher ml_X7_179 im_X4_countLessonsOfTeacher se_X4_countLessonsOfTeacher rfl rfl ⟨⟨nle rfl, nle rfl⟩, nle rfl, nle rfl⟩ hx.2.2.1.s0 rfl rfl rfl (nle rfl) ?_
        refine ct_X4_countLessonsOfTeacher hx.2.2.1 (hr.c7 hI) bc ?_
        rw [e_byt hr hI]
        refine kq_s ?_
        refine g_iret rfl (nle rfl) (nle rfl) ?_
        exact hY hq k (by omega) rfl 2 (by omega) hwv
      · replace hx_22 : what = 3 := hx_22.trans (by decide)
        refine g_tabIn (off := 49) (by rw [hx_22]; decide) (by rw [hx_22]; decide) (by rw [hx_22]; decide) rfl L_X7_teacherOf_71 ?_
        have hwv := hx_22
        refine g_aload_n rfl ?_
        refine g_getR (w := (x + 4)) fl_X7_19 rfl hx.1 rfl ?_
        refine g_iload_n rfl ?_
        refine g_callV (as := [_]) mk_X4_countDaysOfTeacher ml_X7_182 im_X4_countDaysOfTeacher se_X4_countDaysOfTeacher rfl rfl ⟨⟨nle rfl, nle rfl⟩, nle rfl, nle rfl⟩ hx.2.2.1.s0 rfl rfl rfl (nle rfl) ?_
        refine ct_X4_countDaysOfTeacher hx.2.2.1 (hr.c7 hI) bc ?_
        rw [e_days hr hI]
        refine kq_s ?_
        refine g_iret rfl (nle rfl) (nle rfl) ?_
        exact hY hq k (by omega) rfl 3 (by omega) hwv
    · refine g_tabOut (ho_22.imp (fun h => h) (fun h => h)) rfl L_X7_teacherOf_80 ?_
      have hd_22_0 : ¬ what = 0 := sw_ne ho_22 0 (by decide)
      have hd_22_1 : ¬ what = 1 := sw_ne ho_22 1 (by decide)
      have hd_22_2 : ¬ what = 2 := sw_ne ho_22 2 (by decide)
      have hd_22_3 : ¬ what = 3 := sw_ne ho_22 3 (by decide)
      have hout := in_out ho_22 (by omega) (hi := 3) rfl
      exact (hE2 hq hout).elim
  · exact hE1 hq
set_option maxRecDepth 100000 in
set_option maxHeartbeats 4000000 in
theorem ct_X7_classOf {X : Xs} {κ : Kp} {M : Mem} {Q : Rs → Kp → Mem → Prop} {x : Nat} (hx : IsDF κ.2.1 x) {B : Nat} {s : Nat → Int32} (hS : SF B M (x + 4) s) {v what : Int32} (hE1 : isC s v = false → False) (hE2 : isC s v = true → inB what 0 9 = false → False) (hY : isC s v = true → ∀ k, k < 100 → v = nI k → ∀ w, w < 10 → what = nI w → Q (.inl (some (.int (clV s k w)))) κ M) : Ct X m_X7_classOf [.ref x, .int v, .int what] κ M Q := by
  refine ct_of B_X7_classOf_0 pn_X7 rfl (nle rfl) L_X7_classOf_0 ?_
  obtain ⟨nf, nt, nc, nd, hr, hI, h9⟩ := hS
  have bf := hI.lf
  have bt := hI.lt
  have bc := hI.lc
  have bn := hI.ld
  have n0 := hI.n0
  have n1 := hI.n1
  have n2 := hI.n2
  have n3 := hI.n3
  refine g_aload_n rfl ?_
  refine g_getR (w := (x + 4)) fl_X7_19 rfl hx.1 rfl ?_
  refine g_iload_n rfl ?_
  refine g_callV (as := [_]) mk_X4_hasLesson ml_X7_185 im_X4_hasLesson se_X4_hasLesson rfl rfl ⟨⟨nle rfl, nle rfl⟩, nle rfl, nle rfl⟩ hx.2.2.1.s0 rfl rfl rfl (nle rfl) ?_
  refine ct_X4_hasLesson hx.2.2.1 ?_
  rw [← isC_has hr hI]
  refine kq_s ?_
  refine g_callS (as := [_]) mk_X7_requireIndex ml_X7_139 sm_X7_requireIndex rfl rfl ⟨⟨nle rfl, nle rfl⟩, nle rfl, nle rfl⟩ rfl rfl (nle rfl) ?_
  refine ct_X7_requireIndex (fun hq => ?_) (fun hq => ?_)
  · obtain ⟨k, hk, ek⟩ := hI.xC.mp hq
    subst ek
    refine kq_n ?_
    refine g_aload_n rfl ?_
    refine g_getR (w := (x + 4)) fl_X7_19 rfl hx.1 rfl ?_
    refine g_getR (w := ((x + 4) + 12)) fl_X7_188 rfl hx.2.2.1.s0 rfl ?_
    refine g_iload_n rfl ?_
    refine g_aaload (j := k) (w := ((x + 4) + 13 + k)) hx.2.2.1.la (nle rfl) rfl (by omega) (nle rfl) (rcs_get (by omega)) ?_
    refine g_astore_n (nle rfl) ?_
    refine g_iload_n rfl ?_
    rcases sw_cases what 0 10 (nle rfl) with ⟨j_22, hj_22, hx_22⟩ | ho_22
    · have hc_22 : j_22 = 0 ∨ j_22 = 1 ∨ j_22 = 2 ∨ j_22 = 3 ∨ j_22 = 4 ∨ j_22 = 5 ∨ j_22 = 6 ∨ j_22 = 7 ∨ j_22 = 8 ∨ j_22 = 9 := by omega
      rcases hc_22 with rfl | rfl | rfl | rfl | rfl | rfl | rfl | rfl | rfl | rfl
      · replace hx_22 : what = 0 := hx_22.trans (by decide)
        refine g_tabIn (off := 54) (by rw [hx_22]; decide) (by rw [hx_22]; decide) (by rw [hx_22]; decide) rfl L_X7_classOf_76 ?_
        have hwv := hx_22
        refine g_aload_n rfl ?_
        refine g_getI fl_X7_192 rfl (hx.2.2.1.li (by omega)) rfl ?_
        rw [(hr.2.2.2.1 k hk).1]
        refine g_iret rfl (nle rfl) (nle rfl) ?_
        exact hY hq k (by omega) rfl 0 (by omega) hwv
      · replace hx_22 : what = 1 := hx_22.trans (by decide)
        refine g_tabIn (off := 59) (by rw [hx_22]; decide) (by rw [hx_22]; decide) (by rw [hx_22]; decide) rfl L_X7_classOf_81 ?_
        have hwv := hx_22
        refine g_aload_n rfl ?_
        refine g_getI fl_X7_197 rfl (hx.2.2.1.li (by omega)) rfl ?_
        rw [(hr.2.2.2.1 k hk).2.1]
        refine g_iret rfl (nle rfl) (nle rfl) ?_
        exact hY hq k (by omega) rfl 1 (by omega) hwv
      · replace hx_22 : what = 2 := hx_22.trans (by decide)
        refine g_tabIn (off := 64) (by rw [hx_22]; decide) (by rw [hx_22]; decide) (by rw [hx_22]; decide) rfl L_X7_classOf_86 ?_
        have hwv := hx_22
        refine g_aload_n rfl ?_
        refine g_getI fl_X7_200 rfl (hx.2.2.1.li (by omega)) rfl ?_
        rw [(hr.2.2.2.1 k hk).2.2.1]
        refine g_iret rfl (nle rfl) (nle rfl) ?_
        exact hY hq k (by omega) rfl 2 (by omega) hwv
      · replace hx_22 : what = 3 := hx_22.trans (by decide)
        refine g_tabIn (off := 69) (by rw [hx_22]; decide) (by rw [hx_22]; decide) (by rw [hx_22]; decide) rfl L_X7_classOf_91 ?_
        have hwv := hx_22
        refine g_aload_n rfl ?_
        refine g_getI fl_X7_203 rfl (hx.2.2.1.li (by omega)) rfl ?_
        rw [(hr.2.2.2.1 k hk).2.2.2.1]
        refine g_iret rfl (nle rfl) (nle rfl) ?_
        exact hY hq k (by omega) rfl 3 (by omega) hwv
      · replace hx_22 : what = 4 := hx_22.trans (by decide)
        refine g_tabIn (off := 74) (by rw [hx_22]; decide) (by rw [hx_22]; decide) (by rw [hx_22]; decide) rfl L_X7_classOf_96 ?_
        have hwv := hx_22
        refine g_aload_n rfl ?_
        refine g_getI fl_X7_206 rfl (hx.2.2.1.li (by omega)) rfl ?_
        rw [(hr.2.2.2.1 k hk).2.2.2.2.1]
        refine g_iret rfl (nle rfl) (nle rfl) ?_
        exact hY hq k (by omega) rfl 4 (by omega) hwv
      · replace hx_22 : what = 5 := hx_22.trans (by decide)
        refine g_tabIn (off := 79) (by rw [hx_22]; decide) (by rw [hx_22]; decide) (by rw [hx_22]; decide) rfl L_X7_classOf_101 ?_
        have hwv := hx_22
        refine g_aload_n rfl ?_
        refine g_getI fl_X7_209 rfl (hx.2.2.1.li (by omega)) rfl ?_
        rw [(hr.2.2.2.1 k hk).2.2.2.2.2.1]
        refine g_iret rfl (nle rfl) (nle rfl) ?_
        exact hY hq k (by omega) rfl 5 (by omega) hwv
      · replace hx_22 : what = 6 := hx_22.trans (by decide)
        refine g_tabIn (off := 84) (by rw [hx_22]; decide) (by rw [hx_22]; decide) (by rw [hx_22]; decide) rfl L_X7_classOf_106 ?_
        have hwv := hx_22
        refine g_aload_n rfl ?_
        refine g_getR (w := (x + 4)) fl_X7_19 rfl hx.1 rfl ?_
        refine g_aload_n rfl ?_
        refine g_callV (as := [_]) mk_X4_roomIn ml_X7_212 im_X4_roomIn se_X4_roomIn rfl rfl ⟨⟨nle rfl, nle rfl⟩, nle rfl, nle rfl⟩ hx.2.2.1.s0 rfl rfl rfl (nle rfl) ?_
        obtain ⟨f, hf, ef⟩ := (hI.cl hk).1
        refine ct_X4_roomIn hx.2.2.1 (hx.2.2.1.li (by omega)) f ((hr.2.2.2.1 k hk).2.2.1.trans ef) (by omega) ?_
        rw [e_tk hr hI hk hf ef]
        refine kq_s ?_
        refine g_iret rfl (nle rfl) (nle rfl) ?_
        exact hY hq k (by omega) rfl 6 (by omega) hwv
      · replace hx_22 : what = 7 := hx_22.trans (by decide)
        refine g_tabIn (off := 93) (by rw [hx_22]; decide) (by rw [hx_22]; decide) (by rw [hx_22]; decide) rfl L_X7_classOf_115 ?_
        have hwv := hx_22
        refine g_aload_n rfl ?_
        refine g_callV (as := []) mk_X3_countSeats ml_X7_216 im_X3_countSeats se_X3_countSeats rfl rfl ⟨⟨nle rfl, nle rfl⟩, nle rfl, nle rfl⟩ (hx.2.2.1.li (by omega)) rfl rfl rfl (nle rfl) ?_
        refine ct_X3_countSeats (hx.2.2.1.li (by omega)) ?_
        rw [(hr.2.2.2.1 k hk).2.2.2.2.2.2.1, bc_bd (hI.cl hk).2.2.2]
        refine kq_s ?_
        refine g_iret rfl (nle rfl) (nle rfl) ?_
        exact hY hq k (by omega) rfl 7 (by omega) hwv
      · replace hx_22 : what = 8 := hx_22.trans (by decide)
        refine g_tabIn (off := 98) (by rw [hx_22]; decide) (by rw [hx_22]; decide) (by rw [hx_22]; decide) rfl L_X7_classOf_120 ?_
        have hwv := hx_22
        refine g_aload_n rfl ?_
        refine g_getI fl_X7_217 rfl (hx.2.2.1.li (by omega)) rfl ?_
        rw [(hr.2.2.2.1 k hk).2.2.2.2.2.2.2.1]
        refine g_iret rfl (nle rfl) (nle rfl) ?_
        exact hY hq k (by omega) rfl 8 (by omega) hwv
      · replace hx_22 : what = 9 := hx_22.trans (by decide)
        refine g_tabIn (off := 103) (by rw [hx_22]; decide) (by rw [hx_22]; decide) (by rw [hx_22]; decide) rfl L_X7_classOf_125 ?_
        have hwv := hx_22
        refine g_aload_n rfl ?_
        refine g_getI fl_X7_220 rfl (hx.2.2.1.li (by omega)) rfl ?_
        rw [(hr.2.2.2.1 k hk).2.2.2.2.2.2.2.2]
        refine g_iret rfl (nle rfl) (nle rfl) ?_
        exact hY hq k (by omega) rfl 9 (by omega) hwv
    · refine g_tabOut (ho_22.imp (fun h => h) (fun h => h)) rfl L_X7_classOf_130 ?_
      have hd_22_0 : ¬ what = 0 := sw_ne ho_22 0 (by decide)
      have hd_22_1 : ¬ what = 1 := sw_ne ho_22 1 (by decide)
      have hd_22_2 : ¬ what = 2 := sw_ne ho_22 2 (by decide)
      have hd_22_3 : ¬ what = 3 := sw_ne ho_22 3 (by decide)
      have hd_22_4 : ¬ what = 4 := sw_ne ho_22 4 (by decide)
      have hd_22_5 : ¬ what = 5 := sw_ne ho_22 5 (by decide)
      have hd_22_6 : ¬ what = 6 := sw_ne ho_22 6 (by decide)
      have hd_22_7 : ¬ what = 7 := sw_ne ho_22 7 (by decide)
      have hd_22_8 : ¬ what = 8 := sw_ne ho_22 8 (by decide)
      have hd_22_9 : ¬ what = 9 := sw_ne ho_22 9 (by decide)
      have hout := in_out ho_22 (by omega) (hi := 9) rfl
      exact (hE2 hq hout).elim
  · exact hE1 hq
set_option maxRecDepth 100000 in
set_option maxHeartbeats 4000000 in
theorem ct_X7_dancerOf {X : Xs} {κ : Kp} {M : Mem} {Q : Rs → Kp → Mem → Prop} {x : Nat} (hx : IsDF κ.2.1 x) {B : Nat} {s : Nat → Int32} (hS : SF B M (x + 4) s) {v what : Int32} (hE1 : isD s v = false → False) (hE2 : isD s v = true → inB what 0 5 = false → False) (hY : isD s v = true → ∀ k, k < 100 → v = nI k → ∀ w, w < 6 → what = nI w → Q (.inl (some (.int (daV s k w)))) κ M) : Ct X m_X7_dancerOf [.ref x, .int v, .int what] κ M Q := by
  refine ct_of B_X7_dancerOf_0 pn_X7 rfl (nle rfl) L_X7_dancerOf_0 ?_
  obtain ⟨nf, nt, nc, nd, hr, hI, h9⟩ := hS
  have bf := hI.lf
  have bt := hI.lt
  have bc := hI.lc
  have bn := hI.ld
  have n0 := hI.n0
  have n1 := hI.n1
  have n2 := hI.n2
  have n3 := hI.n3
  refine g_aload_n rfl ?_
  refine g_getR (w := (x + 4)) fl_X7_19 rfl hx.1 rfl ?_
  refine g_iload_n rfl ?_
  refine g_callV (as := [_]) mk_X4_hasDancer ml_X7_223 im_X4_hasDancer se_X4_hasDancer rfl rfl ⟨⟨nle rfl, nle rfl⟩, nle rfl, nle rfl⟩ hx.2.2.1.s0 rfl rfl rfl (nle rfl) ?_
  refine ct_X4_hasDancer hx.2.2.1 ?_
  rw [← isD_has hr hI]
  refine kq_s ?_
  refine g_callS (as := [_]) mk_X7_requireIndex ml_X7_139 sm_X7_requireIndex rfl rfl ⟨⟨nle rfl, nle rfl⟩, nle rfl, nle rfl⟩ rfl rfl (nle rfl) ?_
  refine ct_X7_requireIndex (fun hq => ?_) (fun hq => ?_)
  · obtain ⟨k, hk, ek⟩ := hI.xD.mp hq
    subst ek
    refine kq_n ?_
    refine g_aload_n rfl ?_
    refine g_getR (w := (x + 4)) fl_X7_19 rfl hx.1 rfl ?_
    refine g_getR (w := ((x + 4) + 23)) fl_X7_226 rfl hx.2.2.1.s0 rfl ?_
    refine g_iload_n rfl ?_
    refine g_aaload (j := k) (w := ((x + 4) + 24 + k)) hx.2.2.1.da (nle rfl) rfl (by omega) (nle rfl) (rcs_get (by omega)) ?_
    refine g_astore_n (nle rfl) ?_
    refine g_iload_n rfl ?_
    rcases sw_cases what 0 6 (nle rfl) with ⟨j_22, hj_22, hx_22⟩ | ho_22
    · have hc_22 : j_22 = 0 ∨ j_22 = 1 ∨ j_22 = 2 ∨ j_22 = 3 ∨ j_22 = 4 ∨ j_22 = 5 := by omega
      rcases hc_22 with rfl | rfl | rfl | rfl | rfl | rfl
      · replace hx_22 : what = 0 := hx_22.trans (by decide)
        refine g_tabIn (off := 38) (by rw [hx_22]; decide) (by rw [hx_22]; decide) (by rw [hx_22]; decide) rfl L_X7_dancerOf_60 ?_
        have hwv := hx_22
        refine g_aload_n rfl ?_
        refine g_getI fl_X7_230 rfl (hx.2.2.1.di (by omega)) rfl ?_
        rw [(hr.2.2.2.2 k hk).1]
        refine g_iret rfl (nle rfl) (nle rfl) ?_
        exact hY hq k (by omega) rfl 0 (by omega) hwv
      · replace hx_22 : what = 1 := hx_22.trans (by decide)
        refine g_tabIn (off := 43) (by rw [hx_22]; decide) (by rw [hx_22]; decide) (by rw [hx_22]; decide) rfl L_X7_dancerOf_65 ?_
        have hwv := hx_22
        refine g_aload_n rfl ?_
        refine g_getI fl_X7_233 rfl (hx.2.2.1.di (by omega)) rfl ?_
        rw [(hr.2.2.2.2 k hk).2.1]
        refine g_iret rfl (nle rfl) (nle rfl) ?_
        exact hY hq k (by omega) rfl 1 (by omega) hwv
      · replace hx_22 : what = 2 := hx_22.trans (by decide)
        refine g_tabIn (off := 48) (by rw [hx_22]; decide) (by rw [hx_22]; decide) (by rw [hx_22]; decide) rfl L_X7_dancerOf_70 ?_
        have hwv := hx_22
        refine g_aload_n rfl ?_
        refine g_getI fl_X7_236 rfl (hx.2.2.1.di (by omega)) rfl ?_
        rw [(hr.2.2.2.2 k hk).2.2.1]
        refine g_iret rfl (nle rfl) (nle rfl) ?_
        exact hY hq k (by omega) rfl 2 (by omega) hwv
      · replace hx_22 : what = 3 := hx_22.trans (by decide)
        refine g_tabIn (off := 53) (by rw [hx_22]; decide) (by rw [hx_22]; decide) (by rw [hx_22]; decide) rfl L_X7_dancerOf_75 ?_
        have hwv := hx_22
        refine g_aload_n rfl ?_
        refine g_callV (as := []) mk_X0_usesSoFar ml_X7_239 im_X0_usesSoFar se_X0_usesSoFar rfl rfl ⟨⟨nle rfl, nle rfl⟩, nle rfl, nle rfl⟩ (hx.2.2.1.di (by omega)) rfl rfl rfl (nle rfl) ?_
        refine ct_X0_usesSoFar (hx.2.2.1.di (by omega)) ?_
        rw [(hr.2.2.2.2 k hk).2.2.1, (hr.2.2.2.2 k hk).2.2.2, ← (hI.da hk).2]
        refine kq_s ?_
        refine g_iret rfl (nle rfl) (nle rfl) ?_
        exact hY hq k (by omega) rfl 3 (by omega) hwv
      · replace hx_22 : what = 4 := hx_22.trans (by decide)
        refine g_tabIn (off := 58) (by rw [hx_22]; decide) (by rw [hx_22]; decide) (by rw [hx_22]; decide) rfl L_X7_dancerOf_80 ?_
        have hwv := hx_22
        refine g_aload_n rfl ?_
        refine g_getI fl_X7_242 rfl (hx.2.2.1.di (by omega)) rfl ?_
        rw [(hr.2.2.2.2 k hk).2.2.2]
        refine g_iret rfl (nle rfl) (nle rfl) ?_
        exact hY hq k (by omega) rfl 4 (by omega) hwv
      · replace hx_22 : what = 5 := hx_22.trans (by decide)
        refine g_tabIn (off := 63) (by rw [hx_22]; decide) (by rw [hx_22]; decide) (by rw [hx_22]; decide) rfl L_X7_dancerOf_85 ?_
        have hwv := hx_22
        refine g_aload_n rfl ?_
        refine g_getR (w := (x + 4)) fl_X7_19 rfl hx.1 rfl ?_
        refine g_iload_n rfl ?_
        refine g_callV (as := [_]) mk_X4_countSeatsOfDancer ml_X7_245 im_X4_countSeatsOfDancer se_X4_countSeatsOfDancer rfl rfl ⟨⟨nle rfl, nle rfl⟩, nle rfl, nle rfl⟩ hx.2.2.1.s0 rfl rfl rfl (nle rfl) ?_
        refine ct_X4_countSeatsOfDancer hx.2.2.1 (hr.c7 hI) bc ?_
        rw [e_sod hr hI]
        refine kq_s ?_
        refine g_iret rfl (nle rfl) (nle rfl) ?_
        exact qeq (hY hq k (by omega) rfl 5 (by omega) hwv) (by unfold daV; rw [if_pos rfl, n2]) rfl
    · refine g_tabOut (ho_22.imp (fun h => h) (fun h => h)) rfl L_X7_dancerOf_94 ?_
      have hd_22_0 : ¬ what = 0 := sw_ne ho_22 0 (by decide)
      have hd_22_1 : ¬ what = 1 := sw_ne ho_22 1 (by decide)
      have hd_22_2 : ¬ what = 2 := sw_ne ho_22 2 (by decide)
      have hd_22_3 : ¬ what = 3 := sw_ne ho_22 3 (by decide)
      have hd_22_4 : ¬ what = 4 := sw_ne ho_22 4 (by decide)
      have hd_22_5 : ¬ what = 5 := sw_ne ho_22 5 (by decide)
      have hout := in_out ho_22 (by omega) (hi := 5) rfl
      exact (hE2 hq hout).elim
  · exact hE1 hq
set_option maxRecDepth 100000 in
set_option maxHeartbeats 4000000 in
theorem ct_X7_uses {X : Xs} {κ : Kp} {M : Mem} {Q : Rs → Kp → Mem → Prop} {x : Nat} (hx : IsDF κ.2.1 x) {B : Nat} {s : Nat → Int32} (hS : SF B M (x + 4) s) {way : Int32} (hE : inB way 0 1 = false → False) (hY : inB way 0 1 = true → Q (.inl (some (.int (s 6)))) κ M) : Ct X m_X7_uses [.ref x, .int way] κ M Q := by
  refine ct_of B_X7_uses_0 pn_X7 rfl (nle rfl) L_X7_uses_0 ?_
  obtain ⟨nf, nt, nc, nd, hr, hI, h9⟩ := hS
  have bf := hI.lf
  have bt := hI.lt
  have bc := hI.lc
  have bn := hI.ld
  have n0 := hI.n0
  have n1 := hI.n1
  have n2 := hI.n2
  have n3 := hI.n3
  refine g_iload_n rfl ?_
  refine g_iconst (v := 0) ik_0 ?_
  refine g_iconst (v := 1) ik_1 ?_
  refine g_callS (as := [_, _, _]) mk_X7_isWithin ml_X7_41 sm_X7_isWithin rfl rfl ⟨⟨nle rfl, nle rfl⟩, nle rfl, nle rfl⟩ rfl rfl (nle rfl) ?_
  refine ct_X7_isWithin ?_
  refine kq_s ?_
  refine g_callS (as := [_]) mk_X7_requireArgument ml_X7_45 sm_X7_requireArgument rfl rfl ⟨⟨nle rfl, nle rfl⟩, nle rfl, nle rfl⟩ rfl rfl (nle rfl) ?_
  refine ct_X7_requireArgument (fun hq => ?_) (fun hq => ?_)
  · refine kq_n ?_
    refine g_iload_n rfl ?_
    refine g_if_ne rfl L_X7_uses_23 (fun h_1 => ?_) (fun h_1 => ?_)
    · refine g_aload_n rfl ?_
      refine g_getR (w := (x + 4)) fl_X7_19 rfl hx.1 rfl ?_
      refine g_callV (as := []) mk_X4_countUsesByLessons ml_X7_248 im_X4_countUsesByLessons se_X4_countUsesByLessons rfl rfl ⟨⟨nle rfl, nle rfl⟩, nle rfl, nle rfl⟩ hx.2.2.1.s0 rfl rfl rfl (nle rfl) ?_
      refine ct_X4_countUsesByLessons hx.2.2.1 (hr.c7 hI) bc ?_
      rw [e_uses2 hr hI]
      refine kq_s ?_
      refine g_fall rfl L_X7_uses_30 ?_
      refine g_iret rfl (nle rfl) (nle rfl) ?_
      exact hY hq
    · refine g_aload_n rfl ?_
      refine g_getR (w := (x + 4)) fl_X7_19 rfl hx.1 rfl ?_
      refine g_callV (as := []) mk_X4_countUsesByDancers ml_X7_113 im_X4_countUsesByDancers se_X4_countUsesByDancers rfl rfl ⟨⟨nle rfl, nle rfl⟩, nle rfl, nle rfl⟩ hx.2.2.1.s0 rfl rfl rfl (nle rfl) ?_
      refine ct_X4_countUsesByDancers hx.2.2.1 (hr.c8 hI) bn ?_
      rw [e_uses hr hI]
      refine kq_s ?_
      refine g_goto rfl L_X7_uses_30 ?_
      refine g_iret rfl (nle rfl) (nle rfl) ?_
      exact hY hq
  · exact hE hq
theorem in_lt {x : Int32} {n : Nat} (hn : n < 1000) (h : inB x 0 (nI n) = true) : ∃ k, k ≤ n ∧ x = nI k := by
  unfold inB at h
  rw [Bool.and_eq_true] at h
  obtain ⟨k, hk, rfl⟩ := nI_of (x := x) (Int32.not_lt.mpr (of_decide_eq_true h.1))
  exact ⟨k, (nI_leI hk (by omega)).mp (of_decide_eq_true h.2), rfl⟩
theorem set_eq {B nf nt nc nd : Nat} {s : Nat → Int32} {M : Mem} {o : Nat} (hr : RepS M o nf nt nc nd s) {k : Nat} (hk : k ≤ 1) : M (o + 36) k = s (11 + k) := by
  have h : k = 0 ∨ k = 1 := by omega
  rcases h with rfl | rfl
  · exact hr.1.2.2.2.2.2.2.2.2.1
  · exact hr.1.2.2.2.2.2.2.2.2.2
set_option maxRecDepth 100000 in
set_option maxHeartbeats 4000000 in
theorem ct_X7_setting {X : Xs} {κ : Kp} {M : Mem} {Q : Rs → Kp → Mem → Prop} {x : Nat} (hx : IsDF κ.2.1 x) {B : Nat} {s : Nat → Int32} (hS : SF B M (x + 4) s) {what : Int32} (hE : inB what 0 1 = false → False) (hY : inB what 0 1 = true → ∀ k, k ≤ 1 → what = nI k → Q (.inl (some (.int (s (11 + k))))) κ M) : Ct X m_X7_setting [.ref x, .int what] κ M Q := by
  refine ct_of B_X7_setting_0 pn_X7 rfl (nle rfl) L_X7_setting_0 ?_
  obtain ⟨nf, nt, nc, nd, hr, hI, h9⟩ := hS
  have bf := hI.lf
  have bt := hI.lt
  have bc := hI.lc
  have bn := hI.ld
  have n0 := hI.n0
  have n1 := hI.n1
  have n2 := hI.n2
  have n3 := hI.n3
  refine g_iload_n rfl ?_
  refine g_iconst (v := 0) ik_0 ?_
  refine g_iconst (v := 1) ik_1 ?_
  refine g_callS (as := [_, _, _]) mk_X7_isWithin ml_X7_41 sm_X7_isWithin rfl rfl ⟨⟨nle rfl, nle rfl⟩, nle rfl, nle rfl⟩ rfl rfl (nle rfl) ?_
  refine ct_X7_isWithin ?_
  refine kq_s ?_
  refine g_callS (as := [_]) mk_X7_requireArgument ml_X7_45 sm_X7_requireArgument rfl rfl ⟨⟨nle rfl, nle rfl⟩, nle rfl, nle rfl⟩ rfl rfl (nle rfl) ?_
  refine ct_X7_requireArgument (fun hq => ?_) (fun hq => ?_)
  · obtain ⟨k, hk, ek⟩ := in_lt (n := 1) (by omega) hq
    subst ek
    refine kq_n ?_
    refine g_aload_n rfl ?_
    refine g_getR (w := (x + 4)) fl_X7_19 rfl hx.1 rfl ?_
    refine g_getR (w := ((x + 4) + 36)) fl_X7_251 rfl hx.2.2.1.s0 rfl ?_
    refine g_iload_n rfl ?_
    refine g_iaload (j := k) hx.2.2.1.se rfl (by omega) (nle rfl) ?_
    rw [set_eq (B := B) hr hk]
    refine g_iret rfl (nle rfl) (nle rfl) ?_
    exact hY hq k hk rfl
  · exact hE hq
set_option maxRecDepth 100000 in
set_option maxHeartbeats 4000000 in
theorem ct_X7_requireLessonArguments {X : Xs} {κ : Kp} {M : Mem} {Q : Rs → Kp → Mem → Prop} {a b c d : Int32} (hY : isTm a b c d = true → Q (.inl none) κ M) (hN : isTm a b c d = false → False) : Ct X m_X7_requireLessonArguments [.int a, .int b, .int c, .int d] κ M Q := by
  refine ct_of B_X7_requireLessonArguments_0 pn_X7 rfl (nle rfl) L_X7_requireLessonArguments_0 ?_
  refine g_iload_n rfl ?_
  refine g_iconst (v := 0) ik_0 ?_
  refine g_iconst (v := 3) ik_3 ?_
  refine g_callS (as := [_, _, _]) mk_X7_isWithin ml_X7_41 sm_X7_isWithin rfl rfl ⟨⟨nle rfl, nle rfl⟩, nle rfl, nle rfl⟩ rfl rfl (nle rfl) ?_
  refine ct_X7_isWithin ?_
  refine kq_s ?_
  refine g_callS (as := [_]) mk_X7_requireArgument ml_X7_45 sm_X7_requireArgument rfl rfl ⟨⟨nle rfl, nle rfl⟩, nle rfl, nle rfl⟩ rfl rfl (nle rfl) ?_
  refine ct_X7_requireArgument (fun hq6 => ?_) (fun hq6 => ?_)
  · refine kq_n ?_
    refine g_iload_n rfl ?_
    refine g_iconst (v := 1) ik_1 ?_
    refine g_iconst (v := 5) ik_5 ?_
    refine g_callS (as := [_, _, _]) mk_X7_isWithin ml_X7_41 sm_X7_isWithin rfl rfl ⟨⟨nle rfl, nle rfl⟩, nle rfl, nle rfl⟩ rfl rfl (nle rfl) ?_
    refine ct_X7_isWithin ?_
    refine kq_s ?_
    refine g_callS (as := [_]) mk_X7_requireArgument ml_X7_45 sm_X7_requireArgument rfl rfl ⟨⟨nle rfl, nle rfl⟩, nle rfl, nle rfl⟩ rfl rfl (nle rfl) ?_
    refine ct_X7_requireArgument (fun hq15 => ?_) (fun hq15 => ?_)
    · refine kq_n ?_
      refine g_iload_n rfl ?_
      refine g_iconst (v := 0) ik_0 ?_
      refine g_iconst (v := 5) ik_5 ?_
      refine g_callS (as := [_, _, _]) mk_X7_isWithin ml_X7_41 sm_X7_isWithin rfl rfl ⟨⟨nle rfl, nle rfl⟩, nle rfl, nle rfl⟩ rfl rfl (nle rfl) ?_
      refine ct_X7_isWithin ?_
      refine kq_s ?_
      refine g_callS (as := [_]) mk_X7_requireArgument ml_X7_45 sm_X7_requireArgument rfl rfl ⟨⟨nle rfl, nle rfl⟩, nle rfl, nle rfl⟩ rfl rfl (nle rfl) ?_
      refine ct_X7_requireArgument (fun hq24 => ?_) (fun hq24 => ?_)
      · refine kq_n ?_
        refine g_iload_n rfl ?_
        refine g_iconst (v := 0) ik_0 ?_
        refine g_iconst (v := 5) ik_5 ?_
        refine g_callS (as := [_, _, _]) mk_X7_isWithin ml_X7_41 sm_X7_isWithin rfl rfl ⟨⟨nle rfl, nle rfl⟩, nle rfl, nle rfl⟩ rfl rfl (nle rfl) ?_
        refine ct_X7_isWithin ?_
        refine kq_s ?_
        refine g_callS (as := [_]) mk_X7_requireArgument ml_X7_45 sm_X7_requireArgument rfl rfl ⟨⟨nle rfl, nle rfl⟩, nle rfl, nle rfl⟩ rfl rfl (nle rfl) ?_
        refine ct_X7_requireArgument (fun hq33 => ?_) (fun hq33 => ?_)
        · refine kq_n ?_
          refine g_vret rfl (nle rfl) (nle rfl) ?_
          exact hY (by unfold isTm; simp [*])
        · exact hN (by unfold isTm; simp [*])
      · exact hN (by unfold isTm; simp [*])
    · exact hN (by unfold isTm; simp [*])
  · exact hN (by unfold isTm; simp [*])
theorem k_reason {X : Xs} {κ : Kp} {M : Mem} {Q : Rs → Kp → Mem → Prop} {o B nf nt nc nd : Nat} {s : Nat → Int32} (ho : IsStu κ.2.1 o) (hr : RepS M o nf nt nc nd s) (hI : Inv B nf nt nc nd s) {st lv f t dy hr_ : Int32} (hf : isF s f = true) (ht : isT s t = true) (hQ : Q (.inl (some (.int (wCl s st lv f t dy hr_)))) κ M) : Ct X m_X4_reasonAgainstLesson [.ref o, .int st, .int lv, .int f, .int t, .int dy, .int hr_] κ M Q := by
  have bf := hI.lf
  have bt := hI.lt
  obtain ⟨f', hf', rfl⟩ := hI.xF.mp hf
  obtain ⟨t', ht', rfl⟩ := hI.xT.mp ht
  unfold wCl at hQ
  rw [hI.n2, tn_nI (by omega), tn_nI (by omega)] at hQ
  refine ct_X4_reasonAgainstLesson ho (hr.c7 hI) hI.lc f' t' rfl rfl (by omega) (by omega) ?_
  rw [why_eq hr hf' ht']
  exact hQ
theorem k_seat {X : Xs} {κ : Kp} {M : Mem} {Q : Rs → Kp → Mem → Prop} {o B nf nt nc nd : Nat} {s : Nat → Int32} (ho : IsStu κ.2.1 o) (hr : RepS M o nf nt nc nd s) (hI : Inv B nf nt nc nd s) {d k : Int32} (hg : gSe s d k = true) (hQ : Q (.inl (some (.int (wSe s d k)))) κ M) : Ct X m_X4_reasonAgainstSeat [.ref o, .int d, .int k] κ M Q := by
  have bn := hI.ld
  have bc := hI.lc
  have bf := hI.lf
  obtain ⟨⟨d', hd, rfl⟩, ⟨k', hk, rfl⟩⟩ := hI.qSe.mp hg
  obtain ⟨f, hf, ef⟩ := (hI.cl hk).1
  unfold wSe at hQ
  rw [hI.n2, tn_nI (by omega), tn_nI (by omega), ef, tn_nI (by omega)] at hQ
  refine ct_X4_reasonAgainstSeat ho (hr.c7 hI) hI.lc d' k' f rfl rfl (by omega) (by omega) ((hr.2.2.2.1 k' hk).2.2.1.trans ef) (by omega) ?_
  rw [whyD_eq hr hI hd hk hf]
  exact hQ
set_option maxRecDepth 100000 in
set_option maxHeartbeats 4000000 in
theorem ct_X7_why {X : Xs} {κ : Kp} {M : Mem} {Q : Rs → Kp → Mem → Prop} {x : Nat} (hx : IsDF κ.2.1 x) {B : Nat} {s : Nat → Int32} (hS : SF B M (x + 4) s) {st lv f t dy hr_ : Int32} (hE1 : (isF s f && isT s t) = false → False) (hE2 : (isF s f && isT s t) = true → isTm st lv dy hr_ = false → False) (hY : (isF s f && isT s t) = true → isTm st lv dy hr_ = true → Q (.inl (some (.int (wCl s st lv f t dy hr_)))) κ M) : Ct X m_X7_why [.ref x, .int st, .int lv, .int f, .int t, .int dy, .int hr_] κ M Q := by
  refine ct_of B_X7_why_0 pn_X7 rfl (nle rfl) L_X7_why_0 ?_
  obtain ⟨nf, nt, nc, nd, hr, hI, h9⟩ := hS
  have bf := hI.lf
  have bt := hI.lt
  have bc := hI.lc
  have bn := hI.ld
  have n0 := hI.n0
  have n1 := hI.n1
  have n2 := hI.n2
  have n3 := hI.n3
  refine g_aload_n rfl ?_
  refine g_getR (w := (x + 4)) fl_X7_19 rfl hx.1 rfl ?_
  refine g_iload_n rfl ?_
  refine g_callV (as := [_]) mk_X4_hasFloor ml_X7_135 im_X4_hasFloor se_X4_hasFloor rfl rfl ⟨⟨nle rfl, nle rfl⟩, nle rfl, nle rfl⟩ hx.2.2.1.s0 rfl rfl rfl (nle rfl) ?_
  refine ct_X4_hasFloor hx.2.2.1 ?_
  rw [← isF_has hr hI]
  refine kq_s ?_
  refine g_callS (as := [_]) mk_X7_requireIndex ml_X7_139 sm_X7_requireIndex rfl rfl ⟨⟨nle rfl, nle rfl⟩, nle rfl, nle rfl⟩ rfl rfl (nle rfl) ?_
  refine ct_X7_requireIndex (fun hqf => ?_) (fun hqf => ?_)
  · refine kq_n ?_
    refine g_aload_n rfl ?_
    refine g_getR (w := (x + 4)) fl_X7_19 rfl hx.1 rfl ?_
    refine g_iload rfl ?_
    refine g_callV (as := [_]) mk_X4_hasTeacher ml_X7_164 im_X4_hasTeacher se_X4_hasTeacher rfl rfl ⟨⟨nle rfl, nle rfl⟩, nle rfl, nle rfl⟩ hx.2.2.1.s0 rfl rfl rfl (nle rfl) ?_
    refine ct_X4_hasTeacher hx.2.2.1 ?_
    rw [← isT_has hr hI]
    refine kq_s ?_
    refine g_callS (as := [_]) mk_X7_requireIndex ml_X7_139 sm_X7_requireIndex rfl rfl ⟨⟨nle rfl, nle rfl⟩, nle rfl, nle rfl⟩ rfl rfl (nle rfl) ?_
    refine ct_X7_requireIndex (fun hqt => ?_) (fun hqt => ?_)
    · refine kq_n ?_
      refine g_iload_n rfl ?_
      refine g_iload_n rfl ?_
      refine g_iload rfl ?_
      refine g_iload rfl ?_
      refine g_callS (as := [_, _, _, _]) mk_X7_requireLessonArguments ml_X7_266 sm_X7_requireLessonArguments rfl rfl ⟨⟨nle rfl, nle rfl⟩, nle rfl, nle rfl⟩ rfl rfl (nle rfl) ?_
      refine ct_X7_requireLessonArguments (fun hqa => ?_) (fun hqa => ?_)
      · refine kq_n ?_
        refine g_aload_n rfl ?_
        refine g_getR (w := (x + 4)) fl_X7_19 rfl hx.1 rfl ?_
        refine g_iload_n rfl ?_
        refine g_iload_n rfl ?_
        refine g_iload_n rfl ?_
        refine g_iload rfl ?_
        refine g_iload rfl ?_
        refine g_iload rfl ?_
        refine g_callV (as := [_, _, _, _, _, _]) mk_X4_reasonAgainstLesson ml_X7_309 im_X4_reasonAgainstLesson se_X4_reasonAgainstLesson rfl rfl ⟨⟨nle rfl, nle rfl⟩, nle rfl, nle rfl⟩ hx.2.2.1.s0 rfl rfl rfl (nle rfl) ?_
        refine k_reason hx.2.2.1 hr hI hqf hqt ?_
        refine kq_s ?_
        refine g_iret rfl (nle rfl) (nle rfl) ?_
        exact hY (by rw [hqf, hqt]; rfl) hqa
      · exact hE2 (by rw [hqf, hqt]; rfl) hqa
    · exact hE1 (by rw [hqf, hqt]; rfl)
  · exact hE1 (by rw [hqf]; rfl)
set_option maxRecDepth 100000 in
set_option maxHeartbeats 4000000 in
theorem ct_X7_whySeat {X : Xs} {κ : Kp} {M : Mem} {Q : Rs → Kp → Mem → Prop} {x : Nat} (hx : IsDF κ.2.1 x) {B : Nat} {s : Nat → Int32} (hS : SF B M (x + 4) s) {d k : Int32} (hE1 : gSe s d k = false → False) (hY : gSe s d k = true → Q (.inl (some (.int (wSe s d k)))) κ M) : Ct X m_X7_whySeat [.ref x, .int d, .int k] κ M Q := by
  refine ct_of B_X7_whySeat_0 pn_X7 rfl (nle rfl) L_X7_whySeat_0 ?_
  obtain ⟨nf, nt, nc, nd, hr, hI, h9⟩ := hS
  have bf := hI.lf
  have bt := hI.lt
  have bc := hI.lc
  have bn := hI.ld
  have n0 := hI.n0
  have n1 := hI.n1
  have n2 := hI.n2
  have n3 := hI.n3
  refine g_aload_n rfl ?_
  refine g_getR (w := (x + 4)) fl_X7_19 rfl hx.1 rfl ?_
  refine g_iload_n rfl ?_
  refine g_callV (as := [_]) mk_X4_hasDancer ml_X7_223 im_X4_hasDancer se_X4_hasDancer rfl rfl ⟨⟨nle rfl, nle rfl⟩, nle rfl, nle rfl⟩ hx.2.2.1.s0 rfl rfl rfl (nle rfl) ?_
  refine ct_X4_hasDancer hx.2.2.1 ?_
  rw [← isD_has hr hI]
  refine kq_s ?_
  refine g_callS (as := [_]) mk_X7_requireIndex ml_X7_139 sm_X7_requireIndex rfl rfl ⟨⟨nle rfl, nle rfl⟩, nle rfl, nle rfl⟩ rfl rfl (nle rfl) ?_
  refine ct_X7_requireIndex (fun hqf => ?_) (fun hqf => ?_)
  · refine kq_n ?_
    refine g_aload_n rfl ?_
    refine g_getR (w := (x + 4)) fl_X7_19 rfl hx.1 rfl ?_
    refine g_iload_n rfl ?_
    refine g_callV (as := [_]) mk_X4_hasLesson ml_X7_185 im_X4_hasLesson se_X4_hasLesson rfl rfl ⟨⟨nle rfl, nle rfl⟩, nle rfl, nle rfl⟩ hx.2.2.1.s0 rfl rfl rfl (nle rfl) ?_
    refine ct_X4_hasLesson hx.2.2.1 ?_
    rw [← isC_has hr hI]
    refine kq_s ?_
    refine g_callS (as := [_]) mk_X7_requireIndex ml_X7_139 sm_X7_requireIndex rfl rfl ⟨⟨nle rfl, nle rfl⟩, nle rfl, nle rfl⟩ rfl rfl (nle rfl) ?_
    refine ct_X7_requireIndex (fun hqt => ?_) (fun hqt => ?_)
    · refine kq_n ?_
      refine g_aload_n rfl ?_
      refine g_getR (w := (x + 4)) fl_X7_19 rfl hx.1 rfl ?_
      refine g_iload_n rfl ?_
      refine g_iload_n rfl ?_
      refine g_callV (as := [_, _]) mk_X4_reasonAgainstSeat ml_X7_312 im_X4_reasonAgainstSeat se_X4_reasonAgainstSeat rfl rfl ⟨⟨nle rfl, nle rfl⟩, nle rfl, nle rfl⟩ hx.2.2.1.s0 rfl rfl rfl (nle rfl) ?_
      have hg : gSe s d k = true := by unfold gSe; rw [hqf, hqt]; rfl
      refine k_seat hx.2.2.1 hr hI hg ?_
      refine kq_s ?_
      refine g_iret rfl (nle rfl) (nle rfl) ?_
      exact hY hg
    · exact hE1 (by unfold gSe; rw [hqf, hqt]; rfl)
  · exact hE1 (by unfold gSe; rw [hqf]; rfl)
set_option maxRecDepth 100000 in
set_option maxHeartbeats 4000000 in
theorem ct_X7_bestFloor {X : Xs} {κ : Kp} {M : Mem} {Q : Rs → Kp → Mem → Prop} {x : Nat} (hx : IsDF κ.2.1 x) {B : Nat} {s : Nat → Int32} (hS : SF B M (x + 4) s) {st lv t dy hr_ : Int32} (hE1 : isT s t = false → False) (hE2 : isT s t = true → isTm st lv dy hr_ = false → False) (hY : isT s t = true → isTm st lv dy hr_ = true → Q (.inl (some (.int ((bfC s (cN s 2) st lv (tn t) dy hr_ (cN s 0)).1)))) κ M) : Ct X m_X7_bestFloor [.ref x, .int st, .int lv, .int t, .int dy, .int hr_] κ M Q := by
  refine ct_of B_X7_bestFloor_0 pn_X7 rfl (nle rfl) L_X7_bestFloor_0 ?_
  obtain ⟨nf, nt, nc, nd, hr, hI, h9⟩ := hS
  have bf := hI.lf
  have bt := hI.lt
  have bc := hI.lc
  have bn := hI.ld
  have n0 := hI.n0
  have n1 := hI.n1
  have n2 := hI.n2
  have n3 := hI.n3
  refine g_aload_n rfl ?_
  refine g_getR (w := (x + 4)) fl_X7_19 rfl hx.1 rfl ?_
  refine g_iload_n rfl ?_
  refine g_callV (as := [_]) mk_X4_hasTeacher ml_X7_164 im_X4_hasTeacher se_X4_hasTeacher rfl rfl ⟨⟨nle rfl, nle rfl⟩, nle rfl, nle rfl⟩ hx.2.2.1.s0 rfl rfl rfl (nle rfl) ?_
  refine ct_X4_hasTeacher hx.2.2.1 ?_
  rw [← isT_has hr hI]
  refine kq_s ?_
  refine g_callS (as := [_]) mk_X7_requireIndex ml_X7_139 sm_X7_requireIndex rfl rfl ⟨⟨nle rfl, nle rfl⟩, nle rfl, nle rfl⟩ rfl rfl (nle rfl) ?_
  refine ct_X7_requireIndex (fun hqt => ?_) (fun hqt => ?_)
  · refine kq_n ?_
    refine g_iload_n rfl ?_
    refine g_iload_n rfl ?_
    refine g_iload rfl ?_
    refine g_iload rfl ?_
    refine g_callS (as := [_, _, _, _]) mk_X7_requireLessonArguments ml_X7_266 sm_X7_requireLessonArguments rfl rfl ⟨⟨nle rfl, nle rfl⟩, nle rfl, nle rfl⟩ rfl rfl (nle rfl) ?_
    refine ct_X7_requireLessonArguments (fun hqa => ?_) (fun hqa => ?_)
    · refine kq_n ?_
      refine g_aload_n rfl ?_
      refine g_getR (w := (x + 4)) fl_X7_19 rfl hx.1 rfl ?_
      refine g_iload_n rfl ?_
      refine g_iload_n rfl ?_
      refine g_iload_n rfl ?_
      refine g_iload rfl ?_
      refine g_iload rfl ?_
      refine g_callV (as := [_, _, _, _, _]) mk_X4_roomiestFloor ml_X7_315 im_X4_roomiestFloor se_X4_roomiestFloor rfl rfl ⟨⟨nle rfl, nle rfl⟩, nle rfl, nle rfl⟩ hx.2.2.1.s0 rfl rfl rfl (nle rfl) ?_
      obtain ⟨k, hk, ek⟩ := hI.xT.mp hqt
      refine ct_X4_roomiestFloor hx.2.2.1 hr hI k ek hk ?_
      refine kq_s ?_
      refine g_iret rfl (nle rfl) (nle rfl) ?_
      exact qeq (hY hqt hqa) (by rw [n2, n0, ek, tn_nI (by omega)]) rfl
    · exact hE2 hqt hqa
  · exact hE1 hqt
