theorem lI63 {n : Nat} (h : n < 2 ^ 63) : (lN n).toInt = (n : Int) := Int64.toInt_ofNat_of_lt h
theorem lN_lt63 {a b : Nat} (ha : a < 2 ^ 63) (hb : b < 2 ^ 63) : lN a < lN b ↔ a < b := by
  rw [Int64.lt_iff_toInt_lt, lI63 ha, lI63 hb]
  omega
theorem lN_eq63 {a b : Nat} (ha : a < 2 ^ 63) (hb : b < 2 ^ 63) : lN a = lN b ↔ a = b := by
  rw [← Int64.toInt_inj, lI63 ha, lI63 hb]
  omega
theorem pos_lN {x : Int64} (h : ¬ x < 0) : ∃ n, n < 2 ^ 63 ∧ x = lN n := by
  have h2 : 0 ≤ x := Int64.not_lt.mp h
  exact ⟨x.toNatClampNeg, Int64.toNatClampNeg_lt x, (Int64.ofNat_toNatClampNeg x h2).symm⟩
theorem sz_eq {k : Nat} (h1 : 1 ≤ k) (h2 : k ≤ 3) : szL (nI k) = lN (100000 ^ k) := by
  have h : k = 1 ∨ k = 2 ∨ k = 3 := by omega
  rcases h with rfl | rfl | rfl <;> decide
def scV (n : Int32) (sc : Int64) : Bool := inB n 1 3 && (!decide (sc < 0) && decide (sc < szL n))
theorem scV_nat {k σ : Nat} (h1 : 1 ≤ k) (h2 : k ≤ 3) (hσ : σ < 2 ^ 63) : scV (nI k) (lN σ) = decide (σ < 100000 ^ k) := by
  unfold scV
  have e1 : inB (nI k) 1 3 = true := by
    unfold inB
    rw [Bool.and_eq_true]
    exact ⟨decide_eq_true ((nI_leI (a := 1) (b := k) (by omega) (by omega)).mpr h1), decide_eq_true ((nI_leI (a := k) (b := 3) (by omega) (by omega)).mpr h2)⟩
  have e2 : ¬ lN σ < 0 := fun q => by
    have := (lN_lt63 (a := σ) (b := 0) hσ (by omega)).mp q
    omega
  have hp : 100000 ^ k < 2 ^ 63 := by
    have h : k = 1 ∨ k = 2 ∨ k = 3 := by omega
    rcases h with rfl | rfl | rfl <;> decide
  rw [e1, decide_eq_false e2, sz_eq h1 h2]
  show decide (lN σ < lN (100000 ^ k)) = _
  exact decide_eq_decide.mpr (lN_lt63 hσ hp)
def grN (σ k i : Nat) : Nat := σ / 100000 ^ (k - 1 - i) % 100000
def rsF (σ k : Nat) : Nat → Nat → (Nat → Int32) → Int32
  | 0, _, _ => -1
  | f + 1, i, s => if gcB (grN σ k i) s = true then rsF σ k f (i + 1) (gcS (grN σ k i) s) else nI i
theorem grN_lt {σ k i : Nat} : grN σ k i < 100000 := Nat.mod_lt _ (by omega)
theorem rs_y {σ k f i : Nat} {s : Nat → Int32} (h : gcB (grN σ k i) s = true) : rsF σ k (f + 1) i s = rsF σ k f (i + 1) (gcS (grN σ k i) s) := if_pos h
theorem rs_n {σ k f i : Nat} {s : Nat → Int32} (h : gcB (grN σ k i) s = false) : rsF σ k (f + 1) i s = nI i := if_neg (by rw [h]; decide)
theorem lrem5 {a : Nat} (h : a < 2 ^ 63) : lN a - lN a / 100000 * 100000 = lN (a % 100000) := pk_lRem (b := 100000) h (by omega) (by omega)
theorem div_lt63 {σ d : Nat} (h : σ < 2 ^ 63) : σ / d < 2 ^ 63 := Nat.lt_of_le_of_lt (Nat.div_le_self _ _) h
theorem cmp0 {z : Nat} (h : z < 2 ^ 63) : lg_cmp (lN z) 0 = 0 ↔ z = 0 := by
  have h1 : (lN z = 0) ↔ z = 0 := lN_eq63 (b := 0) h (by omega)
  have h2 : (0 < lN z) ↔ 0 < z := lN_lt63 (a := 0) (by omega) h
  unfold lg_cmp
  by_cases e : z = 0
  · have h3 : ¬ lN z > 0 := fun q => by have := h2.mp q; omega
    rw [if_neg h3, if_pos (h1.mpr e)]
    exact ⟨fun _ => e, fun _ => rfl⟩
  · have h3 : lN z > 0 := h2.mpr (by omega)
    rw [if_pos h3]
    exact ⟨fun q => absurd q (by decide), fun q => absurd q e⟩
set_option maxRecDepth 100000 in
set_option maxHeartbeats 4000000 in
theorem ct_X7_runScript {X : Xs} {κ : Kp} {M : Mem} {Q : Rs → Kp → Mem → Prop} {x : Nat} (hx : IsDF κ.2.1 x) {B : Nat} {s : Nat → Int32} (hS : SF B M (x + 4) s) {n : Int32} {sc : Int64} (hE : scV n sc = false → False) (hY : scV n sc = true → ∀ k, 1 ≤ k → k ≤ 3 → n = nI k → ∀ σ, σ < 2 ^ 63 → sc = lN σ → ∀ M', (∀ r, r < x + 41 ∨ x + 78 ≤ r → M' r = M r) → Q (.inl (some (.int (rsF σ k k 0 s)))) κ M') : Ct X m_X7_runScript [.ref x, .int n, .long sc] κ M Q := by
  refine ct_of B_X7_runScript_0 pn_X7 rfl (nle rfl) L_X7_runScript_0 ?_
  refine g_iload_n rfl ?_
  refine g_iconst (v := 1) ik_1 ?_
  refine g_iconst (v := 3) ik_3 ?_
  refine g_callS (as := [_, _, _]) mk_X7_isWithin ml_X7_41 sm_X7_isWithin rfl rfl ⟨⟨nle rfl, nle rfl⟩, nle rfl, nle rfl⟩ rfl rfl (nle rfl) ?_
  refine ct_X7_isWithin ?_
  refine kq_s ?_
  refine g_callS (as := [_]) mk_X7_requireArgument ml_X7_45 sm_X7_requireArgument rfl rfl ⟨⟨nle rfl, nle rfl⟩, nle rfl, nle rfl⟩ rfl rfl (nle rfl) ?_
  refine ct_X7_requireArgument (fun hq => ?_) (fun hq => ?_)
  · obtain ⟨k, hk1, hk2, ek⟩ := in_rng (lo := 1) (hi := 3) (by omega) (by omega) rfl rfl hq
    subst ek
    refine kq_n ?_
    refine g_lload_n rfl ?_
    refine g_lconst (v := 0) (by decide) ?_
    refine g_lcmp ?_
    refine g_if_lt rfl L_X7_runScript_29 (fun h_1 => ?_) (fun h_1 => ?_)
    · have hbad : scV (nI k) sc = false := by unfold scV; rw [decide_eq_true ((lg_cmp_lt sc 0).mp h_1)]; simp
      refine g_iconst (v := 0) ik_0 ?_
      refine g_fall rfl L_X7_runScript_30 ?_
      refine g_callS (as := [_]) mk_X7_requireArgument ml_X7_45 sm_X7_requireArgument rfl rfl ⟨⟨nle rfl, nle rfl⟩, nle rfl, nle rfl⟩ rfl rfl (nle rfl) ?_
      refine ct_X7_requireArgument (b := false) (fun qs => by cases qs) (fun qs => ?_)
      · exact hE hbad
    · obtain ⟨σ, hσ, eσ⟩ := pos_lN (x := sc) (fun q => h_1 ((lg_cmp_lt sc 0).mpr q))
      subst eσ
      have hp0 : 0 < 100000 ^ k := Nat.pow_pos (by omega)
      refine g_lload_n rfl ?_
      refine g_iload_n rfl ?_
      refine g_callS (as := [_, _]) mk_X7_withoutGroups ml_X7_325 sm_X7_withoutGroups rfl rfl ⟨⟨nle rfl, nle rfl⟩, nle rfl, nle rfl⟩ rfl rfl (nle rfl) ?_
      refine ct_X7_withoutGroups hσ (by omega) ?_
      refine kq_s ?_
      refine g_lconst (v := 0) (by decide) ?_
      refine g_lcmp ?_
      refine g_if_ne rfl L_X7_runScript_29 (fun h_2 => ?_) (fun h_2 => ?_)
      · have hbad : scV (nI k) (lN σ) = false := by
          rw [scV_nat hk1 hk2 hσ]
          refine decide_eq_false (fun q => h_2 ((cmp0 (div_lt63 hσ)).mpr (Nat.div_eq_of_lt q)))
        refine g_iconst (v := 0) ik_0 ?_
        refine g_fall rfl L_X7_runScript_30 ?_
        refine g_callS (as := [_]) mk_X7_requireArgument ml_X7_45 sm_X7_requireArgument rfl rfl ⟨⟨nle rfl, nle rfl⟩, nle rfl, nle rfl⟩ rfl rfl (nle rfl) ?_
        refine ct_X7_requireArgument (b := false) (fun qs => by cases qs) (fun qs => ?_)
        · exact hE hbad
      · have hok : scV (nI k) (lN σ) = true := by
          rw [scV_nat hk1 hk2 hσ]
          refine decide_eq_true ?_
          have z := (cmp0 (div_lt63 hσ)).mp h_2
          exact (Nat.div_eq_zero_iff_lt hp0).mp z
        refine g_iconst (v := 1) ik_1 ?_
        refine g_goto rfl L_X7_runScript_30 ?_
        refine g_callS (as := [_]) mk_X7_requireArgument ml_X7_45 sm_X7_requireArgument rfl rfl ⟨⟨nle rfl, nle rfl⟩, nle rfl, nle rfl⟩ rfl rfl (nle rfl) ?_
        refine ct_X7_requireArgument (b := true) (fun qs => ?_) (fun qs => by cases qs)
        refine kq_n ?_
        refine g_aload_n rfl ?_
        refine g_getR (w := (x + 41)) fl_X7_23 rfl hx.1 rfl ?_
        refine g_aload_n rfl ?_
        refine g_getR (w := (x + 4)) fl_X7_19 rfl hx.1 rfl ?_
        refine g_callV (as := [_]) mk_X4_copyFrom ml_X7_319 im_X4_copyFrom se_X4_copyFrom rfl rfl ⟨⟨nle rfl, nle rfl⟩, nle rfl, nle rfl⟩ hx.2.2.2.1.s0 rfl rfl rfl (nle rfl) ?_
        refine k_copyFrom hx.2.2.2.1 hx.2.2.1 (by omega) hS (fun M1 hS1 hF1 => ?_)
        refine kq_n ?_
        refine g_iconst (v := 0) ik_0 ?_
        refine g_istore (nle rfl) ?_
        refine g_fall rfl L_X7_runScript_47 ?_
        refine g_lo2 (lo' := [(0, some (.ref x)), (1, some (.int (nI k))), (2, some (.long (lN σ))), (4, some (.int (nI 0)))]) ?_ ⟨rfl, rfl, rfl, rfl, trivial⟩
        refine loop_up (P := fun i => ∀ (M2 : Mem) (s2 : Nat → Int32), SR (B + 9 * i) M2 (x + 41) s2 → (∀ r, r < x + 41 ∨ x + 78 ≤ r → M2 r = M r) → rsF σ k k 0 s = rsF σ k (k - i) i s2 → G X m_X7_runScript B_X7_runScript_47 47 [(0, some (.ref x)), (1, some (.int (nI k))), (2, some (.long (lN σ))), (4, some (.int (nI i)))] [] (0 + (rmOf m_X7_isWithin).cells + (rmOf m_X7_requireArgument).cells + (rmOf m_X7_withoutGroups).cells + (rmOf m_X7_requireArgument).cells + (rmOf m_X4_copyFrom).cells) (0 + (rmOf m_X7_isWithin).slots + (rmOf m_X7_requireArgument).slots + (rmOf m_X7_withoutGroups).slots + (rmOf m_X7_requireArgument).slots + (rmOf m_X4_copyFrom).slots) κ M2 Q) k (fun i hle_i ih_i M2 s2 hS2 hF2 hr => ?_) 0 (Nat.zero_le _) M1 s hS1.sr (fun r a => hF1 r (by omega)) rfl
        refine g_iload rfl ?_
        refine g_iload_n rfl ?_
        refine g_icmp_ge rfl L_X7_runScript_84 (fun h_3 => ?_) (fun h_3 => ?_)
        · have hx_i := (cmp_ge (c := k) rfl (by omega) hle_i).1 h_3
          rw [hx_i, Nat.sub_self] at hr
          refine g_iconst (v := -1) ik_m1 ?_
          refine g_iret rfl (nle rfl) (nle rfl) ?_
          exact qeq (hY hok k hk1 hk2 rfl σ hσ rfl M2 hF2) (by rw [hr]; rfl) rfl
        · have hlt_i : i < k := (cmp_ge (c := k) rfl (by omega) hle_i).2 h_3
          refine g_aload_n rfl ?_
          refine g_lload_n rfl ?_
          refine g_iload_n rfl ?_
          refine g_iconst (v := 1) ik_1 ?_
          refine g_isub ?_
          refine g_iload rfl ?_
          refine g_isub ?_
          rw [show nI k - 1 - nI i = nI (k - 1 - i) by rw [nI_pr (by omega), nI_sub (by omega)]]
          refine g_callS (as := [_, _]) mk_X7_withoutGroups ml_X7_325 sm_X7_withoutGroups rfl rfl ⟨⟨nle rfl, nle rfl⟩, nle rfl, nle rfl⟩ rfl rfl (nle rfl) ?_
          refine ct_X7_withoutGroups hσ (by omega) ?_
          refine kq_s ?_
          refine g_ldc2 rfl kc_X7_329 ?_
          refine g_lrem (by decide) ?_
          rw [lrem5 (div_lt63 hσ)]
          refine g_l2i ?_
          rw [lN_i]
          rw [show nI (σ / 100000 ^ (k - 1 - i) % 100000) = nI (grN σ k i) from rfl]
          refine g_callV (as := [_]) mk_X7_tryGroup ml_X7_331 im_X7_tryGroup se_X7_tryGroup rfl rfl ⟨⟨nle rfl, nle rfl⟩, nle rfl, nle rfl⟩ hx.1 rfl rfl rfl (nle rfl) ?_
          refine ct_X7_tryGroup hx hS2 grN_lt (fun hgb M3 hS3 hF3 => ?_) (fun hgb M3 hS3 hF3 => ?_)
          · refine kq_s ?_
            refine g_if_ne rfl L_X7_runScript_78 (fun h_4 => ?_) (fun h_4 => absurd h_4 (by decide))
            refine g_iinc (v := nI (i + 1)) rfl (nI_inc _) (nle rfl) ?_
            refine g_goto rfl L_X7_runScript_47 ?_
            exact g_lo2 (ih_i hlt_i M3 _ (hS3.up (by omega)) (fun r a => (hF3.1 r (by omega)).trans (hF2 r a)) (hr.trans (by rw [show k - i = (k - (i + 1)) + 1 by omega]; exact rs_y hgb))) ⟨rfl, rfl, rfl, rfl, trivial⟩
          · refine kq_s ?_
            refine g_if_ne rfl L_X7_runScript_78 (fun h_5 => absurd h_5 (by decide)) (fun h_5 => ?_)
            refine g_iload rfl ?_
            refine g_iret rfl (nle rfl) (nle rfl) ?_
            exact qeq (hY hok k hk1 hk2 rfl σ hσ rfl M3 (fun r a => (hF3.1 r (by omega)).trans (hF2 r a))) (by rw [hr, show k - i = (k - (i + 1)) + 1 by omega, rs_n hgb]) rfl
  · exact hE (by unfold scV; rw [hq]; rfl)
