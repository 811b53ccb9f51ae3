theorem nI_mul (a b : Nat) : nI a * nI b = nI (a * b) := by simp only [nI, Int32.ofNat_mul]
theorem mod14 {a b : Nat} (ha : a < 1000) (hb : b < 1000) : nI a + nI b - (nI a + nI b) / 14 * 14 = nI ((a + b) % 14) := by
  rw [nI_add]
  exact pk_rem (d := 14) (by omega) (by omega) (by omega)
def SF (B : Nat) (M : Mem) (o : Nat) (s : Nat → Int32) : Prop := ∃ nf nt nc nd : Nat, RepS M o nf nt nc nd s ∧ Inv B nf nt nc nd s ∧ M o 12 = s 9
theorem SF.fr {B : Nat} {M M' : Mem} {o : Nat} {s : Nat → Int32} (h : SF B M o s) (e : ∀ r, o ≤ r → r < o + 37 → M' r = M r) : SF B M' o s := by
  obtain ⟨nf, nt, nc, nd, h1, h2, h3⟩ := h
  exact ⟨nf, nt, nc, nd, h1.fr h2.lf h2.lt h2.lc h2.ld e, h2, by rw [e o (by omega) (by omega)]; exact h3⟩
theorem SF.up {B B' : Nat} {M : Mem} {o : Nat} {s : Nat → Int32} (h : SF B M o s) (hB : B ≤ B') : SF B' M o s := by
  obtain ⟨nf, nt, nc, nd, h1, h2, h3⟩ := h
  exact ⟨nf, nt, nc, nd, h1, h2.up hB, h3⟩
theorem SF.cg {B : Nat} {M : Mem} {o : Nat} {s s' : Nat → Int32} (h : SF B M o s) (e : ∀ j, j < 189 → s' j = s j) : SF B M o s' := by
  obtain ⟨nf, nt, nc, nd, h1, h2, h3⟩ := h
  exact ⟨nf, nt, nc, nd, h1.cg h2.lf h2.lt h2.lc h2.ld (fun j hj _ => e j hj), h2.cg e, by rw [e 9 (by omega)]; exact h3⟩
def HisOK (B : Nat) (M : Mem) (h cnt : Nat) (blk : Nat → Nat → Int32) : Prop := ∃ old : Nat, old < 14 ∧ M h 1 = nI old ∧ M h 2 = nI cnt ∧ cnt ≤ 14 ∧ ∀ i, i < cnt → SF B M (h + 2 + 37 * ((old + i) % 14)) (blk i)
theorem HisOK.fr {B : Nat} {M M' : Mem} {h cnt : Nat} {blk : Nat → Nat → Int32} (hh : HisOK B M h cnt blk) (e : ∀ r, h ≤ r → r < h + 520 → M' r = M r) : HisOK B M' h cnt blk := by
  obtain ⟨old, h1, h2, h3, h4, h5⟩ := hh
  refine ⟨old, h1, by rw [e h (by omega) (by omega)]; exact h2, by rw [e h (by omega) (by omega)]; exact h3, h4, fun i hi => (h5 i hi).fr fun r hr1 hr2 => e r (by omega) (by omega)⟩
theorem HisOK.up {B B' : Nat} {M : Mem} {h cnt : Nat} {blk : Nat → Nat → Int32} (hh : HisOK B M h cnt blk) (hB : B ≤ B') : HisOK B' M h cnt blk := by
  obtain ⟨old, h1, h2, h3, h4, h5⟩ := hh
  exact ⟨old, h1, h2, h3, h4, fun i hi => (h5 i hi).up hB⟩
theorem HisOK.cg {B : Nat} {M : Mem} {h cnt : Nat} {blk blk' : Nat → Nat → Int32} (hh : HisOK B M h cnt blk) (e : ∀ i j, i < cnt → j < 189 → blk' i j = blk i j) : HisOK B M h cnt blk' := by
  obtain ⟨old, h1, h2, h3, h4, h5⟩ := hh
  exact ⟨old, h1, h2, h3, h4, fun i hi => (h5 i hi).cg fun j hj => e i j hi hj⟩
def remB (cnt : Nat) (s : Nat → Int32) (blk : Nat → Nat → Int32) : Nat → Nat → Int32 := fun i => if cnt < 14 then (if i = cnt then s else blk i) else (if i = 13 then s else blk (i + 1))
def remC (cnt : Nat) : Nat := if cnt < 14 then cnt + 1 else 14
set_option maxRecDepth 100000 in
set_option maxHeartbeats 4000000 in
theorem ct_X2_remember {X : Xs} {κ : Kp} {M : Mem} {Q : Rs → Kp → Mem → Prop} {h : Nat} (hh : IsHis κ.2.1 h) {o : Nat} (ho : IsStu κ.2.1 o) (hd : o + 37 ≤ h ∨ h + 520 ≤ o) {B cnt : Nat} {blk : Nat → Nat → Int32} {s : Nat → Int32} (hH : HisOK B M h cnt blk) (hS : SF B M o s) (hQ : ∀ M', HisOK B M' h (remC cnt) (remB cnt s blk) → (∀ r, r < h ∨ h + 520 ≤ r → M' r = M r) → Q (.inl none) κ M') : Ct X m_X2_remember [.ref h, .ref o] κ M Q := by
  refine ct_of B_X2_remember_0 pn_X2 rfl (nle rfl) L_X2_remember_0 ?_
  obtain ⟨old, e0, e1, e2, e3, e4⟩ := hH
  obtain ⟨nf, nt, nc, nd, hr, hI, h9⟩ := hS
  refine g_aload_n rfl ?_
  refine g_getR (w := (h + 1)) fl_X2_11 rfl hh.1 rfl ?_
  refine g_aload_n rfl ?_
  refine g_getI fl_X2_18 rfl hh.1 rfl ?_
  rw [e1]
  refine g_aload_n rfl ?_
  refine g_getI fl_X2_22 rfl hh.1 rfl ?_
  rw [e2]
  refine g_iadd ?_
  refine g_bipush (v := 14) bk_14 ?_
  refine g_irem (by decide) ?_
  rw [mod14 (by omega) (by omega)]
  refine g_aaload (j := ((old + cnt) % 14)) (w := (h + 2 + 37 * ((old + cnt) % 14))) hh.2.1 (nle rfl) (by simp only [nI, Int32.ofNat_add, Int32.ofNat_mul] <;> rfl) (by omega) (nle rfl) (rcs37_get (by omega)) ?_
  refine g_aload_n rfl ?_
  refine g_callV (as := [_]) mk_X4_copyFrom ml_X2_25 im_X4_copyFrom se_X4_copyFrom rfl rfl ⟨⟨nle rfl, nle rfl⟩, nle rfl, nle rfl⟩ (hh.2.2 _ (by omega)).s0 rfl rfl rfl (nle rfl) ?_
  refine ct_X4_copyFrom (hh.2.2 _ (by omega)) ho (by omega) hr hI (fun M2 hr2 h12 hf2 => ?_)
  refine kq_n ?_
  refine g_aload_n rfl ?_
  refine g_getI fl_X2_22 rfl hh.1 rfl ?_
  rw [hf2 h (by omega), e2]
  refine g_bipush (v := 14) bk_14 ?_
  refine g_icmp_ge rfl L_X2_remember_43 (fun h_1 => ?_) (fun h_1 => ?_)
  · have hge : cnt = 14 := by
      rcases Nat.lt_or_ge cnt 14 with q | q
      · exact absurd ((nI_ltI (a := cnt) (b := 14) (by omega) (by omega)).mpr q) (Int32.not_lt.mpr h_1)
      · omega
    refine g_aload_n rfl ?_
    refine g_aload_n rfl ?_
    refine g_getI fl_X2_18 rfl hh.1 rfl ?_
    rw [hf2 h (by omega), e1]
    refine g_iconst (v := 1) ik_1 ?_
    refine g_iadd ?_
    refine g_bipush (v := 14) bk_14 ?_
    refine g_irem (by decide) ?_
    rw [show (1 : Int32) = nI 1 from rfl, mod14 (by omega) (by omega)]
    refine g_putI pl_X2_18 rfl hh.1 rfl rfl rfl ?_
    refine g_fall rfl L_X2_remember_56 ?_
    refine g_vret rfl (nle rfl) (nle rfl) ?_
    have hge' := hge
    subst hge
    have hs2 : SF B M2 (h + 2 + 37 * ((old + 14) % 14)) s := ⟨nf, nt, nc, nd, hr2, hI, h12.trans h9⟩
    refine hQ _ ?_ ?_
    · refine ⟨(old + 1) % 14, by omega, ?_, ?_, ?_, fun i hi => ?_⟩
      · rw [upM_s]
      · rw [upM_j _ _ _ _ (by omega), hf2 h (by omega), e2]; rfl
      · exact Nat.le_refl 14
      · have hi : i < 14 := hi
        show SF B _ _ (if i = 13 then s else blk (i + 1))
        by_cases q : i = 13
        · rw [if_pos q, q, show ((old + 1) % 14 + 13) % 14 = (old + 14) % 14 by omega]
          exact hs2.fr fun r hr1 hr2 => by funext j; exact upM_o _ _ _ _ (by omega) j
        · rw [if_neg q, show ((old + 1) % 14 + i) % 14 = (old + (i + 1)) % 14 by omega]
          exact (e4 (i + 1) (by omega)).fr fun r hr1 hr2 => by funext j; rw [upM_o _ _ _ _ (by omega), hf2 r (by omega)]
    · intro r hr'
      funext j
      rw [upM_o _ _ _ _ (by omega), hf2 r (by omega)]
  · have hlt : cnt < 14 := (nI_ltI (a := cnt) (b := 14) (by omega) (by omega)).mp (Int32.not_le.mp h_1)
    refine g_aload_n rfl ?_
    refine g_dup rfl ?_
    refine g_getI fl_X2_22 rfl hh.1 rfl ?_
    rw [hf2 h (by omega), e2]
    refine g_iconst (v := 1) ik_1 ?_
    refine g_iadd ?_
    refine g_putI pl_X2_22 rfl hh.1 rfl rfl rfl ?_
    refine g_goto rfl L_X2_remember_56 ?_
    refine g_vret rfl (nle rfl) (nle rfl) ?_
    have hlt' := hlt
    have hs2 : SF B M2 (h + 2 + 37 * ((old + cnt) % 14)) s := ⟨nf, nt, nc, nd, hr2, hI, h12.trans h9⟩
    refine hQ _ ?_ ?_
    · refine ⟨old, e0, ?_, ?_, ?_, fun i hi => ?_⟩
      · rw [upM_j _ _ _ _ (by omega), hf2 h (by omega)]; exact e1
      · rw [upM_s, show (1 : Int32) = nI 1 from rfl, nI_add]; unfold remC; rw [if_pos hlt]
      · unfold remC; rw [if_pos hlt]; omega
      · unfold remC at hi
        rw [if_pos hlt] at hi
        unfold remB
        simp only [if_pos hlt]
        by_cases q : i = cnt
        · rw [if_pos q, q]
          exact hs2.fr fun r hr1 hr2 => by funext j; exact upM_o _ _ _ _ (by omega) j
        · rw [if_neg q]
          exact (e4 i (by omega)).fr fun r hr1 hr2 => by funext j; rw [upM_o _ _ _ _ (by omega), hf2 r (by omega)]
    · intro r hr'
      funext j
      rw [upM_o _ _ _ _ (by omega), hf2 r (by omega)]
set_option maxRecDepth 100000 in
set_option maxHeartbeats 4000000 in
theorem ct_X2_takeBack {X : Xs} {κ : Kp} {M : Mem} {Q : Rs → Kp → Mem → Prop} {h : Nat} (hh : IsHis κ.2.1 h) {o : Nat} (ho : IsStu κ.2.1 o) (hd : o + 37 ≤ h ∨ h + 520 ≤ o) {B cnt : Nat} {blk : Nat → Nat → Int32} (hH : HisOK B M h cnt blk) (hpos : 0 < cnt) (hQ : ∀ M', HisOK B M' h (cnt - 1) blk → SF B M' o (blk (cnt - 1)) → (∀ r, r < o ∨ o + 37 ≤ r → r ≠ h → M' r = M r) → Q (.inl (some (.int (nI (cnt - 1))))) κ M') : Ct X m_X2_takeBack [.ref h, .ref o] κ M Q := by
  refine ct_of B_X2_takeBack_0 pn_X2 rfl (nle rfl) L_X2_takeBack_0 ?_
  obtain ⟨old, e0, e1, e2, e3, e4⟩ := hH
  refine g_aload_n rfl ?_
  refine g_getI fl_X2_22 rfl hh.1 rfl ?_
  rw [e2]
  refine g_if_le rfl L_X2_takeBack_38 (fun h_1 => ?_) (fun h_1 => ?_)
  · exact absurd h_1 (Int32.not_le.mpr ((nI_ltI (a := 0) (b := cnt) (by omega) (by omega)).mpr hpos))
  · refine g_aload_n rfl ?_
    refine g_dup rfl ?_
    refine g_getI fl_X2_22 rfl hh.1 rfl ?_
    rw [e2]
    refine g_iconst (v := 1) ik_1 ?_
    refine g_isub ?_
    refine g_putI pl_X2_22 rfl hh.1 rfl rfl rfl ?_
    refine g_aload_n rfl ?_
    refine g_aload_n rfl ?_
    refine g_getR (w := (h + 1)) fl_X2_11 rfl hh.1 rfl ?_
    refine g_aload_n rfl ?_
    refine g_getI fl_X2_18 rfl hh.1 rfl ?_
    simp (disch := omega) only [upM_s, upM_j]
    rw [e1]
    refine g_aload_n rfl ?_
    refine g_getI fl_X2_22 rfl hh.1 rfl ?_
    simp (disch := omega) only [upM_s, upM_j]
    rw [nI_pr (show 1 ≤ cnt by omega)]
    refine g_iadd ?_
    refine g_bipush (v := 14) bk_14 ?_
    refine g_irem (by decide) ?_
    rw [mod14 (by omega) (by omega)]
    refine g_aaload (j := ((old + (cnt - 1)) % 14)) (w := (h + 2 + 37 * ((old + (cnt - 1)) % 14))) hh.2.1 (nle rfl) (by simp only [nI, Int32.ofNat_add, Int32.ofNat_mul] <;> rfl) (by omega) (nle rfl) (rcs37_get (by omega)) ?_
    refine g_callV (as := [_]) mk_X4_copyFrom ml_X2_25 im_X4_copyFrom se_X4_copyFrom rfl rfl ⟨⟨nle rfl, nle rfl⟩, nle rfl, nle rfl⟩ ho.s0 rfl rfl rfl (nle rfl) ?_
    have hfu : ∀ r, r ≠ h → upM M h 2 (nI (cnt - 1)) r = M r := fun r hr' => by funext j; exact upM_o _ _ _ _ hr' j
    obtain ⟨nf, nt, nc, nd, hr, hI, h9⟩ := (e4 (cnt - 1) (by omega)).fr (M' := upM M h 2 (nI (cnt - 1))) (fun r hr1 hr2 => hfu r (by omega))
    refine ct_X4_copyFrom ho (hh.2.2 _ (by omega)) (by omega) hr hI (fun M2 hr2 h12 hf2 => ?_)
    refine kq_n ?_
    refine g_fall rfl L_X2_takeBack_38 ?_
    refine g_aload_n rfl ?_
    refine g_getI fl_X2_22 rfl hh.1 rfl ?_
    rw [hf2 h (by omega)]
    simp (disch := omega) only [upM_s, upM_j]
    refine g_iret rfl (nle rfl) (nle rfl) ?_
    refine hQ _ ⟨old, e0, ?_, ?_, by omega, fun i hi => ?_⟩ ⟨nf, nt, nc, nd, hr2, hI, h12.trans h9⟩ ?_
    · rw [hf2 h (by omega), upM_j _ _ _ _ (by omega)]; exact e1
    · rw [hf2 h (by omega), upM_s]
    · exact (e4 i (by omega)).fr fun r hr1 hr2 => by rw [hf2 r (by omega), hfu r (by omega)]
    · intro r hr1 hr2
      rw [hf2 r (by omega), hfu r (by omega)]
set_option maxRecDepth 100000 in
set_option maxHeartbeats 4000000 in
theorem ct_X2_forgetAll {X : Xs} {κ : Kp} {M : Mem} {Q : Rs → Kp → Mem → Prop} {h : Nat} (hh : IsHis κ.2.1 h) (hQ : ∀ M', (∀ B blk, HisOK B M' h 0 blk) → (∀ r, r ≠ h → M' r = M r) → Q (.inl none) κ M') : Ct X m_X2_forgetAll [.ref h] κ M Q := by
  refine ct_of B_X2_forgetAll_0 pn_X2 rfl (nle rfl) L_X2_forgetAll_0 ?_
  refine g_aload_n rfl ?_
  refine g_iconst (v := 0) ik_0 ?_
  refine g_putI pl_X2_18 rfl hh.1 rfl rfl rfl ?_
  refine g_aload_n rfl ?_
  refine g_iconst (v := 0) ik_0 ?_
  refine g_putI pl_X2_22 rfl hh.1 rfl rfl rfl ?_
  refine g_vret rfl (nle rfl) (nle rfl) ?_
  refine hQ _ (fun B blk => ⟨0, by omega, ?_, ?_, by omega, fun i hi => absurd hi (by omega)⟩) (fun r hr' => ?_)
  · rw [upM_j _ _ _ _ (by omega), upM_s]; rfl
  · rw [upM_s]; rfl
  · funext j; rw [upM_o _ _ _ _ hr', upM_o _ _ _ _ hr']
