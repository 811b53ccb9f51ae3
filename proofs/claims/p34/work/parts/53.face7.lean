/-! ===== what a week would bring ===== -/
section AHEAD
variable {B nf nt nc nd : Nat} {s : Nat → Int32}
def hdB (nd : Nat) (s : Nat → Int32) (k : Nat) : Bool := !decide (bitsI (comI (clsN nd k s) k nd) < (clsN nd k s) 11)
theorem step_h {s : Nat → Int32} {k k' nd : Nat} (hk : k < 10) (hk' : k' < 10) : stepC nd s k (39 + 9 * k' + 6) = if k' = k ∧ ¬ bitsI (comI s k nd) < s 11 then s (39 + 9 * k' + 6) + 1 else s (39 + 9 * k' + 6) := by
  unfold stepC
  by_cases h : bitsI (comI s k nd) < s 11
  · rw [if_pos h, if_neg (fun q => q.2 h), upd_ne (by omega)]
  · rw [if_neg h, dn_o (by omega) (by omega) (by omega)]
    by_cases e : k' = k
    · subst e
      rw [if_pos ⟨rfl, h⟩, ho_6]
    · rw [if_neg (fun q => e q.1), ho_o (by omega) (by omega)]
theorem cls_h {k' : Nat} (hk' : k' < 10) : ∀ n, n ≤ 10 → clsN nd n s (39 + 9 * k' + 6) = if k' < n ∧ hdB nd s k' = true then s (39 + 9 * k' + 6) + 1 else s (39 + 9 * k' + 6)
  | 0, _ => (if_neg (by omega)).symm
  | n + 1, hn => by
    show stepC nd (clsN nd n s) n (39 + 9 * k' + 6) = _
    rw [step_h (by omega) hk', cls_h hk' n (by omega)]
    by_cases e : k' = n
    · subst e
      rw [if_neg (show ¬ (k' < k' ∧ hdB nd s k' = true) by omega)]
      by_cases h : bitsI (comI (clsN nd k' s) k' nd) < (clsN nd k' s) 11
      · rw [if_neg (fun q => q.2 h), if_neg (fun q => by unfold hdB at q; rw [decide_eq_true h] at q; exact absurd q.2 (by decide))]
      · rw [if_pos ⟨rfl, h⟩, if_pos ⟨by omega, by unfold hdB; rw [decide_eq_false h]; rfl⟩]
    · rw [if_neg (fun q => e q.1)]
      by_cases h : k' < n ∧ hdB nd s k' = true
      · rw [if_pos h, if_pos ⟨by omega, h.2⟩]
      · rw [if_neg h, if_neg (fun q => h ⟨by omega, q.2⟩)]
theorem or_z (x : Int32) : x ||| 0 = x := by
  apply b_ext
  intro i hi
  rw [b_or, b_0, Bool.or_false]
theorem hld_or : ∀ n, hldN nd n s = orI n (fun k => if hdB nd s k = true then 1 <<< (nI k &&& 31) else 0)
  | 0 => rfl
  | n + 1 => by
    show (if bitsI (comI (clsN nd n s) n nd) < (clsN nd n s) 11 then hldN nd n s else hldN nd n s ||| (1 <<< (nI n &&& 31))) = orI n _ ||| (if hdB nd s n = true then 1 <<< (nI n &&& 31) else 0)
    rw [hld_or n]
    by_cases h : bitsI (comI (clsN nd n s) n nd) < (clsN nd n s) 11
    · rw [if_pos h, if_neg (show ¬ hdB nd s n = true by unfold hdB; rw [decide_eq_true h]; decide), or_z]
    · rw [if_neg h, if_pos (show hdB nd s n = true by unfold hdB; rw [decide_eq_false h]; rfl)]
theorem week_h {k : Nat} (hk : k < nc) (hc : nc ≤ 10) : weekS nc nd s (39 + 9 * k + 6) = if hdB nd (upd s 4 (s 4 + 1)) k = true then s (39 + 9 * k + 6) + 1 else s (39 + 9 * k + 6) := by
  unfold weekS
  rw [ri_l (by omega), cls_h (by omega) nc hc, upd_ne (by omega)]
  simp only [hk, true_and]
theorem up1 {x : Int32} {b : Nat} (h : bd 0 b x) (hb : b < 1000000) : (¬ x + 1 ≤ x) ∧ x ≤ x := by
  obtain ⟨n, -, h2, rfl⟩ := h
  rw [nI_1]
  refine ⟨fun q => ?_, Int32.le_refl _⟩
  have := (nI_leI (a := n + 1) (b := n) (by omega) (by omega)).mp q
  omega
/-- nobody is enough for any class -/
def NH (nc nd : Nat) (s : Nat → Int32) : Prop := ∀ k, k < nc → bitsI (comI s k nd) < s 11
theorem com_cg {s s' : Nat → Int32} {k : Nat} (h1 : s' (39 + 9 * k + 8) = s (39 + 9 * k + 8)) (h2 : ∀ d, d < nd → s' (129 + 5 * d + 2) = s (129 + 5 * d + 2)) : comI s' k nd = comI s k nd := by
  unfold comI
  exact orI_congr fun d hd => by rw [h1, h2 d hd]
theorem nh_cls (hc : nc ≤ 10) (hn : nd ≤ 12) (h : NH nc nd s) : ∀ k, k ≤ nc → ∀ j, j ≠ 8 → clsN nd k s j = s j
  | 0, _, _, _ => rfl
  | k + 1, hk, j, hj => by
    have ih := nh_cls hc hn h k (by omega)
    show stepC nd (clsN nd k s) k j = s j
    unfold stepC
    rw [com_cg (s := s) (ih _ (by omega)) (fun d hd => ih _ (by omega)), ih 11 (by omega), if_pos (h k (by omega)), upd_ne hj]
    exact ih j hj
theorem nh_week (hc : nc ≤ 10) (hn : nd ≤ 12) (h : NH nc nd s) : NH nc nd (weekS nc nd s) ∧ ∀ d, weekS nc nd s (129 + 5 * d + 2) = s (129 + 5 * d + 2) := by
  have h0 : NH nc nd (upd s 4 (s 4 + 1)) := fun k hk => by
    rw [com_cg (s := s) (upd_ne (by omega)) (fun d _ => upd_ne (by omega)), upd_ne (by omega)]
    exact h k hk
  have e : ∀ j, j ≠ 8 → j ≠ 4 → (∀ d, j ≠ 129 + 5 * d ∧ j ≠ 129 + 5 * d + 1) → weekS nc nd s j = s j := fun j h8 h4 hd => by
    unfold weekS
    rw [ri_o hd, nh_cls hc hn h0 nc (Nat.le_refl _) j h8, upd_ne h4]
  refine ⟨fun k hk => ?_, fun d => e _ (by omega) (by omega) (fun d' => by omega)⟩
  rw [com_cg (s := s) (e _ (by omega) (by omega) (fun d' => by omega)) (fun d _ => e _ (by omega) (by omega) (fun d' => by omega)), e 11 (by omega) (by omega) (fun d' => by omega)]
  exact h k hk
theorem cls_up (hI : Inv B nf nt nc nd s) {j : Nat} : ∀ i, j + i ≤ nc → ∃ u, u ≤ 12 * i ∧ clsN nd (j + i) s 6 = clsN nd j s 6 + nI u
  | 0, _ => ⟨0, Nat.le_refl _, (add_z _).symm⟩
  | i + 1, hk => by
    obtain ⟨u, h1, h2⟩ := cls_up hI (j := j) i (by omega)
    have hk2 := (invW_c hI (j + i) (by omega)).1
    have e : clsN nd (j + (i + 1)) s 6 = stepC nd (clsN nd (j + i) s) (j + i) 6 := rfl
    by_cases h : bitsI (comI (clsN nd (j + i) s) (j + i) nd) < (clsN nd (j + i) s) 11
    · have q := step_6n h
      refine ⟨u, by omega, ?_⟩
      rw [e, ← h2]
      grind
    · have q := step_6y hk2 h
      obtain ⟨v, h3, h4⟩ := bits_nn (comI (clsN nd (j + i) s) (j + i) nd)
      refine ⟨u + v, by omega, ?_⟩
      rw [e, ← nI_add, ← Int32.add_assoc, ← h2, ← h4]
      grind
/-- a week without uses: no class had enough -/
theorem zero_nh (hI : Inv B nf nt nc nd s) (hz : clsN nd nc s 6 = s 6) : ∀ k, k ≤ nc → (∀ k', k' < k → bitsI (comI s k' nd) < s 11) ∧ ∀ j, j ≠ 8 → clsN nd k s j = s j
  | 0, _ => ⟨fun k' h => absurd h (by omega), fun _ _ => rfl⟩
  | k + 1, hk => by
    have hc := hI.lc
    have hn := hI.ld
    obtain ⟨i1, i2⟩ := zero_nh hI hz k (by omega)
    have hcom : comI (clsN nd k s) k nd = comI s k nd := com_cg (i2 _ (by omega)) (fun d _ => i2 _ (by omega))
    have h11 : clsN nd k s 11 = s 11 := i2 11 (by omega)
    have hno : bitsI (comI s k nd) < s 11 := by
      by_cases h : bitsI (comI s k nd) < s 11
      · exact h
      · exfalso
        have h' : ¬ bitsI (comI (clsN nd k s) k nd) < (clsN nd k s) 11 := by rw [hcom, h11]; exact h
        have hk2 := (invW_c hI k (by omega)).1
        have q := step_6y hk2 h'
        rw [hcom] at q
        obtain ⟨v, v1, v2⟩ := bits_nn (comI s k nd)
        obtain ⟨b, b1, b2, b3⟩ := hI.s11
        obtain ⟨w, w1, w2⟩ := cls_up hI (j := k + 1) (nc - (k + 1)) (by omega)
        rw [show k + 1 + (nc - (k + 1)) = nc by omega, hz] at w2
        have e : clsN nd (k + 1) s 6 = stepC nd (clsN nd k s) k 6 := rfl
        have e6 : clsN nd k s 6 = s 6 := i2 6 (by omega)
        rw [v2, b3] at h
        have hv : b ≤ v := by
          rcases Nat.lt_or_ge v b with z | z
          · exact absurd ((nI_ltI (a := v) (b := b) (by omega) (by omega)).mpr z) h
          · exact z
        rw [v2, e6] at q
        have t : nI (v + w) = nI 0 := by
          rw [← nI_add]
          show nI v + nI w = (0 : Int32)
          rw [e] at w2
          grind
        have := (nI_eq (a := v + w) (b := 0) (by omega) (by omega)).mp t
        omega
    refine ⟨fun k' hk' => ?_, fun j hj => ?_⟩
    · by_cases e : k' = k
      · subst e; exact hno
      · exact i1 k' (by omega)
    · show stepC nd (clsN nd k s) k j = s j
      unfold stepC
      rw [hcom, h11, if_pos hno, upd_ne hj]
      exact i2 j hj
theorem week_0 (hI : Inv B nf nt nc nd s) (hz : weekS nc nd s 6 = s 6) : NH nc nd s := by
  have hI0 := inv_lo (i := 4) (x := s 4 + 1) (Or.inl rfl) hI
  unfold weekS at hz
  rw [ri_l (by omega)] at hz
  have h := (zero_nh hI0 (by rw [hz, upd_ne (by omega)]) nc (Nat.le_refl _)).1
  intro k hk
  have := h k hk
  rw [com_cg (s := s) (upd_ne (by omega)) (fun d _ => upd_ne (by omega)), upd_ne (by omega)] at this
  exact this
theorem nh_wk (hc : nc ≤ 10) (hn : nd ≤ 12) (h : NH nc nd s) : ∀ n, NH nc nd (wkN nc nd n s) ∧ ∀ d, wkN nc nd n s (129 + 5 * d + 2) = s (129 + 5 * d + 2)
  | 0 => ⟨h, fun _ => rfl⟩
  | n + 1 => by
    obtain ⟨i1, i2⟩ := nh_wk hc hn h n
    obtain ⟨j1, j2⟩ := nh_week hc hn i1
    exact ⟨j1, fun d => (j2 d).trans (i2 d)⟩
theorem wk_add (m : Nat) : ∀ n, wkN nc nd (m + n) s = wkN nc nd n (wkN nc nd m s)
  | 0 => rfl
  | n + 1 => by
    show weekS nc nd (wkN nc nd (m + n) s) = weekS nc nd (wkN nc nd n (wkN nc nd m s))
    rw [wk_add m n]
end AHEAD
def emF (f : Nat → Int32) : Nat → Nat → Int32
  | 0, n => if 0 < f n then -1 else nI n
  | k + 1, n => if 0 < f n then emF f k (n + 1) else nI n
theorem em_z {f : Nat → Int32} {n : Nat} (h : ¬ 0 < f n) : ∀ k, emF f k n = nI n
  | 0 => if_neg h
  | k + 1 => if_neg h
theorem em_p {f : Nat → Int32} {n k : Nat} (h : 0 < f n) : emF f (k + 1) n = emF f k (n + 1) := if_pos h
theorem em_all {f : Nat → Int32} : ∀ k n, (∀ i, 0 < f (n + i)) → emF f k n = -1
  | 0, n, h => if_pos (h 0)
  | k + 1, n, h => by
    have h0 : 0 < f n := h 0
    rw [em_p h0]
    exact em_all k (n + 1) fun i => by
      have := h (1 + i)
      rwa [show n + (1 + i) = n + 1 + i by omega] at this
def leftF (s : Nat → Int32) (d : Nat) : Nat → Int32 := fun n => wkC n s (129 + 5 * d + 2)
set_option maxRecDepth 100000 in
set_option maxHeartbeats 4000000 in
theorem ct_X7_held {X : Xs} {κ : Kp} {M : Mem} {Q : Rs → Kp → Mem → Prop} {x : Nat} (hx : IsDF κ.2.1 x) {B : Nat} {s : Nat → Int32} (hS : SF B M (x + 4) s) (hB : B < 1000000) (hY : ∀ M', (∀ r, r < x + 41 ∨ x + 78 ≤ r → M' r = M r) → Q (.inl (some (.int (weekH (cN s 2) (cN s 3) s)))) κ M') : Ct X m_X7_held [.ref x] κ M Q := by
  refine ct_of B_X7_held_0 pn_X7 rfl (nle rfl) L_X7_held_0 ?_
  have hS0 := hS
  obtain ⟨nf, nt, nc, nd, hr, hI, h9⟩ := hS
  have bf := hI.lf
  have bt := hI.lt
  have bc := hI.lc
  have bn := hI.ld
  have n0 := hI.n0
  have n1 := hI.n1
  have n2 := hI.n2
  have n3 := hI.n3
  refine g_aload_n rfl ?_
  refine g_getR (w := (x + 41)) fl_X7_23 rfl hx.1 rfl ?_
  refine g_aload_n rfl ?_
  refine g_getR (w := (x + 4)) fl_X7_19 rfl hx.1 rfl ?_
  refine g_callV (as := [_]) mk_X4_copyFrom ml_X7_319 im_X4_copyFrom se_X4_copyFrom rfl rfl ⟨⟨nle rfl, nle rfl⟩, nle rfl, nle rfl⟩ hx.2.2.2.1.s0 rfl rfl rfl (nle rfl) ?_
  refine k_copyFrom hx.2.2.2.1 hx.2.2.1 (by omega) hS0 (fun M1 hS1 hF1 => ?_)
  obtain ⟨nf1, nt1, nc1, nd1, hr1, hI1, g9⟩ := hS1
  have k1 : nf1 = nf := by rw [← hI1.n0, hI.n0]
  have k2 : nt1 = nt := by rw [← hI1.n1, hI.n1]
  have k3 : nc1 = nc := by rw [← hI1.n2, hI.n2]
  have k4 : nd1 = nd := by rw [← hI1.n3, hI.n3]
  subst k1 k2 k3 k4
  refine kq_n ?_
  refine g_aload_n rfl ?_
  refine g_getR (w := (x + 41)) fl_X7_23 rfl hx.1 rfl ?_
  refine g_callV (as := []) mk_X4_passWeek ml_X7_322 im_X4_passWeek se_X4_passWeek rfl rfl ⟨⟨nle rfl, nle rfl⟩, nle rfl, nle rfl⟩ hx.2.2.2.1.s0 rfl rfl rfl (nle rfl) ?_
  refine ct_X4_passWeek hx.2.2.2.1 hr1 hI1 (fun M2 hr2 hF2 => ?_)
  have fF : ∀ r, r < x + 41 ∨ x + 78 ≤ r → M2 r = M r := fun r a => (hF2.1 r (by omega)).trans (hF1 r a)
  refine kq_s ?_
  refine g_pop rfl ?_
  refine g_iconst (v := 0) ik_0 ?_
  refine g_istore_n (nle rfl) ?_
  refine g_iconst (v := 0) ik_0 ?_
  refine g_istore_n (nle rfl) ?_
  refine g_fall rfl L_X7_held_23 ?_
  refine g_lo2 (lo' := [(0, some (.ref x)), (1, some (.int (orI 0 (fun k => if hdB nd1 (upd s 4 (s 4 + 1)) k = true then 1 <<< (nI k &&& 31) else 0)))), (2, some (.int (nI 0)))]) ?_ ⟨rfl, rfl, rfl, trivial⟩
  refine loop_up (P := fun k => G X m_X7_held B_X7_held_23 23 [(0, some (.ref x)), (1, some (.int (orI k (fun k => if hdB nd1 (upd s 4 (s 4 + 1)) k = true then 1 <<< (nI k &&& 31) else 0)))), (2, some (.int (nI k)))] [] 0 0 κ M2 Q) nc1 (fun k hle_k ih_k => ?_) 0 (Nat.zero_le _)
  refine g_iload_n rfl ?_
  refine g_aload_n rfl ?_
  refine g_getR (w := (x + 4)) fl_X7_19 rfl hx.1 rfl ?_
  refine g_getI fl_X7_98 rfl hx.2.2.1.s0 rfl ?_
  rw [fF (x + 4) (by omega), hr.c7 hI]
  refine g_icmp_ge rfl L_X7_held_73 (fun h_1 => ?_) (fun h_1 => ?_)
  · have hx_k := ((cmp_ge (c := nc1) rfl (by omega) hle_k).1 h_1).symm
    subst hx_k
    refine g_iload_n rfl ?_
    refine g_iret rfl (nle rfl) (nle rfl) ?_
    exact qeq (hY M2 fF) (by rw [n2, n3]; exact (hld_or nc1).symm) rfl
  · have hlt_k : k < nc1 := (cmp_ge (c := nc1) rfl (by omega) hle_k).2 h_1
    refine g_aload_n rfl ?_
    refine g_getR (w := (x + 41)) fl_X7_23 rfl hx.1 rfl ?_
    refine g_getR (w := ((x + 41) + 12)) fl_X7_188 rfl hx.2.2.2.1.s0 rfl ?_
    refine g_iload_n rfl ?_
    refine g_aaload (j := k) (w := ((x + 41) + 13 + k)) hx.2.2.2.1.la (nle rfl) rfl (by omega) (nle rfl) (rcs_get (by omega)) ?_
    refine g_getI fl_X7_217 rfl (hx.2.2.2.1.li (by omega)) rfl ?_
    rw [(hr2.2.2.2.1 k hlt_k).2.2.2.2.2.2.2.1, week_h hlt_k bc]
    refine g_aload_n rfl ?_
    refine g_getR (w := (x + 4)) fl_X7_19 rfl hx.1 rfl ?_
    refine g_getR (w := ((x + 4) + 12)) fl_X7_188 rfl hx.2.2.1.s0 rfl ?_
    refine g_iload_n rfl ?_
    refine g_aaload (j := k) (w := ((x + 4) + 13 + k)) hx.2.2.1.la (nle rfl) rfl (by omega) (nle rfl) (rcs_get (by omega)) ?_
    refine g_getI fl_X7_217 rfl (hx.2.2.1.li (by omega)) rfl ?_
    rw [fF (x + 4 + 13 + k) (by omega), (hr.2.2.2.1 k hlt_k).2.2.2.2.2.2.2.1]
    refine g_icmp_le rfl L_X7_held_67 (fun h_2 => ?_) (fun h_2 => ?_)
    · have hb : hdB nd1 (upd s 4 (s 4 + 1)) k = false := by
        cases z : hdB nd1 (upd s 4 (s 4 + 1)) k with
        | false => rfl
        | true => rw [z, if_pos rfl] at h_2; exact absurd h_2 (up1 (hI.cl hlt_k).2.2.1 hB).1
      refine g_iinc (v := nI (k + 1)) rfl (nI_inc _) (nle rfl) ?_
      refine g_goto rfl L_X7_held_23 ?_
      refine g_lo2 (ih_k hlt_k) ⟨rfl, ?_, rfl, trivial⟩
      show some (Value.int _) = some (Value.int _)
      rw [show orI (k + 1) (fun k => if hdB nd1 (upd s 4 (s 4 + 1)) k = true then 1 <<< (nI k &&& 31) else 0) = orI k (fun k => if hdB nd1 (upd s 4 (s 4 + 1)) k = true then 1 <<< (nI k &&& 31) else 0) by show _ ||| (if hdB nd1 (upd s 4 (s 4 + 1)) k = true then _ else _) = _; rw [if_neg (by rw [hb]; decide), or_z]]
    · have hb : hdB nd1 (upd s 4 (s 4 + 1)) k = true := by
        cases z : hdB nd1 (upd s 4 (s 4 + 1)) k with
        | true => rfl
        | false => rw [z, if_neg (by decide)] at h_2; exact absurd (up1 (hI.cl hlt_k).2.2.1 hB).2 h_2
      refine g_iload_n rfl ?_
      refine g_iconst (v := 1) ik_1 ?_
      refine g_iload_n rfl ?_
      refine g_ishl ?_
      refine g_ior ?_
      refine g_istore_n (nle rfl) ?_
      refine g_fall rfl L_X7_held_67 ?_
      refine g_iinc (v := nI (k + 1)) rfl (nI_inc _) (nle rfl) ?_
      refine g_goto rfl L_X7_held_23 ?_
      refine g_lo2 (ih_k hlt_k) ⟨rfl, ?_, rfl, trivial⟩
      show some (Value.int _) = some (Value.int _)
      rw [show orI (k + 1) (fun k => if hdB nd1 (upd s 4 (s 4 + 1)) k = true then 1 <<< (nI k &&& 31) else 0) = orI k (fun k => if hdB nd1 (upd s 4 (s 4 + 1)) k = true then 1 <<< (nI k &&& 31) else 0) ||| (1 <<< (nI k &&& 31)) by show _ ||| (if hdB nd1 (upd s 4 (s 4 + 1)) k = true then _ else _) = _; rw [if_pos hb]]
theorem bd_pos {x : Int32} {b : Nat} (h : bd 0 b x) (hb : b < 1000000) : (¬ x = 0) ↔ 0 < x := by
  obtain ⟨n, -, h2, rfl⟩ := h
  have h1 : (nI n = 0) ↔ n = 0 := nI_eq (b := 0) (by omega) (by omega)
  have h3 : (0 < nI n) ↔ 0 < n := nI_ltI (a := 0) (by omega) (by omega)
  rw [h1, h3]
  omega
set_option maxRecDepth 100000 in
set_option maxHeartbeats 4000000 in
theorem ct_X7_emptyIn {X : Xs} {κ : Kp} {M : Mem} {Q : Rs → Kp → Mem → Prop} {x : Nat} (hx : IsDF κ.2.1 x) {B : Nat} {s : Nat → Int32} (hS : SF B M (x + 4) s) {v : Int32} (hE : isD s v = false → False) (hY : isD s v = true → ∀ d, d < 100 → v = nI d → ∀ M', (∀ r, r < x + 41 ∨ x + 78 ≤ r → M' r = M r) → Q (.inl (some (.int (emF (leftF s d) 100 0)))) κ M') : Ct X m_X7_emptyIn [.ref x, .int v] κ M Q := by
  refine ct_of B_X7_emptyIn_0 pn_X7 rfl (nle rfl) L_X7_emptyIn_0 ?_
  have hS0 := hS
  obtain ⟨nf, nt, nc, nd, hr, hI, h9⟩ := hS
  have bf := hI.lf
  have bt := hI.lt
  have bc := hI.lc
  have bn := hI.ld
  have n0 := hI.n0
  have n1 := hI.n1
  have n2 := hI.n2
  have n3 := hI.n3
  refine g_aload_n rfl ?_
  refine g_getR (w := (x + 4)) fl_X7_19 rfl hx.1 rfl ?_
  refine g_iload_n rfl ?_
  refine g_callV (as := [_]) mk_X4_hasDancer ml_X7_223 im_X4_hasDancer se_X4_hasDancer rfl rfl ⟨⟨nle rfl, nle rfl⟩, nle rfl, nle rfl⟩ hx.2.2.1.s0 rfl rfl rfl (nle rfl) ?_
  refine ct_X4_hasDancer hx.2.2.1 ?_
  rw [← isD_has hr hI]
  refine kq_s ?_
  refine g_callS (as := [_]) mk_X7_requireIndex ml_X7_139 sm_X7_requireIndex rfl rfl ⟨⟨nle rfl, nle rfl⟩, nle rfl, nle rfl⟩ rfl rfl (nle rfl) ?_
  refine ct_X7_requireIndex (fun hq => ?_) (fun hq => ?_)
  · obtain ⟨d, hd, ed⟩ := hI.xD.mp hq
    subst ed
    obtain ⟨n0l, -, n1l, n2l⟩ := (hI.da hd).1
    refine kq_n ?_
    refine g_aload_n rfl ?_
    refine g_getR (w := (x + 4)) fl_X7_19 rfl hx.1 rfl ?_
    refine g_getR (w := ((x + 4) + 23)) fl_X7_226 rfl hx.2.2.1.s0 rfl ?_
    refine g_iload_n rfl ?_
    refine g_aaload (j := d) (w := ((x + 4) + 24 + d)) hx.2.2.1.da (nle rfl) rfl (by omega) (nle rfl) (rcs_get (by omega)) ?_
    refine g_getI fl_X7_236 rfl (hx.2.2.1.di (by omega)) rfl ?_
    rw [(hr.2.2.2.2 d hd).2.2.1]
    refine g_if_ne rfl L_X7_emptyIn_28 (fun h_1 => ?_) (fun h_1 => ?_)
    · have hz : 0 < leftF s d 0 := (bd_pos (hI.da hd).1 (by omega)).mp h_1
      refine g_aload_n rfl ?_
      refine g_getR (w := (x + 41)) fl_X7_23 rfl hx.1 rfl ?_
      refine g_aload_n rfl ?_
      refine g_getR (w := (x + 4)) fl_X7_19 rfl hx.1 rfl ?_
      refine g_callV (as := [_]) mk_X4_copyFrom ml_X7_319 im_X4_copyFrom se_X4_copyFrom rfl rfl ⟨⟨nle rfl, nle rfl⟩, nle rfl, nle rfl⟩ hx.2.2.2.1.s0 rfl rfl rfl (nle rfl) ?_
      refine k_copyFrom hx.2.2.2.1 hx.2.2.1 (by omega) hS0 (fun M1 hS1 hF1 => ?_)
      obtain ⟨nf1, nt1, nc1, nd1, hr1, hI1, g9⟩ := hS1
      have k1 : nf1 = nf := by rw [← hI1.n0, hI.n0]
      have k2 : nt1 = nt := by rw [← hI1.n1, hI.n1]
      have k3 : nc1 = nc := by rw [← hI1.n2, hI.n2]
      have k4 : nd1 = nd := by rw [← hI1.n3, hI.n3]
      subst k1 k2 k3 k4
      refine kq_n ?_
      refine g_iconst (v := 1) ik_1 ?_
      refine g_istore_n (nle rfl) ?_
      refine g_fall rfl L_X7_emptyIn_41 ?_
      refine g_lo2 (lo' := [(0, some (.ref x)), (1, some (.int (nI d))), (2, some (.int (nI (0 + 1))))]) ?_ ⟨rfl, rfl, rfl, trivial⟩
      refine loop_up (P := fun i => ∀ (M2 : Mem), RepS M2 (x + 41) nf1 nt1 nc1 nd1 (wkN nc1 nd1 i s) → (∀ r, r < x + 41 ∨ x + 78 ≤ r → M2 r = M r) → 0 < leftF s d i → emF (leftF s d) 100 0 = emF (leftF s d) (100 - i) i → G X m_X7_emptyIn B_X7_emptyIn_41 41 [(0, some (.ref x)), (1, some (.int (nI d))), (2, some (.int (nI (i + 1))))] [] (0 + (rmOf m_X4_hasDancer).cells + (rmOf m_X7_requireIndex).cells + (rmOf m_X4_copyFrom).cells) (0 + (rmOf m_X4_hasDancer).slots + (rmOf m_X7_requireIndex).slots + (rmOf m_X4_copyFrom).slots) κ M2 Q) 100 (fun i hle_i ih_i M2 hr2 hF2 hp hem => ?_) 0 (Nat.zero_le _) M1 hr1 hF1 hz rfl
      have hI2 := inv_wk hI i
      have lf : ∀ n, leftF s d n = wkN nc1 nd1 n s (129 + 5 * d + 2) := fun n => by unfold leftF wkC; rw [n2, n3]
      refine g_iload_n rfl ?_
      refine g_bipush (v := 100) bk_100 ?_
      refine g_icmp_gt rfl L_X7_emptyIn_82 (fun h_2 => ?_) (fun h_2 => ?_)
      · have hx_i : i = 100 := by have := (nI_ltI (a := 100) (b := i + 1) (by omega) (by omega)).mp h_2; omega
        refine g_iconst (v := -1) ik_m1 ?_
        refine g_iret rfl (nle rfl) (nle rfl) ?_
        subst hx_i
        exact qeq (hY hq d (by omega) rfl M2 hF2) (by rw [hem]; exact (if_pos hp).symm) rfl
      · have hlt_i : i < 100 := by
          rcases Nat.lt_or_ge i 100 with q | q
          · exact q
          · exact absurd ((nI_ltI (a := 100) (b := i + 1) (by omega) (by omega)).mpr (by omega)) (by first | exact h_2 | exact Int32.not_lt.mpr h_2)
        refine g_aload_n rfl ?_
        refine g_getR (w := (x + 41)) fl_X7_23 rfl hx.1 rfl ?_
        refine g_callV (as := []) mk_X4_passWeek ml_X7_322 im_X4_passWeek se_X4_passWeek rfl rfl ⟨⟨nle rfl, nle rfl⟩, nle rfl, nle rfl⟩ hx.2.2.2.1.s0 rfl rfl rfl (nle rfl) ?_
        refine ct_X4_passWeek hx.2.2.2.1 hr2 hI2 (fun M3 hr3 hF3 => ?_)
        refine kq_s ?_
        refine g_if_ne rfl L_X7_emptyIn_59 (fun h_3 => ?_) (fun h_3 => ?_)
        · refine g_aload_n rfl ?_
          refine g_getR (w := (x + 41)) fl_X7_23 rfl hx.1 rfl ?_
          refine g_getR (w := ((x + 41) + 23)) fl_X7_226 rfl hx.2.2.2.1.s0 rfl ?_
          refine g_iload_n rfl ?_
          refine g_aaload (j := d) (w := ((x + 41) + 24 + d)) hx.2.2.2.1.da (nle rfl) rfl (by omega) (nle rfl) (rcs_get (by omega)) ?_
          refine g_getI fl_X7_236 rfl (hx.2.2.2.1.di (by omega)) rfl ?_
          rw [(hr3.2.2.2.2 d hd).2.2.1]
          refine g_if_ne rfl L_X7_emptyIn_76 (fun h_4 => ?_) (fun h_4 => ?_)
          · have hp3 : 0 < leftF s d (i + 1) := by rw [lf]; exact (bd_pos ((inv_wk hI (i + 1)).da hd).1 (by omega)).mp h_4
            refine g_iinc (v := nI ((i + 1) + 1)) rfl (nI_inc _) (nle rfl) ?_
            refine g_goto rfl L_X7_emptyIn_41 ?_
            exact g_lo2 (ih_i hlt_i M3 hr3 (fun r a => (hF3.1 r (by omega)).trans (hF2 r a)) hp3 (hem.trans (by rw [show 100 - i = (100 - (i + 1)) + 1 by omega]; exact em_p hp))) ⟨rfl, rfl, rfl, trivial⟩
          · have hz3 : ¬ 0 < leftF s d (i + 1) := fun q => ((bd_pos ((inv_wk hI (i + 1)).da hd).1 (by omega)).mpr (by rw [lf] at q; exact q)) h_4
            refine g_iload_n rfl ?_
            refine g_iret rfl (nle rfl) (nle rfl) ?_
            exact qeq (hY hq d (by omega) rfl M3 (fun r a => (hF3.1 r (by omega)).trans (hF2 r a))) (by rw [hem, show 100 - i = (100 - (i + 1)) + 1 by omega, em_p hp, em_z hz3]) rfl
        · have hw0 : weekS nc1 nd1 (wkN nc1 nd1 i s) 6 = wkN nc1 nd1 i s 6 := by have q := h_3; grind
          have nh := nh_wk bc bn (week_0 hI2 hw0)
          have hall : ∀ j, 0 < leftF s d (i + j) := fun j => by rw [lf, wk_add, (nh j).2, ← lf]; exact hp
          refine g_iconst (v := -1) ik_m1 ?_
          refine g_iret rfl (nle rfl) (nle rfl) ?_
          exact qeq (hY hq d (by omega) rfl M3 (fun r a => (hF3.1 r (by omega)).trans (hF2 r a))) (by rw [hem, em_all _ _ hall]) rfl
    · have hz : ¬ 0 < leftF s d 0 := fun q => ((bd_pos (hI.da hd).1 (by omega)).mpr q) h_1
      refine g_iconst (v := 0) ik_0 ?_
      refine g_iret rfl (nle rfl) (nle rfl) ?_
      exact qeq (hY hq d (by omega) rfl M (fun _ _ => rfl)) (em_z hz 100).symm rfl
  · exact hE hq
