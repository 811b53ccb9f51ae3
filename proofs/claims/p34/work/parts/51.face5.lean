/-! ===== simulations ===== -/
def lcg (x : Int64) : Int64 := x * 6364136223846793005 + 1442695040888963407
def sxL (seed : Int64) : Nat → Int64
  | 0 => seed
  | n + 1 => lcg (sxL seed n)
def rN (x : Int64) : Nat := x.toBitVec.toNat / 2 ^ 33
theorem rN_lt (x : Int64) : rN x < 2 ^ 31 := by
  unfold rN
  have := x.toBitVec.isLt
  omega
theorem rr_eq (x : Int64) : ((x.toUInt64 >>> ((33 : Int32).toInt64.toUInt64 &&& Int64.toUInt64 63)).toInt64).toInt32 = nI (rN x) := by
  have e : (x.toUInt64 >>> ((33 : Int32).toInt64.toUInt64 &&& Int64.toUInt64 63)).toInt64.toBitVec = x.toBitVec >>> 33 := by
    show x.toBitVec >>> (((33 : Int32).toInt64.toUInt64 &&& Int64.toUInt64 63).toBitVec % 64) = x.toBitVec >>> 33
    rw [BitVec.ushiftRight_eq']
    congr 1
  have e2 : (x.toUInt64 >>> ((33 : Int32).toInt64.toUInt64 &&& Int64.toUInt64 63)).toInt64 = lN (rN x) := by
    apply Int64.toBitVec_inj.mp
    rw [e]
    apply BitVec.eq_of_toNat_eq
    show _ = (BitVec.ofNat 64 (rN x)).toNat
    have h := rN_lt x
    rw [BitVec.toNat_ushiftRight, BitVec.toNat_ofNat, Nat.shiftRight_eq_div_pow, Nat.mod_eq_of_lt (by omega)]
    rfl
  rw [e2]
  exact lN_i _
def tuR (x : Int64) (s : Nat → Int32) : Nat → Int32 := tuK (rN x % 16) (rN x / 16) s
def siS (seed : Int64) : Nat → (Nat → Int32) → (Nat → Int32)
  | 0, s => s
  | n + 1, s => tuR (sxL seed (n + 1)) (siS seed n s)
def siV (s s' : Nat → Int32) : Int32 := 10000 * (s' 6 - s 6) + 100 * s' 2 + (seatsV s' - seatsV s' / 100 * 100)
theorem si_keep {B : Nat} {s : Nat → Int32} {seed : Int64} (hI : IR B s) : ∀ n, Kp3 (B + 2 * n) s (siS seed n s)
  | 0 => Kp3.rf hI
  | n + 1 => (si_keep hI n).tr ((tu_keep (si_keep hI n).1 _ _).1.up (by omega))
set_option maxRecDepth 100000 in
set_option maxHeartbeats 4000000 in
theorem ct_X7_simulate {X : Xs} {κ : Kp} {M : Mem} {Q : Rs → Kp → Mem → Prop} {x : Nat} (hx : IsDF κ.2.1 x) {B : Nat} {s : Nat → Int32} (hS : SF B M (x + 4) s) {seed : Int64} {m : Int32} (hE : inB m 1 100 = false → False) (hY : inB m 1 100 = true → ∀ n, 1 ≤ n → n ≤ 100 → m = nI n → ∀ M', (∀ r, r < x + 41 ∨ x + 78 ≤ r → M' r = M r) → Q (.inl (some (.int (siV s (siS seed n s))))) κ M') : Ct X m_X7_simulate [.ref x, .long seed, .int m] κ M Q := by
  refine ct_of B_X7_simulate_0 pn_X7 rfl (nle rfl) L_X7_simulate_0 ?_
  refine g_iload_n rfl ?_
  refine g_iconst (v := 1) ik_1 ?_
  refine g_bipush (v := 100) bk_100 ?_
  refine g_callS (as := [_, _, _]) mk_X7_isWithin ml_X7_41 sm_X7_isWithin rfl rfl ⟨⟨nle rfl, nle rfl⟩, nle rfl, nle rfl⟩ rfl rfl (nle rfl) ?_
  refine ct_X7_isWithin ?_
  refine kq_s ?_
  refine g_callS (as := [_]) mk_X7_requireArgument ml_X7_45 sm_X7_requireArgument rfl rfl ⟨⟨nle rfl, nle rfl⟩, nle rfl, nle rfl⟩ rfl rfl (nle rfl) ?_
  refine ct_X7_requireArgument (fun hq => ?_) (fun hq => ?_)
  · obtain ⟨n, hn1, hn2, en⟩ := in_rng (lo := 1) (hi := 100) (by omega) (by omega) rfl rfl hq
    subst en
    refine kq_n ?_
    refine g_aload_n rfl ?_
    refine g_getR (w := (x + 41)) fl_X7_23 rfl hx.1 rfl ?_
    refine g_aload_n rfl ?_
    refine g_getR (w := (x + 4)) fl_X7_19 rfl hx.1 rfl ?_
    refine g_callV (as := [_]) mk_X4_copyFrom ml_X7_319 im_X4_copyFrom se_X4_copyFrom rfl rfl ⟨⟨nle rfl, nle rfl⟩, nle rfl, nle rfl⟩ hx.2.2.2.1.s0 rfl rfl rfl (nle rfl) ?_
    refine k_copyFrom hx.2.2.2.1 hx.2.2.1 (by omega) hS (fun M1 hS1 hF1 => ?_)
    refine kq_n ?_
    refine g_iconst (v := 0) ik_0 ?_
    refine g_istore (nle rfl) ?_
    refine g_lload_n rfl ?_
    refine g_lstore (nle rfl) ?_
    refine g_iconst (v := 0) ik_0 ?_
    refine g_istore (nle rfl) ?_
    refine g_fall rfl L_X7_simulate_30 ?_
    refine g_lo2 (lo' := [(0, some (.ref x)), (1, some (.long seed)), (3, some (.int (nI n))), (4, some (.int 0)), (5, some (.long (sxL seed 0))), (7, some (.int (nI 0)))]) ?_ ⟨rfl, rfl, rfl, rfl, rfl, rfl, trivial⟩
    refine loop_up (P := fun i => ∀ (M2 : Mem) (used : Int32), SR (B + 2 * i) M2 (x + 41) (siS seed i s) → (∀ r, r < x + 41 ∨ x + 78 ≤ r → M2 r = M r) → used = siS seed i s 6 - s 6 → G X m_X7_simulate B_X7_simulate_30 30 [(0, some (.ref x)), (1, some (.long seed)), (3, some (.int (nI n))), (4, some (.int used)), (5, some (.long (sxL seed i))), (7, some (.int (nI i)))] [] (0 + (rmOf m_X7_isWithin).cells + (rmOf m_X7_requireArgument).cells + (rmOf m_X4_copyFrom).cells) (0 + (rmOf m_X7_isWithin).slots + (rmOf m_X7_requireArgument).slots + (rmOf m_X4_copyFrom).slots) κ M2 Q) n (fun i hle_i ih_i M2 used hS2 hF2 hu => ?_) 0 (Nat.zero_le _) M1 0 hS1.sr (fun r a => hF1 r (by omega)) (by show (0 : Int32) = s 6 - s 6; grind)
    refine g_iload rfl ?_
    refine g_iload_n rfl ?_
    refine g_icmp_ge rfl L_X7_simulate_69 (fun h_1 => ?_) (fun h_1 => ?_)
    · have hx_i := ((cmp_ge (c := n) rfl (by omega) hle_i).1 h_1).symm
      subst hx_i
      obtain ⟨nf, nt, nc, nd, hr, hI⟩ := hS2
      refine g_sipush (v := 10000) sk_10000 ?_
      refine g_iload rfl ?_
      refine g_imul ?_
      refine g_bipush (v := 100) bk_100 ?_
      refine g_aload_n rfl ?_
      refine g_getR (w := (x + 41)) fl_X7_23 rfl hx.1 rfl ?_
      refine g_getI fl_X7_98 rfl hx.2.2.2.1.s0 rfl ?_
      rw [hr.1.2.2.1]
      refine g_imul ?_
      refine g_iadd ?_
      refine g_aload_n rfl ?_
      refine g_getR (w := (x + 41)) fl_X7_23 rfl hx.1 rfl ?_
      refine g_callV (as := []) mk_X4_countSeats ml_X7_107 im_X4_countSeats se_X4_countSeats rfl rfl ⟨⟨nle rfl, nle rfl⟩, nle rfl, nle rfl⟩ hx.2.2.2.1.s0 rfl rfl rfl (nle rfl) ?_
      refine ct_X4_countSeats hx.2.2.2.1 (hr.c7 hI) hI.lc ?_
      rw [e_seats hr hI]
      refine kq_s ?_
      refine g_bipush (v := 100) bk_100 ?_
      refine g_irem (by decide) ?_
      refine g_iadd ?_
      refine g_iret rfl (nle rfl) (nle rfl) ?_
      exact qeq (hY hq n hn1 hn2 rfl M2 hF2) (by rw [hu]; rfl) rfl
    · have hlt_i : i < n := (cmp_ge (c := n) rfl (by omega) hle_i).2 h_1
      refine g_lload rfl ?_
      refine g_ldc2 rfl kc_X7_334 ?_
      refine g_lmul ?_
      refine g_ldc2 rfl kc_X7_336 ?_
      refine g_ladd ?_
      refine g_lstore (nle rfl) ?_
      refine g_iload rfl ?_
      refine g_aload_n rfl ?_
      refine g_lload rfl ?_
      refine g_bipush (v := 33) bk_33 ?_
      refine g_lushr ?_
      refine g_l2i ?_
      rw [rr_eq]
      refine g_callV (as := [_]) mk_X7_tryTurn ml_X7_338 im_X7_tryTurn se_X7_tryTurn rfl rfl ⟨⟨nle rfl, nle rfl⟩, nle rfl, nle rfl⟩ hx.1 rfl rfl rfl (nle rfl) ?_
      refine ct_X7_tryTurn hx hS2 (rN_lt _) (fun M3 hS3 hF3 u hu2 eu => ?_)
      refine kq_s ?_
      refine g_iadd ?_
      refine g_istore (nle rfl) ?_
      refine g_iinc (v := nI (i + 1)) rfl (nI_inc _) (nle rfl) ?_
      refine g_goto rfl L_X7_simulate_30 ?_
      exact g_lo2 (ih_i (by omega) M3 _ hS3 (fun r a => (hF3.1 r (by omega)).trans (hF2 r a)) (by rw [hu]; show _ = tuR (sxL seed (i + 1)) (siS seed i s) 6 - s 6; rw [show tuR (sxL seed (i + 1)) (siS seed i s) 6 = siS seed i s 6 + nI u from eu]; grind)) ⟨rfl, rfl, rfl, rfl, rfl, rfl, trivial⟩
  · exact hE hq
theorem wg_step {σ g : Nat} (h : σ < 2 ^ 63) : lN (σ / 100000 ^ g) / 100000 = lN (σ / 100000 ^ (g + 1)) := by
  have e := pk_lDiv (a := σ / 100000 ^ g) (b := 100000) (Nat.lt_of_le_of_lt (Nat.div_le_self _ _) h) (by omega) (by omega)
  refine (show lN (σ / 100000 ^ g) / 100000 = lN (σ / 100000 ^ g / 100000) from e).trans ?_
  rw [Nat.div_div_eq_div_mul, ← Nat.pow_succ]
set_option maxRecDepth 100000 in
set_option maxHeartbeats 4000000 in
theorem ct_X7_withoutGroups {X : Xs} {κ : Kp} {M : Mem} {Q : Rs → Kp → Mem → Prop} {σ g : Nat} (hσ : σ < 2 ^ 63) (hg : g < 10) (hQ : Q (.inl (some (.long (lN (σ / 100000 ^ g))))) κ M) : Ct X m_X7_withoutGroups [.long (lN σ), .int (nI g)] κ M Q := by
  refine ct_of B_X7_withoutGroups_0 pn_X7 rfl (nle rfl) L_X7_withoutGroups_0 ?_
  refine g_lload_n rfl ?_
  refine g_lstore_n (nle rfl) ?_
  refine g_iconst (v := 0) ik_0 ?_
  refine g_istore (nle rfl) ?_
  refine g_fall rfl L_X7_withoutGroups_5 ?_
  refine g_lo2 (lo' := [(0, some (.long (lN σ))), (2, some (.int (nI g))), (3, some (.long (lN (σ / 100000 ^ 0)))), (5, some (.int (nI 0)))]) ?_ ⟨rfl, rfl, by show some (Value.long _) = some (Value.long _); rw [Nat.pow_zero, Nat.div_one], rfl, trivial⟩
  refine loop_up (P := fun i => G X m_X7_withoutGroups B_X7_withoutGroups_5 5 [(0, some (.long (lN σ))), (2, some (.int (nI g))), (3, some (.long (lN (σ / 100000 ^ i)))), (5, some (.int (nI i)))] [] 0 0 κ M Q) g (fun i hle_i ih_i => ?_) 0 (Nat.zero_le _)
  refine g_iload rfl ?_
  refine g_iload_n rfl ?_
  refine g_icmp_ge rfl L_X7_withoutGroups_23 (fun h_1 => ?_) (fun h_1 => ?_)
  · have hx_i := ((cmp_ge (c := g) rfl (by omega) hle_i).1 h_1).symm
    subst hx_i
    refine g_lload_n rfl ?_
    refine g_lret rfl (nle rfl) (nle rfl) ?_
    exact hQ
  · have hlt_i : i < g := (cmp_ge (c := g) rfl (by omega) hle_i).2 h_1
    refine g_lload_n rfl ?_
    refine g_ldc2 rfl kc_X7_329 ?_
    refine g_ldiv (by decide) ?_
    refine g_lstore_n (nle rfl) ?_
    refine g_iinc (v := nI (i + 1)) rfl (nI_inc _) (nle rfl) ?_
    refine g_goto rfl L_X7_withoutGroups_5 ?_
    have ih2 := ih_i hlt_i
    rw [← wg_step hσ] at ih2
    exact g_lo2 ih2 ⟨rfl, rfl, rfl, rfl, trivial⟩
