theorem bI_1 {b : Bool} (h : b = true) : (1 : Int32) = bI b := by rw [h]; rfl
theorem bI_0 {b : Bool} (h : b = false) : (0 : Int32) = bI b := by rw [h]; rfl
def inB (v lo hi : Int32) : Bool := decide (lo ≤ v) && decide (v ≤ hi)
def bitsN : Nat → Int32 → Int32
  | 0, _ => 0
  | k + 1, s => bitsN k s + (s >>> (nI k &&& 31) &&& 1)
def bitsI (s : Int32) : Int32 := bitsN 12 s
def anyB : Nat → (Nat → Bool) → Bool
  | 0, _ => false
  | n + 1, P => anyB n P || P n
def sumI : Nat → (Nat → Int32) → Int32
  | 0, _ => 0
  | n + 1, f => sumI n f + f n
def orI : Nat → (Nat → Int32) → Int32
  | 0, _ => 0
  | n + 1, f => orI n f ||| f n
theorem nI3402 {j : Nat} (h : j < 3402) : j < 3402 := h
theorem kq_si {X : Xs} {y : MI} {is : List (Instr × Nat)} {pc : Nat} {lo : Lo} {st : List Value} {nc ks : Nat} {κ : Kp} {M : Mem} {Q : Rs → Kp → Mem → Prop} {v : Int32} (h : G X y is pc lo (.int v :: st) nc ks κ M Q) : Kq X y is pc lo st nc ks Q (.inl (some (.int v))) κ M := h
theorem g_join {X : Xs} {y : MI} {is : List (Instr × Nat)} {pc : Nat} {lo : Lo} {st : List Value} {nc ks : Nat} {κ : Kp} {M : Mem} {Q : Rs → Kp → Mem → Prop} {isJ : List (Instr × Nat)} {pcJ : Nat} (v : Int32) (hJ : G X y isJ pcJ lo (.int v :: st) nc ks κ M Q) (hR : (∀ v', v' = v → G X y isJ pcJ lo (.int v' :: st) nc ks κ M Q) → G X y is pc lo st nc ks κ M Q) : G X y is pc lo st nc ks κ M Q := hR (fun v' e => by rw [e]; exact hJ)
set_option maxRecDepth 100000 in
set_option maxHeartbeats 4000000 in
theorem ct_X8_in {X : Xs} {κ : Kp} {M : Mem} {Q : Rs → Kp → Mem → Prop} {v lo hi : Int32} (hQ : Q (.inl (some (.int (bI (inB v lo hi))))) κ M) : Ct X m_X8_in [.int v, .int lo, .int hi] κ M Q := by
  refine ct_of B_X8_in_0 pn_X8 rfl (nle rfl) L_X8_in_0 ?_
  refine g_iload_n rfl ?_
  refine g_iload_n rfl ?_
  refine g_icmp_lt rfl L_X8_in_14 (fun h_1 => ?_) (fun h_1 => ?_)
  · refine g_iconst (v := 0) ik_0 ?_
    refine g_fall rfl L_X8_in_15 ?_
    refine g_zret rfl rfl (nle rfl) (nle rfl) ?_
    exact qeq hQ (by clear hQ; simp_all [bI, inB, i32le, -Int32.not_lt]) rfl
  · refine g_iload_n rfl ?_
    refine g_iload_n rfl ?_
    refine g_icmp_gt rfl L_X8_in_14 (fun h_2 => ?_) (fun h_2 => ?_)
    · refine g_iconst (v := 0) ik_0 ?_
      refine g_fall rfl L_X8_in_15 ?_
      refine g_zret rfl rfl (nle rfl) (nle rfl) ?_
      exact qeq hQ (by clear hQ; simp_all [bI, inB, i32le, -Int32.not_lt]) rfl
    · refine g_iconst (v := 1) ik_1 ?_
      refine g_goto rfl L_X8_in_15 ?_
      refine g_zret rfl rfl (nle rfl) (nle rfl) ?_
      exact qeq hQ (by clear hQ; simp_all [bI, inB, i32le, -Int32.not_lt]) rfl
set_option maxRecDepth 100000 in
set_option maxHeartbeats 4000000 in
theorem ct_X8_thrown {X : Xs} {κ : Kp} {M : Mem} {Q : Rs → Kp → Mem → Prop} {m : Nat} (hm : IsMod κ.2.1 m)  (hQ : Q (.inl (some (.int (M m 0)))) κ M) : Ct X m_X8_thrown [.ref m] κ M Q := by
  refine ct_of B_X8_thrown_0 pn_X8 rfl (nle rfl) L_X8_thrown_0 ?_
  refine g_aload_n rfl ?_
  refine g_getI fl_X8_25 rfl hm.1 rfl ?_
  refine g_iret rfl (nle rfl) (nle rfl) ?_
  exact hQ
set_option maxRecDepth 100000 in
set_option maxHeartbeats 4000000 in
theorem ct_X8_holds {X : Xs} {κ : Kp} {M : Mem} {Q : Rs → Kp → Mem → Prop} {m : Nat} (hm : IsMod κ.2.1 m) {p : Int32} (hQ : Q (.inl (some (.int (bI (decide (p = 0)))))) κ (upM M m 0 p)) : Ct X m_X8_holds [.ref m, .int p] κ M Q := by
  refine ct_of B_X8_holds_0 pn_X8 rfl (nle rfl) L_X8_holds_0 ?_
  refine g_aload_n rfl ?_
  refine g_iload_n rfl ?_
  refine g_putI pl_X8_25 rfl hm.1 rfl rfl rfl ?_
  refine g_iload_n rfl ?_
  refine g_if_ne rfl L_X8_holds_13 (fun h_1 => ?_) (fun h_1 => ?_)
  · refine g_iconst (v := 0) ik_0 ?_
    refine g_fall rfl L_X8_holds_14 ?_
    refine g_zret rfl rfl (nle rfl) (nle rfl) ?_
    exact qeq hQ (by clear hQ; simp_all [bI]) rfl
  · refine g_iconst (v := 1) ik_1 ?_
    refine g_goto rfl L_X8_holds_14 ?_
    refine g_zret rfl rfl (nle rfl) (nle rfl) ?_
    exact qeq hQ (by clear hQ; simp_all [bI]) rfl
set_option maxRecDepth 100000 in
set_option maxHeartbeats 4000000 in
theorem ct_X8_isFloor {X : Xs} {κ : Kp} {M : Mem} {Q : Rs → Kp → Mem → Prop} {m : Nat} (hm : IsMod κ.2.1 m) {f : Int32} (hQ : Q (.inl (some (.int (bI (inB f 0 (M (m + 1) 0 - 1)))))) κ M) : Ct X m_X8_isFloor [.ref m, .int f] κ M Q := by
  refine ct_of B_X8_isFloor_0 pn_X8 rfl (nle rfl) L_X8_isFloor_0 ?_
  refine g_iload_n rfl ?_
  refine g_iconst (v := 0) ik_0 ?_
  refine g_aload_n rfl ?_
  refine g_getR (w := (m + 1)) fl_X8_7 rfl hm.1 rfl ?_
  refine g_iconst (v := 0) ik_0 ?_
  refine g_iaload (j := 0) hm.2.1 rfl (nle rfl) (nle rfl) ?_
  refine g_iconst (v := 1) ik_1 ?_
  refine g_isub ?_
  refine g_callS (as := [_, _, _]) mk_X8_in ml_X8_29 sm_X8_in rfl rfl ⟨⟨nle rfl, nle rfl⟩, nle rfl, nle rfl⟩ rfl rfl (nle rfl) ?_
  refine ct_X8_in ?_
  refine kq_s ?_
  refine g_zret rfl (nar_bI _) (nle rfl) (nle rfl) ?_
  exact hQ
set_option maxRecDepth 100000 in
set_option maxHeartbeats 4000000 in
theorem ct_X8_isTeacher {X : Xs} {κ : Kp} {M : Mem} {Q : Rs → Kp → Mem → Prop} {m : Nat} (hm : IsMod κ.2.1 m) {f : Int32} (hQ : Q (.inl (some (.int (bI (inB f 0 (M (m + 1) 1 - 1)))))) κ M) : Ct X m_X8_isTeacher [.ref m, .int f] κ M Q := by
  refine ct_of B_X8_isTeacher_0 pn_X8 rfl (nle rfl) L_X8_isTeacher_0 ?_
  refine g_iload_n rfl ?_
  refine g_iconst (v := 0) ik_0 ?_
  refine g_aload_n rfl ?_
  refine g_getR (w := (m + 1)) fl_X8_7 rfl hm.1 rfl ?_
  refine g_iconst (v := 1) ik_1 ?_
  refine g_iaload (j := 1) hm.2.1 rfl (nle rfl) (nle rfl) ?_
  refine g_iconst (v := 1) ik_1 ?_
  refine g_isub ?_
  refine g_callS (as := [_, _, _]) mk_X8_in ml_X8_29 sm_X8_in rfl rfl ⟨⟨nle rfl, nle rfl⟩, nle rfl, nle rfl⟩ rfl rfl (nle rfl) ?_
  refine ct_X8_in ?_
  refine kq_s ?_
  refine g_zret rfl (nar_bI _) (nle rfl) (nle rfl) ?_
  exact hQ
set_option maxRecDepth 100000 in
set_option maxHeartbeats 4000000 in
theorem ct_X8_isClass {X : Xs} {κ : Kp} {M : Mem} {Q : Rs → Kp → Mem → Prop} {m : Nat} (hm : IsMod κ.2.1 m) {f : Int32} (hQ : Q (.inl (some (.int (bI (inB f 0 (M (m + 1) 2 - 1)))))) κ M) : Ct X m_X8_isClass [.ref m, .int f] κ M Q := by
  refine ct_of B_X8_isClass_0 pn_X8 rfl (nle rfl) L_X8_isClass_0 ?_
  refine g_iload_n rfl ?_
  refine g_iconst (v := 0) ik_0 ?_
  refine g_aload_n rfl ?_
  refine g_getR (w := (m + 1)) fl_X8_7 rfl hm.1 rfl ?_
  refine g_iconst (v := 2) ik_2 ?_
  refine g_iaload (j := 2) hm.2.1 rfl (nle rfl) (nle rfl) ?_
  refine g_iconst (v := 1) ik_1 ?_
  refine g_isub ?_
  refine g_callS (as := [_, _, _]) mk_X8_in ml_X8_29 sm_X8_in rfl rfl ⟨⟨nle rfl, nle rfl⟩, nle rfl, nle rfl⟩ rfl rfl (nle rfl) ?_
  refine ct_X8_in ?_
  refine kq_s ?_
  refine g_zret rfl (nar_bI _) (nle rfl) (nle rfl) ?_
  exact hQ
set_option maxRecDepth 100000 in
set_option maxHeartbeats 4000000 in
theorem ct_X8_isDancer {X : Xs} {κ : Kp} {M : Mem} {Q : Rs → Kp → Mem → Prop} {m : Nat} (hm : IsMod κ.2.1 m) {f : Int32} (hQ : Q (.inl (some (.int (bI (inB f 0 (M (m + 1) 3 - 1)))))) κ M) : Ct X m_X8_isDancer [.ref m, .int f] κ M Q := by
  refine ct_of B_X8_isDancer_0 pn_X8 rfl (nle rfl) L_X8_isDancer_0 ?_
  refine g_iload_n rfl ?_
  refine g_iconst (v := 0) ik_0 ?_
  refine g_aload_n rfl ?_
  refine g_getR (w := (m + 1)) fl_X8_7 rfl hm.1 rfl ?_
  refine g_iconst (v := 3) ik_3 ?_
  refine g_iaload (j := 3) hm.2.1 rfl (nle rfl) (nle rfl) ?_
  refine g_iconst (v := 1) ik_1 ?_
  refine g_isub ?_
  refine g_callS (as := [_, _, _]) mk_X8_in ml_X8_29 sm_X8_in rfl rfl ⟨⟨nle rfl, nle rfl⟩, nle rfl, nle rfl⟩ rfl rfl (nle rfl) ?_
  refine ct_X8_in ?_
  refine kq_s ?_
  refine g_zret rfl (nar_bI _) (nle rfl) (nle rfl) ?_
  exact hQ
set_option maxRecDepth 100000 in
set_option maxHeartbeats 4000000 in
theorem ct_X8_ofClass {X : Xs} {κ : Kp} {M : Mem} {Q : Rs → Kp → Mem → Prop} {m : Nat} (hm : IsMod κ.2.1 m) {kI wI : Int32} (k w : Nat) (hk : kI = nI k) (hw : wI = nI w) (hlt : 39 + 9 * k + w < 3402) (hQ : Q (.inl (some (.int (M (m + 1) (39 + 9 * k + w))))) κ M) : Ct X m_X8_ofClass [.ref m, .int kI, .int wI] κ M Q := by
  refine ct_of B_X8_ofClass_0 pn_X8 rfl (nle rfl) L_X8_ofClass_0 ?_
  subst hk
  subst hw
  refine g_aload_n rfl ?_
  refine g_getR (w := (m + 1)) fl_X8_7 rfl hm.1 rfl ?_
  refine g_bipush (v := 39) bk_39 ?_
  refine g_bipush (v := 9) bk_9 ?_
  refine g_iload_n rfl ?_
  refine g_imul ?_
  refine g_iadd ?_
  refine g_iload_n rfl ?_
  refine g_iadd ?_
  refine g_iaload (j := ((39 + (9 * k)) + w)) hm.2.1 (by simp only [nI, Int32.ofNat_add, Int32.ofNat_mul] <;> rfl) (by omega) (nle rfl) ?_
  refine g_iret rfl (nle rfl) (nle rfl) ?_
  exact hQ
set_option maxRecDepth 100000 in
set_option maxHeartbeats 4000000 in
theorem ct_X8_ofDancer {X : Xs} {κ : Kp} {M : Mem} {Q : Rs → Kp → Mem → Prop} {m : Nat} (hm : IsMod κ.2.1 m) {kI wI : Int32} (k w : Nat) (hk : kI = nI k) (hw : wI = nI w) (hlt : 129 + 5 * k + w < 3402) (hQ : Q (.inl (some (.int (M (m + 1) (129 + 5 * k + w))))) κ M) : Ct X m_X8_ofDancer [.ref m, .int kI, .int wI] κ M Q := by
  refine ct_of B_X8_ofDancer_0 pn_X8 rfl (nle rfl) L_X8_ofDancer_0 ?_
  subst hk
  subst hw
  refine g_aload_n rfl ?_
  refine g_getR (w := (m + 1)) fl_X8_7 rfl hm.1 rfl ?_
  refine g_sipush (v := 129) sk_129 ?_
  refine g_iconst (v := 5) ik_5 ?_
  refine g_iload_n rfl ?_
  refine g_imul ?_
  refine g_iadd ?_
  refine g_iload_n rfl ?_
  refine g_iadd ?_
  refine g_iaload (j := ((129 + (5 * k)) + w)) hm.2.1 (by simp only [nI, Int32.ofNat_add, Int32.ofNat_mul] <;> rfl) (by omega) (nle rfl) ?_
  refine g_iret rfl (nle rfl) (nle rfl) ?_
  exact hQ
set_option maxRecDepth 100000 in
set_option maxHeartbeats 4000000 in
theorem ct_X8_adds {X : Xs} {κ : Kp} {M : Mem} {Q : Rs → Kp → Mem → Prop} {m : Nat} (hm : IsMod κ.2.1 m) {pI x : Int32} (p : Nat) (hp : pI = nI p) (hlt : p < 3402) (hQ : Q (.inl none) κ (sR M (m + 1) (upd (M (m + 1)) p (M (m + 1) p + x)))) : Ct X m_X8_adds [.ref m, .int pI, .int x] κ M Q := by
  refine ct_of B_X8_adds_0 pn_X8 rfl (nle rfl) L_X8_adds_0 ?_
  subst hp
  refine g_aload_n rfl ?_
  refine g_getR (w := (m + 1)) fl_X8_7 rfl hm.1 rfl ?_
  refine g_iload_n rfl ?_
  refine g_dup2 rfl rfl ?_
  refine g_iaload (j := p) hm.2.1 rfl (by omega) (nle rfl) ?_
  refine g_iload_n rfl ?_
  refine g_iadd ?_
  refine g_iastore (j := p) hm.2.1 rfl (by omega) (nle rfl) ?_
  refine g_vret rfl (nle rfl) (nle rfl) ?_
  exact qeqv hQ (by rw [upM_sR])
set_option maxRecDepth 100000 in
set_option maxHeartbeats 4000000 in
theorem ct_X8_bits {X : Xs} {κ : Kp} {M : Mem} {Q : Rs → Kp → Mem → Prop} {s : Int32} (hQ : Q (.inl (some (.int (bitsI s)))) κ M) : Ct X m_X8_bits [.int s] κ M Q := by
  refine ct_of B_X8_bits_0 pn_X8 rfl (nle rfl) L_X8_bits_0 ?_
  refine g_iconst (v := 0) ik_0 ?_
  refine g_istore_n (nle rfl) ?_
  refine g_iconst (v := 0) ik_0 ?_
  refine g_istore_n (nle rfl) ?_
  refine g_fall rfl L_X8_bits_4 ?_
  refine g_lo2 (lo' := [(0, some (.int s)), (1, some (.int (bitsN 0 s))), (2, some (.int (nI 0)))]) ?_ ⟨rfl, rfl, rfl, trivial⟩
  refine loop_up (P := fun k => G X m_X8_bits B_X8_bits_4 4 [(0, some (.int s)), (1, some (.int (bitsN k s))), (2, some (.int (nI k)))] [] 0 0 κ M Q) 12 (fun k hle_k ih_k => ?_) 0 (Nat.zero_le _)
  refine g_iload_n rfl ?_
  refine g_bipush (v := 12) bk_12 ?_
  refine g_icmp_ge rfl L_X8_bits_24 (fun h_1 => ?_) (fun h_1 => ?_)
  · have hx_k := ((cmp_ge (c := 12) (rfl : (12 : Int32) = nI 12) (nle rfl) hle_k).1 h_1).symm
    subst hx_k
    refine g_iload_n rfl ?_
    refine g_iret rfl (nle rfl) (nle rfl) ?_
    exact hQ
  · have hlt_k : k < 12 := (cmp_ge (c := 12) (rfl : (12 : Int32) = nI 12) (nle rfl) hle_k).2 h_1
    refine g_iload_n rfl ?_
    refine g_iload_n rfl ?_
    refine g_iload_n rfl ?_
    refine g_ishr ?_
    refine g_iconst (v := 1) ik_1 ?_
    refine g_iand ?_
    refine g_iadd ?_
    refine g_istore_n (nle rfl) ?_
    refine g_iinc (v := nI (k + 1)) rfl (nI_inc _) (nle rfl) ?_
    refine g_goto rfl L_X8_bits_4 ?_
    exact g_lo2 (ih_k hlt_k) ⟨rfl, rfl, rfl, trivial⟩
set_option maxRecDepth 100000 in
set_option maxHeartbeats 4000000 in
theorem ct_X8_spring {X : Xs} {κ : Kp} {M : Mem} {Q : Rs → Kp → Mem → Prop} {m : Nat} (hm : IsMod κ.2.1 m) {fI : Int32} (f : Nat) (hf : fI = nI f) (hlt : f < 800) (hQ : Q (.inl (some (.int (M (m + 1) (13 + 4 * f))))) κ M) : Ct X m_X8_spring [.ref m, .int fI] κ M Q := by
  refine ct_of B_X8_spring_0 pn_X8 rfl (nle rfl) L_X8_spring_0 ?_
  subst hf
  refine g_aload_n rfl ?_
  refine g_getR (w := (m + 1)) fl_X8_7 rfl hm.1 rfl ?_
  refine g_bipush (v := 13) bk_13 ?_
  refine g_iconst (v := 4) ik_4 ?_
  refine g_iload_n rfl ?_
  refine g_imul ?_
  refine g_iadd ?_
  refine g_iaload (j := (13 + (4 * f))) hm.2.1 (by simp only [nI, Int32.ofNat_add, Int32.ofNat_mul] <;> rfl) (by omega) (nle rfl) ?_
  refine g_iret rfl (nle rfl) (nle rfl) ?_
  exact hQ
set_option maxRecDepth 100000 in
set_option maxHeartbeats 4000000 in
theorem ct_X8_mirrors {X : Xs} {κ : Kp} {M : Mem} {Q : Rs → Kp → Mem → Prop} {m : Nat} (hm : IsMod κ.2.1 m) {fI : Int32} (f : Nat) (hf : fI = nI f) (hlt : f < 800) (hQ : Q (.inl (some (.int (M (m + 1) (13 + 4 * f + 1))))) κ M) : Ct X m_X8_mirrors [.ref m, .int fI] κ M Q := by
  refine ct_of B_X8_mirrors_0 pn_X8 rfl (nle rfl) L_X8_mirrors_0 ?_
  subst hf
  refine g_aload_n rfl ?_
  refine g_getR (w := (m + 1)) fl_X8_7 rfl hm.1 rfl ?_
  refine g_bipush (v := 13) bk_13 ?_
  refine g_iconst (v := 4) ik_4 ?_
  refine g_iload_n rfl ?_
  refine g_imul ?_
  refine g_iadd ?_
  refine g_iconst (v := 1) ik_1 ?_
  refine g_iadd ?_
  refine g_iaload (j := ((13 + (4 * f)) + 1)) hm.2.1 (by simp only [nI, Int32.ofNat_add, Int32.ofNat_mul] <;> rfl) (by omega) (nle rfl) ?_
  refine g_iret rfl (nle rfl) (nle rfl) ?_
  exact hQ
set_option maxRecDepth 100000 in
set_option maxHeartbeats 4000000 in
theorem ct_X8_barre {X : Xs} {κ : Kp} {M : Mem} {Q : Rs → Kp → Mem → Prop} {m : Nat} (hm : IsMod κ.2.1 m) {fI : Int32} (f : Nat) (hf : fI = nI f) (hlt : f < 800) (hQ : Q (.inl (some (.int (M (m + 1) (13 + 4 * f + 2))))) κ M) : Ct X m_X8_barre [.ref m, .int fI] κ M Q := by
  refine ct_of B_X8_barre_0 pn_X8 rfl (nle rfl) L_X8_barre_0 ?_
  subst hf
  refine g_aload_n rfl ?_
  refine g_getR (w := (m + 1)) fl_X8_7 rfl hm.1 rfl ?_
  refine g_bipush (v := 13) bk_13 ?_
  refine g_iconst (v := 4) ik_4 ?_
  refine g_iload_n rfl ?_
  refine g_imul ?_
  refine g_iadd ?_
  refine g_iconst (v := 2) ik_2 ?_
  refine g_iadd ?_
  refine g_iaload (j := ((13 + (4 * f)) + 2)) hm.2.1 (by simp only [nI, Int32.ofNat_add, Int32.ofNat_mul] <;> rfl) (by omega) (nle rfl) ?_
  refine g_iret rfl (nle rfl) (nle rfl) ?_
  exact hQ
