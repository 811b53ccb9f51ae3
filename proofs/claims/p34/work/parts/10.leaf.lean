theorem pn_X0 : plainName RX0 = true := by decide +kernel
theorem pn_X1 : plainName RX1 = true := by decide +kernel
theorem pn_X2 : plainName RX2 = true := by decide +kernel
theorem pn_X3 : plainName RX3 = true := by decide +kernel
theorem pn_X4 : plainName RX4 = true := by decide +kernel
theorem pn_X5 : plainName RX5 = true := by decide +kernel
theorem pn_X6 : plainName RX6 = true := by decide +kernel
theorem pn_X7 : plainName RX7 = true := by decide +kernel
theorem pn_L : plainName RL = true := by decide +kernel
theorem pn_J6 : plainName RJ6 = true := by decide +kernel
theorem i32le {a b : Int32} : (a ≤ b) = ¬ (b < a) := propext Int32.not_lt.symm
def ushr (x k : Int32) : Int32 := (x.toUInt32 >>> (k.toUInt32 &&& Int32.toUInt32 31)).toInt32
def bcI (x : Int32) : Int32 :=
  let a := x - (ushr x 1 &&& 1431655765)
  let b := (a &&& 858993459) + (ushr a 2 &&& 858993459)
  let c := (b + ushr b 4) &&& 252645135
  let d := c + ushr c 8
  (d + ushr d 16) &&& 63
def minI (a b : Int32) : Int32 := if a ≤ b then a else b
def maxI (a b : Int32) : Int32 := if b ≤ a then a else b
def bitS (s d : Int32) : Bool := decide ((s >>> (d &&& 31)) &&& 1 = 1)
def sprOK (sp style level : Int32) : Bool := if style = 0 then decide (4 ≤ sp) else if style = 1 then decide (sp ≤ 5) else if style = 2 then decide (3 + level ≤ sp) else true
def barOK (ba style level : Int32) : Bool := !decide (style = 0) || decide (2 * level + 4 ≤ ba)
def mirOK (mi style level : Int32) : Bool := if style = 0 then decide (level / 2 ≤ mi) else if style = 1 then decide (1 ≤ mi) else true
def tkI (pl ba style : Int32) : Int32 := if style = 0 ∧ ba / 2 < pl then ba / 2 else pl
theorem sw_ne {x : Int32} {a c : Int} (h : x.toInt < a ∨ c < x.toInt) (k : Int32) (hk : a ≤ k.toInt ∧ k.toInt ≤ c) : ¬ x = k := by
  intro e
  subst e
  omega
theorem i32_ne {x k : Int32} (h : ¬ x = k) : ¬ x.toInt = k.toInt := fun e => h (Int32.toInt_inj.mp e)
def tkJ (pl e : Int32) : Int32 := if e < pl then e else pl
theorem minI_tk (a b : Int32) : minI a b = tkJ a b := by
  unfold minI tkJ
  by_cases h : a ≤ b
  · have : ¬ b < a := Int32.not_lt.mpr h
    simp [h, this]
  · have : b < a := Int32.not_le.mp h
    simp [h, this]
def cpR (n : Nat) (f g : Nat → Int32) : Nat → Int32 := fun k => if k < n then f k else g k
theorem sw_cases (x : Int32) (lo n : Nat) (h : lo + n ≤ 100000) : (∃ j, j < n ∧ x = nI (lo + j)) ∨ (x.toInt < (lo : Int) ∨ ((lo + n : Nat) : Int) - 1 < x.toInt) := by
  by_cases h1 : x.toInt < (lo : Int)
  · exact Or.inr (Or.inl h1)
  · by_cases h2 : ((lo + n : Nat) : Int) - 1 < x.toInt
    · exact Or.inr (Or.inr h2)
    · refine Or.inl ⟨(x.toInt - lo).toNat, by omega, ?_⟩
      have h3 : 0 ≤ x.toInt := by omega
      obtain ⟨j, hj, rfl⟩ := nI_of (x := x) (fun hh => by
        have h4 : x.toInt < (0 : Int32).toInt := Int32.lt_iff_toInt_lt.mp hh
        have h5 : (0 : Int32).toInt = 0 := by decide
        omega)
      rw [nI_toInt hj]
      rw [nI_toInt hj] at h1 h2
      congr 1
      omega
theorem jmin_cd : Cond.code Lib.Math.min.name Lib.Math.min.code 2 (some .int) ∈ tblG := cw_J9_min_7cf53
theorem jmin_st : Cond.static Lib.Math.min.name ∈ tblG := sm_J9_min_7cf53
theorem jmin_in : Cond.initialized "java/lang/Math" ∈ tblG := mk_J9_min_7cf53.2.1
theorem g_mmin {X : Xs} {y : MI} {is : List (Instr × Nat)} {pc : Nat} {lo : Lo} {st : List Value} {nc ks : Nat} {κ : Kp} {M : Mem} {Q : Rs → Kp → Mem → Prop} {own : String} {idx : Nat} {x z : Int32} (hl : Cond.methodLink own idx Lib.Math.min.name ∈ tblG) (ho : y.1.cls = own) (hf : 1 ≤ (rmOf y).frames) (hlo : (st.map Value.category).sum + 13 ≤ (rmOf y).locals) (h1 : nc ≤ (rmOf y).cells) (h2 : ks ≤ (rmOf y).slots)
    (kk : G X y is (pc + 3) lo (.int (if z < x then z else x) :: st) nc ks κ M Q) : G X y ((.invokestatic idx, 3) :: is) pc lo (.int z :: .int x :: st) nc ks κ M Q := by
  intro hA l p e s m args below meth c b Z D H locs ls hC hR hS hL
  subst ho
  exact va_mmin hC.2.1 hC.2.2.1 (hC.2.2.2.1.trans hL.1.symm) hC.own (hC.word hl) (hC.word jmin_st) (hC.word jmin_in) (hC.word jmin_cd) hf (by rw [cat_map]; exact hlo) h1 h2 hA.1 (kk hA.2 l p e s m args below meth c b Z D H locs ls hC hR hS hL)
theorem jmax_cd : Cond.code Lib.Math.max.name Lib.Math.max.code 2 (some .int) ∈ tblG := cw_J9_max_7cf53
theorem jmax_st : Cond.static Lib.Math.max.name ∈ tblG := sm_J9_max_7cf53
theorem jmax_in : Cond.initialized "java/lang/Math" ∈ tblG := mk_J9_max_7cf53.2.1
theorem g_mmax {X : Xs} {y : MI} {is : List (Instr × Nat)} {pc : Nat} {lo : Lo} {st : List Value} {nc ks : Nat} {κ : Kp} {M : Mem} {Q : Rs → Kp → Mem → Prop} {own : String} {idx : Nat} {x z : Int32} (hl : Cond.methodLink own idx Lib.Math.max.name ∈ tblG) (ho : y.1.cls = own) (hf : 1 ≤ (rmOf y).frames) (hlo : (st.map Value.category).sum + 13 ≤ (rmOf y).locals) (h1 : nc ≤ (rmOf y).cells) (h2 : ks ≤ (rmOf y).slots)
    (kk : G X y is (pc + 3) lo (.int (if x < z then z else x) :: st) nc ks κ M Q) : G X y ((.invokestatic idx, 3) :: is) pc lo (.int z :: .int x :: st) nc ks κ M Q := by
  intro hA l p e s m args below meth c b Z D H locs ls hC hR hS hL
  subst ho
  exact va_mmax hC.2.1 hC.2.2.1 (hC.2.2.2.1.trans hL.1.symm) hC.own (hC.word hl) (hC.word jmax_st) (hC.word jmax_in) (hC.word jmax_cd) hf (by rw [cat_map]; exact hlo) h1 h2 hA.1 (kk hA.2 l p e s m args below meth c b Z D H locs ls hC hR hS hL)
set_option maxRecDepth 100000 in
set_option maxHeartbeats 4000000 in
theorem ct_J6_bitCount_0f7a4 {X : Xs} {κ : Kp} {M : Mem} {Q : Rs → Kp → Mem → Prop} {a : Int32} (hQ : Q (.inl (some (.int (bcI a)))) κ M) : Ct X m_J6_bitCount_0f7a4 [.int a] κ M Q := by
  refine ct_of B_J6_bitCount_0f7a4_0 pn_J6 rfl (nle rfl) L_J6_bitCount_0f7a4_0 ?_
  refine g_iload_n rfl ?_
  refine g_iload_n rfl ?_
  refine g_iconst (v := 1) ik_1 ?_
  refine g_iushr ?_
  refine g_ldcw rfl kc_J6_265 ?_
  refine g_iand ?_
  refine g_isub ?_
  refine g_istore_n (nle rfl) ?_
  refine g_iload_n rfl ?_
  refine g_ldcw rfl kc_J6_266 ?_
  refine g_iand ?_
  refine g_iload_n rfl ?_
  refine g_iconst (v := 2) ik_2 ?_
  refine g_iushr ?_
  refine g_ldcw rfl kc_J6_266 ?_
  refine g_iand ?_
  refine g_iadd ?_
  refine g_istore_n (nle rfl) ?_
  refine g_iload_n rfl ?_
  refine g_iload_n rfl ?_
  refine g_iconst (v := 4) ik_4 ?_
  refine g_iushr ?_
  refine g_iadd ?_
  refine g_ldcw rfl kc_J6_267 ?_
  refine g_iand ?_
  refine g_istore_n (nle rfl) ?_
  refine g_iload_n rfl ?_
  refine g_iload_n rfl ?_
  refine g_bipush (v := 8) bk_8 ?_
  refine g_iushr ?_
  refine g_iadd ?_
  refine g_istore_n (nle rfl) ?_
  refine g_iload_n rfl ?_
  refine g_iload_n rfl ?_
  refine g_bipush (v := 16) bk_16 ?_
  refine g_iushr ?_
  refine g_iadd ?_
  refine g_istore_n (nle rfl) ?_
  refine g_iload_n rfl ?_
  refine g_bipush (v := 63) bk_63 ?_
  refine g_iand ?_
  refine g_iret rfl (nle rfl) (nle rfl) ?_
  exact hQ
set_option maxRecDepth 100000 in
set_option maxHeartbeats 4000000 in
theorem ct_X3_isAt {X : Xs} {κ : Kp} {M : Mem} {Q : Rs → Kp → Mem → Prop} {r : Nat} (hr : κ.2.1 r = some lesSh) {d h : Int32} (hQ : Q (.inl (some (.int (bI (decide (M r 4 = d) && decide (M r 5 = h)))))) κ M) : Ct X m_X3_isAt [.ref r, .int d, .int h] κ M Q := by
  refine ct_of B_X3_isAt_0 pn_X3 rfl (nle rfl) L_X3_isAt_0 ?_
  refine g_aload_n rfl ?_
  refine g_getI fl_X3_22 rfl hr rfl ?_
  refine g_iload_n rfl ?_
  refine g_icmp_ne rfl L_X3_isAt_20 (fun h_1 => ?_) (fun h_1 => ?_)
  · refine g_iconst (v := 0) ik_0 ?_
    refine g_fall rfl L_X3_isAt_21 ?_
    refine g_zret rfl rfl (nle rfl) (nle rfl) ?_
    exact qeq hQ (by clear hQ; simp_all [bI, i32le, -Int32.not_lt]) rfl
  · refine g_aload_n rfl ?_
    refine g_getI fl_X3_25 rfl hr rfl ?_
    refine g_iload_n rfl ?_
    refine g_icmp_ne rfl L_X3_isAt_20 (fun h_2 => ?_) (fun h_2 => ?_)
    · refine g_iconst (v := 0) ik_0 ?_
      refine g_fall rfl L_X3_isAt_21 ?_
      refine g_zret rfl rfl (nle rfl) (nle rfl) ?_
      exact qeq hQ (by clear hQ; simp_all [bI, i32le, -Int32.not_lt]) rfl
    · refine g_iconst (v := 1) ik_1 ?_
      refine g_goto rfl L_X3_isAt_21 ?_
      refine g_zret rfl rfl (nle rfl) (nle rfl) ?_
      exact qeq hQ (by clear hQ; simp_all [bI, i32le, -Int32.not_lt]) rfl
set_option maxRecDepth 100000 in
set_option maxHeartbeats 4000000 in
theorem ct_X3_seatsDancer {X : Xs} {κ : Kp} {M : Mem} {Q : Rs → Kp → Mem → Prop} {r : Nat} (hr : κ.2.1 r = some lesSh) {d : Int32} (hQ : Q (.inl (some (.int (bI (bitS (M r 6) d))))) κ M) : Ct X m_X3_seatsDancer [.ref r, .int d] κ M Q := by
  refine ct_of B_X3_seatsDancer_0 pn_X3 rfl (nle rfl) L_X3_seatsDancer_0 ?_
  refine g_aload_n rfl ?_
  refine g_getI fl_X3_28 rfl hr rfl ?_
  refine g_iload_n rfl ?_
  refine g_ishr ?_
  refine g_iconst (v := 1) ik_1 ?_
  refine g_iand ?_
  refine g_iconst (v := 1) ik_1 ?_
  refine g_icmp_ne rfl L_X3_seatsDancer_16 (fun h_1 => ?_) (fun h_1 => ?_)
  · refine g_iconst (v := 0) ik_0 ?_
    refine g_fall rfl L_X3_seatsDancer_17 ?_
    refine g_zret rfl rfl (nle rfl) (nle rfl) ?_
    exact qeq hQ (by clear hQ; simp_all [bI, bitS, i32le, -Int32.not_lt]) rfl
  · refine g_iconst (v := 1) ik_1 ?_
    refine g_goto rfl L_X3_seatsDancer_17 ?_
    refine g_zret rfl rfl (nle rfl) (nle rfl) ?_
    exact qeq hQ (by clear hQ; simp_all [bI, bitS, i32le, -Int32.not_lt]) rfl
set_option maxRecDepth 100000 in
set_option maxHeartbeats 4000000 in
theorem ct_X3_countSeats {X : Xs} {κ : Kp} {M : Mem} {Q : Rs → Kp → Mem → Prop} {r : Nat} (hr : κ.2.1 r = some lesSh) (hQ : Q (.inl (some (.int (bcI (M r 6))))) κ M) : Ct X m_X3_countSeats [.ref r] κ M Q := by
  refine ct_of B_X3_countSeats_0 pn_X3 rfl (nle rfl) L_X3_countSeats_0 ?_
  refine g_aload_n rfl ?_
  refine g_getI fl_X3_28 rfl hr rfl ?_
  refine g_callS (as := [_]) mk_J6_bitCount_0f7a4 ml_X3_37 sm_J6_bitCount_0f7a4 rfl rfl ⟨⟨nle rfl, nle rfl⟩, nle rfl, nle rfl⟩ rfl rfl (nle rfl) ?_
  refine ct_J6_bitCount_0f7a4 ?_
  refine kq_s ?_
  refine g_iret rfl (nle rfl) (nle rfl) ?_
  exact hQ
set_option maxRecDepth 100000 in
set_option maxHeartbeats 4000000 in
theorem ct_X0_copyFrom {X : Xs} {κ : Kp} {M : Mem} {Q : Rs → Kp → Mem → Prop} {r r2 : Nat} (hr : κ.2.1 r = some danSh) (hr2 : κ.2.1 r2 = some danSh) (hne : ¬ r2 = r) (hQ : Q (.inl none) κ (sR M r (cpR 4 (M r2) (M r)))) : Ct X m_X0_copyFrom [.ref r, .ref r2] κ M Q := by
  refine ct_of B_X0_copyFrom_0 pn_X0 rfl (nle rfl) L_X0_copyFrom_0 ?_
  refine g_aload_n rfl ?_
  refine g_aload_n rfl ?_
  refine g_getI fl_X0_9 rfl hr2 rfl ?_
  refine g_putI pl_X0_9 rfl hr rfl rfl rfl ?_
  refine g_aload_n rfl ?_
  refine g_aload_n rfl ?_
  refine g_getI fl_X0_15 rfl hr2 rfl ?_
  refine g_putI pl_X0_15 rfl hr rfl rfl rfl ?_
  refine g_aload_n rfl ?_
  refine g_aload_n rfl ?_
  refine g_getI fl_X0_18 rfl hr2 rfl ?_
  refine g_putI pl_X0_18 rfl hr rfl rfl rfl ?_
  refine g_aload_n rfl ?_
  refine g_aload_n rfl ?_
  refine g_getI fl_X0_21 rfl hr2 rfl ?_
  refine g_putI pl_X0_21 rfl hr rfl rfl rfl ?_
  refine g_vret rfl (nle rfl) (nle rfl) ?_
  refine qeqv hQ ?_
  funext r' j
  by_cases hr' : r' = r
  · subst hr'
    by_cases hj : j < 4
    · have hc : j = 0 ∨ j = 1 ∨ j = 2 ∨ j = 3 := by omega
      rcases hc with rfl|rfl|rfl|rfl <;> simp [upM, sR, cpR, hne]
    · simp [upM, sR, cpR, hj, show ¬ j = 0 by omega, show ¬ j = 1 by omega, show ¬ j = 2 by omega, show ¬ j = 3 by omega]
  · simp [upM, sR, hr']
set_option maxRecDepth 100000 in
set_option maxHeartbeats 4000000 in
theorem ct_X1_copyFrom {X : Xs} {κ : Kp} {M : Mem} {Q : Rs → Kp → Mem → Prop} {r r2 : Nat} (hr : κ.2.1 r = some floSh) (hr2 : κ.2.1 r2 = some floSh) (hne : ¬ r2 = r) (hQ : Q (.inl none) κ (sR M r (cpR 4 (M r2) (M r)))) : Ct X m_X1_copyFrom [.ref r, .ref r2] κ M Q := by
  refine ct_of B_X1_copyFrom_0 pn_X1 rfl (nle rfl) L_X1_copyFrom_0 ?_
  refine g_aload_n rfl ?_
  refine g_aload_n rfl ?_
  refine g_getI fl_X1_9 rfl hr2 rfl ?_
  refine g_putI pl_X1_9 rfl hr rfl rfl rfl ?_
  refine g_aload_n rfl ?_
  refine g_aload_n rfl ?_
  refine g_getI fl_X1_15 rfl hr2 rfl ?_
  refine g_putI pl_X1_15 rfl hr rfl rfl rfl ?_
  refine g_aload_n rfl ?_
  refine g_aload_n rfl ?_
  refine g_getI fl_X1_18 rfl hr2 rfl ?_
  refine g_putI pl_X1_18 rfl hr rfl rfl rfl ?_
  refine g_aload_n rfl ?_
  refine g_aload_n rfl ?_
  refine g_getI fl_X1_21 rfl hr2 rfl ?_
  refine g_putI pl_X1_21 rfl hr rfl rfl rfl ?_
  refine g_vret rfl (nle rfl) (nle rfl) ?_
  refine qeqv hQ ?_
  funext r' j
  by_cases hr' : r' = r
  · subst hr'
    by_cases hj : j < 4
    · have hc : j = 0 ∨ j = 1 ∨ j = 2 ∨ j = 3 := by omega
      rcases hc with rfl|rfl|rfl|rfl <;> simp [upM, sR, cpR, hne]
    · simp [upM, sR, cpR, hj, show ¬ j = 0 by omega, show ¬ j = 1 by omega, show ¬ j = 2 by omega, show ¬ j = 3 by omega]
  · simp [upM, sR, hr']
set_option maxRecDepth 100000 in
set_option maxHeartbeats 4000000 in
theorem ct_X3_copyFrom {X : Xs} {κ : Kp} {M : Mem} {Q : Rs → Kp → Mem → Prop} {r r2 : Nat} (hr : κ.2.1 r = some lesSh) (hr2 : κ.2.1 r2 = some lesSh) (hne : ¬ r2 = r) (hQ : Q (.inl none) κ (sR M r (cpR 9 (M r2) (M r)))) : Ct X m_X3_copyFrom [.ref r, .ref r2] κ M Q := by
  refine ct_of B_X3_copyFrom_0 pn_X3 rfl (nle rfl) L_X3_copyFrom_0 ?_
  refine g_aload_n rfl ?_
  refine g_aload_n rfl ?_
  refine g_getI fl_X3_7 rfl hr2 rfl ?_
  refine g_putI pl_X3_7 rfl hr rfl rfl rfl ?_
  refine g_aload_n rfl ?_
  refine g_aload_n rfl ?_
  refine g_getI fl_X3_13 rfl hr2 rfl ?_
  refine g_putI pl_X3_13 rfl hr rfl rfl rfl ?_
  refine g_aload_n rfl ?_
  refine g_aload_n rfl ?_
  refine g_getI fl_X3_16 rfl hr2 rfl ?_
  refine g_putI pl_X3_16 rfl hr rfl rfl rfl ?_
  refine g_aload_n rfl ?_
  refine g_aload_n rfl ?_
  refine g_getI fl_X3_19 rfl hr2 rfl ?_
  refine g_putI pl_X3_19 rfl hr rfl rfl rfl ?_
  refine g_aload_n rfl ?_
  refine g_aload_n rfl ?_
  refine g_getI fl_X3_22 rfl hr2 rfl ?_
  refine g_putI pl_X3_22 rfl hr rfl rfl rfl ?_
  refine g_aload_n rfl ?_
  refine g_aload_n rfl ?_
  refine g_getI fl_X3_25 rfl hr2 rfl ?_
  refine g_putI pl_X3_25 rfl hr rfl rfl rfl ?_
  refine g_aload_n rfl ?_
  refine g_aload_n rfl ?_
  refine g_getI fl_X3_28 rfl hr2 rfl ?_
  refine g_putI pl_X3_28 rfl hr rfl rfl rfl ?_
  refine g_aload_n rfl ?_
  refine g_aload_n rfl ?_
  refine g_getI fl_X3_31 rfl hr2 rfl ?_
  refine g_putI pl_X3_31 rfl hr rfl rfl rfl ?_
  refine g_aload_n rfl ?_
  refine g_aload_n rfl ?_
  refine g_getI fl_X3_34 rfl hr2 rfl ?_
  refine g_putI pl_X3_34 rfl hr rfl rfl rfl ?_
  refine g_vret rfl (nle rfl) (nle rfl) ?_
  refine qeqv hQ ?_
  funext r' j
  by_cases hr' : r' = r
  · subst hr'
    by_cases hj : j < 9
    · have hc : j = 0 ∨ j = 1 ∨ j = 2 ∨ j = 3 ∨ j = 4 ∨ j = 5 ∨ j = 6 ∨ j = 7 ∨ j = 8 := by omega
      rcases hc with rfl|rfl|rfl|rfl|rfl|rfl|rfl|rfl|rfl <;> simp [upM, sR, cpR, hne]
    · simp [upM, sR, cpR, hj, show ¬ j = 0 by omega, show ¬ j = 1 by omega, show ¬ j = 2 by omega, show ¬ j = 3 by omega, show ¬ j = 4 by omega, show ¬ j = 5 by omega, show ¬ j = 6 by omega, show ¬ j = 7 by omega, show ¬ j = 8 by omega]
  · simp [upM, sR, hr']
set_option maxRecDepth 100000 in
set_option maxHeartbeats 4000000 in
theorem ct_X5_copyFrom {X : Xs} {κ : Kp} {M : Mem} {Q : Rs → Kp → Mem → Prop} {r r2 : Nat} (hr : κ.2.1 r = some teaSh) (hr2 : κ.2.1 r2 = some teaSh) (hne : ¬ r2 = r) (hQ : Q (.inl none) κ (sR M r (cpR 2 (M r2) (M r)))) : Ct X m_X5_copyFrom [.ref r, .ref r2] κ M Q := by
  refine ct_of B_X5_copyFrom_0 pn_X5 rfl (nle rfl) L_X5_copyFrom_0 ?_
  refine g_aload_n rfl ?_
  refine g_aload_n rfl ?_
  refine g_getI fl_X5_7 rfl hr2 rfl ?_
  refine g_putI pl_X5_7 rfl hr rfl rfl rfl ?_
  refine g_aload_n rfl ?_
  refine g_aload_n rfl ?_
  refine g_getI fl_X5_13 rfl hr2 rfl ?_
  refine g_putI pl_X5_13 rfl hr rfl rfl rfl ?_
  refine g_vret rfl (nle rfl) (nle rfl) ?_
  refine qeqv hQ ?_
  funext r' j
  by_cases hr' : r' = r
  · subst hr'
    by_cases hj : j < 2
    · have hc : j = 0 ∨ j = 1 := by omega
      rcases hc with rfl|rfl <;> simp [upM, sR, cpR, hne]
    · simp [upM, sR, cpR, hj, show ¬ j = 0 by omega, show ¬ j = 1 by omega]
  · simp [upM, sR, hr']
set_option maxRecDepth 100000 in
set_option maxHeartbeats 4000000 in
theorem ct_X1_hasSpringFor {X : Xs} {κ : Kp} {M : Mem} {Q : Rs → Kp → Mem → Prop} {r : Nat} (hr : κ.2.1 r = some floSh) {style level : Int32} (hQ : Q (.inl (some (.int (bI (sprOK (M r 0) style level))))) κ M) : Ct X m_X1_hasSpringFor [.ref r, .int style, .int level] κ M Q := by
  refine ct_of B_X1_hasSpringFor_0 pn_X1 rfl (nle rfl) L_X1_hasSpringFor_0 ?_
  refine g_iload_n rfl ?_
  rcases sw_cases style 0 3 (nle rfl) with ⟨j_1, hj_1, hx_1⟩ | ho_1
  · have hc_1 : j_1 = 0 ∨ j_1 = 1 ∨ j_1 = 2 := by omega
    rcases hc_1 with rfl | rfl | rfl
    · replace hx_1 : style = 0 := hx_1.trans (by decide)
      refine g_tabIn (off := 27) (by rw [hx_1]; decide) (by rw [hx_1]; decide) (by rw [hx_1]; decide) rfl L_X1_hasSpringFor_28 ?_
      refine g_aload_n rfl ?_
      refine g_getI fl_X1_9 rfl hr rfl ?_
      refine g_iconst (v := 4) ik_4 ?_
      refine g_icmp_lt rfl L_X1_hasSpringFor_40 (fun h_1 => ?_) (fun h_1 => ?_)
      · refine g_iconst (v := 0) ik_0 ?_
        refine g_fall rfl L_X1_hasSpringFor_41 ?_
        refine g_zret rfl rfl (nle rfl) (nle rfl) ?_
        exact qeq hQ (by clear hQ; simp_all [bI, sprOK, i32le, -Int32.not_lt]) rfl
      · refine g_iconst (v := 1) ik_1 ?_
        refine g_goto rfl L_X1_hasSpringFor_41 ?_
        refine g_zret rfl rfl (nle rfl) (nle rfl) ?_
        exact qeq hQ (by clear hQ; simp_all [bI, sprOK, i32le, -Int32.not_lt]) rfl
    · replace hx_1 : style = 1 := hx_1.trans (by decide)
      refine g_tabIn (off := 41) (by rw [hx_1]; decide) (by rw [hx_1]; decide) (by rw [hx_1]; decide) rfl L_X1_hasSpringFor_42 ?_
      refine g_aload_n rfl ?_
      refine g_getI fl_X1_9 rfl hr rfl ?_
      refine g_iconst (v := 5) ik_5 ?_
      refine g_icmp_gt rfl L_X1_hasSpringFor_54 (fun h_2 => ?_) (fun h_2 => ?_)
      · refine g_iconst (v := 0) ik_0 ?_
        refine g_fall rfl L_X1_hasSpringFor_55 ?_
        refine g_zret rfl rfl (nle rfl) (nle rfl) ?_
        exact qeq hQ (by clear hQ; simp_all [bI, sprOK, i32le, -Int32.not_lt]) rfl
      · refine g_iconst (v := 1) ik_1 ?_
        refine g_goto rfl L_X1_hasSpringFor_55 ?_
        refine g_zret rfl rfl (nle rfl) (nle rfl) ?_
        exact qeq hQ (by clear hQ; simp_all [bI, sprOK, i32le, -Int32.not_lt]) rfl
    · replace hx_1 : style = 2 := hx_1.trans (by decide)
      refine g_tabIn (off := 55) (by rw [hx_1]; decide) (by rw [hx_1]; decide) (by rw [hx_1]; decide) rfl L_X1_hasSpringFor_56 ?_
      refine g_aload_n rfl ?_
      refine g_getI fl_X1_9 rfl hr rfl ?_
      refine g_iconst (v := 3) ik_3 ?_
      refine g_iload_n rfl ?_
      refine g_iadd ?_
      refine g_icmp_lt rfl L_X1_hasSpringFor_70 (fun h_3 => ?_) (fun h_3 => ?_)
      · refine g_iconst (v := 0) ik_0 ?_
        refine g_fall rfl L_X1_hasSpringFor_71 ?_
        refine g_zret rfl rfl (nle rfl) (nle rfl) ?_
        exact qeq hQ (by clear hQ; simp_all [bI, sprOK, i32le, -Int32.not_lt]) rfl
      · refine g_iconst (v := 1) ik_1 ?_
        refine g_goto rfl L_X1_hasSpringFor_71 ?_
        refine g_zret rfl rfl (nle rfl) (nle rfl) ?_
        exact qeq hQ (by clear hQ; simp_all [bI, sprOK, i32le, -Int32.not_lt]) rfl
  · refine g_tabOut (ho_1.imp (fun h => h) (fun h => h)) rfl L_X1_hasSpringFor_72 ?_
    have hd_1_0 : ¬ style = 0 := sw_ne ho_1 0 (by decide)
    have hd_1_1 : ¬ style = 1 := sw_ne ho_1 1 (by decide)
    have hd_1_2 : ¬ style = 2 := sw_ne ho_1 2 (by decide)
    refine g_iconst (v := 1) ik_1 ?_
    refine g_zret rfl rfl (nle rfl) (nle rfl) ?_
    exact qeq hQ (by clear hQ; simp_all [bI, sprOK, i32le, -Int32.not_lt]) rfl
set_option maxRecDepth 100000 in
set_option maxHeartbeats 4000000 in
theorem ct_X1_hasMirrorsFor {X : Xs} {κ : Kp} {M : Mem} {Q : Rs → Kp → Mem → Prop} {r : Nat} (hr : κ.2.1 r = some floSh) {style level : Int32} (hQ : Q (.inl (some (.int (bI (mirOK (M r 1) style level))))) κ M) : Ct X m_X1_hasMirrorsFor [.ref r, .int style, .int level] κ M Q := by
  refine ct_of B_X1_hasMirrorsFor_0 pn_X1 rfl (nle rfl) L_X1_hasMirrorsFor_0 ?_
  refine g_iload_n rfl ?_
  by_cases hv_1_0 : style = 0
  · refine g_lookup (off := 27) (by decide) (by rw [hv_1_0]; decide) rfl L_X1_hasMirrorsFor_28 ?_
    refine g_aload_n rfl ?_
    refine g_getI fl_X1_15 rfl hr rfl ?_
    refine g_iload_n rfl ?_
    refine g_iconst (v := 2) ik_2 ?_
    refine g_idiv (by decide) ?_
    refine g_icmp_lt rfl L_X1_hasMirrorsFor_42 (fun h_1 => ?_) (fun h_1 => ?_)
    · refine g_iconst (v := 0) ik_0 ?_
      refine g_fall rfl L_X1_hasMirrorsFor_43 ?_
      refine g_zret rfl rfl (nle rfl) (nle rfl) ?_
      exact qeq hQ (by clear hQ; simp_all [bI, mirOK, i32le, -Int32.not_lt]) rfl
    · refine g_iconst (v := 1) ik_1 ?_
      refine g_goto rfl L_X1_hasMirrorsFor_43 ?_
      refine g_zret rfl rfl (nle rfl) (nle rfl) ?_
      exact qeq hQ (by clear hQ; simp_all [bI, mirOK, i32le, -Int32.not_lt]) rfl
  by_cases hv_1_1 : style = 1
  · refine g_lookup (off := 43) (by decide) (by rw [hv_1_1]; decide) rfl L_X1_hasMirrorsFor_44 ?_
    refine g_aload_n rfl ?_
    refine g_getI fl_X1_15 rfl hr rfl ?_
    refine g_iconst (v := 1) ik_1 ?_
    refine g_icmp_lt rfl L_X1_hasMirrorsFor_56 (fun h_2 => ?_) (fun h_2 => ?_)
    · refine g_iconst (v := 0) ik_0 ?_
      refine g_fall rfl L_X1_hasMirrorsFor_57 ?_
      refine g_zret rfl rfl (nle rfl) (nle rfl) ?_
      exact qeq hQ (by clear hQ; simp_all [bI, mirOK, i32le, -Int32.not_lt]) rfl
    · refine g_iconst (v := 1) ik_1 ?_
      refine g_goto rfl L_X1_hasMirrorsFor_57 ?_
      refine g_zret rfl rfl (nle rfl) (nle rfl) ?_
      exact qeq hQ (by clear hQ; simp_all [bI, mirOK, i32le, -Int32.not_lt]) rfl
  refine g_lookup (off := 57) (by decide) (by have q0 := Ne.symm (i32_ne hv_1_0); have q1 := Ne.symm (i32_ne hv_1_1); simp_all [Op.lookupswitch.offset]) rfl L_X1_hasMirrorsFor_58 ?_
  refine g_iconst (v := 1) ik_1 ?_
  refine g_zret rfl rfl (nle rfl) (nle rfl) ?_
  exact qeq hQ (by clear hQ; simp_all [bI, mirOK, i32le, -Int32.not_lt]) rfl
set_option maxRecDepth 100000 in
set_option maxHeartbeats 4000000 in
theorem ct_X1_hasBarreFor {X : Xs} {κ : Kp} {M : Mem} {Q : Rs → Kp → Mem → Prop} {r : Nat} (hr : κ.2.1 r = some floSh) {style level : Int32} (hQ : Q (.inl (some (.int (bI (barOK (M r 2) style level))))) κ M) : Ct X m_X1_hasBarreFor [.ref r, .int style, .int level] κ M Q := by
  refine ct_of B_X1_hasBarreFor_0 pn_X1 rfl (nle rfl) L_X1_hasBarreFor_0 ?_
  refine g_iload_n rfl ?_
  refine g_if_ne rfl L_X1_hasBarreFor_16 (fun h_1 => ?_) (fun h_1 => ?_)
  · refine g_iconst (v := 1) ik_1 ?_
    refine g_goto rfl L_X1_hasBarreFor_21 ?_
    refine g_zret rfl rfl (nle rfl) (nle rfl) ?_
    exact qeq hQ (by clear hQ; simp_all [bI, barOK, i32le, -Int32.not_lt]) rfl
  · refine g_aload_n rfl ?_
    refine g_getI fl_X1_18 rfl hr rfl ?_
    refine g_iconst (v := 2) ik_2 ?_
    refine g_iload_n rfl ?_
    refine g_imul ?_
    refine g_iconst (v := 4) ik_4 ?_
    refine g_iadd ?_
    refine g_icmp_lt rfl L_X1_hasBarreFor_20 (fun h_2 => ?_) (fun h_2 => ?_)
    · refine g_iconst (v := 0) ik_0 ?_
      refine g_fall rfl L_X1_hasBarreFor_21 ?_
      refine g_zret rfl rfl (nle rfl) (nle rfl) ?_
      exact qeq hQ (by clear hQ; simp_all [bI, barOK, i32le, -Int32.not_lt]) rfl
    · refine g_fall rfl L_X1_hasBarreFor_16 ?_
      refine g_iconst (v := 1) ik_1 ?_
      refine g_goto rfl L_X1_hasBarreFor_21 ?_
      refine g_zret rfl rfl (nle rfl) (nle rfl) ?_
      exact qeq hQ (by clear hQ; simp_all [bI, barOK, i32le, -Int32.not_lt]) rfl
set_option maxRecDepth 100000 in
set_option maxHeartbeats 4000000 in
theorem ct_X1_roomFor {X : Xs} {κ : Kp} {M : Mem} {Q : Rs → Kp → Mem → Prop} {r : Nat} (hr : κ.2.1 r = some floSh) {style : Int32} (hQ : Q (.inl (some (.int (tkI (M r 3) (M r 2) style)))) κ M) : Ct X m_X1_roomFor [.ref r, .int style] κ M Q := by
  refine ct_of B_X1_roomFor_0 pn_X1 rfl (nle rfl) L_X1_roomFor_0 ?_
  refine g_iload_n rfl ?_
  refine g_if_ne rfl L_X1_roomFor_20 (fun h_1 => ?_) (fun h_1 => ?_)
  · refine g_aload_n rfl ?_
    refine g_getI fl_X1_21 rfl hr rfl ?_
    refine g_fall rfl L_X1_roomFor_24 ?_
    refine g_iret rfl (nle rfl) (nle rfl) ?_
    exact qeq hQ (by first | (simp_all [tkI]; done) | (rename_i hz; subst hz; rw [minI_tk]; simp [tkI, tkJ])) rfl
  · refine g_aload_n rfl ?_
    refine g_getI fl_X1_21 rfl hr rfl ?_
    refine g_aload_n rfl ?_
    refine g_getI fl_X1_18 rfl hr rfl ?_
    refine g_iconst (v := 2) ik_2 ?_
    refine g_idiv (by decide) ?_
    refine g_mmin ml_X1_24 rfl (nle rfl) (nle rfl) (nle rfl) (nle rfl) ?_
    refine g_goto rfl L_X1_roomFor_24 ?_
    refine g_iret rfl (nle rfl) (nle rfl) ?_
    exact qeq hQ (by first | (simp_all [tkI]; done) | (rename_i hz; subst hz; rw [minI_tk]; simp [tkI, tkJ])) rfl
set_option maxRecDepth 100000 in
set_option maxHeartbeats 4000000 in
theorem ct_X5_teaches {X : Xs} {κ : Kp} {M : Mem} {Q : Rs → Kp → Mem → Prop} {r : Nat} (hr : κ.2.1 r = some teaSh) {style level : Int32} (hQ : Q (.inl (some (.int (bI (bitS (M r 0) style && decide (level ≤ M r 1)))))) κ M) : Ct X m_X5_teaches [.ref r, .int style, .int level] κ M Q := by
  refine ct_of B_X5_teaches_0 pn_X5 rfl (nle rfl) L_X5_teaches_0 ?_
  refine g_aload_n rfl ?_
  refine g_getI fl_X5_7 rfl hr rfl ?_
  refine g_iload_n rfl ?_
  refine g_ishr ?_
  refine g_iconst (v := 1) ik_1 ?_
  refine g_iand ?_
  refine g_iconst (v := 1) ik_1 ?_
  refine g_icmp_ne rfl L_X5_teaches_24 (fun h_1 => ?_) (fun h_1 => ?_)
  · refine g_iconst (v := 0) ik_0 ?_
    refine g_fall rfl L_X5_teaches_25 ?_
    refine g_zret rfl rfl (nle rfl) (nle rfl) ?_
    exact qeq hQ (by clear hQ; simp_all [bI, bitS, i32le, -Int32.not_lt]) rfl
  · refine g_iload_n rfl ?_
    refine g_aload_n rfl ?_
    refine g_getI fl_X5_13 rfl hr rfl ?_
    refine g_icmp_gt rfl L_X5_teaches_24 (fun h_2 => ?_) (fun h_2 => ?_)
    · refine g_iconst (v := 0) ik_0 ?_
      refine g_fall rfl L_X5_teaches_25 ?_
      refine g_zret rfl rfl (nle rfl) (nle rfl) ?_
      exact qeq hQ (by clear hQ; simp_all [bI, bitS, i32le, -Int32.not_lt]) rfl
    · refine g_iconst (v := 1) ik_1 ?_
      refine g_goto rfl L_X5_teaches_25 ?_
      refine g_zret rfl rfl (nle rfl) (nle rfl) ?_
      exact qeq hQ (by clear hQ; simp_all [bI, bitS, i32le, -Int32.not_lt]) rfl
set_option maxRecDepth 100000 in
set_option maxHeartbeats 4000000 in
theorem ct_X0_usesSoFar {X : Xs} {κ : Kp} {M : Mem} {Q : Rs → Kp → Mem → Prop} {r : Nat} (hr : κ.2.1 r = some danSh) (hQ : Q (.inl (some (.int (10 * M r 3 - M r 2)))) κ M) : Ct X m_X0_usesSoFar [.ref r] κ M Q := by
  refine ct_of B_X0_usesSoFar_0 pn_X0 rfl (nle rfl) L_X0_usesSoFar_0 ?_
  refine g_bipush (v := 10) bk_10 ?_
  refine g_aload_n rfl ?_
  refine g_getI fl_X0_21 rfl hr rfl ?_
  refine g_imul ?_
  refine g_aload_n rfl ?_
  refine g_getI fl_X0_18 rfl hr rfl ?_
  refine g_isub ?_
  refine g_iret rfl (nle rfl) (nle rfl) ?_
  exact hQ
def danceR (f : Nat → Int32) (lv : Int32) : Nat → Int32 := upd (upd f 2 (f 2 - 1)) 1 (f 1 + if f 0 ≤ lv then lv else 1)
def riseR (f : Nat → Int32) (n : Int32) : Nat → Int32 := if n ≤ f 1 ∧ f 0 < 5 then upd (upd f 0 (f 0 + 1)) 1 0 else f
set_option maxRecDepth 100000 in
set_option maxHeartbeats 4000000 in
theorem ct_X0_dance {X : Xs} {κ : Kp} {M : Mem} {Q : Rs → Kp → Mem → Prop} {r : Nat} (hr : κ.2.1 r = some danSh) {lv : Int32} (hQ : Q (.inl none) κ (sR M r (danceR (M r) lv))) : Ct X m_X0_dance [.ref r, .int lv] κ M Q := by
  refine ct_of B_X0_dance_0 pn_X0 rfl (nle rfl) L_X0_dance_0 ?_
  refine g_aload_n rfl ?_
  refine g_dup rfl ?_
  refine g_getI fl_X0_18 rfl hr rfl ?_
  refine g_iconst (v := 1) ik_1 ?_
  refine g_isub ?_
  refine g_putI pl_X0_18 rfl hr rfl rfl rfl ?_
  refine g_aload_n rfl ?_
  refine g_dup rfl ?_
  refine g_getI fl_X0_15 rfl hr rfl ?_
  refine g_iload_n rfl ?_
  refine g_aload_n rfl ?_
  refine g_getI fl_X0_9 rfl hr rfl ?_
  refine g_icmp_lt rfl L_X0_dance_27 (fun h_1 => ?_) (fun h_1 => ?_)
  · refine g_iconst (v := 1) ik_1 ?_
    refine g_fall rfl L_X0_dance_28 ?_
    refine g_iadd ?_
    refine g_putI pl_X0_15 rfl hr rfl rfl rfl ?_
    refine g_vret rfl (nle rfl) (nle rfl) ?_
    exact qeqv hQ (by clear hQ; simp_all [i32le, -Int32.not_lt, upM_sR, sR_sR, sR_s, danceR, upd])
  · refine g_iload_n rfl ?_
    refine g_goto rfl L_X0_dance_28 ?_
    refine g_iadd ?_
    refine g_putI pl_X0_15 rfl hr rfl rfl rfl ?_
    refine g_vret rfl (nle rfl) (nle rfl) ?_
    exact qeqv hQ (by clear hQ; simp_all [i32le, -Int32.not_lt, upM_sR, sR_sR, sR_s, danceR, upd])
set_option maxRecDepth 100000 in
set_option maxHeartbeats 4000000 in
theorem ct_X0_riseWith {X : Xs} {κ : Kp} {M : Mem} {Q : Rs → Kp → Mem → Prop} {r : Nat} (hr : κ.2.1 r = some danSh) {n : Int32} (hQ : Q (.inl none) κ (sR M r (riseR (M r) n))) : Ct X m_X0_riseWith [.ref r, .int n] κ M Q := by
  refine ct_of B_X0_riseWith_0 pn_X0 rfl (nle rfl) L_X0_riseWith_0 ?_
  refine g_aload_n rfl ?_
  refine g_getI fl_X0_15 rfl hr rfl ?_
  refine g_iload_n rfl ?_
  refine g_icmp_lt rfl L_X0_riseWith_31 (fun h_1 => ?_) (fun h_1 => ?_)
  · refine g_vret rfl (nle rfl) (nle rfl) ?_
    exact qeqv hQ (by clear hQ; simp_all [i32le, -Int32.not_lt, upM_sR, sR_sR, sR_s, sR_self, riseR, upd])
  · refine g_aload_n rfl ?_
    refine g_getI fl_X0_9 rfl hr rfl ?_
    refine g_iconst (v := 5) ik_5 ?_
    refine g_icmp_ge rfl L_X0_riseWith_31 (fun h_2 => ?_) (fun h_2 => ?_)
    · refine g_vret rfl (nle rfl) (nle rfl) ?_
      exact qeqv hQ (by clear hQ; simp_all [i32le, -Int32.not_lt, upM_sR, sR_sR, sR_s, sR_self, riseR, upd])
    · refine g_aload_n rfl ?_
      refine g_dup rfl ?_
      refine g_getI fl_X0_9 rfl hr rfl ?_
      refine g_iconst (v := 1) ik_1 ?_
      refine g_iadd ?_
      refine g_putI pl_X0_9 rfl hr rfl rfl rfl ?_
      refine g_aload_n rfl ?_
      refine g_iconst (v := 0) ik_0 ?_
      refine g_putI pl_X0_15 rfl hr rfl rfl rfl ?_
      refine g_fall rfl L_X0_riseWith_31 ?_
      refine g_vret rfl (nle rfl) (nle rfl) ?_
      exact qeqv hQ (by clear hQ; simp_all [i32le, -Int32.not_lt, upM_sR, sR_sR, sR_s, sR_self, riseR, upd])
