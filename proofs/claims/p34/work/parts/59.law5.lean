/-! ===== the constructors ===== -/
theorem g_widen {X : Xs} {y : MI} {is : List (Instr × Nat)} {pc : Nat} {lo : Lo} {st : List Value} {nc ks nc' ks' : Nat} {κ : Kp} {M : Mem} {Q : Rs → Kp → Mem → Prop} (h1 : nc ≤ nc') (h2 : ks ≤ ks') (kk : G X y is pc lo st nc' ks' κ M Q) : G X y is pc lo st nc ks κ M Q := fun hA l p e s m args below meth c b Z D H locs ls hC hR hS hL => W.widen h1 h2 (kk hA l p e s m args below meth c b Z D H locs ls hC hR hS hL)
theorem g_ab {X : Xs} {y : MI} {is : List (Instr × Nat)} {pc : Nat} {lo : Lo} {st : List Value} {nc ks : Nat} {M : Mem} {Q : Rs → Kp → Mem → Prop} {n a o : Nat} {fl : Bool} {S : Nat → Option Sh} {sh1 sh2 : Sh} (h : a ≠ o) (kk : ∀ (S1 : Nat → Option Sh) (M1 : Mem), S1 o = some sh1 → S1 a = some sh2 → (∀ r, r ≠ o → r ≠ a → S1 r = S r) → (∀ r, r ≠ a → M1 r = M r) → (∀ j, M1 a j = 0) → G X y is pc lo st nc ks (n, S1, fl) M1 Q) : G X y is pc lo st nc ks (n, upS (upS S a sh2) o sh1, fl) (zM M a) Q :=
  kk _ _ (upS_s _ _ _) ((upS_o _ _ _ h).trans (upS_s _ _ _)) (fun r h1 h2 => (upS_o _ _ _ h1).trans (upS_o _ _ _ h2)) (fun r h => funext fun j => zM_o _ _ h j) (fun j => zM_s _ _ _)
theorem lst_eq {cs ds : List Nat} (h1 : cs.length = ds.length) (h2 : ∀ i, i < ds.length → cs.getD i 0 = ds.getD i 0) : cs = ds := by
  refine List.ext_getElem h1 fun i hi hj => ?_
  have h := h2 i hj
  rw [List.getD_eq_getElem?_getD, List.getD_eq_getElem?_getD, List.getElem?_eq_getElem hi, List.getElem?_eq_getElem hj] at h
  exact h
/-- an array of objects, k of them made -/
def Fl (t N w a k : Nat) (S0 S : Nat → Option Sh) (M0 M : Mem) (P : (Nat → Option Sh) → Nat → Prop) : Prop :=
  (∀ r, r < a → S r = S0 r) ∧ (∃ cs : List Nat, S a = some (t, N, cs) ∧ cs.length = N ∧ ∀ i, i < k → cs.getD i 0 = a + w * i + 1 + 2) ∧ (∀ i, i < k → P S (a + w * i + 1)) ∧ (∀ r, r < a → M r = M0 r)
theorem Fl.nil {t N w a : Nat} {S : Nat → Option Sh} {M : Mem} {P : (Nat → Option Sh) → Nat → Prop} (h : S a = some (t, N, List.replicate N 1)) : Fl t N w a 0 S S M M P :=
  ⟨fun _ _ => rfl, ⟨_, h, List.length_replicate, fun i hi => absurd hi (Nat.not_lt_zero i)⟩, fun i hi => absurd hi (Nat.not_lt_zero i), fun _ _ => rfl⟩
theorem Fl.step {t N w a k : Nat} {S0 S S' : Nat → Option Sh} {M0 M M' : Mem} {P : (Nat → Option Sh) → Nat → Prop} (hP : ∀ (S S' : Nat → Option Sh) (o : Nat), (∀ r, o ≤ r → r < o + w → S' r = S r) → P S o → P S' o) (hF : Fl t N w a k S0 S M0 M P) (hk : k < N) (hw : 1 ≤ w) (h1 : ∀ r, r ≤ a + w * k → S' r = S r) (h2 : ∀ r, r ≤ a + w * k → M' r = M r) (h3 : P S' (a + w * k + 1)) {cs : List Nat} (hc : S a = some (t, N, cs)) : Fl t N w a (k + 1) S0 (upS S' a (t, N, cs.set k (a + w * k + 1 + 2))) M0 M' P := by
  obtain ⟨f1, ⟨cs', f2, f3, f4⟩, f5, f6⟩ := hF
  have e : cs' = cs := by
    have := f2.symm.trans hc
    injection this with q
    injection q with _ q
    injection q
  subst e
  refine ⟨fun r hr => ?_, ⟨_, upS_s _ _ _, by rw [List.length_set]; exact f3, fun i hi => ?_⟩, fun i hi => ?_, fun r hr => (h2 r (by omega)).trans (f6 r hr)⟩
  · rw [upS_o _ _ _ (by omega), h1 r (by omega)]; exact f1 r hr
  · rw [List.getD_eq_getElem?_getD]
    by_cases h : i = k
    · subst h
      rw [List.getElem?_set_self (by omega)]
      rfl
    · rw [List.getElem?_set_ne (Ne.symm h), ← List.getD_eq_getElem?_getD]
      exact f4 i (by omega)
  · rcases Nat.lt_or_ge i k with h | h
    · have hm : w * (i + 1) ≤ w * k := Nat.mul_le_mul_left w h
      rw [Nat.mul_succ] at hm
      refine hP S _ _ (fun r g1 g2 => ?_) (f5 i h)
      rw [upS_o _ _ _ (by omega)]
      exact h1 r (by omega)
    · have : i = k := by omega
      subst this
      exact hP S' _ _ (fun r g1 g2 => upS_o _ _ _ (by omega)) h3
def LfP (sh : Sh) (S : Nat → Option Sh) (o : Nat) : Prop := S o = some sh
theorem LfP.st (sh : Sh) (S S' : Nat → Option Sh) (o : Nat) (h : ∀ r, o ≤ r → r < o + 1 → S' r = S r) (hP : LfP sh S o) : LfP sh S' o := (h o (by omega) (by omega)).trans hP
theorem IsStu.st (S S' : Nat → Option Sh) (o : Nat) (h : ∀ r, o ≤ r → r < o + 37 → S' r = S r) (hP : IsStu S o) : IsStu S' o := by
  obtain ⟨a1, a2, a3, a4, a5, a6, a7, a8, a9, a10⟩ := hP
  refine ⟨(h _ (by omega) (by omega)).trans a1, (h _ (by omega) (by omega)).trans a2, fun i hi => (h _ (by omega) (by omega)).trans (a3 i hi), (h _ (by omega) (by omega)).trans a4, fun i hi => (h _ (by omega) (by omega)).trans (a5 i hi), (h _ (by omega) (by omega)).trans a6, fun i hi => (h _ (by omega) (by omega)).trans (a7 i hi), (h _ (by omega) (by omega)).trans a8, fun i hi => (h _ (by omega) (by omega)).trans (a9 i hi), (h _ (by omega) (by omega)).trans a10⟩
theorem Fl.fin1 {t N a : Nat} {S0 S : Nat → Option Sh} {M0 M : Mem} {P : (Nat → Option Sh) → Nat → Prop} (hF : Fl t N 1 a N S0 S M0 M P) : S a = some (t, N, rcs (a + 1) N) := by
  obtain ⟨-, ⟨cs, f2, f3, f4⟩, -, -⟩ := hF
  have hl : (rcs (a + 1) N).length = N := by simp [rcs]
  have e : cs = rcs (a + 1) N := lst_eq (by rw [f3, hl]) (fun i hi => by
    rw [hl] at hi
    rw [f4 i hi, rcs_get hi]
    omega)
  rw [f2, e]
theorem Fl.fin37 {t N a : Nat} {S0 S : Nat → Option Sh} {M0 M : Mem} {P : (Nat → Option Sh) → Nat → Prop} (hF : Fl t N 37 a N S0 S M0 M P) : S a = some (t, N, rcs37 (a + 1) N) := by
  obtain ⟨-, ⟨cs, f2, f3, f4⟩, -, -⟩ := hF
  have hl : (rcs37 (a + 1) N).length = N := by simp [rcs37]
  have e : cs = rcs37 (a + 1) N := lst_eq (by rw [f3, hl]) (fun i hi => by
    rw [hl] at hi
    rw [f4 i hi, rcs37_get hi]
    omega)
  rw [f2, e]
theorem nw_X7_16 : NWK RX7 16 4 14 [1, 1, 1, 1, 1, 0, 0, 0, 0, 0, 0, 0, 0, 0] := ⟨(RX4, TX4, 14), rfl, rfl, rfl, tG1 (i := 52) (by decide +kernel) (by decide +kernel), tG1 (i := 53) (by decide +kernel) (by decide +kernel), tG1 (i := 3) (by decide +kernel) (by decide +kernel), uw_X4, tyX4, tyX4_ok, fun k hk => by
  have hk : k < 14 := hk
  have hc : k = 0 ∨ k = 1 ∨ k = 2 ∨ k = 3 ∨ k = 4 ∨ k = 5 ∨ k = 6 ∨ k = 7 ∨ k = 8 ∨ k = 9 ∨ k = 10 ∨ k = 11 ∨ k = 12 ∨ k = 13 := by omega
  rcases hc with rfl | rfl | rfl | rfl | rfl | rfl | rfl | rfl | rfl | rfl | rfl | rfl | rfl | rfl
  · exact Or.inr ⟨rfl, rfl⟩
  · exact Or.inr ⟨rfl, rfl⟩
  · exact Or.inr ⟨rfl, rfl⟩
  · exact Or.inr ⟨rfl, rfl⟩
  · exact Or.inr ⟨rfl, rfl⟩
  · exact Or.inl ⟨rfl, rfl⟩
  · exact Or.inl ⟨rfl, rfl⟩
  · exact Or.inl ⟨rfl, rfl⟩
  · exact Or.inl ⟨rfl, rfl⟩
  · exact Or.inl ⟨rfl, rfl⟩
  · exact Or.inl ⟨rfl, rfl⟩
  · exact Or.inl ⟨rfl, rfl⟩
  · exact Or.inl ⟨rfl, rfl⟩
  · exact Or.inl ⟨rfl, rfl⟩⟩
theorem aw_X7_16 : AWK RX7 16 4 := ⟨tG1 (i := 52) (by decide +kernel) (by decide +kernel), by decide +kernel⟩
theorem nw_X7_26 : NWK RX7 26 2 3 [1, 0, 0] := ⟨(RX2, TX2, 3), rfl, rfl, rfl, tG2 (i := 4) (by decide +kernel) (by decide +kernel), tG2 (i := 5) (by decide +kernel) (by decide +kernel), tG1 (i := 8) (by decide +kernel) (by decide +kernel), uw_X2, tyX2, tyX2_ok, fun k hk => by
  have hk : k < 3 := hk
  have hc : k = 0 ∨ k = 1 ∨ k = 2 := by omega
  rcases hc with rfl | rfl | rfl
  · exact Or.inr ⟨rfl, rfl⟩
  · exact Or.inl ⟨rfl, rfl⟩
  · exact Or.inl ⟨rfl, rfl⟩⟩
theorem nw_X7_7 : NWK RX7 7 6 6 [1, 1, 0, 0, 0, 0] := ⟨(RX6, TX6, 6), rfl, rfl, rfl, tG1 (i := 25) (by decide +kernel) (by decide +kernel), tG1 (i := 26) (by decide +kernel) (by decide +kernel), tG1 (i := 2) (by decide +kernel) (by decide +kernel), uw_X6, tyX6, tyX6_ok, fun k hk => by
  have hk : k < 6 := hk
  have hc : k = 0 ∨ k = 1 ∨ k = 2 ∨ k = 3 ∨ k = 4 ∨ k = 5 := by omega
  rcases hc with rfl | rfl | rfl | rfl | rfl | rfl
  · exact Or.inr ⟨rfl, rfl⟩
  · exact Or.inr ⟨rfl, rfl⟩
  · exact Or.inl ⟨rfl, rfl⟩
  · exact Or.inl ⟨rfl, rfl⟩
  · exact Or.inl ⟨rfl, rfl⟩
  · exact Or.inl ⟨rfl, rfl⟩⟩
theorem nw_X2_9 : NWK RX2 9 4 14 [1, 1, 1, 1, 1, 0, 0, 0, 0, 0, 0, 0, 0, 0] := ⟨(RX4, TX4, 14), rfl, rfl, rfl, tG2 (i := 10) (by decide +kernel) (by decide +kernel), tG1 (i := 53) (by decide +kernel) (by decide +kernel), tG1 (i := 3) (by decide +kernel) (by decide +kernel), uw_X4, tyX4, tyX4_ok, fun k hk => by
  have hk : k < 14 := hk
  have hc : k = 0 ∨ k = 1 ∨ k = 2 ∨ k = 3 ∨ k = 4 ∨ k = 5 ∨ k = 6 ∨ k = 7 ∨ k = 8 ∨ k = 9 ∨ k = 10 ∨ k = 11 ∨ k = 12 ∨ k = 13 := by omega
  rcases hc with rfl | rfl | rfl | rfl | rfl | rfl | rfl | rfl | rfl | rfl | rfl | rfl | rfl | rfl
  · exact Or.inr ⟨rfl, rfl⟩
  · exact Or.inr ⟨rfl, rfl⟩
  · exact Or.inr ⟨rfl, rfl⟩
  · exact Or.inr ⟨rfl, rfl⟩
  · exact Or.inr ⟨rfl, rfl⟩
  · exact Or.inl ⟨rfl, rfl⟩
  · exact Or.inl ⟨rfl, rfl⟩
  · exact Or.inl ⟨rfl, rfl⟩
  · exact Or.inl ⟨rfl, rfl⟩
  · exact Or.inl ⟨rfl, rfl⟩
  · exact Or.inl ⟨rfl, rfl⟩
  · exact Or.inl ⟨rfl, rfl⟩
  · exact Or.inl ⟨rfl, rfl⟩
  · exact Or.inl ⟨rfl, rfl⟩⟩
theorem aw_X2_9 : AWK RX2 9 4 := ⟨tG2 (i := 10) (by decide +kernel) (by decide +kernel), by decide +kernel⟩
theorem nw_X4_18 : NWK RX4 18 5 2 [0, 0] := ⟨(RX5, TX5, 2), rfl, rfl, rfl, tG1 (i := 86) (by decide +kernel) (by decide +kernel), tG1 (i := 88) (by decide +kernel) (by decide +kernel), tG1 (i := 5) (by decide +kernel) (by decide +kernel), uw_X5, tyX5, tyX5_ok, fun k hk => by
  have hk : k < 2 := hk
  have hc : k = 0 ∨ k = 1 := by omega
  rcases hc with rfl | rfl
  · exact Or.inl ⟨rfl, rfl⟩
  · exact Or.inl ⟨rfl, rfl⟩⟩
theorem aw_X4_18 : AWK RX4 18 5 := ⟨tG1 (i := 86) (by decide +kernel) (by decide +kernel), by decide +kernel⟩
theorem nw_X4_25 : NWK RX4 25 3 9 [0, 0, 0, 0, 0, 0, 0, 0, 0] := ⟨(RX3, TX3, 9), rfl, rfl, rfl, tG1 (i := 104) (by decide +kernel) (by decide +kernel), tG1 (i := 106) (by decide +kernel) (by decide +kernel), tG1 (i := 6) (by decide +kernel) (by decide +kernel), uw_X3, tyX3, tyX3_ok, fun k hk => by
  have hk : k < 9 := hk
  have hc : k = 0 ∨ k = 1 ∨ k = 2 ∨ k = 3 ∨ k = 4 ∨ k = 5 ∨ k = 6 ∨ k = 7 ∨ k = 8 := by omega
  rcases hc with rfl | rfl | rfl | rfl | rfl | rfl | rfl | rfl | rfl
  · exact Or.inl ⟨rfl, rfl⟩
  · exact Or.inl ⟨rfl, rfl⟩
  · exact Or.inl ⟨rfl, rfl⟩
  · exact Or.inl ⟨rfl, rfl⟩
  · exact Or.inl ⟨rfl, rfl⟩
  · exact Or.inl ⟨rfl, rfl⟩
  · exact Or.inl ⟨rfl, rfl⟩
  · exact Or.inl ⟨rfl, rfl⟩
  · exact Or.inl ⟨rfl, rfl⟩⟩
theorem aw_X4_25 : AWK RX4 25 3 := ⟨tG1 (i := 104) (by decide +kernel) (by decide +kernel), by decide +kernel⟩
theorem nw_X4_32 : NWK RX4 32 0 4 [0, 0, 0, 0] := ⟨(RX0, TX0, 4), rfl, rfl, rfl, tG1 (i := 156) (by decide +kernel) (by decide +kernel), tG1 (i := 158) (by decide +kernel) (by decide +kernel), tG1 (i := 7) (by decide +kernel) (by decide +kernel), uw_X0, tyX0, tyX0_ok, fun k hk => by
  have hk : k < 4 := hk
  have hc : k = 0 ∨ k = 1 ∨ k = 2 ∨ k = 3 := by omega
  rcases hc with rfl | rfl | rfl | rfl
  · exact Or.inl ⟨rfl, rfl⟩
  · exact Or.inl ⟨rfl, rfl⟩
  · exact Or.inl ⟨rfl, rfl⟩
  · exact Or.inl ⟨rfl, rfl⟩⟩
theorem aw_X4_32 : AWK RX4 32 0 := ⟨tG1 (i := 156) (by decide +kernel) (by decide +kernel), by decide +kernel⟩
theorem nw_X4_9 : NWK RX4 9 1 4 [0, 0, 0, 0] := ⟨(RX1, TX1, 4), rfl, rfl, rfl, tG1 (i := 58) (by decide +kernel) (by decide +kernel), tG1 (i := 60) (by decide +kernel) (by decide +kernel), tG1 (i := 4) (by decide +kernel) (by decide +kernel), uw_X1, tyX1, tyX1_ok, fun k hk => by
  have hk : k < 4 := hk
  have hc : k = 0 ∨ k = 1 ∨ k = 2 ∨ k = 3 := by omega
  rcases hc with rfl | rfl | rfl | rfl
  · exact Or.inl ⟨rfl, rfl⟩
  · exact Or.inl ⟨rfl, rfl⟩
  · exact Or.inl ⟨rfl, rfl⟩
  · exact Or.inl ⟨rfl, rfl⟩⟩
theorem aw_X4_9 : AWK RX4 9 1 := ⟨tG1 (i := 58) (by decide +kernel) (by decide +kernel), by decide +kernel⟩
theorem nw_L_14 : NWK RL 14 7 6 [1, 1, 1, 1, 1, 1] := ⟨(RX7, TX7, 6), rfl, rfl, rfl, tG1 (i := 17) (by decide +kernel) (by decide +kernel), tG1 (i := 18) (by decide +kernel) (by decide +kernel), tG1 (i := 1) (by decide +kernel) (by decide +kernel), uw_X7, tyX7, tyX7_ok, fun k hk => by
  have hk : k < 6 := hk
  have hc : k = 0 ∨ k = 1 ∨ k = 2 ∨ k = 3 ∨ k = 4 ∨ k = 5 := by omega
  rcases hc with rfl | rfl | rfl | rfl | rfl | rfl
  · exact Or.inr ⟨rfl, rfl⟩
  · exact Or.inr ⟨rfl, rfl⟩
  · exact Or.inr ⟨rfl, rfl⟩
  · exact Or.inr ⟨rfl, rfl⟩
  · exact Or.inr ⟨rfl, rfl⟩
  · exact Or.inr ⟨rfl, rfl⟩⟩
theorem ac_char : Cond.arrayClass .char ∈ tblG := tG1 (i := 50) (by decide +kernel) (by decide +kernel)
theorem ac_int : Cond.arrayClass .int ∈ tblG := tG1 (i := 51) (by decide +kernel) (by decide +kernel)
theorem ac_boolean : Cond.arrayClass .boolean ∈ tblG := tG2 (i := 43) (by decide +kernel) (by decide +kernel)
theorem ct_X0_init {X : Xs} {κ : Kp} {M : Mem} {Q : Rs → Kp → Mem → Prop} {r : Nat} (hQ : Q (.inl none) κ M) : Ct X m_X0_init [.ref r] κ M Q := by
  refine ct_of B_X0_init_0 pn_X0 rfl (nle rfl) L_X0_init_0 ?_
  refine g_aload_n rfl ?_
  refine g_objI ml_X0_3 obj_im obj_cd rfl (nle rfl) (nle rfl) ?_
  exact g_vret rfl (nle rfl) (nle rfl) hQ
theorem ct_X1_init {X : Xs} {κ : Kp} {M : Mem} {Q : Rs → Kp → Mem → Prop} {r : Nat} (hQ : Q (.inl none) κ M) : Ct X m_X1_init [.ref r] κ M Q := by
  refine ct_of B_X1_init_0 pn_X1 rfl (nle rfl) L_X1_init_0 ?_
  refine g_aload_n rfl ?_
  refine g_objI ml_X1_3 obj_im obj_cd rfl (nle rfl) (nle rfl) ?_
  exact g_vret rfl (nle rfl) (nle rfl) hQ
theorem ct_X3_init {X : Xs} {κ : Kp} {M : Mem} {Q : Rs → Kp → Mem → Prop} {r : Nat} (hQ : Q (.inl none) κ M) : Ct X m_X3_init [.ref r] κ M Q := by
  refine ct_of B_X3_init_0 pn_X3 rfl (nle rfl) L_X3_init_0 ?_
  refine g_aload_n rfl ?_
  refine g_objI ml_X3_1 obj_im obj_cd rfl (nle rfl) (nle rfl) ?_
  exact g_vret rfl (nle rfl) (nle rfl) hQ
theorem ct_X5_init {X : Xs} {κ : Kp} {M : Mem} {Q : Rs → Kp → Mem → Prop} {r : Nat} (hQ : Q (.inl none) κ M) : Ct X m_X5_init [.ref r] κ M Q := by
  refine ct_of B_X5_init_0 pn_X5 rfl (nle rfl) L_X5_init_0 ?_
  refine g_aload_n rfl ?_
  refine g_objI ml_X5_1 obj_im obj_cd rfl (nle rfl) (nle rfl) ?_
  exact g_vret rfl (nle rfl) (nle rfl) hQ
set_option maxRecDepth 100000 in
theorem ct_X6_init {X : Xs} {S : Nat → Option Sh} {M : Mem} {Q : Rs → Kp → Mem → Prop} {o : Nat} (hs : S o = some (6, 6, [1, 1, 0, 0, 0, 0])) (hQ : ∀ (S' : Nat → Option Sh) (M' : Mem), (∀ r, r < o → S' r = S r) → IsTxt S' o → (∀ r, r ≤ o → M' r = M r) → (∀ j, M' (o + 1) j = 0) → Q (.inl none) (o + 2, S', true) M') : Ct X m_X6_init [.ref o] (o, S, true) M Q := by
  refine ct_of B_X6_init_0 pn_X6 rfl (nle rfl) L_X6_init_0 ?_
  refine g_aload_n rfl ?_
  refine g_objI ml_X6_3 obj_im obj_cd rfl (nle rfl) (nle rfl) ?_
  refine g_aload_n rfl ?_
  refine g_bipush (v := 120) bk_120 ?_
  refine g_newarray (tag := 17) (N := 120) ac_char ⟨by decide, by decide⟩ rfl rfl (by decide) rfl (nle rfl) (nle rfl) ?_
  refine g_putR pl_X6_9 rfl rfl ((upS_o _ _ _ (by omega)).trans hs) (fun _ => rfl) (fun _ => rfl) ?_
  refine g_ab (by omega) (fun S1 M1 a1 a2 a3 a4 a5 => ?_)
  refine g_aload_n rfl ?_
  refine g_bipush (v := 6) bk_6 ?_
  refine g_newarray (tag := 16) (N := 6) ac_int ⟨by decide, by decide⟩ rfl rfl (by decide) rfl (nle rfl) (nle rfl) ?_
  refine g_putR pl_X6_15 rfl rfl ((upS_o _ _ _ (by show o ≠ o + 1 + 1; omega)).trans a1) (fun _ => rfl) (fun _ => rfl) ?_
  refine g_ab (by show o + 1 + 1 ≠ o; omega) (fun S2 M2 b1 b2 b3 b4 b5 => ?_)
  refine g_vret rfl (nle rfl) (nle rfl) ?_
  have h1 : S2 (o + 1) = some (17, 120, []) := (b3 (o + 1) (by omega) (by show o + 1 ≠ o + 1 + 1; omega)).trans a2
  refine hQ S2 M2 (fun r hr => (b3 r (by omega) (by show r ≠ o + 1 + 1; omega)).trans (a3 r (by omega) (by show r ≠ o + 1; omega))) ⟨b1, h1, b2⟩ (fun r hr => (b4 r (by show r ≠ o + 1 + 1; omega)).trans (a4 r (by show r ≠ o + 1; omega))) (fun j => ?_)
  rw [b4 (o + 1) (by show o + 1 ≠ o + 1 + 1; omega)]
  exact a5 j
