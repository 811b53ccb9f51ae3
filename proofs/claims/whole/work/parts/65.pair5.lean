set_option maxHeartbeats 1000000 in
theorem pr_append {X : Xs} {κ : Kp} {M : Mem} {x m out B : Nat} (hx : IsDF κ.2.1 x) (hm : IsMod κ.2.1 m) (hd : x + 674 ≤ m) (ho : m + 5 ≤ out) (hJ : J B M x m) {c : Int32} : Ct X m_X7_append [.ref x, .int c] κ M (Pst X κ x m out (B + 1100) m_X8_append [.int c] [(0, 1), (1, 2)]) := by
  have hJ0 := hJ
  obtain ⟨cnt, len, fb, hS, hc, h2, hH, h5, h6, h7, h8, h9, h10, h11⟩ := hJ
  have hI := hS.sr.ir
  have hl := h10.1
  refine ct_X7_append hx h8 hl (fun q1 => ?_) (fun q1 q2 => ?_) (fun q1 q2 => ?_)
  · refine ⟨1, 0, Or.inr ⟨0, rfl, by decide, rfl⟩, fun M1' hM Q hQ => ?_⟩
    have e0 : M1' m = M m := hM _ (by omega)
    exact ct_X8_append (κ := (κ.1, κ.2.1, false)) (Q := Q) hm (by rw [e0]; exact h9) hl (fun _ => hQ _ _ (J_err hJ0 hd ho (by omega) hM) (upM_s _ _ _ _) (funext fun j => upM_o _ _ _ _ (by omega) j) (fun q => absurd q (by decide))) (fun a _ => Bne q1 a) (fun a _ _ _ _ _ _ => Bne q1 a)
  · refine ⟨2, 0, Or.inr ⟨1, rfl, by decide, rfl⟩, fun M1' hM Q hQ => ?_⟩
    have e0 : M1' m = M m := hM _ (by omega)
    exact ct_X8_append (κ := (κ.1, κ.2.1, false)) (Q := Q) hm (by rw [e0]; exact h9) hl (fun a => Bne a q1) (fun _ _ => hQ _ _ (J_err hJ0 hd ho (by omega) hM) (upM_s _ _ _ _) (funext fun j => upM_o _ _ _ _ (by omega) j) (fun q => absurd q (by decide))) (fun _ l _ _ _ _ _ => absurd l (by omega))
  · refine ⟨0, _, Or.inl ⟨rfl, rfl, rfl⟩, fun M1' hM Q hQ => ?_⟩
    have F : ∀ r, r ≠ x + 1 → r ≠ x + 1 + 1 → (upM (upM M (x + 1 + 1) len c) (x + 1) 2 (nI (len + 1))) r = M r := fun r a b => funext fun j => by rw [upM_o _ _ _ _ a, upM_o _ _ _ _ b]
    have T : (upM (upM M (x + 1 + 1) len c) (x + 1) 2 (nI (len + 1))) (x + 1 + 1) = upd (M (m + 3)) len c := by
      funext j
      rw [upM_o _ _ _ _ (by omega), upM_f, h11]
    have T2 : (upM (upM M (x + 1 + 1) len c) (x + 1) 2 (nI (len + 1))) (x + 1) 2 = nI (len + 1) := upM_s _ _ _ _
    generalize (upM (upM M (x + 1 + 1) len c) (x + 1) 2 (nI (len + 1))) = M1 at F T T2 hM
    have e0 : M1' m = M m := (hM _ (by omega)).trans (F _ (by omega) (by omega))
    have e3 : M1' (m + 3) = M (m + 3) := (hM _ (by omega)).trans (F _ (by omega) (by omega))
    refine ct_X8_append (Q := Q) hm (by rw [e0]; exact h9) hl (fun a => Bne a q1) (fun _ l => absurd l (by omega)) (fun a l M2 b1 b2 b3 b4 => ?_)
    have E : ∀ r, r ≠ m → r ≠ m + 3 → r ≠ x + 1 → r ≠ x + 1 + 1 → r ≠ out → M2 r = M r := fun r p1 p2 p3 p4 p5 => (b3.1 r p1 p2).trans ((hM r p5).trans (F r p3 p4))
    refine hQ _ _ ⟨cnt, len + 1, fb, ?_, hc, ?_, ?_, fun i hi => ?_, fun i hi => ?_, fun i hi hb => ?_, ?_, b1, ?_, ?_⟩ b4 (b3.1 out (by omega) (by omega)) (fun _ => rfl)
    · rw [E (m + 1) (by omega) (by omega) (by omega) (by omega) (by omega)]
      exact (hS.fr fun r p q => E r (by omega) (by omega) (by omega) (by omega) (by omega)).up (by omega)
    · rw [b3.2 2 (by omega) (by omega), e0]; exact h2
    · rw [E (m + 1) (by omega) (by omega) (by omega) (by omega) (by omega)]
      exact (hH.fr fun r p q => E r (by omega) (by omega) (by omega) (by omega) (by omega)).up (by omega)
    · rw [E _ (by omega) (by omega) (by omega) (by omega) (by omega)]; exact h5 i hi
    · rw [E _ (by omega) (by omega) (by omega) (by omega) (by omega)]; exact h6 i hi
    · rw [E (m + 1) (by omega) (by omega) (by omega) (by omega) (by omega)]
      exact ((h7 i hi hb).fr fun r p q => E r (by omega) (by omega) (by omega) (by omega) (by omega)).up (by omega)
    · rw [b3.1 (x + 1) (by omega) (by omega), hM (x + 1) (by omega)]; exact T2
    · rw [b2, e3]
      refine ⟨by omega, fun j hj => ?_⟩
      by_cases h : j = len
      · subst h
        rw [upd_same]
        obtain ⟨n, _, n2, n3⟩ := in_rng (lo := 0) (hi := 255) (by omega) (by omega) rfl rfl q1
        exact ⟨n, by omega, n3⟩
      · rw [upd_ne h]; exact h10.2 j (by omega)
    · rw [b3.1 (x + 1 + 1) (by omega) (by omega), hM (x + 1 + 1) (by omega), T, b2, e3]
set_option maxHeartbeats 1000000 in
theorem pr_clearText {X : Xs} {κ : Kp} {M : Mem} {x m out B : Nat} (hx : IsDF κ.2.1 x) (hm : IsMod κ.2.1 m) (hd : x + 674 ≤ m) (ho : m + 5 ≤ out) (hJ : J B M x m) : Ct X m_X7_clearText [.ref x] κ M (Pst X κ x m out (B + 1100) m_X8_clearText [] []) := by
  have hJ0 := hJ
  obtain ⟨cnt, len, fb, hS, hc, h2, hH, h5, h6, h7, h8, h9, h10, h11⟩ := hJ
  have hI := hS.sr.ir
  refine ct_X7_clearText hx h8 ?_
  refine ⟨0, _, Or.inl ⟨rfl, rfl, rfl⟩, fun M1' hM Q hQ => ?_⟩
  have F : ∀ r, r ≠ x + 1 → upM M (x + 1) 2 0 r = M r := fun r a => funext fun j => by rw [upM_o _ _ _ _ a]
  have F2 : ∀ r, r ≠ x + 1 → r ≠ out → M1' r = M r := fun r a b => (hM r b).trans (F r a)
  refine ct_X8_clearText (Q := Q) hm (by rw [F2 m (by omega) (by omega)]; exact h9) ?_
  have E : ∀ r, r ≠ m → upM (upM M1' m 0 0) m 5 0 r = M1' r := fun r a => funext fun j => by rw [upM_o _ _ _ _ a, upM_o _ _ _ _ a]
  have E2 : ∀ r, r ≠ m → r ≠ x + 1 → r ≠ out → upM (upM M1' m 0 0) m 5 0 r = M r := fun r a b c => (E r a).trans (F2 r b c)
  have G5 : upM (upM M1' m 0 0) m 5 0 m 5 = 0 := upM_s _ _ _ _
  have G0 : upM (upM M1' m 0 0) m 5 0 m 0 = 0 := by rw [upM_j _ _ _ _ (by omega)]; exact upM_s _ _ _ _
  have G2 : upM (upM M1' m 0 0) m 5 0 m 2 = M m 2 := by rw [upM_j _ _ _ _ (by omega), upM_j _ _ _ _ (by omega), F2 m (by omega) (by omega)]
  generalize upM (upM M1' m 0 0) m 5 0 = M2 at E E2 G5 G0 G2
  refine hQ _ _ ⟨cnt, 0, fb, ?_, hc, G2.trans h2, ?_, fun i hi => ?_, fun i hi => ?_, fun i hi hb => ?_, ?_, G5, ⟨by omega, fun j hj => absurd hj (by omega)⟩, ?_⟩ G0 (E out (by omega)) (fun _ => rfl)
  · rw [E2 (m + 1) (by omega) (by omega) (by omega)]
    exact (hS.fr fun r p q => E2 r (by omega) (by omega) (by omega)).up (by omega)
  · rw [E2 (m + 1) (by omega) (by omega) (by omega)]
    exact (hH.fr fun r p q => E2 r (by omega) (by omega) (by omega)).up (by omega)
  · rw [E2 _ (by omega) (by omega) (by omega)]; exact h5 i hi
  · rw [E2 _ (by omega) (by omega) (by omega)]; exact h6 i hi
  · rw [E2 (m + 1) (by omega) (by omega) (by omega)]
    exact ((h7 i hi hb).fr fun r p q => E2 r (by omega) (by omega) (by omega)).up (by omega)
  · rw [E (x + 1) (by omega), hM (x + 1) (by omega)]; exact upM_s _ _ _ _
  · rw [E2 (x + 1 + 1) (by omega) (by omega) (by omega), E2 (m + 3) (by omega) (by omega) (by omega)]; exact h11
theorem J_read {B B' : Nat} {M M1 M1' M2 : Mem} {x m out : Nat} (hJ : J B M x m) (hd : x + 674 ≤ m) (ho : m + 5 ≤ out) (hB : B ≤ B') (h1 : FrC M M1 (x + 1)) (hM1 : ∀ r, r ≠ out → M1' r = M1 r) (h2 : ∀ r, r ≠ m → r ≠ m + 4 → M2 r = M1' r) (h3 : M2 m 2 = M1' m 2) (h4 : M2 m 5 = M1' m 5) : J B' M2 x m := by
  have E : ∀ r, r ≠ m → r ≠ m + 4 → r ≠ x + 1 → r ≠ x + 1 + 2 → r ≠ out → M2 r = M r := fun r a b c d e => (h2 r a b).trans ((hM1 r e).trans (h1.1 r c d))
  have e0 : M1' m = M m := (hM1 m (by omega)).trans (h1.1 m (by omega) (by omega))
  exact J_keep hJ hB (fun r h => E r (by omega) (by omega) (by omega) (by omega) (by omega)) (by rw [h2 (x + 1) (by omega) (by omega), hM1 (x + 1) (by omega)]; exact h1.2) (E _ (by omega) (by omega) (by omega) (by omega) (by omega)) (fun j _ => congrFun (E _ (by omega) (by omega) (by omega) (by omega) (by omega)) j) (h3.trans (congrFun e0 2)) (h4.trans (congrFun e0 5)) (E _ (by omega) (by omega) (by omega) (by omega) (by omega)) (E _ (by omega) (by omega) (by omega) (by omega) (by omega))
theorem Pne {t : Nat → Int32} {len a b : Nat} {p : Prop} (h : isSt t len = (true, a)) (g : isSt t len = (false, b)) : p := by rw [h] at g; cases g
theorem pr_errorPosition {X : Xs} {κ : Kp} {M : Mem} {x m out B : Nat} (hx : IsDF κ.2.1 x) (hm : IsMod κ.2.1 m) (hd : x + 674 ≤ m) (ho : m + 5 ≤ out) (hJ : J B M x m) : Ct X m_X7_errorPosition [.ref x] κ M (Pst X κ x m out (B + 1100) m_X8_errorPosition [] []) := by
  have hJ0 := hJ
  obtain ⟨cnt, len, fb, hS, hc, h2, hH, h5, h6, h7, h8, h9, h10, h11⟩ := hJ
  have hI := hS.sr.ir
  have R : ∀ (M1 M1' M2 : Mem), FrC M M1 (x + 1) → (∀ r, r ≠ out → M1' r = M1 r) → FrU (upM M1' m 0 0) M2 m → J (B + 1100) M2 x m ∧ M2 m 0 = nI 0 ∧ M2 out = M1' out := fun M1 M1' M2 g1 hM g4 => by
    have U : ∀ r, r ≠ m → upM M1' m 0 0 r = M1' r := fun r a => funext fun j => upM_o _ _ _ _ a j
    refine ⟨J_read hJ0 hd ho (by omega) g1 hM (fun r a b => (g4.1 r a b).trans (U r a)) ?_ ?_, ?_, (g4.1 out (by omega) (by omega)).trans (U out (by omega))⟩
    · rw [g4.2 2 (by omega) (by omega), upM_j _ _ _ _ (by omega)]
    · rw [g4.2 5 (by omega) (by omega), upM_j _ _ _ _ (by omega)]
    · rw [g4.2 0 (by omega) (by omega)]; exact upM_s _ _ _ _
  refine ct_X7_errorPosition hx h8 h11 h10 (fun e he M1 g1 => ?_) (fun e he M1 g1 => ?_)
  · refine ⟨0, _, Or.inl ⟨rfl, rfl, rfl⟩, fun M1' hM Q hQ => ?_⟩
    have e0 : M1' m = M m := (hM _ (by omega)).trans (g1.1 _ (by omega) (by omega))
    have e3 : M1' (m + 3) = M (m + 3) := (hM _ (by omega)).trans (g1.1 _ (by omega) (by omega))
    refine ct_X8_errorPosition (Q := Q) hm (by rw [e0]; exact h9) e3 h10 (fun a ha M2 g4 => Pne ha he) (fun a ha M2 g4 => ?_)
    obtain ⟨r1, r2, r3⟩ := R M1 M1' M2 g1 hM g4
    refine hQ _ _ r1 r2 r3 (fun _ => ?_)
    have := ha.symm.trans he
    rw [(Prod.mk.inj this).2]
  · refine ⟨0, _, Or.inl ⟨rfl, rfl, rfl⟩, fun M1' hM Q hQ => ?_⟩
    have e0 : M1' m = M m := (hM _ (by omega)).trans (g1.1 _ (by omega) (by omega))
    have e3 : M1' (m + 3) = M (m + 3) := (hM _ (by omega)).trans (g1.1 _ (by omega) (by omega))
    refine ct_X8_errorPosition (Q := Q) hm (by rw [e0]; exact h9) e3 h10 (fun a ha M2 g4 => ?_) (fun a ha M2 g4 => Pne he ha)
    obtain ⟨r1, r2, r3⟩ := R M1 M1' M2 g1 hM g4
    exact hQ _ _ r1 r2 r3 (fun _ => rfl)
theorem pr_load {X : Xs} {κ : Kp} {M : Mem} {x m out B : Nat} (hx : IsDF κ.2.1 x) (hm : IsMod κ.2.1 m) (hd : x + 674 ≤ m) (ho : m + 5 ≤ out) (hJ : J B M x m) : Ct X m_X7_load [.ref x] κ M (Pst X κ x m out (B + 1100) m_X8_load [] [(1, 1)]) := by
  have hJ0 := hJ
  obtain ⟨cnt, len, fb, hS, hc, h2, hH, h5, h6, h7, h8, h9, h10, h11⟩ := hJ
  have hI := hS.sr.ir
  refine ct_X7_load hx h8 h11 h10 (M (m + 1)) (fun e he M1 g1 => ?_) (fun he M1 g1 g2 g3 g4 g5 g6 g7 => ?_)
  · refine ⟨1, 0, Or.inr ⟨1, rfl, by decide, rfl⟩, fun M1' hM Q hQ => ?_⟩
    have e0 : M1' m = M m := (hM _ (by omega)).trans (g1.1 _ (by omega) (by omega))
    have e3 : M1' (m + 3) = M (m + 3) := (hM _ (by omega)).trans (g1.1 _ (by omega) (by omega))
    refine ct_X8_load (κ := (κ.1, κ.2.1, false)) (Q := Q) hm (by rw [e0]; exact h9) e3 h10 (fun a ha M2 u => ?_) (fun ha M2 _ _ _ _ => ha.elim fun a ha => Pne ha he)
    have U : ∀ r, r ≠ m → upM M2 m 0 1 r = M2 r := fun r a => funext fun j => upM_o _ _ _ _ a j
    refine hQ _ _ (J_read hJ0 hd ho (by omega) g1 hM (fun r a b => (U r a).trans (u.1 r a b)) ?_ ?_) (upM_s _ _ _ _) ((U out (by omega)).trans (u.1 out (by omega) (by omega))) (fun q => absurd q (by decide))
    · rw [upM_j _ _ _ _ (by omega)]; exact u.2 2 (by omega) (by omega)
    · rw [upM_j _ _ _ _ (by omega)]; exact u.2 5 (by omega) (by omega)
  · refine ⟨0, _, Or.inl ⟨rfl, rfl, rfl⟩, fun M1' hM Q hQ => ?_⟩
    have e0 : M1' m = M m := (hM _ (by omega)).trans (g7 _ (by omega))
    have e1 : M1' (m + 1) = M (m + 1) := (hM _ (by omega)).trans (g7 _ (by omega))
    have e3 : M1' (m + 3) = M (m + 3) := (hM _ (by omega)).trans (g7 _ (by omega))
    refine ct_X8_load (Q := Q) hm (by rw [e0]; exact h9) e3 h10 (fun a ha M2 u => he.elim fun b hb => Pne hb ha) (fun ha M2 u1 u2 u3 u4 => ?_)
    rw [e1] at u1 ⊢
    obtain ⟨v1, v2, v3, v4, v5, v6⟩ := u4
    have E : ∀ r, r < x + 674 → M2 r = M1 r := fun r h => (v1 r (by omega) (by omega) (by omega) (by omega)).trans (hM r (by omega))
    refine hQ _ _ ⟨0, len, fun _ => false, ?_, by omega, v3, ?_, fun i hi => ?_, fun i hi => ?_, fun i hi hb => Bool.noConfusion hb, ?_, ?_, ?_, ?_⟩ v4 (v1 out (by omega) (by omega) (by omega) (by omega)) (fun _ => rfl)
    · rw [u1]; exact (g1.fr fun r p q => E r (by omega)).up (by omega)
    · exact (g2 _ _).fr fun r p q => E r (by omega)
    · rw [E _ (by omega)]
      rcases (show i = 0 ∨ i = 1 by omega) with rfl | rfl
      · exact g3
      · exact g4
    · rcases (show i = 0 ∨ i = 1 by omega) with rfl | rfl
      · exact v5
      · exact v6
    · rw [E _ (by omega), g6]; exact h8
    · rw [v2, e0]; exact h9
    · rw [v1 (m + 3) (by omega) (by omega) (by omega) (by omega), e3]; exact h10
    · rw [E _ (by omega), g5, v1 (m + 3) (by omega) (by omega) (by omega) (by omega), e3]; exact h11
