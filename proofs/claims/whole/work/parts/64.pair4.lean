set_option maxHeartbeats 1000000 in
theorem pr_tune {X : Xs} {κ : Kp} {M : Mem} {x m out B : Nat} (hx : IsDF κ.2.1 x) (hm : IsMod κ.2.1 m) (hd : x + 674 ≤ m) (ho : m + 5 ≤ out) (hJ : J B M x m) {w v : Int32} : Ct X m_X7_tune [.ref x, .int w, .int v] κ M (Pst X κ x m out (B + 1100) m_X8_tune [.int w, .int v] [(0, 1)]) := by
  have hJ0 := hJ
  obtain ⟨cnt, len, fb, hS, hc, h2, hH, -⟩ := hJ
  have hI := hS.sr.ir
  have hIr : IR B (rmS cnt (M (m + 1))) := hI.cg fun j hj => rm_low hj
  refine ct_X7_tune hx (s := rmS cnt (M (m + 1))) (hS.cg fun j hj => rm_low hj) hH (fun q1 => ?_) (fun q1 k hk ek M1 g1 g2 g3 => ?_)
  · have z1 := q1
    refine ⟨1, 0, Or.inr ⟨0, rfl, by decide, rfl⟩, fun M1' hM Q hQ => ?_⟩
    have e1 : M1' (m + 1) = M (m + 1) := hM _ (by omega)
    have e0 : M1' m = M m := hM _ (by omega)
    exact ct_X8_tune (κ := (κ.1, κ.2.1, false)) (Q := Q) hm e1 hI (by rw [e0]; exact h2) hc (fun a1 => hQ _ _ (J_err hJ0 hd ho (by omega) hM) (upM_s _ _ _ _) (funext fun j => upM_o _ _ _ _ (by omega) j) (fun q => absurd q (by decide))) (fun a1 k' hk' ek' M2 g4 => Bne z1 a1)
  · have z1 := q1
    subst ek
    refine ⟨0, _, Or.inl ⟨rfl, rfl, rfl⟩, fun M1' hM Q hQ => ?_⟩
    have e1 : M1' (m + 1) = M (m + 1) := (hM _ (by omega)).trans (g3 _ (by omega) (by omega))
    have e0 : M1' m = M m := (hM _ (by omega)).trans (g3 _ (by omega) (by omega))
    refine ct_X8_tune (Q := Q) hm e1 hI (by rw [e0]; exact h2) hc (fun a1 => Bne a1 z1) (fun a1 k' hk' ek' M2 g4 => ?_)
    obtain rfl := (nI_eq (by omega) (by omega)).mp ek'
    exact hQ _ _ (J_act hJ0 hd ho (by omega) h2 hc (g1.up (by omega)) (g2.up (by omega)) g3 hM g4 (fun j hj => upd_ne (by omega))) g4.2.1 (g4.2.2.2.1 out (by omega) (by omega)) (fun _ => rfl)
/-- one block set from elsewhere, what is remembered cut -/
theorem J_blk {B B' : Nat} {M M1 M1' M2 : Mem} {x m out c : Nat} {f : Nat → Int32} (hJ : J B M x m) (hd : x + 674 ≤ m) (ho : m + 5 ≤ out) (hB : B ≤ B') (hc : c ≤ 14) (g1 : SF B' M1 (x + 4) f) (g2 : HisOK B' M1 (x + 78) c (fun i => bk f (i + 1))) (g3 : FrA M M1 x) (hM1 : ∀ r, r ≠ out → M1' r = M1 r) (g4 : AN M1' M2 m c f) (hf : ∀ j, 2835 ≤ j → f j = M (m + 1) j) : J B' M2 x m := by
  obtain ⟨cnt', len, fb, a1, a2, a3, a4, a5, a6, a7, a8, a9, a10, a11⟩ := hJ
  obtain ⟨b1, b2, b3, b4, b5⟩ := g4
  have E : ∀ r, r < x + 674 → M2 r = M1 r := fun r h => (b4 r (by omega) (by omega)).trans (hM1 r (by omega))
  refine ⟨c, len, fb, ?_, hc, b3, ?_, fun k hk => ?_, fun k hk => ?_, fun k hk hb => ?_, ?_, ?_, ?_, ?_⟩
  · rw [b1]; exact g1.fr fun r p q => E r (by omega)
  · rw [b1]; exact g2.fr fun r p q => E r (by omega)
  · rw [E _ (by omega), g3 (x + 673) (by omega) (by omega)]; exact a5 k hk
  · rw [b4 (m + 2) (by omega) (by omega), hM1 (m + 2) (by omega), g3 (m + 2) (by omega) (by omega)]; exact a6 k hk
  · rw [b1]
    refine ((a7 k hk hb).fr fun r p q => ?_).cg (fun j hj => ?_) |>.up hB
    · rw [E r (by omega)]; exact g3 r (by omega) (by omega)
    · exact hf _ (by omega)
  · rw [E _ (by omega), g3 (x + 1) (by omega) (by omega)]; exact a8
  · rw [b5 5 (by omega) (by omega), hM1 m (by omega), g3 m (by omega) (by omega)]; exact a9
  · rw [b4 (m + 3) (by omega) (by omega), hM1 (m + 3) (by omega), g3 (m + 3) (by omega) (by omega)]; exact a10
  · rw [E _ (by omega), g3 (x + 1 + 1) (by omega) (by omega), b4 (m + 3) (by omega) (by omega), hM1 (m + 3) (by omega), g3 (m + 3) (by omega) (by omega)]; exact a11
theorem bk_cp {s : Nat → Int32} {a j : Nat} (hj : j < 189) : cpB s a 0 189 j = bk s a j := by
  have := cpB_in (s := s) (a := a) (b := 0) hj
  rw [Nat.mul_zero, Nat.zero_add] at this
  exact this
theorem pr_undo {X : Xs} {κ : Kp} {M : Mem} {x m out B : Nat} (hx : IsDF κ.2.1 x) (hm : IsMod κ.2.1 m) (hd : x + 674 ≤ m) (ho : m + 5 ≤ out) (hJ : J B M x m) : Ct X m_X7_undo [.ref x] κ M (Pst X κ x m out (B + 1100) m_X8_undo [] [(1, 1)]) := by
  have hJ0 := hJ
  obtain ⟨cnt, len, fb, hS, hc, h2, hH, h5, h6, h7, h8, h9, h10, h11⟩ := hJ
  have hI := hS.sr.ir
  refine ct_X7_undo hx hH (fun q => ?_) (fun q M1 g1 g2 g3 => ?_)
  · refine ⟨1, 0, Or.inr ⟨1, rfl, by decide, rfl⟩, fun M1' hM Q hQ => ?_⟩
    have e1 : M1' (m + 1) = M (m + 1) := hM _ (by omega)
    have e0 : M1' m = M m := hM _ (by omega)
    exact ct_X8_undo (κ := (κ.1, κ.2.1, false)) (Q := Q) hm e1 (by rw [e0]; exact h2) hc (fun _ => hQ _ _ (J_err hJ0 hd ho (by omega) hM) (upM_s _ _ _ _) (funext fun j => upM_o _ _ _ _ (by omega) j) (fun q => absurd q (by decide))) (fun a M2 g4 => absurd q (by omega))
  · refine ⟨0, _, Or.inl ⟨rfl, rfl, rfl⟩, fun M1' hM Q hQ => ?_⟩
    have e1 : M1' (m + 1) = M (m + 1) := (hM _ (by omega)).trans (g3 _ (by omega) (by omega))
    have e0 : M1' m = M m := (hM _ (by omega)).trans (g3 _ (by omega) (by omega))
    refine ct_X8_undo (Q := Q) hm e1 (by rw [e0]; exact h2) hc (fun a => absurd q (by omega)) (fun a M2 g4 => ?_)
    refine hQ _ _ (J_blk hJ0 hd ho (by omega) (by omega) ((g2.cg (fun j hj => ?_)).up (by omega)) ((g1.cg (fun i j hi hj => ?_)).up (by omega)) g3 hM g4 (fun j hj => cpB_out (by omega))) g4.2.1 (g4.2.2.2.1 out (by omega) (by omega)) (fun _ => rfl)
    · rw [bk_cp hj, show cnt - 1 + 1 = cnt by omega]
    · exact cpB_out (by omega)
theorem pr_restore {X : Xs} {κ : Kp} {M : Mem} {x m out B : Nat} (hx : IsDF κ.2.1 x) (hm : IsMod κ.2.1 m) (hd : x + 674 ≤ m) (ho : m + 5 ≤ out) (hJ : J B M x m) {v : Int32} : Ct X m_X7_restore [.ref x, .int v] κ M (Pst X κ x m out (B + 1100) m_X8_restore [.int v] [(2, 1), (1, 2)]) := by
  have hJ0 := hJ
  obtain ⟨cnt, len, fb, hS, hc, h2, hH, h5, h6, h7, h8, h9, h10, h11⟩ := hJ
  have hI := hS.sr.ir
  refine ct_X7_restore hx (sv := fun k => bk (M (m + 1)) (15 + k)) h5 h7 (fun q => ?_) (fun q k hk ek q2 => ?_) (fun q k hk ek q2 M1 g1 g2 g3 => ?_)
  · refine ⟨1, 0, Or.inr ⟨2, rfl, by decide, rfl⟩, fun M1' hM Q hQ => ?_⟩
    have e1 : M1' (m + 1) = M (m + 1) := hM _ (by omega)
    have e2 : M1' (m + 2) = M (m + 2) := hM _ (by omega)
    exact ct_X8_restore (κ := (κ.1, κ.2.1, false)) (Q := Q) hm e1 (fb := fb) (by rw [e2]; exact h6) (fun _ => hQ _ _ (J_err hJ0 hd ho (by omega) hM) (upM_s _ _ _ _) (funext fun j => upM_o _ _ _ _ (by omega) j) (fun q => absurd q (by decide))) (fun a _ _ _ _ => Bne q a) (fun a _ _ _ _ _ _ => Bne q a)
  · refine ⟨2, 0, Or.inr ⟨1, rfl, by decide, rfl⟩, fun M1' hM Q hQ => ?_⟩
    subst ek
    have e1 : M1' (m + 1) = M (m + 1) := hM _ (by omega)
    have e2 : M1' (m + 2) = M (m + 2) := hM _ (by omega)
    refine ct_X8_restore (κ := (κ.1, κ.2.1, false)) (Q := Q) hm e1 (fb := fb) (by rw [e2]; exact h6) (fun a => Bne a q) (fun _ _ _ _ _ => hQ _ _ (J_err hJ0 hd ho (by omega) hM) (upM_s _ _ _ _) (funext fun j => upM_o _ _ _ _ (by omega) j) (fun q => absurd q (by decide))) (fun a k' hk' ek' a2 _ _ => ?_)
    obtain rfl := (nI_eq (by omega) (by omega)).mp ek'
    exact Bne q2 a2
  · refine ⟨0, _, Or.inl ⟨rfl, rfl, rfl⟩, fun M1' hM Q hQ => ?_⟩
    subst ek
    have e1 : M1' (m + 1) = M (m + 1) := (hM _ (by omega)).trans (g3 _ (by omega) (by omega))
    have e2 : M1' (m + 2) = M (m + 2) := (hM _ (by omega)).trans (g3 _ (by omega) (by omega))
    refine ct_X8_restore (Q := Q) hm e1 (fb := fb) (by rw [e2]; exact h6) (fun a => Bne a q) (fun a k' hk' ek' a2 => ?_) (fun a k' hk' ek' a2 M2 g4 => ?_)
    · obtain rfl := (nI_eq (by omega) (by omega)).mp ek'
      exact Bne a2 q2
    · obtain rfl := (nI_eq (by omega) (by omega)).mp ek'
      exact hQ _ _ (J_blk hJ0 hd ho (by omega) (by omega) ((g1.cg (fun j hj => bk_cp hj)).up (by omega)) (g2 _ _) g3 hM g4 (fun j hj => cpB_out (by omega))) g4.2.1 (g4.2.2.2.1 out (by omega) (by omega)) (fun _ => bk_cp (by omega))
theorem pr_save {X : Xs} {κ : Kp} {M : Mem} {x m out B : Nat} (hx : IsDF κ.2.1 x) (hm : IsMod κ.2.1 m) (hd : x + 674 ≤ m) (ho : m + 5 ≤ out) (hJ : J B M x m) {v : Int32} : Ct X m_X7_save [.ref x, .int v] κ M (Pst X κ x m out (B + 1100) m_X8_save [.int v] [(2, 1)]) := by
  have hJ0 := hJ
  obtain ⟨cnt, len, fb, hS, hc, h2, hH, h5, h6, h7, h8, h9, h10, h11⟩ := hJ
  have hI := hS.sr.ir
  refine ct_X7_save hx hS (fun q => ?_) (fun q k hk ek M1 g1 g2 g3 g4 => ?_)
  · refine ⟨1, 0, Or.inr ⟨2, rfl, by decide, rfl⟩, fun M1' hM Q hQ => ?_⟩
    have e1 : M1' (m + 1) = M (m + 1) := hM _ (by omega)
    exact ct_X8_save (κ := (κ.1, κ.2.1, false)) (Q := Q) hm e1 (fun _ => hQ _ _ (J_err hJ0 hd ho (by omega) hM) (upM_s _ _ _ _) (funext fun j => upM_o _ _ _ _ (by omega) j) (fun q => absurd q (by decide))) (fun a _ _ _ _ _ => Bne q a)
  · refine ⟨0, _, Or.inl ⟨rfl, rfl, rfl⟩, fun M1' hM Q hQ => ?_⟩
    subst ek
    have e1 : M1' (m + 1) = M (m + 1) := (hM _ (by omega)).trans (g4 _ (by omega) (by omega))
    refine ct_X8_save (Q := Q) hm e1 (fun a => Bne a q) (fun a k' hk' ek' M2 g5 => ?_)
    obtain rfl := (nI_eq (by omega) (by omega)).mp ek'
    obtain ⟨b1, b2, b3, b4, b5, b6⟩ := g5
    have E : ∀ r, r < x + 674 → M2 r = M1 r := fun r h => (b5 r (by omega) (by omega) (by omega)).trans (hM r (by omega))
    refine hQ _ _ ⟨cnt, len, fun i => if i = k then true else fb i, ?_, hc, ?_, ?_, fun i hi => ?_, fun i hi => ?_, fun i hi hb => ?_, ?_, ?_, ?_, ?_⟩ b2 (b5 out (by omega) (by omega) (by omega)) (fun _ => rfl)
    · rw [b1]
      exact ((hS.fr fun r p q => (E r (by omega)).trans (g4 r (by omega) (by omega))).cg fun j hj => cpB_out (by omega)).up (by omega)
    · rw [b6 2 (by omega), hM m (by omega), g4 m (by omega) (by omega)]; exact h2
    · rw [b1]
      exact ((hH.fr fun r p q => (E r (by omega)).trans (g4 r (by omega) (by omega))).cg fun i j hi hj => show cpB (M (m + 1)) 0 (15 + k) 189 (189 * (i + 1) + j) = M (m + 1) (189 * (i + 1) + j) from cpB_out (by omega)).up (by omega)
    · rw [E _ (by omega)]
      by_cases h : i = k
      · subst h; rw [g2]; exact congrArg bI (if_pos rfl : (if i = i then true else fb i) = true).symm
      · rw [g3 i h]; exact (h5 i hi).trans (congrArg bI (if_neg h : (if i = k then true else fb i) = fb i).symm)
    · by_cases h : i = k
      · subst h; rw [b3]; exact congrArg bI (if_pos rfl : (if i = i then true else fb i) = true).symm
      · rw [b4 i h, hM (m + 2) (by omega), g4 (m + 2) (by omega) (by omega)]; exact (h6 i hi).trans (congrArg bI (if_neg h : (if i = k then true else fb i) = fb i).symm)
    · rw [b1]
      by_cases h : i = k
      · subst h
        exact ((g1.fr fun r p q => E r (by omega)).cg fun j hj => by
          have := cpB_in (s := M (m + 1)) (a := 0) (b := 15 + i) hj
          rw [Nat.mul_zero, Nat.zero_add] at this
          exact this).up (by omega)
      · replace hb : fb i = true := (if_neg h : (if i = k then true else fb i) = fb i).symm.trans hb
        refine (((h7 i hi hb).fr fun r p q => (E r (by omega)).trans (g4 r (by omega) (by omega))).cg fun j hj => show cpB (M (m + 1)) 0 (15 + k) 189 (189 * (15 + i) + j) = M (m + 1) (189 * (15 + i) + j) from cpB_out (by omega)).up (by omega)
    · rw [E _ (by omega), g4 (x + 1) (by omega) (by omega)]; exact h8
    · rw [b6 5 (by omega), hM m (by omega), g4 m (by omega) (by omega)]; exact h9
    · rw [b5 (m + 3) (by omega) (by omega) (by omega), hM (m + 3) (by omega), g4 (m + 3) (by omega) (by omega)]; exact h10
    · rw [E _ (by omega), g4 (x + 1 + 1) (by omega) (by omega), b5 (m + 3) (by omega) (by omega) (by omega), hM (m + 3) (by omega), g4 (m + 3) (by omega) (by omega)]; exact h11
