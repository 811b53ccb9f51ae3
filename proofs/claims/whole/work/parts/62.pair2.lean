theorem jf_fl {B : Nat} {s : Nat → Int32} (hI : IR B s) {a b c d : Int32} (hq : isFl a b c d = true) (hg : gFl s = true) : ∀ j, 189 ≤ j → flS s (cN s 0) a b c d j = s j := by
  unfold isFl at hq
  rw [Bool.and_eq_true, Bool.and_eq_true, Bool.and_eq_true] at hq
  exact (kp_fl hI hg (in_rng (lo := 0) (hi := 4) (by omega) (by omega) rfl rfl hq.2.1) (in_rng (lo := 0) (hi := 60) (by omega) (by omega) rfl rfl hq.2.2.1) (in_rng (lo := 1) (hi := 30) (by omega) (by omega) rfl rfl hq.2.2.2)).1.2
theorem jf_tc {B : Nat} {s : Nat → Int32} (hI : IR B s) {st lv f t dy hr_ : Int32} (h1 : (isF s f && isT s t) = true) (h2 : isTm st lv dy hr_ = true) (h3 : decide (s 2 < 10) = true) : ∀ j, 189 ≤ j → tcT s st lv f t dy hr_ j = s j := by
  unfold isTm at h2
  rw [Bool.and_eq_true, Bool.and_eq_true, Bool.and_eq_true] at h2
  exact (kp_tc hI (by unfold gCl; rw [h3, h1]; rfl) (in_rng (lo := 0) (hi := 5) (by omega) (by omega) rfl rfl h2.2.2.1)).1.2
theorem Bne {b : Bool} {p : Prop} (h : b = false) (g : b = true) : p := by rw [h] at g; cases g
set_option maxHeartbeats 1000000 in
theorem pr_floor {X : Xs} {κ : Kp} {M : Mem} {x m out B : Nat} (hx : IsDF κ.2.1 x) (hm : IsMod κ.2.1 m) (hd : x + 674 ≤ m) (ho : m + 5 ≤ out) (hJ : J B M x m) {a b c d : Int32} : Ct X m_X7_floor [.ref x, .int a, .int b, .int c, .int d] κ M (Pst X κ x m out (B + 1100) m_X8_floor [.int a, .int b, .int c, .int d] [(0, 1), (1, 2)]) := by
  have hJ0 := hJ
  obtain ⟨cnt, len, fb, hS, hc, h2, hH, -⟩ := hJ
  have hI := hS.sr.ir
  have hIr : IR B (rmS cnt (M (m + 1))) := hI.cg fun j hj => rm_low hj
  refine ct_X7_floor hx (s := rmS cnt (M (m + 1))) (hS.cg fun j hj => rm_low hj) hH (fun q1 => ?_) (fun q1 q2 => ?_) (fun q1 q2 M1 g1 g2 g3 => ?_)
  · have z1 := q1
    refine ⟨1, 0, Or.inr ⟨0, rfl, by decide, rfl⟩, fun M1' hM Q hQ => ?_⟩
    have e1 : M1' (m + 1) = M (m + 1) := hM _ (by omega)
    have e0 : M1' m = M m := hM _ (by omega)
    exact ct_X8_floor (κ := (κ.1, κ.2.1, false)) (Q := Q) hm e1 hI (by rw [e0]; exact h2) hc (fun a1 => hQ _ _ (J_err hJ0 hd ho (by omega) hM) (upM_s _ _ _ _) (funext fun j => upM_o _ _ _ _ (by omega) j) (fun q => absurd q (by decide))) (fun a1 a2 => Bne z1 a1) (fun a1 a2 M2 g4 => Bne z1 a1)
  · have z1 := q1
    have z2 := q2
    rw [g_rm0] at z2
    refine ⟨2, 0, Or.inr ⟨1, rfl, by decide, rfl⟩, fun M1' hM Q hQ => ?_⟩
    have e1 : M1' (m + 1) = M (m + 1) := hM _ (by omega)
    have e0 : M1' m = M m := hM _ (by omega)
    exact ct_X8_floor (κ := (κ.1, κ.2.1, false)) (Q := Q) hm e1 hI (by rw [e0]; exact h2) hc (fun a1 => Bne a1 z1) (fun a1 a2 => hQ _ _ (J_err hJ0 hd ho (by omega) hM) (upM_s _ _ _ _) (funext fun j => upM_o _ _ _ _ (by omega) j) (fun q => absurd q (by decide))) (fun a1 a2 M2 g4 => Bne z2 a2)
  · have z1 := q1
    have z2 := q2
    rw [g_rm0] at z2
    refine ⟨0, _, Or.inl ⟨rfl, rfl, rfl⟩, fun M1' hM Q hQ => ?_⟩
    have e1 : M1' (m + 1) = M (m + 1) := (hM _ (by omega)).trans (g3 _ (by omega) (by omega))
    have e0 : M1' m = M m := (hM _ (by omega)).trans (g3 _ (by omega) (by omega))
    refine ct_X8_floor (Q := Q) hm e1 hI (by rw [e0]; exact h2) hc (fun a1 => Bne a1 z1) (fun a1 a2 => Bne a2 z2) (fun a1 a2 M2 g4 => ?_)
    exact hQ _ _ (J_act hJ0 hd ho (by omega) h2 hc (g1.up (by omega)) (g2.up (by omega)) g3 hM g4 (jf_fl hIr q1 q2)) g4.2.1 (g4.2.2.2.1 out (by omega) (by omega)) (fun _ => rfl)
set_option maxHeartbeats 1000000 in
theorem pr_teacher {X : Xs} {κ : Kp} {M : Mem} {x m out B : Nat} (hx : IsDF κ.2.1 x) (hm : IsMod κ.2.1 m) (hd : x + 674 ≤ m) (ho : m + 5 ≤ out) (hJ : J B M x m) {a b : Int32} : Ct X m_X7_teacher [.ref x, .int a, .int b] κ M (Pst X κ x m out (B + 1100) m_X8_teacher [.int a, .int b] [(0, 1), (1, 2)]) := by
  have hJ0 := hJ
  obtain ⟨cnt, len, fb, hS, hc, h2, hH, -⟩ := hJ
  have hI := hS.sr.ir
  have hIr : IR B (rmS cnt (M (m + 1))) := hI.cg fun j hj => rm_low hj
  refine ct_X7_teacher hx (s := rmS cnt (M (m + 1))) (hS.cg fun j hj => rm_low hj) hH (fun q1 => ?_) (fun q1 q2 => ?_) (fun q1 q2 M1 g1 g2 g3 => ?_)
  · have z1 := q1
    refine ⟨1, 0, Or.inr ⟨0, rfl, by decide, rfl⟩, fun M1' hM Q hQ => ?_⟩
    have e1 : M1' (m + 1) = M (m + 1) := hM _ (by omega)
    have e0 : M1' m = M m := hM _ (by omega)
    exact ct_X8_teacher (κ := (κ.1, κ.2.1, false)) (Q := Q) hm e1 hI (by rw [e0]; exact h2) hc (fun a1 => hQ _ _ (J_err hJ0 hd ho (by omega) hM) (upM_s _ _ _ _) (funext fun j => upM_o _ _ _ _ (by omega) j) (fun q => absurd q (by decide))) (fun a1 a2 => Bne z1 a1) (fun a1 a2 M2 g4 => Bne z1 a1)
  · have z1 := q1
    have z2 := q2
    rw [g_rm1] at z2
    refine ⟨2, 0, Or.inr ⟨1, rfl, by decide, rfl⟩, fun M1' hM Q hQ => ?_⟩
    have e1 : M1' (m + 1) = M (m + 1) := hM _ (by omega)
    have e0 : M1' m = M m := hM _ (by omega)
    exact ct_X8_teacher (κ := (κ.1, κ.2.1, false)) (Q := Q) hm e1 hI (by rw [e0]; exact h2) hc (fun a1 => Bne a1 z1) (fun a1 a2 => hQ _ _ (J_err hJ0 hd ho (by omega) hM) (upM_s _ _ _ _) (funext fun j => upM_o _ _ _ _ (by omega) j) (fun q => absurd q (by decide))) (fun a1 a2 M2 g4 => Bne z2 a2)
  · have z1 := q1
    have z2 := q2
    rw [g_rm1] at z2
    refine ⟨0, _, Or.inl ⟨rfl, rfl, rfl⟩, fun M1' hM Q hQ => ?_⟩
    have e1 : M1' (m + 1) = M (m + 1) := (hM _ (by omega)).trans (g3 _ (by omega) (by omega))
    have e0 : M1' m = M m := (hM _ (by omega)).trans (g3 _ (by omega) (by omega))
    refine ct_X8_teacher (Q := Q) hm e1 hI (by rw [e0]; exact h2) hc (fun a1 => Bne a1 z1) (fun a1 a2 => Bne a2 z2) (fun a1 a2 M2 g4 => ?_)
    exact hQ _ _ (J_act hJ0 hd ho (by omega) h2 hc (g1.up (by omega)) (g2.up (by omega)) g3 hM g4 ((kp_te hIr q2).1.2)) g4.2.1 (g4.2.2.2.1 out (by omega) (by omega)) (fun _ => rfl)
set_option maxHeartbeats 1000000 in
theorem pr_set {X : Xs} {κ : Kp} {M : Mem} {x m out B : Nat} (hx : IsDF κ.2.1 x) (hm : IsMod κ.2.1 m) (hd : x + 674 ≤ m) (ho : m + 5 ≤ out) (hJ : J B M x m) {st lv f t dy hr_ : Int32} : Ct X m_X7_set [.ref x, .int st, .int lv, .int f, .int t, .int dy, .int hr_] κ M (Pst X κ x m out (B + 1100) m_X8_set [.int st, .int lv, .int f, .int t, .int dy, .int hr_] [(2, 1), (0, 2), (1, 3)]) := by
  have hJ0 := hJ
  obtain ⟨cnt, len, fb, hS, hc, h2, hH, -⟩ := hJ
  have hI := hS.sr.ir
  have hIr : IR B (rmS cnt (M (m + 1))) := hI.cg fun j hj => rm_low hj
  refine ct_X7_set hx (s := rmS cnt (M (m + 1))) (hS.cg fun j hj => rm_low hj) hH (fun q1 => ?_) (fun q1 q2 => ?_) (fun q1 q2 q3 => ?_) (fun q1 q2 q3 M1 g1 g2 g3 => ?_)
  · have z1 := q1
    rw [g_rmF, g_rmT] at z1
    refine ⟨1, 0, Or.inr ⟨2, rfl, by decide, rfl⟩, fun M1' hM Q hQ => ?_⟩
    have e1 : M1' (m + 1) = M (m + 1) := hM _ (by omega)
    have e0 : M1' m = M m := hM _ (by omega)
    exact ct_X8_set (κ := (κ.1, κ.2.1, false)) (Q := Q) hm e1 hI (by rw [e0]; exact h2) hc (fun a1 => hQ _ _ (J_err hJ0 hd ho (by omega) hM) (upM_s _ _ _ _) (funext fun j => upM_o _ _ _ _ (by omega) j) (fun q => absurd q (by decide))) (fun a1 a2 => Bne z1 a1) (fun a1 a2 a3 => Bne z1 a1) (fun a1 a2 a3 M2 g4 => Bne z1 a1)
  · have z1 := q1
    rw [g_rmF, g_rmT] at z1
    have z2 := q2
    refine ⟨2, 0, Or.inr ⟨0, rfl, by decide, rfl⟩, fun M1' hM Q hQ => ?_⟩
    have e1 : M1' (m + 1) = M (m + 1) := hM _ (by omega)
    have e0 : M1' m = M m := hM _ (by omega)
    exact ct_X8_set (κ := (κ.1, κ.2.1, false)) (Q := Q) hm e1 hI (by rw [e0]; exact h2) hc (fun a1 => Bne a1 z1) (fun a1 a2 => hQ _ _ (J_err hJ0 hd ho (by omega) hM) (upM_s _ _ _ _) (funext fun j => upM_o _ _ _ _ (by omega) j) (fun q => absurd q (by decide))) (fun a1 a2 a3 => Bne z2 a2) (fun a1 a2 a3 M2 g4 => Bne z2 a2)
  · have z1 := q1
    rw [g_rmF, g_rmT] at z1
    have z2 := q2
    have z3 := q3
    rw [rm_low (by omega)] at z3
    refine ⟨3, 0, Or.inr ⟨1, rfl, by decide, rfl⟩, fun M1' hM Q hQ => ?_⟩
    have e1 : M1' (m + 1) = M (m + 1) := hM _ (by omega)
    have e0 : M1' m = M m := hM _ (by omega)
    exact ct_X8_set (κ := (κ.1, κ.2.1, false)) (Q := Q) hm e1 hI (by rw [e0]; exact h2) hc (fun a1 => Bne a1 z1) (fun a1 a2 => Bne a2 z2) (fun a1 a2 a3 => hQ _ _ (J_err hJ0 hd ho (by omega) hM) (upM_s _ _ _ _) (funext fun j => upM_o _ _ _ _ (by omega) j) (fun q => absurd q (by decide))) (fun a1 a2 a3 M2 g4 => Bne z3 a3)
  · have z1 := q1
    rw [g_rmF, g_rmT] at z1
    have z2 := q2
    have z3 := q3
    rw [rm_low (by omega)] at z3
    refine ⟨0, _, Or.inl ⟨rfl, rfl, rfl⟩, fun M1' hM Q hQ => ?_⟩
    have e1 : M1' (m + 1) = M (m + 1) := (hM _ (by omega)).trans (g3 _ (by omega) (by omega))
    have e0 : M1' m = M m := (hM _ (by omega)).trans (g3 _ (by omega) (by omega))
    refine ct_X8_set (Q := Q) hm e1 hI (by rw [e0]; exact h2) hc (fun a1 => Bne a1 z1) (fun a1 a2 => Bne a2 z2) (fun a1 a2 a3 => Bne a3 z3) (fun a1 a2 a3 M2 g4 => ?_)
    exact hQ _ _ (J_act hJ0 hd ho (by omega) h2 hc (g1.up (by omega)) (g2.up (by omega)) g3 hM g4 (jf_tc hIr q1 q2 q3)) g4.2.1 (g4.2.2.2.1 out (by omega) (by omega)) (fun _ => rfl)
set_option maxHeartbeats 1000000 in
theorem pr_drop {X : Xs} {κ : Kp} {M : Mem} {x m out B : Nat} (hx : IsDF κ.2.1 x) (hm : IsMod κ.2.1 m) (hd : x + 674 ≤ m) (ho : m + 5 ≤ out) (hJ : J B M x m) {k : Int32} : Ct X m_X7_drop [.ref x, .int k] κ M (Pst X κ x m out (B + 1100) m_X8_drop [.int k] [(2, 1)]) := by
  have hJ0 := hJ
  obtain ⟨cnt, len, fb, hS, hc, h2, hH, -⟩ := hJ
  have hI := hS.sr.ir
  have hIr : IR B (rmS cnt (M (m + 1))) := hI.cg fun j hj => rm_low hj
  refine ct_X7_drop hx (s := rmS cnt (M (m + 1))) (hS.cg fun j hj => rm_low hj) hH (fun q1 => ?_) (fun q1 M1 g1 g2 g3 => ?_)
  · have z1 := q1
    rw [g_rmC] at z1
    refine ⟨1, 0, Or.inr ⟨2, rfl, by decide, rfl⟩, fun M1' hM Q hQ => ?_⟩
    have e1 : M1' (m + 1) = M (m + 1) := hM _ (by omega)
    have e0 : M1' m = M m := hM _ (by omega)
    exact ct_X8_drop (κ := (κ.1, κ.2.1, false)) (Q := Q) hm e1 hI (by rw [e0]; exact h2) hc (fun a1 => hQ _ _ (J_err hJ0 hd ho (by omega) hM) (upM_s _ _ _ _) (funext fun j => upM_o _ _ _ _ (by omega) j) (fun q => absurd q (by decide))) (fun a1 M2 g4 => Bne z1 a1)
  · have z1 := q1
    rw [g_rmC] at z1
    refine ⟨0, _, Or.inl ⟨rfl, rfl, rfl⟩, fun M1' hM Q hQ => ?_⟩
    have e1 : M1' (m + 1) = M (m + 1) := (hM _ (by omega)).trans (g3 _ (by omega) (by omega))
    have e0 : M1' m = M m := (hM _ (by omega)).trans (g3 _ (by omega) (by omega))
    refine ct_X8_drop (Q := Q) hm e1 hI (by rw [e0]; exact h2) hc (fun a1 => Bne a1 z1) (fun a1 M2 g4 => ?_)
    exact hQ _ _ (J_act hJ0 hd ho (by omega) h2 hc (g1.up (by omega)) (g2.up (by omega)) g3 hM g4 ((kp_dr hIr q1).1.2)) g4.2.1 (g4.2.2.2.1 out (by omega) (by omega)) (fun _ => rfl)
set_option maxHeartbeats 1000000 in
theorem pr_dancer {X : Xs} {κ : Kp} {M : Mem} {x m out B : Nat} (hx : IsDF κ.2.1 x) (hm : IsMod κ.2.1 m) (hd : x + 674 ≤ m) (ho : m + 5 ≤ out) (hJ : J B M x m) : Ct X m_X7_dancer [.ref x] κ M (Pst X κ x m out (B + 1100) m_X8_dancer [] [(1, 1)]) := by
  have hJ0 := hJ
  obtain ⟨cnt, len, fb, hS, hc, h2, hH, -⟩ := hJ
  have hI := hS.sr.ir
  have hIr : IR B (rmS cnt (M (m + 1))) := hI.cg fun j hj => rm_low hj
  refine ct_X7_dancer hx (s := rmS cnt (M (m + 1))) (hS.cg fun j hj => rm_low hj) hH (fun q1 => ?_) (fun q1 M1 g1 g2 g3 => ?_)
  · have z1 := q1
    rw [g_rm3] at z1
    refine ⟨1, 0, Or.inr ⟨1, rfl, by decide, rfl⟩, fun M1' hM Q hQ => ?_⟩
    have e1 : M1' (m + 1) = M (m + 1) := hM _ (by omega)
    have e0 : M1' m = M m := hM _ (by omega)
    exact ct_X8_dancer (κ := (κ.1, κ.2.1, false)) (Q := Q) hm e1 hI (by rw [e0]; exact h2) hc (fun a1 => hQ _ _ (J_err hJ0 hd ho (by omega) hM) (upM_s _ _ _ _) (funext fun j => upM_o _ _ _ _ (by omega) j) (fun q => absurd q (by decide))) (fun a1 M2 g4 => Bne z1 a1)
  · have z1 := q1
    rw [g_rm3] at z1
    refine ⟨0, _, Or.inl ⟨rfl, rfl, rfl⟩, fun M1' hM Q hQ => ?_⟩
    have e1 : M1' (m + 1) = M (m + 1) := (hM _ (by omega)).trans (g3 _ (by omega) (by omega))
    have e0 : M1' m = M m := (hM _ (by omega)).trans (g3 _ (by omega) (by omega))
    refine ct_X8_dancer (Q := Q) hm e1 hI (by rw [e0]; exact h2) hc (fun a1 => Bne a1 z1) (fun a1 M2 g4 => ?_)
    exact hQ _ _ (J_act hJ0 hd ho (by omega) h2 hc (g1.up (by omega)) (g2.up (by omega)) g3 hM g4 ((kp_da hIr q1).1.2)) g4.2.1 (g4.2.2.2.1 out (by omega) (by omega)) (fun _ => rfl)
set_option maxHeartbeats 1000000 in
theorem pr_pass {X : Xs} {κ : Kp} {M : Mem} {x m out B : Nat} (hx : IsDF κ.2.1 x) (hm : IsMod κ.2.1 m) (hd : x + 674 ≤ m) (ho : m + 5 ≤ out) (hJ : J B M x m) {d : Int32} : Ct X m_X7_pass [.ref x, .int d] κ M (Pst X κ x m out (B + 1100) m_X8_pass [.int d] [(2, 1), (1, 2)]) := by
  have hJ0 := hJ
  obtain ⟨cnt, len, fb, hS, hc, h2, hH, -⟩ := hJ
  have hI := hS.sr.ir
  have hIr : IR B (rmS cnt (M (m + 1))) := hI.cg fun j hj => rm_low hj
  refine ct_X7_pass hx (s := rmS cnt (M (m + 1))) (hS.cg fun j hj => rm_low hj) hH (fun q1 => ?_) (fun q1 q2 => ?_) (fun q1 q2 M1 g1 g2 g3 => ?_)
  · have z1 := q1
    rw [g_rmD] at z1
    refine ⟨1, 0, Or.inr ⟨2, rfl, by decide, rfl⟩, fun M1' hM Q hQ => ?_⟩
    have e1 : M1' (m + 1) = M (m + 1) := hM _ (by omega)
    have e0 : M1' m = M m := hM _ (by omega)
    exact ct_X8_pass (κ := (κ.1, κ.2.1, false)) (Q := Q) hm e1 hI (by rw [e0]; exact h2) hc (fun a1 => hQ _ _ (J_err hJ0 hd ho (by omega) hM) (upM_s _ _ _ _) (funext fun j => upM_o _ _ _ _ (by omega) j) (fun q => absurd q (by decide))) (fun a1 a2 => Bne z1 a1) (fun a1 a2 M2 g4 => Bne z1 a1)
  · have z1 := q1
    rw [g_rmD] at z1
    have z2 := q2
    rw [g_rmP hI] at z2
    refine ⟨2, 0, Or.inr ⟨1, rfl, by decide, rfl⟩, fun M1' hM Q hQ => ?_⟩
    have e1 : M1' (m + 1) = M (m + 1) := hM _ (by omega)
    have e0 : M1' m = M m := hM _ (by omega)
    exact ct_X8_pass (κ := (κ.1, κ.2.1, false)) (Q := Q) hm e1 hI (by rw [e0]; exact h2) hc (fun a1 => Bne a1 z1) (fun a1 a2 => hQ _ _ (J_err hJ0 hd ho (by omega) hM) (upM_s _ _ _ _) (funext fun j => upM_o _ _ _ _ (by omega) j) (fun q => absurd q (by decide))) (fun a1 a2 M2 g4 => Bne z2 a2)
  · have z1 := q1
    rw [g_rmD] at z1
    have z2 := q2
    rw [g_rmP hI] at z2
    refine ⟨0, _, Or.inl ⟨rfl, rfl, rfl⟩, fun M1' hM Q hQ => ?_⟩
    have e1 : M1' (m + 1) = M (m + 1) := (hM _ (by omega)).trans (g3 _ (by omega) (by omega))
    have e0 : M1' m = M m := (hM _ (by omega)).trans (g3 _ (by omega) (by omega))
    refine ct_X8_pass (Q := Q) hm e1 hI (by rw [e0]; exact h2) hc (fun a1 => Bne a1 z1) (fun a1 a2 => Bne a2 z2) (fun a1 a2 M2 g4 => ?_)
    exact hQ _ _ (J_act hJ0 hd ho (by omega) h2 hc (g1.up (by omega)) (g2.up (by omega)) g3 hM g4 ((kp_pa hIr q2).1.2)) g4.2.1 (g4.2.2.2.1 out (by omega) (by omega)) (fun _ => rfl)
set_option maxHeartbeats 1000000 in
theorem pr_enter {X : Xs} {κ : Kp} {M : Mem} {x m out B : Nat} (hx : IsDF κ.2.1 x) (hm : IsMod κ.2.1 m) (hd : x + 674 ≤ m) (ho : m + 5 ≤ out) (hJ : J B M x m) {d k : Int32} : Ct X m_X7_enter [.ref x, .int d, .int k] κ M (Pst X κ x m out (B + 1100) m_X8_enter [.int d, .int k] [(2, 1)]) := by
  have hJ0 := hJ
  obtain ⟨cnt, len, fb, hS, hc, h2, hH, -⟩ := hJ
  have hI := hS.sr.ir
  have hIr : IR B (rmS cnt (M (m + 1))) := hI.cg fun j hj => rm_low hj
  refine ct_X7_enter hx (s := rmS cnt (M (m + 1))) (hS.cg fun j hj => rm_low hj) hH (fun q1 => ?_) (fun q1 M1 g1 g2 g3 => ?_)
  · have z1 := q1
    rw [g_rmS] at z1
    refine ⟨1, 0, Or.inr ⟨2, rfl, by decide, rfl⟩, fun M1' hM Q hQ => ?_⟩
    have e1 : M1' (m + 1) = M (m + 1) := hM _ (by omega)
    have e0 : M1' m = M m := hM _ (by omega)
    exact ct_X8_enter (κ := (κ.1, κ.2.1, false)) (Q := Q) hm e1 hI (by rw [e0]; exact h2) hc (fun a1 => hQ _ _ (J_err hJ0 hd ho (by omega) hM) (upM_s _ _ _ _) (funext fun j => upM_o _ _ _ _ (by omega) j) (fun q => absurd q (by decide))) (fun a1 M2 g4 => Bne z1 a1)
  · have z1 := q1
    rw [g_rmS] at z1
    refine ⟨0, _, Or.inl ⟨rfl, rfl, rfl⟩, fun M1' hM Q hQ => ?_⟩
    have e1 : M1' (m + 1) = M (m + 1) := (hM _ (by omega)).trans (g3 _ (by omega) (by omega))
    have e0 : M1' m = M m := (hM _ (by omega)).trans (g3 _ (by omega) (by omega))
    refine ct_X8_enter (Q := Q) hm e1 hI (by rw [e0]; exact h2) hc (fun a1 => Bne a1 z1) (fun a1 M2 g4 => ?_)
    exact hQ _ _ (J_act hJ0 hd ho (by omega) h2 hc (g1.up (by omega)) (g2.up (by omega)) g3 hM g4 ((kp_ts hIr q1).1.2)) g4.2.1 (g4.2.2.2.1 out (by omega) (by omega)) (fun _ => rfl)
set_option maxHeartbeats 1000000 in
theorem pr_leave {X : Xs} {κ : Kp} {M : Mem} {x m out B : Nat} (hx : IsDF κ.2.1 x) (hm : IsMod κ.2.1 m) (hd : x + 674 ≤ m) (ho : m + 5 ≤ out) (hJ : J B M x m) {d k : Int32} : Ct X m_X7_leave [.ref x, .int d, .int k] κ M (Pst X κ x m out (B + 1100) m_X8_leave [.int d, .int k] [(2, 1), (1, 2)]) := by
  have hJ0 := hJ
  obtain ⟨cnt, len, fb, hS, hc, h2, hH, -⟩ := hJ
  have hI := hS.sr.ir
  have hIr : IR B (rmS cnt (M (m + 1))) := hI.cg fun j hj => rm_low hj
  refine ct_X7_leave hx (s := rmS cnt (M (m + 1))) (hS.cg fun j hj => rm_low hj) hH (fun q1 => ?_) (fun q1 q2 => ?_) (fun q1 q2 M1 g1 g2 g3 => ?_)
  · have z1 := q1
    rw [g_rmS] at z1
    refine ⟨1, 0, Or.inr ⟨2, rfl, by decide, rfl⟩, fun M1' hM Q hQ => ?_⟩
    have e1 : M1' (m + 1) = M (m + 1) := hM _ (by omega)
    have e0 : M1' m = M m := hM _ (by omega)
    exact ct_X8_leave (κ := (κ.1, κ.2.1, false)) (Q := Q) hm e1 hI (by rw [e0]; exact h2) hc (fun a1 => hQ _ _ (J_err hJ0 hd ho (by omega) hM) (upM_s _ _ _ _) (funext fun j => upM_o _ _ _ _ (by omega) j) (fun q => absurd q (by decide))) (fun a1 a2 => Bne z1 a1) (fun a1 a2 M2 g4 => Bne z1 a1)
  · have z1 := q1
    rw [g_rmS] at z1
    have z2 := q2
    rw [g_rmL hI] at z2
    refine ⟨2, 0, Or.inr ⟨1, rfl, by decide, rfl⟩, fun M1' hM Q hQ => ?_⟩
    have e1 : M1' (m + 1) = M (m + 1) := hM _ (by omega)
    have e0 : M1' m = M m := hM _ (by omega)
    exact ct_X8_leave (κ := (κ.1, κ.2.1, false)) (Q := Q) hm e1 hI (by rw [e0]; exact h2) hc (fun a1 => Bne a1 z1) (fun a1 a2 => hQ _ _ (J_err hJ0 hd ho (by omega) hM) (upM_s _ _ _ _) (funext fun j => upM_o _ _ _ _ (by omega) j) (fun q => absurd q (by decide))) (fun a1 a2 M2 g4 => Bne z2 a2)
  · have z1 := q1
    rw [g_rmS] at z1
    have z2 := q2
    rw [g_rmL hI] at z2
    refine ⟨0, _, Or.inl ⟨rfl, rfl, rfl⟩, fun M1' hM Q hQ => ?_⟩
    have e1 : M1' (m + 1) = M (m + 1) := (hM _ (by omega)).trans (g3 _ (by omega) (by omega))
    have e0 : M1' m = M m := (hM _ (by omega)).trans (g3 _ (by omega) (by omega))
    refine ct_X8_leave (Q := Q) hm e1 hI (by rw [e0]; exact h2) hc (fun a1 => Bne a1 z1) (fun a1 a2 => Bne a2 z2) (fun a1 a2 M2 g4 => ?_)
    exact hQ _ _ (J_act hJ0 hd ho (by omega) h2 hc (g1.up (by omega)) (g2.up (by omega)) g3 hM g4 ((kp_le hIr q2).1.2)) g4.2.1 (g4.2.2.2.1 out (by omega) (by omega)) (fun _ => rfl)
set_option maxHeartbeats 1000000 in
theorem pr_weeks {X : Xs} {κ : Kp} {M : Mem} {x m out B : Nat} (hx : IsDF κ.2.1 x) (hm : IsMod κ.2.1 m) (hd : x + 674 ≤ m) (ho : m + 5 ≤ out) (hJ : J B M x m) {n : Int32} : Ct X m_X7_weeks [.ref x, .int n] κ M (Pst X κ x m out (B + 1100) m_X8_weeks [.int n] [(0, 1)]) := by
  have hJ0 := hJ
  obtain ⟨cnt, len, fb, hS, hc, h2, hH, -⟩ := hJ
  have hI := hS.sr.ir
  have hIr : IR B (rmS cnt (M (m + 1))) := hI.cg fun j hj => rm_low hj
  refine ct_X7_weeks hx (s := rmS cnt (M (m + 1))) (hS.cg fun j hj => rm_low hj) hH (fun q1 => ?_) (fun q1 k hk1 hk2 ek M1 g1 g2 g3 => ?_)
  · have z1 := q1
    refine ⟨1, 0, Or.inr ⟨0, rfl, by decide, rfl⟩, fun M1' hM Q hQ => ?_⟩
    have e1 : M1' (m + 1) = M (m + 1) := hM _ (by omega)
    have e0 : M1' m = M m := hM _ (by omega)
    exact ct_X8_weeks (κ := (κ.1, κ.2.1, false)) (Q := Q) hm e1 hI (by rw [e0]; exact h2) hc (fun a1 => hQ _ _ (J_err hJ0 hd ho (by omega) hM) (upM_s _ _ _ _) (funext fun j => upM_o _ _ _ _ (by omega) j) (fun q => absurd q (by decide))) (fun a1 k' hk1' hk2' ek' M2 g4 => Bne z1 a1)
  · have z1 := q1
    subst ek
    refine ⟨0, _, Or.inl ⟨rfl, rfl, rfl⟩, fun M1' hM Q hQ => ?_⟩
    have e1 : M1' (m + 1) = M (m + 1) := (hM _ (by omega)).trans (g3 _ (by omega) (by omega))
    have e0 : M1' m = M m := (hM _ (by omega)).trans (g3 _ (by omega) (by omega))
    refine ct_X8_weeks (Q := Q) hm e1 hI (by rw [e0]; exact h2) hc (fun a1 => Bne a1 z1) (fun a1 k' hk1' hk2' ek' M2 g4 => ?_)
    obtain rfl := (nI_eq (by omega) (by omega)).mp ek'
    exact hQ _ _ (J_act hJ0 hd ho (by omega) h2 hc (g1.up (by omega)) (g2.up (by omega)) g3 hM g4 ((kp_wk hIr k).1.2)) g4.2.1 (g4.2.2.2.1 out (by omega) (by omega)) (fun _ => rfl)
