theorem inB_ok {w h : Nat} {c : Int32} (hc : c = nI h) (hw : w ≤ h) (hh : h < 1000) : inB (nI w) 0 c = true := by
  subst hc
  unfold inB
  rw [Bool.and_eq_true]
  exact ⟨decide_eq_true ((nI_leI (a := 0) (b := w) (by omega) (by omega)).mpr (Nat.zero_le _)), decide_eq_true ((nI_leI (a := w) (b := h) (by omega) (by omega)).mpr hw)⟩
theorem g_s17D {s : Nat → Int32} {v : Int32} : isD (s17 s) v = isD s v := by unfold isD; rw [s17_low (by omega)]
set_option maxHeartbeats 1000000 in
theorem pr_about {X : Xs} {κ : Kp} {M : Mem} {x m out B : Nat} (hx : IsDF κ.2.1 x) (hm : IsMod κ.2.1 m) (hd : x + 674 ≤ m) (ho : m + 5 ≤ out) (hJ : J B M x m) {what : Int32} : Ct X m_X7_about [.ref x, .int what] κ M (Pst X κ x m out (B + 1100) m_X8_about [.int what] [(0, 1)]) := by
  have hJ0 := hJ
  obtain ⟨cnt, len, fb, hS, hc, h2, hH, -⟩ := hJ
  have hI := hS.sr.ir
  refine ct_X7_about hx hS (fun q1 => ?_) (fun w hw ew => ?_)
  · have z1 := q1
    refine ⟨1, 0, Or.inr ⟨0, rfl, by decide, rfl⟩, fun M1' hM Q hQ => ?_⟩
    have e1 : M1' (m + 1) = M (m + 1) := hM _ (by omega)
    exact ct_X8_about (κ := (κ.1, κ.2.1, false)) (Q := Q) hm e1 hI (fun a1 => hQ _ _ (J_err hJ0 hd ho (by omega) hM) (upM_s _ _ _ _) (funext fun j => upM_o _ _ _ _ (by omega) j) (fun q => absurd q (by decide))) (fun a1 w' hw' ew' M2 g4 => Bne z1 a1)
  · have hI2 := hI
    subst ew
    have z1 := inB_ok (c := 11) (h := 11) rfl (by omega) (by omega) (w := w)
    refine ⟨0, _, Or.inl ⟨rfl, rfl, rfl⟩, fun M1' hM Q hQ => ?_⟩
    have e1 : M1' (m + 1) = M (m + 1) := (hM _ (by omega))
    refine ct_X8_about (Q := Q) hm e1 hI (fun a1 => Bne a1 z1) (fun a1 w' hw' ew' M2 g4 => ?_)
    obtain rfl := (nI_eq (by omega) (by omega)).mp ew'
    exact hQ _ _ (J_look hJ0 hd ho (by omega) hM g4) g4.1 (g4.2.1 out (by omega)) (fun _ => rfl)
set_option maxHeartbeats 1000000 in
theorem pr_floorOf {X : Xs} {κ : Kp} {M : Mem} {x m out B : Nat} (hx : IsDF κ.2.1 x) (hm : IsMod κ.2.1 m) (hd : x + 674 ≤ m) (ho : m + 5 ≤ out) (hJ : J B M x m) {v : Int32} {what : Int32} : Ct X m_X7_floorOf [.ref x, .int v, .int what] κ M (Pst X κ x m out (B + 1100) m_X8_floorOf [.int v, .int what] [(2, 1), (0, 2)]) := by
  have hJ0 := hJ
  obtain ⟨cnt, len, fb, hS, hc, h2, hH, -⟩ := hJ
  have hI := hS.sr.ir
  refine ct_X7_floorOf hx hS (fun q1 => ?_) (fun q1 q2 => ?_) (fun q1 k hk ek w hw ew => ?_)
  · have z1 := q1
    refine ⟨1, 0, Or.inr ⟨2, rfl, by decide, rfl⟩, fun M1' hM Q hQ => ?_⟩
    have e1 : M1' (m + 1) = M (m + 1) := hM _ (by omega)
    exact ct_X8_floorOf (κ := (κ.1, κ.2.1, false)) (Q := Q) hm e1 hI (fun a1 => hQ _ _ (J_err hJ0 hd ho (by omega) hM) (upM_s _ _ _ _) (funext fun j => upM_o _ _ _ _ (by omega) j) (fun q => absurd q (by decide))) (fun a1 a2 => Bne z1 a1) (fun a1 k' hk' ek' w' hw' ew' M2 g4 => Bne z1 a1)
  · have z1 := q1
    have z2 := q2
    refine ⟨2, 0, Or.inr ⟨0, rfl, by decide, rfl⟩, fun M1' hM Q hQ => ?_⟩
    have e1 : M1' (m + 1) = M (m + 1) := hM _ (by omega)
    exact ct_X8_floorOf (κ := (κ.1, κ.2.1, false)) (Q := Q) hm e1 hI (fun a1 => Bne a1 z1) (fun a1 a2 => hQ _ _ (J_err hJ0 hd ho (by omega) hM) (upM_s _ _ _ _) (funext fun j => upM_o _ _ _ _ (by omega) j) (fun q => absurd q (by decide))) (fun a1 k' hk' ek' w' hw' ew' M2 g4 => Bne z2 (by rw [ew']; exact inB_ok (c := 5) (h := 5) rfl (by omega) (by omega)))
  · have hI2 := hI
    subst ek ew
    have z1 := q1
    have z2 := inB_ok (c := 5) (h := 5) rfl (by omega) (by omega) (w := w)
    refine ⟨0, _, Or.inl ⟨rfl, rfl, rfl⟩, fun M1' hM Q hQ => ?_⟩
    have e1 : M1' (m + 1) = M (m + 1) := (hM _ (by omega))
    refine ct_X8_floorOf (Q := Q) hm e1 hI (fun a1 => Bne a1 z1) (fun a1 a2 => Bne a2 z2) (fun a1 k' hk' ek' w' hw' ew' M2 g4 => ?_)
    obtain rfl := (nI_eq (by omega) (by omega)).mp ek'
    obtain rfl := (nI_eq (by omega) (by omega)).mp ew'
    exact hQ _ _ (J_look hJ0 hd ho (by omega) hM g4) g4.1 (g4.2.1 out (by omega)) (fun _ => rfl)
set_option maxHeartbeats 1000000 in
theorem pr_teacherOf {X : Xs} {κ : Kp} {M : Mem} {x m out B : Nat} (hx : IsDF κ.2.1 x) (hm : IsMod κ.2.1 m) (hd : x + 674 ≤ m) (ho : m + 5 ≤ out) (hJ : J B M x m) {v : Int32} {what : Int32} : Ct X m_X7_teacherOf [.ref x, .int v, .int what] κ M (Pst X κ x m out (B + 1100) m_X8_teacherOf [.int v, .int what] [(2, 1), (0, 2)]) := by
  have hJ0 := hJ
  obtain ⟨cnt, len, fb, hS, hc, h2, hH, -⟩ := hJ
  have hI := hS.sr.ir
  refine ct_X7_teacherOf hx hS (fun q1 => ?_) (fun q1 q2 => ?_) (fun q1 k hk ek w hw ew => ?_)
  · have z1 := q1
    refine ⟨1, 0, Or.inr ⟨2, rfl, by decide, rfl⟩, fun M1' hM Q hQ => ?_⟩
    have e1 : M1' (m + 1) = M (m + 1) := hM _ (by omega)
    exact ct_X8_teacherOf (κ := (κ.1, κ.2.1, false)) (Q := Q) hm e1 hI (fun a1 => hQ _ _ (J_err hJ0 hd ho (by omega) hM) (upM_s _ _ _ _) (funext fun j => upM_o _ _ _ _ (by omega) j) (fun q => absurd q (by decide))) (fun a1 a2 => Bne z1 a1) (fun a1 k' hk' ek' w' hw' ew' M2 g4 => Bne z1 a1)
  · have z1 := q1
    have z2 := q2
    refine ⟨2, 0, Or.inr ⟨0, rfl, by decide, rfl⟩, fun M1' hM Q hQ => ?_⟩
    have e1 : M1' (m + 1) = M (m + 1) := hM _ (by omega)
    exact ct_X8_teacherOf (κ := (κ.1, κ.2.1, false)) (Q := Q) hm e1 hI (fun a1 => Bne a1 z1) (fun a1 a2 => hQ _ _ (J_err hJ0 hd ho (by omega) hM) (upM_s _ _ _ _) (funext fun j => upM_o _ _ _ _ (by omega) j) (fun q => absurd q (by decide))) (fun a1 k' hk' ek' w' hw' ew' M2 g4 => Bne z2 (by rw [ew']; exact inB_ok (c := 3) (h := 3) rfl (by omega) (by omega)))
  · have hI2 := hI
    subst ek ew
    have z1 := q1
    have z2 := inB_ok (c := 3) (h := 3) rfl (by omega) (by omega) (w := w)
    refine ⟨0, _, Or.inl ⟨rfl, rfl, rfl⟩, fun M1' hM Q hQ => ?_⟩
    have e1 : M1' (m + 1) = M (m + 1) := (hM _ (by omega))
    refine ct_X8_teacherOf (Q := Q) hm e1 hI (fun a1 => Bne a1 z1) (fun a1 a2 => Bne a2 z2) (fun a1 k' hk' ek' w' hw' ew' M2 g4 => ?_)
    obtain rfl := (nI_eq (by omega) (by omega)).mp ek'
    obtain rfl := (nI_eq (by omega) (by omega)).mp ew'
    exact hQ _ _ (J_look hJ0 hd ho (by omega) hM g4) g4.1 (g4.2.1 out (by omega)) (fun _ => rfl)
set_option maxHeartbeats 1000000 in
theorem pr_classOf {X : Xs} {κ : Kp} {M : Mem} {x m out B : Nat} (hx : IsDF κ.2.1 x) (hm : IsMod κ.2.1 m) (hd : x + 674 ≤ m) (ho : m + 5 ≤ out) (hJ : J B M x m) {v : Int32} {what : Int32} : Ct X m_X7_classOf [.ref x, .int v, .int what] κ M (Pst X κ x m out (B + 1100) m_X8_classOf [.int v, .int what] [(2, 1), (0, 2)]) := by
  have hJ0 := hJ
  obtain ⟨cnt, len, fb, hS, hc, h2, hH, -⟩ := hJ
  have hI := hS.sr.ir
  refine ct_X7_classOf hx hS (fun q1 => ?_) (fun q1 q2 => ?_) (fun q1 k hk ek w hw ew => ?_)
  · have z1 := q1
    refine ⟨1, 0, Or.inr ⟨2, rfl, by decide, rfl⟩, fun M1' hM Q hQ => ?_⟩
    have e1 : M1' (m + 1) = M (m + 1) := hM _ (by omega)
    exact ct_X8_classOf (κ := (κ.1, κ.2.1, false)) (Q := Q) hm e1 hI (fun a1 => hQ _ _ (J_err hJ0 hd ho (by omega) hM) (upM_s _ _ _ _) (funext fun j => upM_o _ _ _ _ (by omega) j) (fun q => absurd q (by decide))) (fun a1 a2 => Bne z1 a1) (fun a1 k' hk' ek' w' hw' ew' M2 g4 => Bne z1 a1)
  · have z1 := q1
    have z2 := q2
    refine ⟨2, 0, Or.inr ⟨0, rfl, by decide, rfl⟩, fun M1' hM Q hQ => ?_⟩
    have e1 : M1' (m + 1) = M (m + 1) := hM _ (by omega)
    exact ct_X8_classOf (κ := (κ.1, κ.2.1, false)) (Q := Q) hm e1 hI (fun a1 => Bne a1 z1) (fun a1 a2 => hQ _ _ (J_err hJ0 hd ho (by omega) hM) (upM_s _ _ _ _) (funext fun j => upM_o _ _ _ _ (by omega) j) (fun q => absurd q (by decide))) (fun a1 k' hk' ek' w' hw' ew' M2 g4 => Bne z2 (by rw [ew']; exact inB_ok (c := 9) (h := 9) rfl (by omega) (by omega)))
  · have hI2 := hI
    subst ek ew
    have z1 := q1
    have z2 := inB_ok (c := 9) (h := 9) rfl (by omega) (by omega) (w := w)
    refine ⟨0, _, Or.inl ⟨rfl, rfl, rfl⟩, fun M1' hM Q hQ => ?_⟩
    have e1 : M1' (m + 1) = M (m + 1) := (hM _ (by omega))
    refine ct_X8_classOf (Q := Q) hm e1 hI (fun a1 => Bne a1 z1) (fun a1 a2 => Bne a2 z2) (fun a1 k' hk' ek' w' hw' ew' M2 g4 => ?_)
    obtain rfl := (nI_eq (by omega) (by omega)).mp ek'
    obtain rfl := (nI_eq (by omega) (by omega)).mp ew'
    exact hQ _ _ (J_look hJ0 hd ho (by omega) hM g4) g4.1 (g4.2.1 out (by omega)) (fun _ => rfl)
set_option maxHeartbeats 1000000 in
theorem pr_dancerOf {X : Xs} {κ : Kp} {M : Mem} {x m out B : Nat} (hx : IsDF κ.2.1 x) (hm : IsMod κ.2.1 m) (hd : x + 674 ≤ m) (ho : m + 5 ≤ out) (hJ : J B M x m) {v : Int32} {what : Int32} : Ct X m_X7_dancerOf [.ref x, .int v, .int what] κ M (Pst X κ x m out (B + 1100) m_X8_dancerOf [.int v, .int what] [(2, 1), (0, 2)]) := by
  have hJ0 := hJ
  obtain ⟨cnt, len, fb, hS, hc, h2, hH, -⟩ := hJ
  have hI := hS.sr.ir
  refine ct_X7_dancerOf hx hS (fun q1 => ?_) (fun q1 q2 => ?_) (fun q1 k hk ek w hw ew => ?_)
  · have z1 := q1
    refine ⟨1, 0, Or.inr ⟨2, rfl, by decide, rfl⟩, fun M1' hM Q hQ => ?_⟩
    have e1 : M1' (m + 1) = M (m + 1) := hM _ (by omega)
    exact ct_X8_dancerOf (κ := (κ.1, κ.2.1, false)) (Q := Q) hm e1 hI (fun a1 => hQ _ _ (J_err hJ0 hd ho (by omega) hM) (upM_s _ _ _ _) (funext fun j => upM_o _ _ _ _ (by omega) j) (fun q => absurd q (by decide))) (fun a1 a2 => Bne z1 a1) (fun a1 k' hk' ek' w' hw' ew' M2 g4 => Bne z1 a1)
  · have z1 := q1
    have z2 := q2
    refine ⟨2, 0, Or.inr ⟨0, rfl, by decide, rfl⟩, fun M1' hM Q hQ => ?_⟩
    have e1 : M1' (m + 1) = M (m + 1) := hM _ (by omega)
    exact ct_X8_dancerOf (κ := (κ.1, κ.2.1, false)) (Q := Q) hm e1 hI (fun a1 => Bne a1 z1) (fun a1 a2 => hQ _ _ (J_err hJ0 hd ho (by omega) hM) (upM_s _ _ _ _) (funext fun j => upM_o _ _ _ _ (by omega) j) (fun q => absurd q (by decide))) (fun a1 k' hk' ek' w' hw' ew' M2 g4 => Bne z2 (by rw [ew']; exact inB_ok (c := 5) (h := 5) rfl (by omega) (by omega)))
  · have hI2 := hI
    subst ek ew
    have z1 := q1
    have z2 := inB_ok (c := 5) (h := 5) rfl (by omega) (by omega) (w := w)
    refine ⟨0, _, Or.inl ⟨rfl, rfl, rfl⟩, fun M1' hM Q hQ => ?_⟩
    have e1 : M1' (m + 1) = M (m + 1) := (hM _ (by omega))
    refine ct_X8_dancerOf (Q := Q) hm e1 hI (fun a1 => Bne a1 z1) (fun a1 a2 => Bne a2 z2) (fun a1 k' hk' ek' w' hw' ew' M2 g4 => ?_)
    obtain rfl := (nI_eq (by omega) (by omega)).mp ek'
    obtain rfl := (nI_eq (by omega) (by omega)).mp ew'
    exact hQ _ _ (J_look hJ0 hd ho (by omega) hM g4) g4.1 (g4.2.1 out (by omega)) (fun _ => rfl)
set_option maxHeartbeats 1000000 in
theorem pr_uses {X : Xs} {κ : Kp} {M : Mem} {x m out B : Nat} (hx : IsDF κ.2.1 x) (hm : IsMod κ.2.1 m) (hd : x + 674 ≤ m) (ho : m + 5 ≤ out) (hJ : J B M x m) {way : Int32} : Ct X m_X7_uses [.ref x, .int way] κ M (Pst X κ x m out (B + 1100) m_X8_uses [.int way] [(0, 1)]) := by
  have hJ0 := hJ
  obtain ⟨cnt, len, fb, hS, hc, h2, hH, -⟩ := hJ
  have hI := hS.sr.ir
  refine ct_X7_uses hx hS (fun q1 => ?_) (fun q1 => ?_)
  · have z1 := q1
    refine ⟨1, 0, Or.inr ⟨0, rfl, by decide, rfl⟩, fun M1' hM Q hQ => ?_⟩
    have e1 : M1' (m + 1) = M (m + 1) := hM _ (by omega)
    exact ct_X8_uses (κ := (κ.1, κ.2.1, false)) (Q := Q) hm e1 hI (fun a1 => hQ _ _ (J_err hJ0 hd ho (by omega) hM) (upM_s _ _ _ _) (funext fun j => upM_o _ _ _ _ (by omega) j) (fun q => absurd q (by decide))) (fun a1 M2 g4 => Bne z1 a1)
  · have hI2 := hI
    have z1 := q1
    refine ⟨0, _, Or.inl ⟨rfl, rfl, rfl⟩, fun M1' hM Q hQ => ?_⟩
    have e1 : M1' (m + 1) = M (m + 1) := (hM _ (by omega))
    refine ct_X8_uses (Q := Q) hm e1 hI (fun a1 => Bne a1 z1) (fun a1 M2 g4 => ?_)
    exact hQ _ _ (J_look hJ0 hd ho (by omega) hM g4) g4.1 (g4.2.1 out (by omega)) (fun _ => rfl)
set_option maxHeartbeats 1000000 in
theorem pr_setting {X : Xs} {κ : Kp} {M : Mem} {x m out B : Nat} (hx : IsDF κ.2.1 x) (hm : IsMod κ.2.1 m) (hd : x + 674 ≤ m) (ho : m + 5 ≤ out) (hJ : J B M x m) {what : Int32} : Ct X m_X7_setting [.ref x, .int what] κ M (Pst X κ x m out (B + 1100) m_X8_setting [.int what] [(0, 1)]) := by
  have hJ0 := hJ
  obtain ⟨cnt, len, fb, hS, hc, h2, hH, -⟩ := hJ
  have hI := hS.sr.ir
  refine ct_X7_setting hx hS (fun q1 => ?_) (fun q1 k hk ek => ?_)
  · have z1 := q1
    refine ⟨1, 0, Or.inr ⟨0, rfl, by decide, rfl⟩, fun M1' hM Q hQ => ?_⟩
    have e1 : M1' (m + 1) = M (m + 1) := hM _ (by omega)
    exact ct_X8_setting (κ := (κ.1, κ.2.1, false)) (Q := Q) hm e1 hI (fun a1 => hQ _ _ (J_err hJ0 hd ho (by omega) hM) (upM_s _ _ _ _) (funext fun j => upM_o _ _ _ _ (by omega) j) (fun q => absurd q (by decide))) (fun a1 k' hk' ek' M2 g4 => Bne z1 a1)
  · have hI2 := hI
    subst ek
    have z1 := q1
    refine ⟨0, _, Or.inl ⟨rfl, rfl, rfl⟩, fun M1' hM Q hQ => ?_⟩
    have e1 : M1' (m + 1) = M (m + 1) := (hM _ (by omega))
    refine ct_X8_setting (Q := Q) hm e1 hI (fun a1 => Bne a1 z1) (fun a1 k' hk' ek' M2 g4 => ?_)
    obtain rfl := (nI_eq (by omega) (by omega)).mp ek'
    exact hQ _ _ (J_look hJ0 hd ho (by omega) hM g4) g4.1 (g4.2.1 out (by omega)) (fun _ => rfl)
set_option maxHeartbeats 1000000 in
theorem pr_why {X : Xs} {κ : Kp} {M : Mem} {x m out B : Nat} (hx : IsDF κ.2.1 x) (hm : IsMod κ.2.1 m) (hd : x + 674 ≤ m) (ho : m + 5 ≤ out) (hJ : J B M x m) {st : Int32} {lv : Int32} {f : Int32} {t : Int32} {dy : Int32} {hr_ : Int32} : Ct X m_X7_why [.ref x, .int st, .int lv, .int f, .int t, .int dy, .int hr_] κ M (Pst X κ x m out (B + 1100) m_X8_why [.int st, .int lv, .int f, .int t, .int dy, .int hr_] [(2, 1), (0, 2)]) := by
  have hJ0 := hJ
  obtain ⟨cnt, len, fb, hS, hc, h2, hH, -⟩ := hJ
  have hI := hS.sr.ir
  refine ct_X7_why hx hS (fun q1 => ?_) (fun q1 q2 => ?_) (fun q1 q2 => ?_)
  · have z1 := q1
    refine ⟨1, 0, Or.inr ⟨2, rfl, by decide, rfl⟩, fun M1' hM Q hQ => ?_⟩
    have e1 : M1' (m + 1) = M (m + 1) := hM _ (by omega)
    exact ct_X8_why (κ := (κ.1, κ.2.1, false)) (Q := Q) hm e1 hI (fun a1 => hQ _ _ (J_err hJ0 hd ho (by omega) hM) (upM_s _ _ _ _) (funext fun j => upM_o _ _ _ _ (by omega) j) (fun q => absurd q (by decide))) (fun a1 a2 => Bne z1 a1) (fun a1 a2 M2 g4 => Bne z1 a1)
  · have z1 := q1
    have z2 := q2
    refine ⟨2, 0, Or.inr ⟨0, rfl, by decide, rfl⟩, fun M1' hM Q hQ => ?_⟩
    have e1 : M1' (m + 1) = M (m + 1) := hM _ (by omega)
    exact ct_X8_why (κ := (κ.1, κ.2.1, false)) (Q := Q) hm e1 hI (fun a1 => Bne a1 z1) (fun a1 a2 => hQ _ _ (J_err hJ0 hd ho (by omega) hM) (upM_s _ _ _ _) (funext fun j => upM_o _ _ _ _ (by omega) j) (fun q => absurd q (by decide))) (fun a1 a2 M2 g4 => Bne z2 a2)
  · have hI2 := hI
    have z1 := q1
    have z2 := q2
    refine ⟨0, _, Or.inl ⟨rfl, rfl, rfl⟩, fun M1' hM Q hQ => ?_⟩
    have e1 : M1' (m + 1) = M (m + 1) := (hM _ (by omega))
    refine ct_X8_why (Q := Q) hm e1 hI (fun a1 => Bne a1 z1) (fun a1 a2 => Bne a2 z2) (fun a1 a2 M2 g4 => ?_)
    exact hQ _ _ (J_look hJ0 hd ho (by omega) hM g4) g4.1 (g4.2.1 out (by omega)) (fun _ => rfl)
set_option maxHeartbeats 1000000 in
theorem pr_whySeat {X : Xs} {κ : Kp} {M : Mem} {x m out B : Nat} (hx : IsDF κ.2.1 x) (hm : IsMod κ.2.1 m) (hd : x + 674 ≤ m) (ho : m + 5 ≤ out) (hJ : J B M x m) {d : Int32} {k : Int32} : Ct X m_X7_whySeat [.ref x, .int d, .int k] κ M (Pst X κ x m out (B + 1100) m_X8_whySeat [.int d, .int k] [(2, 1)]) := by
  have hJ0 := hJ
  obtain ⟨cnt, len, fb, hS, hc, h2, hH, -⟩ := hJ
  have hI := hS.sr.ir
  refine ct_X7_whySeat hx hS (fun q1 => ?_) (fun q1 => ?_)
  · have z1 := q1
    refine ⟨1, 0, Or.inr ⟨2, rfl, by decide, rfl⟩, fun M1' hM Q hQ => ?_⟩
    have e1 : M1' (m + 1) = M (m + 1) := hM _ (by omega)
    exact ct_X8_whySeat (κ := (κ.1, κ.2.1, false)) (Q := Q) hm e1 hI (fun a1 => hQ _ _ (J_err hJ0 hd ho (by omega) hM) (upM_s _ _ _ _) (funext fun j => upM_o _ _ _ _ (by omega) j) (fun q => absurd q (by decide))) (fun a1 M2 g4 => Bne z1 a1)
  · have hI2 := hI
    have z1 := q1
    refine ⟨0, _, Or.inl ⟨rfl, rfl, rfl⟩, fun M1' hM Q hQ => ?_⟩
    have e1 : M1' (m + 1) = M (m + 1) := (hM _ (by omega))
    refine ct_X8_whySeat (Q := Q) hm e1 hI (fun a1 => Bne a1 z1) (fun a1 M2 g4 => ?_)
    exact hQ _ _ (J_look hJ0 hd ho (by omega) hM g4) g4.1 (g4.2.1 out (by omega)) (fun _ => rfl)
set_option maxHeartbeats 1000000 in
theorem pr_bestFloor {X : Xs} {κ : Kp} {M : Mem} {x m out B : Nat} (hx : IsDF κ.2.1 x) (hm : IsMod κ.2.1 m) (hd : x + 674 ≤ m) (ho : m + 5 ≤ out) (hJ : J B M x m) {st : Int32} {lv : Int32} {t : Int32} {dy : Int32} {hr_ : Int32} : Ct X m_X7_bestFloor [.ref x, .int st, .int lv, .int t, .int dy, .int hr_] κ M (Pst X κ x m out (B + 1100) m_X8_bestFloor [.int st, .int lv, .int t, .int dy, .int hr_] [(2, 1), (0, 2)]) := by
  have hJ0 := hJ
  obtain ⟨cnt, len, fb, hS, hc, h2, hH, -⟩ := hJ
  have hI := hS.sr.ir
  refine ct_X7_bestFloor hx hS (fun q1 => ?_) (fun q1 q2 => ?_) (fun q1 q2 => ?_)
  · have z1 := q1
    refine ⟨1, 0, Or.inr ⟨2, rfl, by decide, rfl⟩, fun M1' hM Q hQ => ?_⟩
    have e1 : M1' (m + 1) = M (m + 1) := hM _ (by omega)
    exact ct_X8_bestFloor (κ := (κ.1, κ.2.1, false)) (Q := Q) hm e1 hI (fun a1 => hQ _ _ (J_err hJ0 hd ho (by omega) hM) (upM_s _ _ _ _) (funext fun j => upM_o _ _ _ _ (by omega) j) (fun q => absurd q (by decide))) (fun a1 a2 => Bne z1 a1) (fun a1 a2 M2 g4 => Bne z1 a1)
  · have z1 := q1
    have z2 := q2
    refine ⟨2, 0, Or.inr ⟨0, rfl, by decide, rfl⟩, fun M1' hM Q hQ => ?_⟩
    have e1 : M1' (m + 1) = M (m + 1) := hM _ (by omega)
    exact ct_X8_bestFloor (κ := (κ.1, κ.2.1, false)) (Q := Q) hm e1 hI (fun a1 => Bne a1 z1) (fun a1 a2 => hQ _ _ (J_err hJ0 hd ho (by omega) hM) (upM_s _ _ _ _) (funext fun j => upM_o _ _ _ _ (by omega) j) (fun q => absurd q (by decide))) (fun a1 a2 M2 g4 => Bne z2 a2)
  · have hI2 := hI
    have z1 := q1
    have z2 := q2
    refine ⟨0, _, Or.inl ⟨rfl, rfl, rfl⟩, fun M1' hM Q hQ => ?_⟩
    have e1 : M1' (m + 1) = M (m + 1) := (hM _ (by omega))
    refine ct_X8_bestFloor (Q := Q) hm e1 hI (fun a1 => Bne a1 z1) (fun a1 a2 => Bne a2 z2) (fun a1 a2 M2 g4 => ?_)
    exact hQ _ _ (J_look hJ0 hd ho (by omega) hM g4) g4.1 (g4.2.1 out (by omega)) (fun _ => rfl)
set_option maxHeartbeats 1000000 in
theorem pr_emptyIn {X : Xs} {κ : Kp} {M : Mem} {x m out B : Nat} (hx : IsDF κ.2.1 x) (hm : IsMod κ.2.1 m) (hd : x + 674 ≤ m) (ho : m + 5 ≤ out) (hJ : J B M x m) {v : Int32} : Ct X m_X7_emptyIn [.ref x, .int v] κ M (Pst X κ x m out (B + 1100) m_X8_emptyIn [.int v] [(2, 1)]) := by
  have hJ0 := hJ
  obtain ⟨cnt, len, fb, hS, hc, h2, hH, -⟩ := hJ
  have hI := hS.sr.ir
  refine ct_X7_emptyIn hx (s := s17 (M (m + 1))) (hS.cg fun j hj => s17_low (by omega)) (fun q1 => ?_) (fun q1 d hk ek M1 g1 => ?_)
  · have z1 := q1
    rw [g_s17D] at z1
    refine ⟨1, 0, Or.inr ⟨2, rfl, by decide, rfl⟩, fun M1' hM Q hQ => ?_⟩
    have e1 : M1' (m + 1) = M (m + 1) := hM _ (by omega)
    exact ct_X8_emptyIn (κ := (κ.1, κ.2.1, false)) (Q := Q) hm e1 hI (fun a1 => hQ _ _ (J_err hJ0 hd ho (by omega) hM) (upM_s _ _ _ _) (funext fun j => upM_o _ _ _ _ (by omega) j) (fun q => absurd q (by decide))) (fun a1 k' hk' ek' M2 g4 => Bne z1 a1)
  · have hI2 := hI
    subst ek
    have z1 := q1
    rw [g_s17D] at z1
    refine ⟨0, _, Or.inl ⟨rfl, rfl, rfl⟩, fun M1' hM Q hQ => ?_⟩
    have e1 : M1' (m + 1) = M (m + 1) := (hM _ (by omega)).trans (g1 _ (by omega))
    refine ct_X8_emptyIn (Q := Q) hm e1 hI (fun a1 => Bne a1 z1) (fun a1 k' hk' ek' M2 g4 => ?_)
    obtain rfl := (nI_eq (by omega) (by omega)).mp ek'
    exact hQ _ _ (J_ahead hJ0 hd ho (by omega) g1 hM rfl g4) g4.2.1 (g4.2.2.1 out (by omega) (by omega)) (fun _ => rfl)
set_option maxHeartbeats 1000000 in
theorem pr_runScript {X : Xs} {κ : Kp} {M : Mem} {x m out B : Nat} (hx : IsDF κ.2.1 x) (hm : IsMod κ.2.1 m) (hd : x + 674 ≤ m) (ho : m + 5 ≤ out) (hJ : J B M x m) {n : Int32} {sc : Int64} : Ct X m_X7_runScript [.ref x, .int n, .long sc] κ M (Pst X κ x m out (B + 1100) m_X8_runScript [.int n, .long sc] [(0, 1)]) := by
  have hJ0 := hJ
  obtain ⟨cnt, len, fb, hS, hc, h2, hH, -⟩ := hJ
  have hI := hS.sr.ir
  refine ct_X7_runScript hx (s := s17 (M (m + 1))) (hS.cg fun j hj => s17_low (by omega)) (fun q1 => ?_) (fun q1 k hk1 hk2 ek σ hσ eσ M1 g1 => ?_)
  · have z1 := q1
    refine ⟨1, 0, Or.inr ⟨0, rfl, by decide, rfl⟩, fun M1' hM Q hQ => ?_⟩
    have e1 : M1' (m + 1) = M (m + 1) := hM _ (by omega)
    exact ct_X8_runScript (κ := (κ.1, κ.2.1, false)) (Q := Q) hm e1 hI (fun a1 => hQ _ _ (J_err hJ0 hd ho (by omega) hM) (upM_s _ _ _ _) (funext fun j => upM_o _ _ _ _ (by omega) j) (fun q => absurd q (by decide))) (fun a1 k' hk1' hk2' ek' σ' hσ' eσ' M2 g4 => Bne z1 a1)
  · have hI2 := hI
    subst ek eσ
    have z1 := q1
    refine ⟨0, _, Or.inl ⟨rfl, rfl, rfl⟩, fun M1' hM Q hQ => ?_⟩
    have e1 : M1' (m + 1) = M (m + 1) := (hM _ (by omega)).trans (g1 _ (by omega))
    refine ct_X8_runScript (Q := Q) hm e1 hI (fun a1 => Bne a1 z1) (fun a1 k' hk1' hk2' ek' σ' hσ' eσ' M2 g4 => ?_)
    obtain rfl := (nI_eq (by omega) (by omega)).mp ek'
    obtain rfl := (lN_eq63 hσ hσ').mp eσ'
    exact hQ _ _ (J_ahead hJ0 hd ho (by omega) g1 hM rfl g4) g4.2.1 (g4.2.2.1 out (by omega) (by omega)) (fun _ => rfl)
set_option maxHeartbeats 1000000 in
theorem pr_simulate {X : Xs} {κ : Kp} {M : Mem} {x m out B : Nat} (hx : IsDF κ.2.1 x) (hm : IsMod κ.2.1 m) (hd : x + 674 ≤ m) (ho : m + 5 ≤ out) (hJ : J B M x m) {seed : Int64} {v : Int32} : Ct X m_X7_simulate [.ref x, .long seed, .int v] κ M (Pst X κ x m out (B + 1100) m_X8_simulate [.long seed, .int v] [(0, 1)]) := by
  have hJ0 := hJ
  obtain ⟨cnt, len, fb, hS, hc, h2, hH, -⟩ := hJ
  have hI := hS.sr.ir
  refine ct_X7_simulate hx (s := s17 (M (m + 1))) (hS.cg fun j hj => s17_low (by omega)) (fun q1 => ?_) (fun q1 k hk1 hk2 ek M1 g1 => ?_)
  · have z1 := q1
    refine ⟨1, 0, Or.inr ⟨0, rfl, by decide, rfl⟩, fun M1' hM Q hQ => ?_⟩
    have e1 : M1' (m + 1) = M (m + 1) := hM _ (by omega)
    exact ct_X8_simulate (κ := (κ.1, κ.2.1, false)) (Q := Q) hm e1 hI (fun a1 => hQ _ _ (J_err hJ0 hd ho (by omega) hM) (upM_s _ _ _ _) (funext fun j => upM_o _ _ _ _ (by omega) j) (fun q => absurd q (by decide))) (fun a1 k' hk1' hk2' ek' M2 g4 => Bne z1 a1)
  · have hI2 := hI
    subst ek
    have z1 := q1
    refine ⟨0, _, Or.inl ⟨rfl, rfl, rfl⟩, fun M1' hM Q hQ => ?_⟩
    have e1 : M1' (m + 1) = M (m + 1) := (hM _ (by omega)).trans (g1 _ (by omega))
    refine ct_X8_simulate (Q := Q) hm e1 hI (fun a1 => Bne a1 z1) (fun a1 k' hk1' hk2' ek' M2 g4 => ?_)
    obtain rfl := (nI_eq (by omega) (by omega)).mp ek'
    exact hQ _ _ (J_ahead hJ0 hd ho (by omega) g1 hM rfl g4) g4.2.1 (g4.2.2.1 out (by omega) (by omega)) (fun _ => rfl)
set_option maxHeartbeats 1000000 in
theorem pr_held {X : Xs} {κ : Kp} {M : Mem} {x m out B : Nat} (hx : IsDF κ.2.1 x) (hm : IsMod κ.2.1 m) (hd : x + 674 ≤ m) (ho : m + 5 ≤ out) (hJ : J B M x m) (hB : B < 1000000) : Ct X m_X7_held [.ref x] κ M (Pst X κ x m out (B + 1100) m_X8_held [] []) := by
  have hJ0 := hJ
  obtain ⟨cnt, len, fb, hS, hc, h2, hH, -⟩ := hJ
  have hI := hS.sr.ir
  refine ct_X7_held hx (s := s17 (M (m + 1))) (hS.cg fun j hj => s17_low (by omega)) hB  (fun M1 g1 => ?_)
  · have hI2 := hI
    refine ⟨0, _, Or.inl ⟨rfl, rfl, rfl⟩, fun M1' hM Q hQ => ?_⟩
    have e1 : M1' (m + 1) = M (m + 1) := (hM _ (by omega)).trans (g1 _ (by omega))
    refine ct_X8_held (Q := Q) hm e1 hI (fun  M2 g4 => ?_)
    exact hQ _ _ (J_ahead hJ0 hd ho (by omega) g1 hM rfl g4) g4.2.1 (g4.2.2.1 out (by omega) (by omega)) (fun _ => rfl)
