theorem cle_13 : Cond.classLink RL 13 (exN 0) ∈ tblE := by decide +kernel
theorem clg_13 : Cond.classLink RL 13 (exN 0) ∈ tblG := List.mem_filter.mpr ⟨tE_in cle_13, by decide +kernel⟩
theorem cle_15 : Cond.classLink RL 15 (exN 1) ∈ tblE := by decide +kernel
theorem clg_15 : Cond.classLink RL 15 (exN 1) ∈ tblG := List.mem_filter.mpr ⟨tE_in cle_15, by decide +kernel⟩
theorem cle_28 : Cond.classLink RL 28 (exN 2) ∈ tblE := by decide +kernel
theorem clg_28 : Cond.classLink RL 28 (exN 2) ∈ tblG := List.mem_filter.mpr ⟨tE_in cle_28, by decide +kernel⟩
set_option maxRecDepth 100000 in
theorem ct_L_append {X : Xs} {κ : Kp} {M : Mem} {Q : Rs → Kp → Mem → Prop} {x m out B' : Nat} {z : MI} {as : List Value} (hx : IsDF κ.2.1 x) (hout : κ.2.1 out = some (19, 1, [])) {c : Int32} (h : Ct X m_X7_append [.ref x, .int c] κ M (Pst X κ x m out B' z as [(0, 1), (1, 2)])) (hQ : ∀ (p : Nat) (v : Int32) (κ' : Kp) (M1 : Mem), p < 100 → κ'.2.1 = κ.2.1 → κ'.1 = κ.1 → (p = 0 → M1 out 0 = v) → (∀ Q' : Rs → Kp → Mem → Prop, (∀ M2 w, J B' M2 x m → M2 m 0 = nI p → M2 out = M1 out → (p = 0 → w = v) → Q' (.inl (some (.int w))) κ' M2) → Ct X z (.ref m :: as) κ' M1 Q') → Q (.inl (some (.int (nI p)))) κ' M1) : Ct X m_L_append [.ref x, .int c, .ref out] κ M Q := by
  refine ct_ofH B_L_append_0 pn_L rfl (nle rfl) L_L_append_0 ?_
  refine g_aload_n rfl ?_
  refine g_iconst (v := 0) ik_0 ?_
  refine g_aload_n rfl ?_
  refine g_iload_n rfl ?_
  refine g_callVh (as := [_]) mk_X7_append ml_L_7 im_X7_append se_X7_append rfl rfl rfl ⟨⟨nle rfl, nle rfl⟩, nle rfl, nle rfl⟩ hx.1 rfl rfl rfl (nle rfl) ?_
  refine h.mono fun r κ' M1 hP => ?_
  obtain ⟨p, v, hr, hc⟩ := hP
  rcases hr with ⟨rfl, rfl, rfl⟩ | ⟨e, rfl, hin, rfl⟩
  · refine g_i2l ?_
    refine g_lastore (j := 0) hout rfl (nle rfl) (nle rfl) ?_
    refine g_goto rfl L_L_append_18 ?_
    refine g_iconst (v := 0) ik_0 ?_
    refine g_iret rfl (nle rfl) (nle rfl) ?_
    exact hQ 0 v _ (upM M1 out 0 v) (by decide) rfl rfl (fun _ => upM_s _ _ _ _) (hc _ (fun r hr => funext fun j => upM_o _ _ _ _ hr j))
  · rcases List.mem_cons.mp hin with q | hin
    · obtain ⟨rfl, rfl⟩ := Prod.mk.inj q
      exact ⟨nI 1, ⟨[], (0, 9, 12, 13), [(0, 9, 15, 15)], (.astore_n 3, 1), 1, 3, rfl, (fun z hz => absurd hz (List.not_mem_nil)), by decide, by decide, clg_13, by decide +kernel, Or.inr ⟨3, rfl, rfl⟩, nle rfl, by decide, L_L_append_12⟩, hQ 1 v _ M1 (by decide) rfl rfl (fun q => absurd q (by decide)) (hc M1 (fun _ _ => rfl))⟩
    have q := List.mem_singleton.mp hin
    obtain ⟨rfl, rfl⟩ := Prod.mk.inj q
    exact ⟨nI 2, ⟨[(0, 9, 12, 13)], (0, 9, 15, 15), [], (.astore_n 3, 1), 2, 3, rfl, (fun z hz => by rw [List.mem_singleton.mp hz]; exact ⟨by decide, _, clg_13, by decide +kernel⟩), by decide, by decide, clg_15, by decide +kernel, Or.inr ⟨3, rfl, rfl⟩, nle rfl, by decide, L_L_append_15⟩, hQ 2 v _ M1 (by decide) rfl rfl (fun q => absurd q (by decide)) (hc M1 (fun _ _ => rfl))⟩
set_option maxRecDepth 100000 in
theorem ct_L_load {X : Xs} {κ : Kp} {M : Mem} {Q : Rs → Kp → Mem → Prop} {x m out B' : Nat} {z : MI} {as : List Value} (hx : IsDF κ.2.1 x) (hout : κ.2.1 out = some (19, 1, [])) (h : Ct X m_X7_load [.ref x] κ M (Pst X κ x m out B' z as [(1, 1)])) (hQ : ∀ (p : Nat) (v : Int32) (κ' : Kp) (M1 : Mem), p < 100 → κ'.2.1 = κ.2.1 → κ'.1 = κ.1 → (p = 0 → M1 out 0 = v) → (∀ Q' : Rs → Kp → Mem → Prop, (∀ M2 w, J B' M2 x m → M2 m 0 = nI p → M2 out = M1 out → (p = 0 → w = v) → Q' (.inl (some (.int w))) κ' M2) → Ct X z (.ref m :: as) κ' M1 Q') → Q (.inl (some (.int (nI p)))) κ' M1) : Ct X m_L_load [.ref x, .ref out] κ M Q := by
  refine ct_ofH B_L_load_0 pn_L rfl (nle rfl) L_L_load_0 ?_
  refine g_aload_n rfl ?_
  refine g_iconst (v := 0) ik_0 ?_
  refine g_aload_n rfl ?_
  refine g_callVh (as := []) mk_X7_load ml_L_17 im_X7_load se_X7_load rfl rfl rfl ⟨⟨nle rfl, nle rfl⟩, nle rfl, nle rfl⟩ hx.1 rfl rfl rfl (nle rfl) ?_
  refine h.mono fun r κ' M1 hP => ?_
  obtain ⟨p, v, hr, hc⟩ := hP
  rcases hr with ⟨rfl, rfl, rfl⟩ | ⟨e, rfl, hin, rfl⟩
  · refine g_i2l ?_
    refine g_lastore (j := 0) hout rfl (nle rfl) (nle rfl) ?_
    refine g_goto rfl L_L_load_14 ?_
    refine g_iconst (v := 0) ik_0 ?_
    refine g_iret rfl (nle rfl) (nle rfl) ?_
    exact hQ 0 v _ (upM M1 out 0 v) (by decide) rfl rfl (fun _ => upM_s _ _ _ _) (hc _ (fun r hr => funext fun j => upM_o _ _ _ _ hr j))
  · have q := List.mem_singleton.mp hin
    obtain ⟨rfl, rfl⟩ := Prod.mk.inj q
    exact ⟨nI 1, ⟨[], (0, 8, 11, 15), [], (.astore_n 2, 1), 1, 2, rfl, (fun z hz => absurd hz (List.not_mem_nil)), by decide, by decide, clg_15, by decide +kernel, Or.inr ⟨2, rfl, rfl⟩, nle rfl, by decide, L_L_load_11⟩, hQ 1 v _ M1 (by decide) rfl rfl (fun q => absurd q (by decide)) (hc M1 (fun _ _ => rfl))⟩
set_option maxRecDepth 100000 in
theorem ct_L_about {X : Xs} {κ : Kp} {M : Mem} {Q : Rs → Kp → Mem → Prop} {x m out B' : Nat} {z : MI} {as : List Value} (hx : IsDF κ.2.1 x) (hout : κ.2.1 out = some (19, 1, [])) {a : Int32} (h : Ct X m_X7_about [.ref x, .int a] κ M (Pst X κ x m out B' z as [(0, 1)])) (hQ : ∀ (p : Nat) (v : Int32) (κ' : Kp) (M1 : Mem), p < 100 → κ'.2.1 = κ.2.1 → κ'.1 = κ.1 → (p = 0 → M1 out 0 = v) → (∀ Q' : Rs → Kp → Mem → Prop, (∀ M2 w, J B' M2 x m → M2 m 0 = nI p → M2 out = M1 out → (p = 0 → w = v) → Q' (.inl (some (.int w))) κ' M2) → Ct X z (.ref m :: as) κ' M1 Q') → Q (.inl (some (.int (nI p)))) κ' M1) : Ct X m_L_about [.ref x, .int a, .ref out] κ M Q := by
  refine ct_ofH B_L_about_0 pn_L rfl (nle rfl) L_L_about_0 ?_
  refine g_aload_n rfl ?_
  refine g_iconst (v := 0) ik_0 ?_
  refine g_aload_n rfl ?_
  refine g_iload_n rfl ?_
  refine g_callVh (as := [_]) mk_X7_about ml_L_21 im_X7_about se_X7_about rfl rfl rfl ⟨⟨nle rfl, nle rfl⟩, nle rfl, nle rfl⟩ hx.1 rfl rfl rfl (nle rfl) ?_
  refine h.mono fun r κ' M1 hP => ?_
  obtain ⟨p, v, hr, hc⟩ := hP
  rcases hr with ⟨rfl, rfl, rfl⟩ | ⟨e, rfl, hin, rfl⟩
  · refine g_i2l ?_
    refine g_lastore (j := 0) hout rfl (nle rfl) (nle rfl) ?_
    refine g_goto rfl L_L_about_15 ?_
    refine g_iconst (v := 0) ik_0 ?_
    refine g_iret rfl (nle rfl) (nle rfl) ?_
    exact hQ 0 v _ (upM M1 out 0 v) (by decide) rfl rfl (fun _ => upM_s _ _ _ _) (hc _ (fun r hr => funext fun j => upM_o _ _ _ _ hr j))
  · have q := List.mem_singleton.mp hin
    obtain ⟨rfl, rfl⟩ := Prod.mk.inj q
    exact ⟨nI 1, ⟨[], (0, 9, 12, 13), [], (.astore_n 3, 1), 1, 3, rfl, (fun z hz => absurd hz (List.not_mem_nil)), by decide, by decide, clg_13, by decide +kernel, Or.inr ⟨3, rfl, rfl⟩, nle rfl, by decide, L_L_about_12⟩, hQ 1 v _ M1 (by decide) rfl rfl (fun q => absurd q (by decide)) (hc M1 (fun _ _ => rfl))⟩
set_option maxRecDepth 100000 in
theorem ct_L_floorOf {X : Xs} {κ : Kp} {M : Mem} {Q : Rs → Kp → Mem → Prop} {x m out B' : Nat} {z : MI} {as : List Value} (hx : IsDF κ.2.1 x) (hout : κ.2.1 out = some (19, 1, [])) {a : Int32} {b : Int32} (h : Ct X m_X7_floorOf [.ref x, .int a, .int b] κ M (Pst X κ x m out B' z as [(2, 1), (0, 2)])) (hQ : ∀ (p : Nat) (v : Int32) (κ' : Kp) (M1 : Mem), p < 100 → κ'.2.1 = κ.2.1 → κ'.1 = κ.1 → (p = 0 → M1 out 0 = v) → (∀ Q' : Rs → Kp → Mem → Prop, (∀ M2 w, J B' M2 x m → M2 m 0 = nI p → M2 out = M1 out → (p = 0 → w = v) → Q' (.inl (some (.int w))) κ' M2) → Ct X z (.ref m :: as) κ' M1 Q') → Q (.inl (some (.int (nI p)))) κ' M1) : Ct X m_L_floorOf [.ref x, .int a, .int b, .ref out] κ M Q := by
  refine ct_ofH B_L_floorOf_0 pn_L rfl (nle rfl) L_L_floorOf_0 ?_
  refine g_aload_n rfl ?_
  refine g_iconst (v := 0) ik_0 ?_
  refine g_aload_n rfl ?_
  refine g_iload_n rfl ?_
  refine g_iload_n rfl ?_
  refine g_callVh (as := [_, _]) mk_X7_floorOf ml_L_24 im_X7_floorOf se_X7_floorOf rfl rfl rfl ⟨⟨nle rfl, nle rfl⟩, nle rfl, nle rfl⟩ hx.1 rfl rfl rfl (nle rfl) ?_
  refine h.mono fun r κ' M1 hP => ?_
  obtain ⟨p, v, hr, hc⟩ := hP
  rcases hr with ⟨rfl, rfl, rfl⟩ | ⟨e, rfl, hin, rfl⟩
  · refine g_i2l ?_
    refine g_lastore (j := 0) hout rfl (nle rfl) (nle rfl) ?_
    refine g_goto rfl L_L_floorOf_21 ?_
    refine g_iconst (v := 0) ik_0 ?_
    refine g_iret rfl (nle rfl) (nle rfl) ?_
    exact hQ 0 v _ (upM M1 out 0 v) (by decide) rfl rfl (fun _ => upM_s _ _ _ _) (hc _ (fun r hr => funext fun j => upM_o _ _ _ _ hr j))
  · rcases List.mem_cons.mp hin with q | hin
    · obtain ⟨rfl, rfl⟩ := Prod.mk.inj q
      exact ⟨nI 1, ⟨[], (0, 10, 13, 28), [(0, 10, 17, 13)], (.astore 4, 2), 1, 4, rfl, (fun z hz => absurd hz (List.not_mem_nil)), by decide, by decide, clg_28, by decide +kernel, Or.inl rfl, nle rfl, by decide, L_L_floorOf_13⟩, hQ 1 v _ M1 (by decide) rfl rfl (fun q => absurd q (by decide)) (hc M1 (fun _ _ => rfl))⟩
    have q := List.mem_singleton.mp hin
    obtain ⟨rfl, rfl⟩ := Prod.mk.inj q
    exact ⟨nI 2, ⟨[(0, 10, 13, 28)], (0, 10, 17, 13), [], (.astore 4, 2), 2, 4, rfl, (fun z hz => by rw [List.mem_singleton.mp hz]; exact ⟨by decide, _, clg_28, by decide +kernel⟩), by decide, by decide, clg_13, by decide +kernel, Or.inl rfl, nle rfl, by decide, L_L_floorOf_17⟩, hQ 2 v _ M1 (by decide) rfl rfl (fun q => absurd q (by decide)) (hc M1 (fun _ _ => rfl))⟩
set_option maxRecDepth 100000 in
theorem ct_L_teacherOf {X : Xs} {κ : Kp} {M : Mem} {Q : Rs → Kp → Mem → Prop} {x m out B' : Nat} {z : MI} {as : List Value} (hx : IsDF κ.2.1 x) (hout : κ.2.1 out = some (19, 1, [])) {a : Int32} {b : Int32} (h : Ct X m_X7_teacherOf [.ref x, .int a, .int b] κ M (Pst X κ x m out B' z as [(2, 1), (0, 2)])) (hQ : ∀ (p : Nat) (v : Int32) (κ' : Kp) (M1 : Mem), p < 100 → κ'.2.1 = κ.2.1 → κ'.1 = κ.1 → (p = 0 → M1 out 0 = v) → (∀ Q' : Rs → Kp → Mem → Prop, (∀ M2 w, J B' M2 x m → M2 m 0 = nI p → M2 out = M1 out → (p = 0 → w = v) → Q' (.inl (some (.int w))) κ' M2) → Ct X z (.ref m :: as) κ' M1 Q') → Q (.inl (some (.int (nI p)))) κ' M1) : Ct X m_L_teacherOf [.ref x, .int a, .int b, .ref out] κ M Q := by
  refine ct_ofH B_L_teacherOf_0 pn_L rfl (nle rfl) L_L_teacherOf_0 ?_
  refine g_aload_n rfl ?_
  refine g_iconst (v := 0) ik_0 ?_
  refine g_aload_n rfl ?_
  refine g_iload_n rfl ?_
  refine g_iload_n rfl ?_
  refine g_callVh (as := [_, _]) mk_X7_teacherOf ml_L_30 im_X7_teacherOf se_X7_teacherOf rfl rfl rfl ⟨⟨nle rfl, nle rfl⟩, nle rfl, nle rfl⟩ hx.1 rfl rfl rfl (nle rfl) ?_
  refine h.mono fun r κ' M1 hP => ?_
  obtain ⟨p, v, hr, hc⟩ := hP
  rcases hr with ⟨rfl, rfl, rfl⟩ | ⟨e, rfl, hin, rfl⟩
  · refine g_i2l ?_
    refine g_lastore (j := 0) hout rfl (nle rfl) (nle rfl) ?_
    refine g_goto rfl L_L_teacherOf_21 ?_
    refine g_iconst (v := 0) ik_0 ?_
    refine g_iret rfl (nle rfl) (nle rfl) ?_
    exact hQ 0 v _ (upM M1 out 0 v) (by decide) rfl rfl (fun _ => upM_s _ _ _ _) (hc _ (fun r hr => funext fun j => upM_o _ _ _ _ hr j))
  · rcases List.mem_cons.mp hin with q | hin
    · obtain ⟨rfl, rfl⟩ := Prod.mk.inj q
      exact ⟨nI 1, ⟨[], (0, 10, 13, 28), [(0, 10, 17, 13)], (.astore 4, 2), 1, 4, rfl, (fun z hz => absurd hz (List.not_mem_nil)), by decide, by decide, clg_28, by decide +kernel, Or.inl rfl, nle rfl, by decide, L_L_teacherOf_13⟩, hQ 1 v _ M1 (by decide) rfl rfl (fun q => absurd q (by decide)) (hc M1 (fun _ _ => rfl))⟩
    have q := List.mem_singleton.mp hin
    obtain ⟨rfl, rfl⟩ := Prod.mk.inj q
    exact ⟨nI 2, ⟨[(0, 10, 13, 28)], (0, 10, 17, 13), [], (.astore 4, 2), 2, 4, rfl, (fun z hz => by rw [List.mem_singleton.mp hz]; exact ⟨by decide, _, clg_28, by decide +kernel⟩), by decide, by decide, clg_13, by decide +kernel, Or.inl rfl, nle rfl, by decide, L_L_teacherOf_17⟩, hQ 2 v _ M1 (by decide) rfl rfl (fun q => absurd q (by decide)) (hc M1 (fun _ _ => rfl))⟩
set_option maxRecDepth 100000 in
theorem ct_L_classOf {X : Xs} {κ : Kp} {M : Mem} {Q : Rs → Kp → Mem → Prop} {x m out B' : Nat} {z : MI} {as : List Value} (hx : IsDF κ.2.1 x) (hout : κ.2.1 out = some (19, 1, [])) {a : Int32} {b : Int32} (h : Ct X m_X7_classOf [.ref x, .int a, .int b] κ M (Pst X κ x m out B' z as [(2, 1), (0, 2)])) (hQ : ∀ (p : Nat) (v : Int32) (κ' : Kp) (M1 : Mem), p < 100 → κ'.2.1 = κ.2.1 → κ'.1 = κ.1 → (p = 0 → M1 out 0 = v) → (∀ Q' : Rs → Kp → Mem → Prop, (∀ M2 w, J B' M2 x m → M2 m 0 = nI p → M2 out = M1 out → (p = 0 → w = v) → Q' (.inl (some (.int w))) κ' M2) → Ct X z (.ref m :: as) κ' M1 Q') → Q (.inl (some (.int (nI p)))) κ' M1) : Ct X m_L_classOf [.ref x, .int a, .int b, .ref out] κ M Q := by
  refine ct_ofH B_L_classOf_0 pn_L rfl (nle rfl) L_L_classOf_0 ?_
  refine g_aload_n rfl ?_
  refine g_iconst (v := 0) ik_0 ?_
  refine g_aload_n rfl ?_
  refine g_iload_n rfl ?_
  refine g_iload_n rfl ?_
  refine g_callVh (as := [_, _]) mk_X7_classOf ml_L_33 im_X7_classOf se_X7_classOf rfl rfl rfl ⟨⟨nle rfl, nle rfl⟩, nle rfl, nle rfl⟩ hx.1 rfl rfl rfl (nle rfl) ?_
  refine h.mono fun r κ' M1 hP => ?_
  obtain ⟨p, v, hr, hc⟩ := hP
  rcases hr with ⟨rfl, rfl, rfl⟩ | ⟨e, rfl, hin, rfl⟩
  · refine g_i2l ?_
    refine g_lastore (j := 0) hout rfl (nle rfl) (nle rfl) ?_
    refine g_goto rfl L_L_classOf_21 ?_
    refine g_iconst (v := 0) ik_0 ?_
    refine g_iret rfl (nle rfl) (nle rfl) ?_
    exact hQ 0 v _ (upM M1 out 0 v) (by decide) rfl rfl (fun _ => upM_s _ _ _ _) (hc _ (fun r hr => funext fun j => upM_o _ _ _ _ hr j))
  · rcases List.mem_cons.mp hin with q | hin
    · obtain ⟨rfl, rfl⟩ := Prod.mk.inj q
      exact ⟨nI 1, ⟨[], (0, 10, 13, 28), [(0, 10, 17, 13)], (.astore 4, 2), 1, 4, rfl, (fun z hz => absurd hz (List.not_mem_nil)), by decide, by decide, clg_28, by decide +kernel, Or.inl rfl, nle rfl, by decide, L_L_classOf_13⟩, hQ 1 v _ M1 (by decide) rfl rfl (fun q => absurd q (by decide)) (hc M1 (fun _ _ => rfl))⟩
    have q := List.mem_singleton.mp hin
    obtain ⟨rfl, rfl⟩ := Prod.mk.inj q
    exact ⟨nI 2, ⟨[(0, 10, 13, 28)], (0, 10, 17, 13), [], (.astore 4, 2), 2, 4, rfl, (fun z hz => by rw [List.mem_singleton.mp hz]; exact ⟨by decide, _, clg_28, by decide +kernel⟩), by decide, by decide, clg_13, by decide +kernel, Or.inl rfl, nle rfl, by decide, L_L_classOf_17⟩, hQ 2 v _ M1 (by decide) rfl rfl (fun q => absurd q (by decide)) (hc M1 (fun _ _ => rfl))⟩
set_option maxRecDepth 100000 in
theorem ct_L_dancerOf {X : Xs} {κ : Kp} {M : Mem} {Q : Rs → Kp → Mem → Prop} {x m out B' : Nat} {z : MI} {as : List Value} (hx : IsDF κ.2.1 x) (hout : κ.2.1 out = some (19, 1, [])) {a : Int32} {b : Int32} (h : Ct X m_X7_dancerOf [.ref x, .int a, .int b] κ M (Pst X κ x m out B' z as [(2, 1), (0, 2)])) (hQ : ∀ (p : Nat) (v : Int32) (κ' : Kp) (M1 : Mem), p < 100 → κ'.2.1 = κ.2.1 → κ'.1 = κ.1 → (p = 0 → M1 out 0 = v) → (∀ Q' : Rs → Kp → Mem → Prop, (∀ M2 w, J B' M2 x m → M2 m 0 = nI p → M2 out = M1 out → (p = 0 → w = v) → Q' (.inl (some (.int w))) κ' M2) → Ct X z (.ref m :: as) κ' M1 Q') → Q (.inl (some (.int (nI p)))) κ' M1) : Ct X m_L_dancerOf [.ref x, .int a, .int b, .ref out] κ M Q := by
  refine ct_ofH B_L_dancerOf_0 pn_L rfl (nle rfl) L_L_dancerOf_0 ?_
  refine g_aload_n rfl ?_
  refine g_iconst (v := 0) ik_0 ?_
  refine g_aload_n rfl ?_
  refine g_iload_n rfl ?_
  refine g_iload_n rfl ?_
  refine g_callVh (as := [_, _]) mk_X7_dancerOf ml_L_36 im_X7_dancerOf se_X7_dancerOf rfl rfl rfl ⟨⟨nle rfl, nle rfl⟩, nle rfl, nle rfl⟩ hx.1 rfl rfl rfl (nle rfl) ?_
  refine h.mono fun r κ' M1 hP => ?_
  obtain ⟨p, v, hr, hc⟩ := hP
  rcases hr with ⟨rfl, rfl, rfl⟩ | ⟨e, rfl, hin, rfl⟩
  · refine g_i2l ?_
    refine g_lastore (j := 0) hout rfl (nle rfl) (nle rfl) ?_
    refine g_goto rfl L_L_dancerOf_21 ?_
    refine g_iconst (v := 0) ik_0 ?_
    refine g_iret rfl (nle rfl) (nle rfl) ?_
    exact hQ 0 v _ (upM M1 out 0 v) (by decide) rfl rfl (fun _ => upM_s _ _ _ _) (hc _ (fun r hr => funext fun j => upM_o _ _ _ _ hr j))
  · rcases List.mem_cons.mp hin with q | hin
    · obtain ⟨rfl, rfl⟩ := Prod.mk.inj q
      exact ⟨nI 1, ⟨[], (0, 10, 13, 28), [(0, 10, 17, 13)], (.astore 4, 2), 1, 4, rfl, (fun z hz => absurd hz (List.not_mem_nil)), by decide, by decide, clg_28, by decide +kernel, Or.inl rfl, nle rfl, by decide, L_L_dancerOf_13⟩, hQ 1 v _ M1 (by decide) rfl rfl (fun q => absurd q (by decide)) (hc M1 (fun _ _ => rfl))⟩
    have q := List.mem_singleton.mp hin
    obtain ⟨rfl, rfl⟩ := Prod.mk.inj q
    exact ⟨nI 2, ⟨[(0, 10, 13, 28)], (0, 10, 17, 13), [], (.astore 4, 2), 2, 4, rfl, (fun z hz => by rw [List.mem_singleton.mp hz]; exact ⟨by decide, _, clg_28, by decide +kernel⟩), by decide, by decide, clg_13, by decide +kernel, Or.inl rfl, nle rfl, by decide, L_L_dancerOf_17⟩, hQ 2 v _ M1 (by decide) rfl rfl (fun q => absurd q (by decide)) (hc M1 (fun _ _ => rfl))⟩
set_option maxRecDepth 100000 in
theorem ct_L_uses {X : Xs} {κ : Kp} {M : Mem} {Q : Rs → Kp → Mem → Prop} {x m out B' : Nat} {z : MI} {as : List Value} (hx : IsDF κ.2.1 x) (hout : κ.2.1 out = some (19, 1, [])) {a : Int32} (h : Ct X m_X7_uses [.ref x, .int a] κ M (Pst X κ x m out B' z as [(0, 1)])) (hQ : ∀ (p : Nat) (v : Int32) (κ' : Kp) (M1 : Mem), p < 100 → κ'.2.1 = κ.2.1 → κ'.1 = κ.1 → (p = 0 → M1 out 0 = v) → (∀ Q' : Rs → Kp → Mem → Prop, (∀ M2 w, J B' M2 x m → M2 m 0 = nI p → M2 out = M1 out → (p = 0 → w = v) → Q' (.inl (some (.int w))) κ' M2) → Ct X z (.ref m :: as) κ' M1 Q') → Q (.inl (some (.int (nI p)))) κ' M1) : Ct X m_L_uses [.ref x, .int a, .ref out] κ M Q := by
  refine ct_ofH B_L_uses_0 pn_L rfl (nle rfl) L_L_uses_0 ?_
  refine g_aload_n rfl ?_
  refine g_iconst (v := 0) ik_0 ?_
  refine g_aload_n rfl ?_
  refine g_iload_n rfl ?_
  refine g_callVh (as := [_]) mk_X7_uses ml_L_39 im_X7_uses se_X7_uses rfl rfl rfl ⟨⟨nle rfl, nle rfl⟩, nle rfl, nle rfl⟩ hx.1 rfl rfl rfl (nle rfl) ?_
  refine h.mono fun r κ' M1 hP => ?_
  obtain ⟨p, v, hr, hc⟩ := hP
  rcases hr with ⟨rfl, rfl, rfl⟩ | ⟨e, rfl, hin, rfl⟩
  · refine g_i2l ?_
    refine g_lastore (j := 0) hout rfl (nle rfl) (nle rfl) ?_
    refine g_goto rfl L_L_uses_15 ?_
    refine g_iconst (v := 0) ik_0 ?_
    refine g_iret rfl (nle rfl) (nle rfl) ?_
    exact hQ 0 v _ (upM M1 out 0 v) (by decide) rfl rfl (fun _ => upM_s _ _ _ _) (hc _ (fun r hr => funext fun j => upM_o _ _ _ _ hr j))
  · have q := List.mem_singleton.mp hin
    obtain ⟨rfl, rfl⟩ := Prod.mk.inj q
    exact ⟨nI 1, ⟨[], (0, 9, 12, 13), [], (.astore_n 3, 1), 1, 3, rfl, (fun z hz => absurd hz (List.not_mem_nil)), by decide, by decide, clg_13, by decide +kernel, Or.inr ⟨3, rfl, rfl⟩, nle rfl, by decide, L_L_uses_12⟩, hQ 1 v _ M1 (by decide) rfl rfl (fun q => absurd q (by decide)) (hc M1 (fun _ _ => rfl))⟩
set_option maxRecDepth 100000 in
theorem ct_L_setting {X : Xs} {κ : Kp} {M : Mem} {Q : Rs → Kp → Mem → Prop} {x m out B' : Nat} {z : MI} {as : List Value} (hx : IsDF κ.2.1 x) (hout : κ.2.1 out = some (19, 1, [])) {a : Int32} (h : Ct X m_X7_setting [.ref x, .int a] κ M (Pst X κ x m out B' z as [(0, 1)])) (hQ : ∀ (p : Nat) (v : Int32) (κ' : Kp) (M1 : Mem), p < 100 → κ'.2.1 = κ.2.1 → κ'.1 = κ.1 → (p = 0 → M1 out 0 = v) → (∀ Q' : Rs → Kp → Mem → Prop, (∀ M2 w, J B' M2 x m → M2 m 0 = nI p → M2 out = M1 out → (p = 0 → w = v) → Q' (.inl (some (.int w))) κ' M2) → Ct X z (.ref m :: as) κ' M1 Q') → Q (.inl (some (.int (nI p)))) κ' M1) : Ct X m_L_setting [.ref x, .int a, .ref out] κ M Q := by
  refine ct_ofH B_L_setting_0 pn_L rfl (nle rfl) L_L_setting_0 ?_
  refine g_aload_n rfl ?_
  refine g_iconst (v := 0) ik_0 ?_
  refine g_aload_n rfl ?_
  refine g_iload_n rfl ?_
  refine g_callVh (as := [_]) mk_X7_setting ml_L_42 im_X7_setting se_X7_setting rfl rfl rfl ⟨⟨nle rfl, nle rfl⟩, nle rfl, nle rfl⟩ hx.1 rfl rfl rfl (nle rfl) ?_
  refine h.mono fun r κ' M1 hP => ?_
  obtain ⟨p, v, hr, hc⟩ := hP
  rcases hr with ⟨rfl, rfl, rfl⟩ | ⟨e, rfl, hin, rfl⟩
  · refine g_i2l ?_
    refine g_lastore (j := 0) hout rfl (nle rfl) (nle rfl) ?_
    refine g_goto rfl L_L_setting_15 ?_
    refine g_iconst (v := 0) ik_0 ?_
    refine g_iret rfl (nle rfl) (nle rfl) ?_
    exact hQ 0 v _ (upM M1 out 0 v) (by decide) rfl rfl (fun _ => upM_s _ _ _ _) (hc _ (fun r hr => funext fun j => upM_o _ _ _ _ hr j))
  · have q := List.mem_singleton.mp hin
    obtain ⟨rfl, rfl⟩ := Prod.mk.inj q
    exact ⟨nI 1, ⟨[], (0, 9, 12, 13), [], (.astore_n 3, 1), 1, 3, rfl, (fun z hz => absurd hz (List.not_mem_nil)), by decide, by decide, clg_13, by decide +kernel, Or.inr ⟨3, rfl, rfl⟩, nle rfl, by decide, L_L_setting_12⟩, hQ 1 v _ M1 (by decide) rfl rfl (fun q => absurd q (by decide)) (hc M1 (fun _ _ => rfl))⟩
set_option maxRecDepth 100000 in
theorem ct_L_floor {X : Xs} {κ : Kp} {M : Mem} {Q : Rs → Kp → Mem → Prop} {x m out B' : Nat} {z : MI} {as : List Value} (hx : IsDF κ.2.1 x) (hout : κ.2.1 out = some (19, 1, [])) {a : Int32} {b : Int32} {c : Int32} {d : Int32} (h : Ct X m_X7_floor [.ref x, .int a, .int b, .int c, .int d] κ M (Pst X κ x m out B' z as [(0, 1), (1, 2)])) (hQ : ∀ (p : Nat) (v : Int32) (κ' : Kp) (M1 : Mem), p < 100 → κ'.2.1 = κ.2.1 → κ'.1 = κ.1 → (p = 0 → M1 out 0 = v) → (∀ Q' : Rs → Kp → Mem → Prop, (∀ M2 w, J B' M2 x m → M2 m 0 = nI p → M2 out = M1 out → (p = 0 → w = v) → Q' (.inl (some (.int w))) κ' M2) → Ct X z (.ref m :: as) κ' M1 Q') → Q (.inl (some (.int (nI p)))) κ' M1) : Ct X m_L_floor [.ref x, .int a, .int b, .int c, .int d, .ref out] κ M Q := by
  refine ct_ofH B_L_floor_0 pn_L rfl (nle rfl) L_L_floor_0 ?_
  refine g_aload rfl ?_
  refine g_iconst (v := 0) ik_0 ?_
  refine g_aload_n rfl ?_
  refine g_iload_n rfl ?_
  refine g_iload_n rfl ?_
  refine g_iload_n rfl ?_
  refine g_iload rfl ?_
  refine g_callVh (as := [_, _, _, _]) mk_X7_floor ml_L_45 im_X7_floor se_X7_floor rfl rfl rfl ⟨⟨nle rfl, nle rfl⟩, nle rfl, nle rfl⟩ hx.1 rfl rfl rfl (nle rfl) ?_
  refine h.mono fun r κ' M1 hP => ?_
  obtain ⟨p, v, hr, hc⟩ := hP
  rcases hr with ⟨rfl, rfl, rfl⟩ | ⟨e, rfl, hin, rfl⟩
  · refine g_i2l ?_
    refine g_lastore (j := 0) hout rfl (nle rfl) (nle rfl) ?_
    refine g_goto rfl L_L_floor_25 ?_
    refine g_iconst (v := 0) ik_0 ?_
    refine g_iret rfl (nle rfl) (nle rfl) ?_
    exact hQ 0 v _ (upM M1 out 0 v) (by decide) rfl rfl (fun _ => upM_s _ _ _ _) (hc _ (fun r hr => funext fun j => upM_o _ _ _ _ hr j))
  · rcases List.mem_cons.mp hin with q | hin
    · obtain ⟨rfl, rfl⟩ := Prod.mk.inj q
      exact ⟨nI 1, ⟨[], (0, 14, 17, 13), [(0, 14, 21, 15)], (.astore 6, 2), 1, 6, rfl, (fun z hz => absurd hz (List.not_mem_nil)), by decide, by decide, clg_13, by decide +kernel, Or.inl rfl, nle rfl, by decide, L_L_floor_17⟩, hQ 1 v _ M1 (by decide) rfl rfl (fun q => absurd q (by decide)) (hc M1 (fun _ _ => rfl))⟩
    have q := List.mem_singleton.mp hin
    obtain ⟨rfl, rfl⟩ := Prod.mk.inj q
    exact ⟨nI 2, ⟨[(0, 14, 17, 13)], (0, 14, 21, 15), [], (.astore 6, 2), 2, 6, rfl, (fun z hz => by rw [List.mem_singleton.mp hz]; exact ⟨by decide, _, clg_13, by decide +kernel⟩), by decide, by decide, clg_15, by decide +kernel, Or.inl rfl, nle rfl, by decide, L_L_floor_21⟩, hQ 2 v _ M1 (by decide) rfl rfl (fun q => absurd q (by decide)) (hc M1 (fun _ _ => rfl))⟩
set_option maxRecDepth 100000 in
theorem ct_L_teacher {X : Xs} {κ : Kp} {M : Mem} {Q : Rs → Kp → Mem → Prop} {x m out B' : Nat} {z : MI} {as : List Value} (hx : IsDF κ.2.1 x) (hout : κ.2.1 out = some (19, 1, [])) {a : Int32} {b : Int32} (h : Ct X m_X7_teacher [.ref x, .int a, .int b] κ M (Pst X κ x m out B' z as [(0, 1), (1, 2)])) (hQ : ∀ (p : Nat) (v : Int32) (κ' : Kp) (M1 : Mem), p < 100 → κ'.2.1 = κ.2.1 → κ'.1 = κ.1 → (p = 0 → M1 out 0 = v) → (∀ Q' : Rs → Kp → Mem → Prop, (∀ M2 w, J B' M2 x m → M2 m 0 = nI p → M2 out = M1 out → (p = 0 → w = v) → Q' (.inl (some (.int w))) κ' M2) → Ct X z (.ref m :: as) κ' M1 Q') → Q (.inl (some (.int (nI p)))) κ' M1) : Ct X m_L_teacher [.ref x, .int a, .int b, .ref out] κ M Q := by
  refine ct_ofH B_L_teacher_0 pn_L rfl (nle rfl) L_L_teacher_0 ?_
  refine g_aload_n rfl ?_
  refine g_iconst (v := 0) ik_0 ?_
  refine g_aload_n rfl ?_
  refine g_iload_n rfl ?_
  refine g_iload_n rfl ?_
  refine g_callVh (as := [_, _]) mk_X7_teacher ml_L_49 im_X7_teacher se_X7_teacher rfl rfl rfl ⟨⟨nle rfl, nle rfl⟩, nle rfl, nle rfl⟩ hx.1 rfl rfl rfl (nle rfl) ?_
  refine h.mono fun r κ' M1 hP => ?_
  obtain ⟨p, v, hr, hc⟩ := hP
  rcases hr with ⟨rfl, rfl, rfl⟩ | ⟨e, rfl, hin, rfl⟩
  · refine g_i2l ?_
    refine g_lastore (j := 0) hout rfl (nle rfl) (nle rfl) ?_
    refine g_goto rfl L_L_teacher_21 ?_
    refine g_iconst (v := 0) ik_0 ?_
    refine g_iret rfl (nle rfl) (nle rfl) ?_
    exact hQ 0 v _ (upM M1 out 0 v) (by decide) rfl rfl (fun _ => upM_s _ _ _ _) (hc _ (fun r hr => funext fun j => upM_o _ _ _ _ hr j))
  · rcases List.mem_cons.mp hin with q | hin
    · obtain ⟨rfl, rfl⟩ := Prod.mk.inj q
      exact ⟨nI 1, ⟨[], (0, 10, 13, 13), [(0, 10, 17, 15)], (.astore 4, 2), 1, 4, rfl, (fun z hz => absurd hz (List.not_mem_nil)), by decide, by decide, clg_13, by decide +kernel, Or.inl rfl, nle rfl, by decide, L_L_teacher_13⟩, hQ 1 v _ M1 (by decide) rfl rfl (fun q => absurd q (by decide)) (hc M1 (fun _ _ => rfl))⟩
    have q := List.mem_singleton.mp hin
    obtain ⟨rfl, rfl⟩ := Prod.mk.inj q
    exact ⟨nI 2, ⟨[(0, 10, 13, 13)], (0, 10, 17, 15), [], (.astore 4, 2), 2, 4, rfl, (fun z hz => by rw [List.mem_singleton.mp hz]; exact ⟨by decide, _, clg_13, by decide +kernel⟩), by decide, by decide, clg_15, by decide +kernel, Or.inl rfl, nle rfl, by decide, L_L_teacher_17⟩, hQ 2 v _ M1 (by decide) rfl rfl (fun q => absurd q (by decide)) (hc M1 (fun _ _ => rfl))⟩
set_option maxRecDepth 100000 in
theorem ct_L_set {X : Xs} {κ : Kp} {M : Mem} {Q : Rs → Kp → Mem → Prop} {x m out B' : Nat} {z : MI} {as : List Value} (hx : IsDF κ.2.1 x) (hout : κ.2.1 out = some (19, 1, [])) {a : Int32} {b : Int32} {c : Int32} {d : Int32} {e_ : Int32} {f : Int32} (h : Ct X m_X7_set [.ref x, .int a, .int b, .int c, .int d, .int e_, .int f] κ M (Pst X κ x m out B' z as [(2, 1), (0, 2), (1, 3)])) (hQ : ∀ (p : Nat) (v : Int32) (κ' : Kp) (M1 : Mem), p < 100 → κ'.2.1 = κ.2.1 → κ'.1 = κ.1 → (p = 0 → M1 out 0 = v) → (∀ Q' : Rs → Kp → Mem → Prop, (∀ M2 w, J B' M2 x m → M2 m 0 = nI p → M2 out = M1 out → (p = 0 → w = v) → Q' (.inl (some (.int w))) κ' M2) → Ct X z (.ref m :: as) κ' M1 Q') → Q (.inl (some (.int (nI p)))) κ' M1) : Ct X m_L_set [.ref x, .int a, .int b, .int c, .int d, .int e_, .int f, .ref out] κ M Q := by
  refine ct_ofH B_L_set_0 pn_L rfl (nle rfl) L_L_set_0 ?_
  refine g_aload rfl ?_
  refine g_iconst (v := 0) ik_0 ?_
  refine g_aload_n rfl ?_
  refine g_iload_n rfl ?_
  refine g_iload_n rfl ?_
  refine g_iload_n rfl ?_
  refine g_iload rfl ?_
  refine g_iload rfl ?_
  refine g_iload rfl ?_
  refine g_callVh (as := [_, _, _, _, _, _]) mk_X7_set ml_L_52 im_X7_set se_X7_set rfl rfl rfl ⟨⟨nle rfl, nle rfl⟩, nle rfl, nle rfl⟩ hx.1 rfl rfl rfl (nle rfl) ?_
  refine h.mono fun r κ' M1 hP => ?_
  obtain ⟨p, v, hr, hc⟩ := hP
  rcases hr with ⟨rfl, rfl, rfl⟩ | ⟨e, rfl, hin, rfl⟩
  · refine g_i2l ?_
    refine g_lastore (j := 0) hout rfl (nle rfl) (nle rfl) ?_
    refine g_goto rfl L_L_set_33 ?_
    refine g_iconst (v := 0) ik_0 ?_
    refine g_iret rfl (nle rfl) (nle rfl) ?_
    exact hQ 0 v _ (upM M1 out 0 v) (by decide) rfl rfl (fun _ => upM_s _ _ _ _) (hc _ (fun r hr => funext fun j => upM_o _ _ _ _ hr j))
  · rcases List.mem_cons.mp hin with q | hin
    · obtain ⟨rfl, rfl⟩ := Prod.mk.inj q
      exact ⟨nI 1, ⟨[], (0, 18, 21, 28), [(0, 18, 25, 13), (0, 18, 29, 15)], (.astore 8, 2), 1, 8, rfl, (fun z hz => absurd hz (List.not_mem_nil)), by decide, by decide, clg_28, by decide +kernel, Or.inl rfl, nle rfl, by decide, L_L_set_21⟩, hQ 1 v _ M1 (by decide) rfl rfl (fun q => absurd q (by decide)) (hc M1 (fun _ _ => rfl))⟩
    rcases List.mem_cons.mp hin with q | hin
    · obtain ⟨rfl, rfl⟩ := Prod.mk.inj q
      exact ⟨nI 2, ⟨[(0, 18, 21, 28)], (0, 18, 25, 13), [(0, 18, 29, 15)], (.astore 8, 2), 2, 8, rfl, (fun z hz => by rw [List.mem_singleton.mp hz]; exact ⟨by decide, _, clg_28, by decide +kernel⟩), by decide, by decide, clg_13, by decide +kernel, Or.inl rfl, nle rfl, by decide, L_L_set_25⟩, hQ 2 v _ M1 (by decide) rfl rfl (fun q => absurd q (by decide)) (hc M1 (fun _ _ => rfl))⟩
    have q := List.mem_singleton.mp hin
    obtain ⟨rfl, rfl⟩ := Prod.mk.inj q
    exact ⟨nI 3, ⟨[(0, 18, 21, 28), (0, 18, 25, 13)], (0, 18, 29, 15), [], (.astore 8, 2), 3, 8, rfl, (fun z hz => (List.mem_cons.mp hz).elim (fun q => by rw [q]; exact ⟨by decide, _, clg_28, by decide +kernel⟩) (fun q => by rw [List.mem_singleton.mp q]; exact ⟨by decide, _, clg_13, by decide +kernel⟩)), by decide, by decide, clg_15, by decide +kernel, Or.inl rfl, nle rfl, by decide, L_L_set_29⟩, hQ 3 v _ M1 (by decide) rfl rfl (fun q => absurd q (by decide)) (hc M1 (fun _ _ => rfl))⟩
set_option maxRecDepth 100000 in
theorem ct_L_drop {X : Xs} {κ : Kp} {M : Mem} {Q : Rs → Kp → Mem → Prop} {x m out B' : Nat} {z : MI} {as : List Value} (hx : IsDF κ.2.1 x) (hout : κ.2.1 out = some (19, 1, [])) {a : Int32} (h : Ct X m_X7_drop [.ref x, .int a] κ M (Pst X κ x m out B' z as [(2, 1)])) (hQ : ∀ (p : Nat) (v : Int32) (κ' : Kp) (M1 : Mem), p < 100 → κ'.2.1 = κ.2.1 → κ'.1 = κ.1 → (p = 0 → M1 out 0 = v) → (∀ Q' : Rs → Kp → Mem → Prop, (∀ M2 w, J B' M2 x m → M2 m 0 = nI p → M2 out = M1 out → (p = 0 → w = v) → Q' (.inl (some (.int w))) κ' M2) → Ct X z (.ref m :: as) κ' M1 Q') → Q (.inl (some (.int (nI p)))) κ' M1) : Ct X m_L_drop [.ref x, .int a, .ref out] κ M Q := by
  refine ct_ofH B_L_drop_0 pn_L rfl (nle rfl) L_L_drop_0 ?_
  refine g_aload_n rfl ?_
  refine g_iconst (v := 0) ik_0 ?_
  refine g_aload_n rfl ?_
  refine g_iload_n rfl ?_
  refine g_callVh (as := [_]) mk_X7_drop ml_L_56 im_X7_drop se_X7_drop rfl rfl rfl ⟨⟨nle rfl, nle rfl⟩, nle rfl, nle rfl⟩ hx.1 rfl rfl rfl (nle rfl) ?_
  refine h.mono fun r κ' M1 hP => ?_
  obtain ⟨p, v, hr, hc⟩ := hP
  rcases hr with ⟨rfl, rfl, rfl⟩ | ⟨e, rfl, hin, rfl⟩
  · refine g_i2l ?_
    refine g_lastore (j := 0) hout rfl (nle rfl) (nle rfl) ?_
    refine g_goto rfl L_L_drop_15 ?_
    refine g_iconst (v := 0) ik_0 ?_
    refine g_iret rfl (nle rfl) (nle rfl) ?_
    exact hQ 0 v _ (upM M1 out 0 v) (by decide) rfl rfl (fun _ => upM_s _ _ _ _) (hc _ (fun r hr => funext fun j => upM_o _ _ _ _ hr j))
  · have q := List.mem_singleton.mp hin
    obtain ⟨rfl, rfl⟩ := Prod.mk.inj q
    exact ⟨nI 1, ⟨[], (0, 9, 12, 28), [], (.astore_n 3, 1), 1, 3, rfl, (fun z hz => absurd hz (List.not_mem_nil)), by decide, by decide, clg_28, by decide +kernel, Or.inr ⟨3, rfl, rfl⟩, nle rfl, by decide, L_L_drop_12⟩, hQ 1 v _ M1 (by decide) rfl rfl (fun q => absurd q (by decide)) (hc M1 (fun _ _ => rfl))⟩
set_option maxRecDepth 100000 in
theorem ct_L_dancer {X : Xs} {κ : Kp} {M : Mem} {Q : Rs → Kp → Mem → Prop} {x m out B' : Nat} {z : MI} {as : List Value} (hx : IsDF κ.2.1 x) (hout : κ.2.1 out = some (19, 1, [])) (h : Ct X m_X7_dancer [.ref x] κ M (Pst X κ x m out B' z as [(1, 1)])) (hQ : ∀ (p : Nat) (v : Int32) (κ' : Kp) (M1 : Mem), p < 100 → κ'.2.1 = κ.2.1 → κ'.1 = κ.1 → (p = 0 → M1 out 0 = v) → (∀ Q' : Rs → Kp → Mem → Prop, (∀ M2 w, J B' M2 x m → M2 m 0 = nI p → M2 out = M1 out → (p = 0 → w = v) → Q' (.inl (some (.int w))) κ' M2) → Ct X z (.ref m :: as) κ' M1 Q') → Q (.inl (some (.int (nI p)))) κ' M1) : Ct X m_L_dancer [.ref x, .ref out] κ M Q := by
  refine ct_ofH B_L_dancer_0 pn_L rfl (nle rfl) L_L_dancer_0 ?_
  refine g_aload_n rfl ?_
  refine g_iconst (v := 0) ik_0 ?_
  refine g_aload_n rfl ?_
  refine g_callVh (as := []) mk_X7_dancer ml_L_59 im_X7_dancer se_X7_dancer rfl rfl rfl ⟨⟨nle rfl, nle rfl⟩, nle rfl, nle rfl⟩ hx.1 rfl rfl rfl (nle rfl) ?_
  refine h.mono fun r κ' M1 hP => ?_
  obtain ⟨p, v, hr, hc⟩ := hP
  rcases hr with ⟨rfl, rfl, rfl⟩ | ⟨e, rfl, hin, rfl⟩
  · refine g_i2l ?_
    refine g_lastore (j := 0) hout rfl (nle rfl) (nle rfl) ?_
    refine g_goto rfl L_L_dancer_14 ?_
    refine g_iconst (v := 0) ik_0 ?_
    refine g_iret rfl (nle rfl) (nle rfl) ?_
    exact hQ 0 v _ (upM M1 out 0 v) (by decide) rfl rfl (fun _ => upM_s _ _ _ _) (hc _ (fun r hr => funext fun j => upM_o _ _ _ _ hr j))
  · have q := List.mem_singleton.mp hin
    obtain ⟨rfl, rfl⟩ := Prod.mk.inj q
    exact ⟨nI 1, ⟨[], (0, 8, 11, 15), [], (.astore_n 2, 1), 1, 2, rfl, (fun z hz => absurd hz (List.not_mem_nil)), by decide, by decide, clg_15, by decide +kernel, Or.inr ⟨2, rfl, rfl⟩, nle rfl, by decide, L_L_dancer_11⟩, hQ 1 v _ M1 (by decide) rfl rfl (fun q => absurd q (by decide)) (hc M1 (fun _ _ => rfl))⟩
set_option maxRecDepth 100000 in
theorem ct_L_pass {X : Xs} {κ : Kp} {M : Mem} {Q : Rs → Kp → Mem → Prop} {x m out B' : Nat} {z : MI} {as : List Value} (hx : IsDF κ.2.1 x) (hout : κ.2.1 out = some (19, 1, [])) {a : Int32} (h : Ct X m_X7_pass [.ref x, .int a] κ M (Pst X κ x m out B' z as [(2, 1), (1, 2)])) (hQ : ∀ (p : Nat) (v : Int32) (κ' : Kp) (M1 : Mem), p < 100 → κ'.2.1 = κ.2.1 → κ'.1 = κ.1 → (p = 0 → M1 out 0 = v) → (∀ Q' : Rs → Kp → Mem → Prop, (∀ M2 w, J B' M2 x m → M2 m 0 = nI p → M2 out = M1 out → (p = 0 → w = v) → Q' (.inl (some (.int w))) κ' M2) → Ct X z (.ref m :: as) κ' M1 Q') → Q (.inl (some (.int (nI p)))) κ' M1) : Ct X m_L_pass [.ref x, .int a, .ref out] κ M Q := by
  refine ct_ofH B_L_pass_0 pn_L rfl (nle rfl) L_L_pass_0 ?_
  refine g_aload_n rfl ?_
  refine g_iconst (v := 0) ik_0 ?_
  refine g_aload_n rfl ?_
  refine g_iload_n rfl ?_
  refine g_callVh (as := [_]) mk_X7_pass ml_L_62 im_X7_pass se_X7_pass rfl rfl rfl ⟨⟨nle rfl, nle rfl⟩, nle rfl, nle rfl⟩ hx.1 rfl rfl rfl (nle rfl) ?_
  refine h.mono fun r κ' M1 hP => ?_
  obtain ⟨p, v, hr, hc⟩ := hP
  rcases hr with ⟨rfl, rfl, rfl⟩ | ⟨e, rfl, hin, rfl⟩
  · refine g_i2l ?_
    refine g_lastore (j := 0) hout rfl (nle rfl) (nle rfl) ?_
    refine g_goto rfl L_L_pass_18 ?_
    refine g_iconst (v := 0) ik_0 ?_
    refine g_iret rfl (nle rfl) (nle rfl) ?_
    exact hQ 0 v _ (upM M1 out 0 v) (by decide) rfl rfl (fun _ => upM_s _ _ _ _) (hc _ (fun r hr => funext fun j => upM_o _ _ _ _ hr j))
  · rcases List.mem_cons.mp hin with q | hin
    · obtain ⟨rfl, rfl⟩ := Prod.mk.inj q
      exact ⟨nI 1, ⟨[], (0, 9, 12, 28), [(0, 9, 15, 15)], (.astore_n 3, 1), 1, 3, rfl, (fun z hz => absurd hz (List.not_mem_nil)), by decide, by decide, clg_28, by decide +kernel, Or.inr ⟨3, rfl, rfl⟩, nle rfl, by decide, L_L_pass_12⟩, hQ 1 v _ M1 (by decide) rfl rfl (fun q => absurd q (by decide)) (hc M1 (fun _ _ => rfl))⟩
    have q := List.mem_singleton.mp hin
    obtain ⟨rfl, rfl⟩ := Prod.mk.inj q
    exact ⟨nI 2, ⟨[(0, 9, 12, 28)], (0, 9, 15, 15), [], (.astore_n 3, 1), 2, 3, rfl, (fun z hz => by rw [List.mem_singleton.mp hz]; exact ⟨by decide, _, clg_28, by decide +kernel⟩), by decide, by decide, clg_15, by decide +kernel, Or.inr ⟨3, rfl, rfl⟩, nle rfl, by decide, L_L_pass_15⟩, hQ 2 v _ M1 (by decide) rfl rfl (fun q => absurd q (by decide)) (hc M1 (fun _ _ => rfl))⟩
set_option maxRecDepth 100000 in
theorem ct_L_enter {X : Xs} {κ : Kp} {M : Mem} {Q : Rs → Kp → Mem → Prop} {x m out B' : Nat} {z : MI} {as : List Value} (hx : IsDF κ.2.1 x) (hout : κ.2.1 out = some (19, 1, [])) {a : Int32} {b : Int32} (h : Ct X m_X7_enter [.ref x, .int a, .int b] κ M (Pst X κ x m out B' z as [(2, 1)])) (hQ : ∀ (p : Nat) (v : Int32) (κ' : Kp) (M1 : Mem), p < 100 → κ'.2.1 = κ.2.1 → κ'.1 = κ.1 → (p = 0 → M1 out 0 = v) → (∀ Q' : Rs → Kp → Mem → Prop, (∀ M2 w, J B' M2 x m → M2 m 0 = nI p → M2 out = M1 out → (p = 0 → w = v) → Q' (.inl (some (.int w))) κ' M2) → Ct X z (.ref m :: as) κ' M1 Q') → Q (.inl (some (.int (nI p)))) κ' M1) : Ct X m_L_enter [.ref x, .int a, .int b, .ref out] κ M Q := by
  refine ct_ofH B_L_enter_0 pn_L rfl (nle rfl) L_L_enter_0 ?_
  refine g_aload_n rfl ?_
  refine g_iconst (v := 0) ik_0 ?_
  refine g_aload_n rfl ?_
  refine g_iload_n rfl ?_
  refine g_iload_n rfl ?_
  refine g_callVh (as := [_, _]) mk_X7_enter ml_L_65 im_X7_enter se_X7_enter rfl rfl rfl ⟨⟨nle rfl, nle rfl⟩, nle rfl, nle rfl⟩ hx.1 rfl rfl rfl (nle rfl) ?_
  refine h.mono fun r κ' M1 hP => ?_
  obtain ⟨p, v, hr, hc⟩ := hP
  rcases hr with ⟨rfl, rfl, rfl⟩ | ⟨e, rfl, hin, rfl⟩
  · refine g_i2l ?_
    refine g_lastore (j := 0) hout rfl (nle rfl) (nle rfl) ?_
    refine g_goto rfl L_L_enter_17 ?_
    refine g_iconst (v := 0) ik_0 ?_
    refine g_iret rfl (nle rfl) (nle rfl) ?_
    exact hQ 0 v _ (upM M1 out 0 v) (by decide) rfl rfl (fun _ => upM_s _ _ _ _) (hc _ (fun r hr => funext fun j => upM_o _ _ _ _ hr j))
  · have q := List.mem_singleton.mp hin
    obtain ⟨rfl, rfl⟩ := Prod.mk.inj q
    exact ⟨nI 1, ⟨[], (0, 10, 13, 28), [], (.astore 4, 2), 1, 4, rfl, (fun z hz => absurd hz (List.not_mem_nil)), by decide, by decide, clg_28, by decide +kernel, Or.inl rfl, nle rfl, by decide, L_L_enter_13⟩, hQ 1 v _ M1 (by decide) rfl rfl (fun q => absurd q (by decide)) (hc M1 (fun _ _ => rfl))⟩
set_option maxRecDepth 100000 in
theorem ct_L_leave {X : Xs} {κ : Kp} {M : Mem} {Q : Rs → Kp → Mem → Prop} {x m out B' : Nat} {z : MI} {as : List Value} (hx : IsDF κ.2.1 x) (hout : κ.2.1 out = some (19, 1, [])) {a : Int32} {b : Int32} (h : Ct X m_X7_leave [.ref x, .int a, .int b] κ M (Pst X κ x m out B' z as [(2, 1), (1, 2)])) (hQ : ∀ (p : Nat) (v : Int32) (κ' : Kp) (M1 : Mem), p < 100 → κ'.2.1 = κ.2.1 → κ'.1 = κ.1 → (p = 0 → M1 out 0 = v) → (∀ Q' : Rs → Kp → Mem → Prop, (∀ M2 w, J B' M2 x m → M2 m 0 = nI p → M2 out = M1 out → (p = 0 → w = v) → Q' (.inl (some (.int w))) κ' M2) → Ct X z (.ref m :: as) κ' M1 Q') → Q (.inl (some (.int (nI p)))) κ' M1) : Ct X m_L_leave [.ref x, .int a, .int b, .ref out] κ M Q := by
  refine ct_ofH B_L_leave_0 pn_L rfl (nle rfl) L_L_leave_0 ?_
  refine g_aload_n rfl ?_
  refine g_iconst (v := 0) ik_0 ?_
  refine g_aload_n rfl ?_
  refine g_iload_n rfl ?_
  refine g_iload_n rfl ?_
  refine g_callVh (as := [_, _]) mk_X7_leave ml_L_68 im_X7_leave se_X7_leave rfl rfl rfl ⟨⟨nle rfl, nle rfl⟩, nle rfl, nle rfl⟩ hx.1 rfl rfl rfl (nle rfl) ?_
  refine h.mono fun r κ' M1 hP => ?_
  obtain ⟨p, v, hr, hc⟩ := hP
  rcases hr with ⟨rfl, rfl, rfl⟩ | ⟨e, rfl, hin, rfl⟩
  · refine g_i2l ?_
    refine g_lastore (j := 0) hout rfl (nle rfl) (nle rfl) ?_
    refine g_goto rfl L_L_leave_21 ?_
    refine g_iconst (v := 0) ik_0 ?_
    refine g_iret rfl (nle rfl) (nle rfl) ?_
    exact hQ 0 v _ (upM M1 out 0 v) (by decide) rfl rfl (fun _ => upM_s _ _ _ _) (hc _ (fun r hr => funext fun j => upM_o _ _ _ _ hr j))
  · rcases List.mem_cons.mp hin with q | hin
    · obtain ⟨rfl, rfl⟩ := Prod.mk.inj q
      exact ⟨nI 1, ⟨[], (0, 10, 13, 28), [(0, 10, 17, 15)], (.astore 4, 2), 1, 4, rfl, (fun z hz => absurd hz (List.not_mem_nil)), by decide, by decide, clg_28, by decide +kernel, Or.inl rfl, nle rfl, by decide, L_L_leave_13⟩, hQ 1 v _ M1 (by decide) rfl rfl (fun q => absurd q (by decide)) (hc M1 (fun _ _ => rfl))⟩
    have q := List.mem_singleton.mp hin
    obtain ⟨rfl, rfl⟩ := Prod.mk.inj q
    exact ⟨nI 2, ⟨[(0, 10, 13, 28)], (0, 10, 17, 15), [], (.astore 4, 2), 2, 4, rfl, (fun z hz => by rw [List.mem_singleton.mp hz]; exact ⟨by decide, _, clg_28, by decide +kernel⟩), by decide, by decide, clg_15, by decide +kernel, Or.inl rfl, nle rfl, by decide, L_L_leave_17⟩, hQ 2 v _ M1 (by decide) rfl rfl (fun q => absurd q (by decide)) (hc M1 (fun _ _ => rfl))⟩
set_option maxRecDepth 100000 in
theorem ct_L_weeks {X : Xs} {κ : Kp} {M : Mem} {Q : Rs → Kp → Mem → Prop} {x m out B' : Nat} {z : MI} {as : List Value} (hx : IsDF κ.2.1 x) (hout : κ.2.1 out = some (19, 1, [])) {a : Int32} (h : Ct X m_X7_weeks [.ref x, .int a] κ M (Pst X κ x m out B' z as [(0, 1)])) (hQ : ∀ (p : Nat) (v : Int32) (κ' : Kp) (M1 : Mem), p < 100 → κ'.2.1 = κ.2.1 → κ'.1 = κ.1 → (p = 0 → M1 out 0 = v) → (∀ Q' : Rs → Kp → Mem → Prop, (∀ M2 w, J B' M2 x m → M2 m 0 = nI p → M2 out = M1 out → (p = 0 → w = v) → Q' (.inl (some (.int w))) κ' M2) → Ct X z (.ref m :: as) κ' M1 Q') → Q (.inl (some (.int (nI p)))) κ' M1) : Ct X m_L_weeks [.ref x, .int a, .ref out] κ M Q := by
  refine ct_ofH B_L_weeks_0 pn_L rfl (nle rfl) L_L_weeks_0 ?_
  refine g_aload_n rfl ?_
  refine g_iconst (v := 0) ik_0 ?_
  refine g_aload_n rfl ?_
  refine g_iload_n rfl ?_
  refine g_callVh (as := [_]) mk_X7_weeks ml_L_71 im_X7_weeks se_X7_weeks rfl rfl rfl ⟨⟨nle rfl, nle rfl⟩, nle rfl, nle rfl⟩ hx.1 rfl rfl rfl (nle rfl) ?_
  refine h.mono fun r κ' M1 hP => ?_
  obtain ⟨p, v, hr, hc⟩ := hP
  rcases hr with ⟨rfl, rfl, rfl⟩ | ⟨e, rfl, hin, rfl⟩
  · refine g_i2l ?_
    refine g_lastore (j := 0) hout rfl (nle rfl) (nle rfl) ?_
    refine g_goto rfl L_L_weeks_15 ?_
    refine g_iconst (v := 0) ik_0 ?_
    refine g_iret rfl (nle rfl) (nle rfl) ?_
    exact hQ 0 v _ (upM M1 out 0 v) (by decide) rfl rfl (fun _ => upM_s _ _ _ _) (hc _ (fun r hr => funext fun j => upM_o _ _ _ _ hr j))
  · have q := List.mem_singleton.mp hin
    obtain ⟨rfl, rfl⟩ := Prod.mk.inj q
    exact ⟨nI 1, ⟨[], (0, 9, 12, 13), [], (.astore_n 3, 1), 1, 3, rfl, (fun z hz => absurd hz (List.not_mem_nil)), by decide, by decide, clg_13, by decide +kernel, Or.inr ⟨3, rfl, rfl⟩, nle rfl, by decide, L_L_weeks_12⟩, hQ 1 v _ M1 (by decide) rfl rfl (fun q => absurd q (by decide)) (hc M1 (fun _ _ => rfl))⟩
set_option maxRecDepth 100000 in
theorem ct_L_tune {X : Xs} {κ : Kp} {M : Mem} {Q : Rs → Kp → Mem → Prop} {x m out B' : Nat} {z : MI} {as : List Value} (hx : IsDF κ.2.1 x) (hout : κ.2.1 out = some (19, 1, [])) {a : Int32} {b : Int32} (h : Ct X m_X7_tune [.ref x, .int a, .int b] κ M (Pst X κ x m out B' z as [(0, 1)])) (hQ : ∀ (p : Nat) (v : Int32) (κ' : Kp) (M1 : Mem), p < 100 → κ'.2.1 = κ.2.1 → κ'.1 = κ.1 → (p = 0 → M1 out 0 = v) → (∀ Q' : Rs → Kp → Mem → Prop, (∀ M2 w, J B' M2 x m → M2 m 0 = nI p → M2 out = M1 out → (p = 0 → w = v) → Q' (.inl (some (.int w))) κ' M2) → Ct X z (.ref m :: as) κ' M1 Q') → Q (.inl (some (.int (nI p)))) κ' M1) : Ct X m_L_tune [.ref x, .int a, .int b, .ref out] κ M Q := by
  refine ct_ofH B_L_tune_0 pn_L rfl (nle rfl) L_L_tune_0 ?_
  refine g_aload_n rfl ?_
  refine g_iconst (v := 0) ik_0 ?_
  refine g_aload_n rfl ?_
  refine g_iload_n rfl ?_
  refine g_iload_n rfl ?_
  refine g_callVh (as := [_, _]) mk_X7_tune ml_L_74 im_X7_tune se_X7_tune rfl rfl rfl ⟨⟨nle rfl, nle rfl⟩, nle rfl, nle rfl⟩ hx.1 rfl rfl rfl (nle rfl) ?_
  refine h.mono fun r κ' M1 hP => ?_
  obtain ⟨p, v, hr, hc⟩ := hP
  rcases hr with ⟨rfl, rfl, rfl⟩ | ⟨e, rfl, hin, rfl⟩
  · refine g_i2l ?_
    refine g_lastore (j := 0) hout rfl (nle rfl) (nle rfl) ?_
    refine g_goto rfl L_L_tune_17 ?_
    refine g_iconst (v := 0) ik_0 ?_
    refine g_iret rfl (nle rfl) (nle rfl) ?_
    exact hQ 0 v _ (upM M1 out 0 v) (by decide) rfl rfl (fun _ => upM_s _ _ _ _) (hc _ (fun r hr => funext fun j => upM_o _ _ _ _ hr j))
  · have q := List.mem_singleton.mp hin
    obtain ⟨rfl, rfl⟩ := Prod.mk.inj q
    exact ⟨nI 1, ⟨[], (0, 10, 13, 13), [], (.astore 4, 2), 1, 4, rfl, (fun z hz => absurd hz (List.not_mem_nil)), by decide, by decide, clg_13, by decide +kernel, Or.inl rfl, nle rfl, by decide, L_L_tune_13⟩, hQ 1 v _ M1 (by decide) rfl rfl (fun q => absurd q (by decide)) (hc M1 (fun _ _ => rfl))⟩
set_option maxRecDepth 100000 in
theorem ct_L_undo {X : Xs} {κ : Kp} {M : Mem} {Q : Rs → Kp → Mem → Prop} {x m out B' : Nat} {z : MI} {as : List Value} (hx : IsDF κ.2.1 x) (hout : κ.2.1 out = some (19, 1, [])) (h : Ct X m_X7_undo [.ref x] κ M (Pst X κ x m out B' z as [(1, 1)])) (hQ : ∀ (p : Nat) (v : Int32) (κ' : Kp) (M1 : Mem), p < 100 → κ'.2.1 = κ.2.1 → κ'.1 = κ.1 → (p = 0 → M1 out 0 = v) → (∀ Q' : Rs → Kp → Mem → Prop, (∀ M2 w, J B' M2 x m → M2 m 0 = nI p → M2 out = M1 out → (p = 0 → w = v) → Q' (.inl (some (.int w))) κ' M2) → Ct X z (.ref m :: as) κ' M1 Q') → Q (.inl (some (.int (nI p)))) κ' M1) : Ct X m_L_undo [.ref x, .ref out] κ M Q := by
  refine ct_ofH B_L_undo_0 pn_L rfl (nle rfl) L_L_undo_0 ?_
  refine g_aload_n rfl ?_
  refine g_iconst (v := 0) ik_0 ?_
  refine g_aload_n rfl ?_
  refine g_callVh (as := []) mk_X7_undo ml_L_77 im_X7_undo se_X7_undo rfl rfl rfl ⟨⟨nle rfl, nle rfl⟩, nle rfl, nle rfl⟩ hx.1 rfl rfl rfl (nle rfl) ?_
  refine h.mono fun r κ' M1 hP => ?_
  obtain ⟨p, v, hr, hc⟩ := hP
  rcases hr with ⟨rfl, rfl, rfl⟩ | ⟨e, rfl, hin, rfl⟩
  · refine g_i2l ?_
    refine g_lastore (j := 0) hout rfl (nle rfl) (nle rfl) ?_
    refine g_goto rfl L_L_undo_14 ?_
    refine g_iconst (v := 0) ik_0 ?_
    refine g_iret rfl (nle rfl) (nle rfl) ?_
    exact hQ 0 v _ (upM M1 out 0 v) (by decide) rfl rfl (fun _ => upM_s _ _ _ _) (hc _ (fun r hr => funext fun j => upM_o _ _ _ _ hr j))
  · have q := List.mem_singleton.mp hin
    obtain ⟨rfl, rfl⟩ := Prod.mk.inj q
    exact ⟨nI 1, ⟨[], (0, 8, 11, 15), [], (.astore_n 2, 1), 1, 2, rfl, (fun z hz => absurd hz (List.not_mem_nil)), by decide, by decide, clg_15, by decide +kernel, Or.inr ⟨2, rfl, rfl⟩, nle rfl, by decide, L_L_undo_11⟩, hQ 1 v _ M1 (by decide) rfl rfl (fun q => absurd q (by decide)) (hc M1 (fun _ _ => rfl))⟩
set_option maxRecDepth 100000 in
theorem ct_L_why {X : Xs} {κ : Kp} {M : Mem} {Q : Rs → Kp → Mem → Prop} {x m out B' : Nat} {z : MI} {as : List Value} (hx : IsDF κ.2.1 x) (hout : κ.2.1 out = some (19, 1, [])) {a : Int32} {b : Int32} {c : Int32} {d : Int32} {e_ : Int32} {f : Int32} (h : Ct X m_X7_why [.ref x, .int a, .int b, .int c, .int d, .int e_, .int f] κ M (Pst X κ x m out B' z as [(2, 1), (0, 2)])) (hQ : ∀ (p : Nat) (v : Int32) (κ' : Kp) (M1 : Mem), p < 100 → κ'.2.1 = κ.2.1 → κ'.1 = κ.1 → (p = 0 → M1 out 0 = v) → (∀ Q' : Rs → Kp → Mem → Prop, (∀ M2 w, J B' M2 x m → M2 m 0 = nI p → M2 out = M1 out → (p = 0 → w = v) → Q' (.inl (some (.int w))) κ' M2) → Ct X z (.ref m :: as) κ' M1 Q') → Q (.inl (some (.int (nI p)))) κ' M1) : Ct X m_L_why [.ref x, .int a, .int b, .int c, .int d, .int e_, .int f, .ref out] κ M Q := by
  refine ct_ofH B_L_why_0 pn_L rfl (nle rfl) L_L_why_0 ?_
  refine g_aload rfl ?_
  refine g_iconst (v := 0) ik_0 ?_
  refine g_aload_n rfl ?_
  refine g_iload_n rfl ?_
  refine g_iload_n rfl ?_
  refine g_iload_n rfl ?_
  refine g_iload rfl ?_
  refine g_iload rfl ?_
  refine g_iload rfl ?_
  refine g_callVh (as := [_, _, _, _, _, _]) mk_X7_why ml_L_80 im_X7_why se_X7_why rfl rfl rfl ⟨⟨nle rfl, nle rfl⟩, nle rfl, nle rfl⟩ hx.1 rfl rfl rfl (nle rfl) ?_
  refine h.mono fun r κ' M1 hP => ?_
  obtain ⟨p, v, hr, hc⟩ := hP
  rcases hr with ⟨rfl, rfl, rfl⟩ | ⟨e, rfl, hin, rfl⟩
  · refine g_i2l ?_
    refine g_lastore (j := 0) hout rfl (nle rfl) (nle rfl) ?_
    refine g_goto rfl L_L_why_29 ?_
    refine g_iconst (v := 0) ik_0 ?_
    refine g_iret rfl (nle rfl) (nle rfl) ?_
    exact hQ 0 v _ (upM M1 out 0 v) (by decide) rfl rfl (fun _ => upM_s _ _ _ _) (hc _ (fun r hr => funext fun j => upM_o _ _ _ _ hr j))
  · rcases List.mem_cons.mp hin with q | hin
    · obtain ⟨rfl, rfl⟩ := Prod.mk.inj q
      exact ⟨nI 1, ⟨[], (0, 18, 21, 28), [(0, 18, 25, 13)], (.astore 8, 2), 1, 8, rfl, (fun z hz => absurd hz (List.not_mem_nil)), by decide, by decide, clg_28, by decide +kernel, Or.inl rfl, nle rfl, by decide, L_L_why_21⟩, hQ 1 v _ M1 (by decide) rfl rfl (fun q => absurd q (by decide)) (hc M1 (fun _ _ => rfl))⟩
    have q := List.mem_singleton.mp hin
    obtain ⟨rfl, rfl⟩ := Prod.mk.inj q
    exact ⟨nI 2, ⟨[(0, 18, 21, 28)], (0, 18, 25, 13), [], (.astore 8, 2), 2, 8, rfl, (fun z hz => by rw [List.mem_singleton.mp hz]; exact ⟨by decide, _, clg_28, by decide +kernel⟩), by decide, by decide, clg_13, by decide +kernel, Or.inl rfl, nle rfl, by decide, L_L_why_25⟩, hQ 2 v _ M1 (by decide) rfl rfl (fun q => absurd q (by decide)) (hc M1 (fun _ _ => rfl))⟩
set_option maxRecDepth 100000 in
theorem ct_L_whySeat {X : Xs} {κ : Kp} {M : Mem} {Q : Rs → Kp → Mem → Prop} {x m out B' : Nat} {z : MI} {as : List Value} (hx : IsDF κ.2.1 x) (hout : κ.2.1 out = some (19, 1, [])) {a : Int32} {b : Int32} (h : Ct X m_X7_whySeat [.ref x, .int a, .int b] κ M (Pst X κ x m out B' z as [(2, 1)])) (hQ : ∀ (p : Nat) (v : Int32) (κ' : Kp) (M1 : Mem), p < 100 → κ'.2.1 = κ.2.1 → κ'.1 = κ.1 → (p = 0 → M1 out 0 = v) → (∀ Q' : Rs → Kp → Mem → Prop, (∀ M2 w, J B' M2 x m → M2 m 0 = nI p → M2 out = M1 out → (p = 0 → w = v) → Q' (.inl (some (.int w))) κ' M2) → Ct X z (.ref m :: as) κ' M1 Q') → Q (.inl (some (.int (nI p)))) κ' M1) : Ct X m_L_whySeat [.ref x, .int a, .int b, .ref out] κ M Q := by
  refine ct_ofH B_L_whySeat_0 pn_L rfl (nle rfl) L_L_whySeat_0 ?_
  refine g_aload_n rfl ?_
  refine g_iconst (v := 0) ik_0 ?_
  refine g_aload_n rfl ?_
  refine g_iload_n rfl ?_
  refine g_iload_n rfl ?_
  refine g_callVh (as := [_, _]) mk_X7_whySeat ml_L_83 im_X7_whySeat se_X7_whySeat rfl rfl rfl ⟨⟨nle rfl, nle rfl⟩, nle rfl, nle rfl⟩ hx.1 rfl rfl rfl (nle rfl) ?_
  refine h.mono fun r κ' M1 hP => ?_
  obtain ⟨p, v, hr, hc⟩ := hP
  rcases hr with ⟨rfl, rfl, rfl⟩ | ⟨e, rfl, hin, rfl⟩
  · refine g_i2l ?_
    refine g_lastore (j := 0) hout rfl (nle rfl) (nle rfl) ?_
    refine g_goto rfl L_L_whySeat_17 ?_
    refine g_iconst (v := 0) ik_0 ?_
    refine g_iret rfl (nle rfl) (nle rfl) ?_
    exact hQ 0 v _ (upM M1 out 0 v) (by decide) rfl rfl (fun _ => upM_s _ _ _ _) (hc _ (fun r hr => funext fun j => upM_o _ _ _ _ hr j))
  · have q := List.mem_singleton.mp hin
    obtain ⟨rfl, rfl⟩ := Prod.mk.inj q
    exact ⟨nI 1, ⟨[], (0, 10, 13, 28), [], (.astore 4, 2), 1, 4, rfl, (fun z hz => absurd hz (List.not_mem_nil)), by decide, by decide, clg_28, by decide +kernel, Or.inl rfl, nle rfl, by decide, L_L_whySeat_13⟩, hQ 1 v _ M1 (by decide) rfl rfl (fun q => absurd q (by decide)) (hc M1 (fun _ _ => rfl))⟩
set_option maxRecDepth 100000 in
theorem ct_L_bestFloor {X : Xs} {κ : Kp} {M : Mem} {Q : Rs → Kp → Mem → Prop} {x m out B' : Nat} {z : MI} {as : List Value} (hx : IsDF κ.2.1 x) (hout : κ.2.1 out = some (19, 1, [])) {a : Int32} {b : Int32} {c : Int32} {d : Int32} {e_ : Int32} (h : Ct X m_X7_bestFloor [.ref x, .int a, .int b, .int c, .int d, .int e_] κ M (Pst X κ x m out B' z as [(2, 1), (0, 2)])) (hQ : ∀ (p : Nat) (v : Int32) (κ' : Kp) (M1 : Mem), p < 100 → κ'.2.1 = κ.2.1 → κ'.1 = κ.1 → (p = 0 → M1 out 0 = v) → (∀ Q' : Rs → Kp → Mem → Prop, (∀ M2 w, J B' M2 x m → M2 m 0 = nI p → M2 out = M1 out → (p = 0 → w = v) → Q' (.inl (some (.int w))) κ' M2) → Ct X z (.ref m :: as) κ' M1 Q') → Q (.inl (some (.int (nI p)))) κ' M1) : Ct X m_L_bestFloor [.ref x, .int a, .int b, .int c, .int d, .int e_, .ref out] κ M Q := by
  refine ct_ofH B_L_bestFloor_0 pn_L rfl (nle rfl) L_L_bestFloor_0 ?_
  refine g_aload rfl ?_
  refine g_iconst (v := 0) ik_0 ?_
  refine g_aload_n rfl ?_
  refine g_iload_n rfl ?_
  refine g_iload_n rfl ?_
  refine g_iload_n rfl ?_
  refine g_iload rfl ?_
  refine g_iload rfl ?_
  refine g_callVh (as := [_, _, _, _, _]) mk_X7_bestFloor ml_L_86 im_X7_bestFloor se_X7_bestFloor rfl rfl rfl ⟨⟨nle rfl, nle rfl⟩, nle rfl, nle rfl⟩ hx.1 rfl rfl rfl (nle rfl) ?_
  refine h.mono fun r κ' M1 hP => ?_
  obtain ⟨p, v, hr, hc⟩ := hP
  rcases hr with ⟨rfl, rfl, rfl⟩ | ⟨e, rfl, hin, rfl⟩
  · refine g_i2l ?_
    refine g_lastore (j := 0) hout rfl (nle rfl) (nle rfl) ?_
    refine g_goto rfl L_L_bestFloor_27 ?_
    refine g_iconst (v := 0) ik_0 ?_
    refine g_iret rfl (nle rfl) (nle rfl) ?_
    exact hQ 0 v _ (upM M1 out 0 v) (by decide) rfl rfl (fun _ => upM_s _ _ _ _) (hc _ (fun r hr => funext fun j => upM_o _ _ _ _ hr j))
  · rcases List.mem_cons.mp hin with q | hin
    · obtain ⟨rfl, rfl⟩ := Prod.mk.inj q
      exact ⟨nI 1, ⟨[], (0, 16, 19, 28), [(0, 16, 23, 13)], (.astore 7, 2), 1, 7, rfl, (fun z hz => absurd hz (List.not_mem_nil)), by decide, by decide, clg_28, by decide +kernel, Or.inl rfl, nle rfl, by decide, L_L_bestFloor_19⟩, hQ 1 v _ M1 (by decide) rfl rfl (fun q => absurd q (by decide)) (hc M1 (fun _ _ => rfl))⟩
    have q := List.mem_singleton.mp hin
    obtain ⟨rfl, rfl⟩ := Prod.mk.inj q
    exact ⟨nI 2, ⟨[(0, 16, 19, 28)], (0, 16, 23, 13), [], (.astore 7, 2), 2, 7, rfl, (fun z hz => by rw [List.mem_singleton.mp hz]; exact ⟨by decide, _, clg_28, by decide +kernel⟩), by decide, by decide, clg_13, by decide +kernel, Or.inl rfl, nle rfl, by decide, L_L_bestFloor_23⟩, hQ 2 v _ M1 (by decide) rfl rfl (fun q => absurd q (by decide)) (hc M1 (fun _ _ => rfl))⟩
set_option maxRecDepth 100000 in
theorem ct_L_emptyIn {X : Xs} {κ : Kp} {M : Mem} {Q : Rs → Kp → Mem → Prop} {x m out B' : Nat} {z : MI} {as : List Value} (hx : IsDF κ.2.1 x) (hout : κ.2.1 out = some (19, 1, [])) {a : Int32} (h : Ct X m_X7_emptyIn [.ref x, .int a] κ M (Pst X κ x m out B' z as [(2, 1)])) (hQ : ∀ (p : Nat) (v : Int32) (κ' : Kp) (M1 : Mem), p < 100 → κ'.2.1 = κ.2.1 → κ'.1 = κ.1 → (p = 0 → M1 out 0 = v) → (∀ Q' : Rs → Kp → Mem → Prop, (∀ M2 w, J B' M2 x m → M2 m 0 = nI p → M2 out = M1 out → (p = 0 → w = v) → Q' (.inl (some (.int w))) κ' M2) → Ct X z (.ref m :: as) κ' M1 Q') → Q (.inl (some (.int (nI p)))) κ' M1) : Ct X m_L_emptyIn [.ref x, .int a, .ref out] κ M Q := by
  refine ct_ofH B_L_emptyIn_0 pn_L rfl (nle rfl) L_L_emptyIn_0 ?_
  refine g_aload_n rfl ?_
  refine g_iconst (v := 0) ik_0 ?_
  refine g_aload_n rfl ?_
  refine g_iload_n rfl ?_
  refine g_callVh (as := [_]) mk_X7_emptyIn ml_L_90 im_X7_emptyIn se_X7_emptyIn rfl rfl rfl ⟨⟨nle rfl, nle rfl⟩, nle rfl, nle rfl⟩ hx.1 rfl rfl rfl (nle rfl) ?_
  refine h.mono fun r κ' M1 hP => ?_
  obtain ⟨p, v, hr, hc⟩ := hP
  rcases hr with ⟨rfl, rfl, rfl⟩ | ⟨e, rfl, hin, rfl⟩
  · refine g_i2l ?_
    refine g_lastore (j := 0) hout rfl (nle rfl) (nle rfl) ?_
    refine g_goto rfl L_L_emptyIn_15 ?_
    refine g_iconst (v := 0) ik_0 ?_
    refine g_iret rfl (nle rfl) (nle rfl) ?_
    exact hQ 0 v _ (upM M1 out 0 v) (by decide) rfl rfl (fun _ => upM_s _ _ _ _) (hc _ (fun r hr => funext fun j => upM_o _ _ _ _ hr j))
  · have q := List.mem_singleton.mp hin
    obtain ⟨rfl, rfl⟩ := Prod.mk.inj q
    exact ⟨nI 1, ⟨[], (0, 9, 12, 28), [], (.astore_n 3, 1), 1, 3, rfl, (fun z hz => absurd hz (List.not_mem_nil)), by decide, by decide, clg_28, by decide +kernel, Or.inr ⟨3, rfl, rfl⟩, nle rfl, by decide, L_L_emptyIn_12⟩, hQ 1 v _ M1 (by decide) rfl rfl (fun q => absurd q (by decide)) (hc M1 (fun _ _ => rfl))⟩
set_option maxRecDepth 100000 in
theorem ct_L_runScript {X : Xs} {κ : Kp} {M : Mem} {Q : Rs → Kp → Mem → Prop} {x m out B' : Nat} {z : MI} {as : List Value} (hx : IsDF κ.2.1 x) (hout : κ.2.1 out = some (19, 1, [])) {a : Int32} {sc : Int64} (h : Ct X m_X7_runScript [.ref x, .int a, .long sc] κ M (Pst X κ x m out B' z as [(0, 1)])) (hQ : ∀ (p : Nat) (v : Int32) (κ' : Kp) (M1 : Mem), p < 100 → κ'.2.1 = κ.2.1 → κ'.1 = κ.1 → (p = 0 → M1 out 0 = v) → (∀ Q' : Rs → Kp → Mem → Prop, (∀ M2 w, J B' M2 x m → M2 m 0 = nI p → M2 out = M1 out → (p = 0 → w = v) → Q' (.inl (some (.int w))) κ' M2) → Ct X z (.ref m :: as) κ' M1 Q') → Q (.inl (some (.int (nI p)))) κ' M1) : Ct X m_L_runScript [.ref x, .int a, .long sc, .ref out] κ M Q := by
  refine ct_ofH B_L_runScript_0 pn_L rfl (nle rfl) L_L_runScript_0 ?_
  refine g_aload rfl ?_
  refine g_iconst (v := 0) ik_0 ?_
  refine g_aload_n rfl ?_
  refine g_iload_n rfl ?_
  refine g_lload_n rfl ?_
  refine g_callVh (as := [_, _]) mk_X7_runScript ml_L_93 im_X7_runScript se_X7_runScript rfl rfl rfl ⟨⟨nle rfl, nle rfl⟩, nle rfl, nle rfl⟩ hx.1 rfl rfl rfl (nle rfl) ?_
  refine h.mono fun r κ' M1 hP => ?_
  obtain ⟨p, v, hr, hc⟩ := hP
  rcases hr with ⟨rfl, rfl, rfl⟩ | ⟨e, rfl, hin, rfl⟩
  · refine g_i2l ?_
    refine g_lastore (j := 0) hout rfl (nle rfl) (nle rfl) ?_
    refine g_goto rfl L_L_runScript_18 ?_
    refine g_iconst (v := 0) ik_0 ?_
    refine g_iret rfl (nle rfl) (nle rfl) ?_
    exact hQ 0 v _ (upM M1 out 0 v) (by decide) rfl rfl (fun _ => upM_s _ _ _ _) (hc _ (fun r hr => funext fun j => upM_o _ _ _ _ hr j))
  · have q := List.mem_singleton.mp hin
    obtain ⟨rfl, rfl⟩ := Prod.mk.inj q
    exact ⟨nI 1, ⟨[], (0, 11, 14, 13), [], (.astore 5, 2), 1, 5, rfl, (fun z hz => absurd hz (List.not_mem_nil)), by decide, by decide, clg_13, by decide +kernel, Or.inl rfl, nle rfl, by decide, L_L_runScript_14⟩, hQ 1 v _ M1 (by decide) rfl rfl (fun q => absurd q (by decide)) (hc M1 (fun _ _ => rfl))⟩
set_option maxRecDepth 100000 in
theorem ct_L_simulate {X : Xs} {κ : Kp} {M : Mem} {Q : Rs → Kp → Mem → Prop} {x m out B' : Nat} {z : MI} {as : List Value} (hx : IsDF κ.2.1 x) (hout : κ.2.1 out = some (19, 1, [])) {seed : Int64} {a : Int32} (h : Ct X m_X7_simulate [.ref x, .long seed, .int a] κ M (Pst X κ x m out B' z as [(0, 1)])) (hQ : ∀ (p : Nat) (v : Int32) (κ' : Kp) (M1 : Mem), p < 100 → κ'.2.1 = κ.2.1 → κ'.1 = κ.1 → (p = 0 → M1 out 0 = v) → (∀ Q' : Rs → Kp → Mem → Prop, (∀ M2 w, J B' M2 x m → M2 m 0 = nI p → M2 out = M1 out → (p = 0 → w = v) → Q' (.inl (some (.int w))) κ' M2) → Ct X z (.ref m :: as) κ' M1 Q') → Q (.inl (some (.int (nI p)))) κ' M1) : Ct X m_L_simulate [.ref x, .long seed, .int a, .ref out] κ M Q := by
  refine ct_ofH B_L_simulate_0 pn_L rfl (nle rfl) L_L_simulate_0 ?_
  refine g_aload rfl ?_
  refine g_iconst (v := 0) ik_0 ?_
  refine g_aload_n rfl ?_
  refine g_lload_n rfl ?_
  refine g_iload_n rfl ?_
  refine g_callVh (as := [_, _]) mk_X7_simulate ml_L_97 im_X7_simulate se_X7_simulate rfl rfl rfl ⟨⟨nle rfl, nle rfl⟩, nle rfl, nle rfl⟩ hx.1 rfl rfl rfl (nle rfl) ?_
  refine h.mono fun r κ' M1 hP => ?_
  obtain ⟨p, v, hr, hc⟩ := hP
  rcases hr with ⟨rfl, rfl, rfl⟩ | ⟨e, rfl, hin, rfl⟩
  · refine g_i2l ?_
    refine g_lastore (j := 0) hout rfl (nle rfl) (nle rfl) ?_
    refine g_goto rfl L_L_simulate_18 ?_
    refine g_iconst (v := 0) ik_0 ?_
    refine g_iret rfl (nle rfl) (nle rfl) ?_
    exact hQ 0 v _ (upM M1 out 0 v) (by decide) rfl rfl (fun _ => upM_s _ _ _ _) (hc _ (fun r hr => funext fun j => upM_o _ _ _ _ hr j))
  · have q := List.mem_singleton.mp hin
    obtain ⟨rfl, rfl⟩ := Prod.mk.inj q
    exact ⟨nI 1, ⟨[], (0, 11, 14, 13), [], (.astore 5, 2), 1, 5, rfl, (fun z hz => absurd hz (List.not_mem_nil)), by decide, by decide, clg_13, by decide +kernel, Or.inl rfl, nle rfl, by decide, L_L_simulate_14⟩, hQ 1 v _ M1 (by decide) rfl rfl (fun q => absurd q (by decide)) (hc M1 (fun _ _ => rfl))⟩
set_option maxRecDepth 100000 in
theorem ct_L_save {X : Xs} {κ : Kp} {M : Mem} {Q : Rs → Kp → Mem → Prop} {x m out B' : Nat} {z : MI} {as : List Value} (hx : IsDF κ.2.1 x) (hout : κ.2.1 out = some (19, 1, [])) {a : Int32} (h : Ct X m_X7_save [.ref x, .int a] κ M (Pst X κ x m out B' z as [(2, 1)])) (hQ : ∀ (p : Nat) (v : Int32) (κ' : Kp) (M1 : Mem), p < 100 → κ'.2.1 = κ.2.1 → κ'.1 = κ.1 → (p = 0 → M1 out 0 = v) → (∀ Q' : Rs → Kp → Mem → Prop, (∀ M2 w, J B' M2 x m → M2 m 0 = nI p → M2 out = M1 out → (p = 0 → w = v) → Q' (.inl (some (.int w))) κ' M2) → Ct X z (.ref m :: as) κ' M1 Q') → Q (.inl (some (.int (nI p)))) κ' M1) : Ct X m_L_save [.ref x, .int a, .ref out] κ M Q := by
  refine ct_ofH B_L_save_0 pn_L rfl (nle rfl) L_L_save_0 ?_
  refine g_aload_n rfl ?_
  refine g_iconst (v := 0) ik_0 ?_
  refine g_aload_n rfl ?_
  refine g_iload_n rfl ?_
  refine g_callVh (as := [_]) mk_X7_save ml_L_101 im_X7_save se_X7_save rfl rfl rfl ⟨⟨nle rfl, nle rfl⟩, nle rfl, nle rfl⟩ hx.1 rfl rfl rfl (nle rfl) ?_
  refine h.mono fun r κ' M1 hP => ?_
  obtain ⟨p, v, hr, hc⟩ := hP
  rcases hr with ⟨rfl, rfl, rfl⟩ | ⟨e, rfl, hin, rfl⟩
  · refine g_i2l ?_
    refine g_lastore (j := 0) hout rfl (nle rfl) (nle rfl) ?_
    refine g_goto rfl L_L_save_15 ?_
    refine g_iconst (v := 0) ik_0 ?_
    refine g_iret rfl (nle rfl) (nle rfl) ?_
    exact hQ 0 v _ (upM M1 out 0 v) (by decide) rfl rfl (fun _ => upM_s _ _ _ _) (hc _ (fun r hr => funext fun j => upM_o _ _ _ _ hr j))
  · have q := List.mem_singleton.mp hin
    obtain ⟨rfl, rfl⟩ := Prod.mk.inj q
    exact ⟨nI 1, ⟨[], (0, 9, 12, 28), [], (.astore_n 3, 1), 1, 3, rfl, (fun z hz => absurd hz (List.not_mem_nil)), by decide, by decide, clg_28, by decide +kernel, Or.inr ⟨3, rfl, rfl⟩, nle rfl, by decide, L_L_save_12⟩, hQ 1 v _ M1 (by decide) rfl rfl (fun q => absurd q (by decide)) (hc M1 (fun _ _ => rfl))⟩
set_option maxRecDepth 100000 in
theorem ct_L_restore {X : Xs} {κ : Kp} {M : Mem} {Q : Rs → Kp → Mem → Prop} {x m out B' : Nat} {z : MI} {as : List Value} (hx : IsDF κ.2.1 x) (hout : κ.2.1 out = some (19, 1, [])) {a : Int32} (h : Ct X m_X7_restore [.ref x, .int a] κ M (Pst X κ x m out B' z as [(2, 1), (1, 2)])) (hQ : ∀ (p : Nat) (v : Int32) (κ' : Kp) (M1 : Mem), p < 100 → κ'.2.1 = κ.2.1 → κ'.1 = κ.1 → (p = 0 → M1 out 0 = v) → (∀ Q' : Rs → Kp → Mem → Prop, (∀ M2 w, J B' M2 x m → M2 m 0 = nI p → M2 out = M1 out → (p = 0 → w = v) → Q' (.inl (some (.int w))) κ' M2) → Ct X z (.ref m :: as) κ' M1 Q') → Q (.inl (some (.int (nI p)))) κ' M1) : Ct X m_L_restore [.ref x, .int a, .ref out] κ M Q := by
  refine ct_ofH B_L_restore_0 pn_L rfl (nle rfl) L_L_restore_0 ?_
  refine g_aload_n rfl ?_
  refine g_iconst (v := 0) ik_0 ?_
  refine g_aload_n rfl ?_
  refine g_iload_n rfl ?_
  refine g_callVh (as := [_]) mk_X7_restore ml_L_104 im_X7_restore se_X7_restore rfl rfl rfl ⟨⟨nle rfl, nle rfl⟩, nle rfl, nle rfl⟩ hx.1 rfl rfl rfl (nle rfl) ?_
  refine h.mono fun r κ' M1 hP => ?_
  obtain ⟨p, v, hr, hc⟩ := hP
  rcases hr with ⟨rfl, rfl, rfl⟩ | ⟨e, rfl, hin, rfl⟩
  · refine g_i2l ?_
    refine g_lastore (j := 0) hout rfl (nle rfl) (nle rfl) ?_
    refine g_goto rfl L_L_restore_18 ?_
    refine g_iconst (v := 0) ik_0 ?_
    refine g_iret rfl (nle rfl) (nle rfl) ?_
    exact hQ 0 v _ (upM M1 out 0 v) (by decide) rfl rfl (fun _ => upM_s _ _ _ _) (hc _ (fun r hr => funext fun j => upM_o _ _ _ _ hr j))
  · rcases List.mem_cons.mp hin with q | hin
    · obtain ⟨rfl, rfl⟩ := Prod.mk.inj q
      exact ⟨nI 1, ⟨[], (0, 9, 12, 28), [(0, 9, 15, 15)], (.astore_n 3, 1), 1, 3, rfl, (fun z hz => absurd hz (List.not_mem_nil)), by decide, by decide, clg_28, by decide +kernel, Or.inr ⟨3, rfl, rfl⟩, nle rfl, by decide, L_L_restore_12⟩, hQ 1 v _ M1 (by decide) rfl rfl (fun q => absurd q (by decide)) (hc M1 (fun _ _ => rfl))⟩
    have q := List.mem_singleton.mp hin
    obtain ⟨rfl, rfl⟩ := Prod.mk.inj q
    exact ⟨nI 2, ⟨[(0, 9, 12, 28)], (0, 9, 15, 15), [], (.astore_n 3, 1), 2, 3, rfl, (fun z hz => by rw [List.mem_singleton.mp hz]; exact ⟨by decide, _, clg_28, by decide +kernel⟩), by decide, by decide, clg_15, by decide +kernel, Or.inr ⟨3, rfl, rfl⟩, nle rfl, by decide, L_L_restore_15⟩, hQ 2 v _ M1 (by decide) rfl rfl (fun q => absurd q (by decide)) (hc M1 (fun _ _ => rfl))⟩
