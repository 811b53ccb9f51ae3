theorem cle_13 : Cond.classLink RL 13 (exN 0) ∈ tblE := by decide +kernel
theorem clg_13 : Cond.classLink RL 13 (exN 0) ∈ tblG := List.mem_filter.mpr ⟨tE_in cle_13, by decide +kernel⟩
theorem cle_15 : Cond.classLink RL 15 (exN 1) ∈ tblE := by decide +kernel
theorem clg_15 : Cond.classLink RL 15 (exN 1) ∈ tblG := List.mem_filter.mpr ⟨tE_in cle_15, by decide +kernel⟩
theorem cle_28 : Cond.classLink RL 28 (exN 2) ∈ tblE := by decide +kernel
theorem clg_28 : Cond.classLink RL 28 (exN 2) ∈ tblG := List.mem_filter.mpr ⟨tE_in cle_28, by decide +kernel⟩
set_option maxRecDepth 100000 in
theorem ct_L_append {X : Xs} {κ : Kp} {M : Mem} {Q : Rs → Kp → Mem → Prop} {x m out B' : Nat} {z : MI} {as : List Value} (hx : IsDF κ.2.1 x) (hout : κ.2.1 out = some (19, 1, [])) {c : Int32} (h : Ct X m_X7_append [.ref x, .int c] κ M (Pst X κ x m out B' z as [(0, 1), (1, 2)])) (hQ : ∀ (p : Nat) (v : Int32) (κ' : Kp) (M1 : Mem), κ'.2.1 = κ.2.1 → κ'.1 = κ.1 → (p = 0 → M1 out 0 = v) → (∀ Q' : Rs → Kp → Mem → Prop, (∀ M2 w, J B' M2 x m → M2 m 0 = nI p → M2 out = M1 out → (p = 0 → w = v) → Q' (.inl (some (.int w))) κ' M2) → Ct X z (.ref m :: as) κ' M1 Q') → Q (.inl (some (.int (nI p)))) κ' M1) : Ct X m_L_append [.ref x, .int c, .ref out] κ M Q := by
  refine ct_ofH B_L_append_0 pn_L rfl (nle rfl) L_L_append_0 ?_
  refine g_aload_n rfl ?_
  refine g_iconst (v := 0) ik_0 ?_
  refine g_aload_n rfl ?_
  refine g_iload_n rfl ?_
  refine g_callVh (as := [_]) mk_X7_append ml_L_7 im_X7_append se_X7_append rfl rfl rfl ⟨⟨nle rfl, nle rfl⟩, nle rfl, nle rfl⟩ hx.1 rfl rfl rfl (nle rfl) ?_
  refine h.mono fun r κ' M1 hP => ?_
  obtain ⟨p, v, hr, hc⟩ := hP
  rcases hr with ⟨rfl, rfl, rfl⟩ | ⟨e, rfl, hin, rfl⟩
  · refine g_i2l ?_
    refine g_lastore (j := 0) hout rfl (nle rfl) (nle rfl) ?_
    refine g_goto rfl L_L_append_18 ?_
    refine g_iconst (v := 0) ik_0 ?_
    refine g_iret rfl (nle rfl) (nle rfl) ?_
    exact hQ 0 v _ (upM M1 out 0 v) rfl rfl (fun _ => upM_s _ _ _ _) (hc _ (fun r hr => funext fun j => upM_o _ _ _ _ hr j))
  · rcases List.mem_cons.mp hin with q | hin
    · obtain ⟨rfl, rfl⟩ := Prod.mk.inj q
      exact ⟨nI 1, ⟨[], (0, 9, 12, 13), [(0, 9, 15, 15)], (.astore_n 3, 1), 1, 3, rfl, (fun z hz => absurd hz (List.not_mem_nil)), by decide, by decide, clg_13, by decide +kernel, Or.inr ⟨3, rfl, rfl⟩, nle rfl, by decide, L_L_append_12⟩, hQ 1 v _ M1 rfl rfl (fun q => absurd q (by decide)) (hc M1 (fun _ _ => rfl))⟩
    have q := List.mem_singleton.mp hin
    obtain ⟨rfl, rfl⟩ := Prod.mk.inj q
    exact ⟨nI 2, ⟨[(0, 9, 12, 13)], (0, 9, 15, 15), [], (.astore_n 3, 1), 2, 3, rfl, (fun z hz => by rw [List.mem_singleton.mp hz]; exact ⟨by decide, _, clg_13, by decide +kernel⟩), by decide, by decide, clg_15, by decide +kernel, Or.inr ⟨3, rfl, rfl⟩, nle rfl, by decide, L_L_append_15⟩, hQ 2 v _ M1 rfl rfl (fun q => absurd q (by decide)) (hc M1 (fun _ _ => rfl))⟩
