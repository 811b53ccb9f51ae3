set_option maxRecDepth 100000 in
set_option maxHeartbeats 4000000 in
theorem ct_X7_requireIndex {X : Xs} {κ : Kp} {M : Mem} {Q : Rs → Kp → Mem → Prop} {b : Bool} (hY : b = true → Q (.inl none) κ M) (hN : b = false → False) : Ct X m_X7_requireIndex [.int (bI b)] κ M Q := by
  refine ct_of B_X7_requireIndex_0 pn_X7 rfl (nle rfl) L_X7_requireIndex_0 ?_
  refine g_iload_n rfl ?_
  refine g_if_ne_b rfl L_X7_requireIndex_15 (fun h_1 => ?_) (fun h_1 => ?_)
  · have hb := h_1
    refine g_vret rfl (nle rfl) (nle rfl) ?_
    exact hY hb
  · have hb := h_1
    exact (hN hb).elim
set_option maxRecDepth 100000 in
set_option maxHeartbeats 4000000 in
theorem ct_X7_requireArgument {X : Xs} {κ : Kp} {M : Mem} {Q : Rs → Kp → Mem → Prop} {b : Bool} (hY : b = true → Q (.inl none) κ M) (hN : b = false → False) : Ct X m_X7_requireArgument [.int (bI b)] κ M Q := by
  refine ct_of B_X7_requireArgument_0 pn_X7 rfl (nle rfl) L_X7_requireArgument_0 ?_
  refine g_iload_n rfl ?_
  refine g_if_ne_b rfl L_X7_requireArgument_15 (fun h_1 => ?_) (fun h_1 => ?_)
  · have hb := h_1
    refine g_vret rfl (nle rfl) (nle rfl) ?_
    exact hY hb
  · have hb := h_1
    exact (hN hb).elim
set_option maxRecDepth 100000 in
set_option maxHeartbeats 4000000 in
theorem ct_X7_requireState {X : Xs} {κ : Kp} {M : Mem} {Q : Rs → Kp → Mem → Prop} {b : Bool} (hY : b = true → Q (.inl none) κ M) (hN : b = false → False) : Ct X m_X7_requireState [.int (bI b)] κ M Q := by
  refine ct_of B_X7_requireState_0 pn_X7 rfl (nle rfl) L_X7_requireState_0 ?_
  refine g_iload_n rfl ?_
  refine g_if_ne_b rfl L_X7_requireState_15 (fun h_1 => ?_) (fun h_1 => ?_)
  · have hb := h_1
    refine g_vret rfl (nle rfl) (nle rfl) ?_
    exact hY hb
  · have hb := h_1
    exact (hN hb).elim
