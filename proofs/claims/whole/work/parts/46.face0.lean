theorem t1236 {w : Cond} (h : w ∈ tables_1_2 ++ (tables_1_3 ++ (tables_1_1 ++ tables_1_6))) : w ∈ lw_tbl := by
  rcases List.mem_append.mp h with h | h
  · exact tM2 h
  rcases List.mem_append.mp h with h | h
  · exact tM3 h
  rcases List.mem_append.mp h with h | h
  · exact tM1 h
  · exact tM6 h
theorem tG_of {w : Cond} (h : w ∈ tables_1_2 ++ (tables_1_3 ++ (tables_1_1 ++ tables_1_6))) (hg : goodWord w = true) : w ∈ tblG := List.mem_filter.mpr ⟨t1236 h, hg⟩
theorem tS_of {w : Cond} (h : w ∈ k2_sels lw_privs) (hg : goodWord w = true) : w ∈ tblG := List.mem_filter.mpr ⟨List.mem_append_left _ h, hg⟩
def tblE : List Cond := tables_1_2 ++ (tables_1_3 ++ (tables_1_1 ++ (tables_1_6 ++ k2_sels lw_privs)))
theorem tE_in {w : Cond} (h : w ∈ tblE) : w ∈ lw_tbl := by
  rcases List.mem_append.mp h with h | h
  · exact tM2 h
  rcases List.mem_append.mp h with h | h
  · exact tM3 h
  rcases List.mem_append.mp h with h | h
  · exact tM1 h
  rcases List.mem_append.mp h with h | h
  · exact tM6 h
  · exact List.mem_append_left _ h
theorem thg_128 : ∀ w ∈ (vx_atS RX7 132 (exN 0) thrN).filter goodWord, w ∈ tblE := by decide +kernel
theorem thb_128 : ∀ w ∈ (vx_atS RX7 132 (exN 0) thrN).filter (fun w => !goodWord w), w ∈ Cond.castable (exN 0) (exN 0) :: declW.map Cond.declares := by decide +kernel
theorem tho_128 : ∀ w ∈ Cond.classLink RX7 128 (exN 0) :: Cond.initialized (exN 0) :: vx_atS RX7 132 (exN 0) thrN, vx_ot w = true := by decide +kernel
theorem the_128 : Cond.classLink RX7 128 (exN 0) ∈ tblE ∧ Cond.initialized (exN 0) ∈ tblE := by decide +kernel
theorem th_X7_128 : TH RX7 128 132 0 := ⟨List.mem_filter.mpr ⟨tE_in the_128.1, by decide +kernel⟩, List.mem_filter.mpr ⟨tE_in the_128.2, by decide +kernel⟩, fun w hw => List.mem_filter.mpr ⟨tE_in (thg_128 w hw), (List.mem_filter.mp hw).2⟩, thb_128, tho_128, by decide +kernel, by decide +kernel⟩
theorem thg_351 : ∀ w ∈ (vx_atS RX7 355 (exN 1) thrN).filter goodWord, w ∈ tblE := by decide +kernel
theorem thb_351 : ∀ w ∈ (vx_atS RX7 355 (exN 1) thrN).filter (fun w => !goodWord w), w ∈ Cond.castable (exN 1) (exN 1) :: declW.map Cond.declares := by decide +kernel
theorem tho_351 : ∀ w ∈ Cond.classLink RX7 351 (exN 1) :: Cond.initialized (exN 1) :: vx_atS RX7 355 (exN 1) thrN, vx_ot w = true := by decide +kernel
theorem the_351 : Cond.classLink RX7 351 (exN 1) ∈ tblE ∧ Cond.initialized (exN 1) ∈ tblE := by decide +kernel
theorem th_X7_351 : TH RX7 351 355 1 := ⟨List.mem_filter.mpr ⟨tE_in the_351.1, by decide +kernel⟩, List.mem_filter.mpr ⟨tE_in the_351.2, by decide +kernel⟩, fun w hw => List.mem_filter.mpr ⟨tE_in (thg_351 w hw), (List.mem_filter.mp hw).2⟩, thb_351, tho_351, by decide +kernel, by decide +kernel⟩
theorem thg_344 : ∀ w ∈ (vx_atS RX7 348 (exN 2) thrN).filter goodWord, w ∈ tblE := by decide +kernel
theorem thb_344 : ∀ w ∈ (vx_atS RX7 348 (exN 2) thrN).filter (fun w => !goodWord w), w ∈ Cond.castable (exN 2) (exN 2) :: declW.map Cond.declares := by decide +kernel
theorem tho_344 : ∀ w ∈ Cond.classLink RX7 344 (exN 2) :: Cond.initialized (exN 2) :: vx_atS RX7 348 (exN 2) thrN, vx_ot w = true := by decide +kernel
theorem the_344 : Cond.classLink RX7 344 (exN 2) ∈ tblE ∧ Cond.initialized (exN 2) ∈ tblE := by decide +kernel
theorem th_X7_344 : TH RX7 344 348 2 := ⟨List.mem_filter.mpr ⟨tE_in the_344.1, by decide +kernel⟩, List.mem_filter.mpr ⟨tE_in the_344.2, by decide +kernel⟩, fun w hw => List.mem_filter.mpr ⟨tE_in (thg_344 w hw), (List.mem_filter.mp hw).2⟩, thb_344, tho_344, by decide +kernel, by decide +kernel⟩
set_option maxRecDepth 100000 in
set_option maxHeartbeats 4000000 in
theorem ct_X7_requireIndex {X : Xs} {κ : Kp} {M : Mem} {Q : Rs → Kp → Mem → Prop} {b : Bool} (hY : b = true → Q (.inl none) κ M) (hN : b = false → Q (.inr 2) (κ.1, κ.2.1, false) M) : Ct X m_X7_requireIndex [.int (bI b)] κ M Q := by
  refine ct_of B_X7_requireIndex_0 pn_X7 rfl (nle rfl) L_X7_requireIndex_0 ?_
  refine g_iload_n rfl ?_
  refine g_if_ne_b rfl L_X7_requireIndex_15 (fun h_1 => ?_) (fun h_1 => ?_)
  · have hb := h_1
    refine g_vret rfl (nle rfl) (nle rfl) ?_
    exact hY hb
  · have hb := h_1
    refine g_throwW (e := 2) th_X7_344 (List.mem_of_getElem? (i := 1) rfl) rfl rfl (nle rfl) (nle rfl) (nle rfl) (nle rfl) ?_
    exact hN hb
set_option maxRecDepth 100000 in
set_option maxHeartbeats 4000000 in
theorem ct_X7_requireArgument {X : Xs} {κ : Kp} {M : Mem} {Q : Rs → Kp → Mem → Prop} {b : Bool} (hY : b = true → Q (.inl none) κ M) (hN : b = false → Q (.inr 0) (κ.1, κ.2.1, false) M) : Ct X m_X7_requireArgument [.int (bI b)] κ M Q := by
  refine ct_of B_X7_requireArgument_0 pn_X7 rfl (nle rfl) L_X7_requireArgument_0 ?_
  refine g_iload_n rfl ?_
  refine g_if_ne_b rfl L_X7_requireArgument_15 (fun h_1 => ?_) (fun h_1 => ?_)
  · have hb := h_1
    refine g_vret rfl (nle rfl) (nle rfl) ?_
    exact hY hb
  · have hb := h_1
    refine g_throwW (e := 0) th_X7_128 (List.mem_of_getElem? (i := 2) rfl) rfl rfl (nle rfl) (nle rfl) (nle rfl) (nle rfl) ?_
    exact hN hb
set_option maxRecDepth 100000 in
set_option maxHeartbeats 4000000 in
theorem ct_X7_requireState {X : Xs} {κ : Kp} {M : Mem} {Q : Rs → Kp → Mem → Prop} {b : Bool} (hY : b = true → Q (.inl none) κ M) (hN : b = false → Q (.inr 1) (κ.1, κ.2.1, false) M) : Ct X m_X7_requireState [.int (bI b)] κ M Q := by
  refine ct_of B_X7_requireState_0 pn_X7 rfl (nle rfl) L_X7_requireState_0 ?_
  refine g_iload_n rfl ?_
  refine g_if_ne_b rfl L_X7_requireState_15 (fun h_1 => ?_) (fun h_1 => ?_)
  · have hb := h_1
    refine g_vret rfl (nle rfl) (nle rfl) ?_
    exact hY hb
  · have hb := h_1
    refine g_throwW (e := 1) th_X7_351 (List.mem_of_getElem? (i := 3) rfl) rfl rfl (nle rfl) (nle rfl) (nle rfl) (nle rfl) ?_
    exact hN hb
