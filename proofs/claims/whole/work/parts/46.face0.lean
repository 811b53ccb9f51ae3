theorem t1236 {w : Cond} (h : w ∈ tables_1_2 ++ (tables_1_3 ++ (tables_1_1 ++ tables_1_6))) : w ∈ lw_tbl := by
  rcases List.mem_append.mp h with h | h
  · exact tM2 h
  rcases List.mem_append.mp h with h | h
  · exact tM3 h
  rcases List.mem_append.mp h with h | h
  · exact tM1 h
  · exact tM6 h
theorem tG_of {w : Cond} (h : w ∈ tables_1_2 ++ (tables_1_3 ++ (tables_1_1 ++ tables_1_6))) (hg : goodWord w = true) : w ∈ tblG := List.mem_filter.mpr ⟨t1236 h, hg⟩
theorem tS_of {w : Cond} (h : w ∈ k2_sels lw_privs) (hg : goodWord w = true) : w ∈ tblG := List.mem_filter.mpr ⟨List.mem_append_left _ h, hg⟩
def tblE : List Cond := tables_1_2 ++ (tables_1_3 ++ (tables_1_1 ++ (tables_1_6 ++ k2_sels lw_privs)))
theorem tE_in {w : Cond} (h : w ∈ tblE) : w ∈ lw_tbl := by
  rcases List.mem_append.mp h with h | h
  · exact tM2 h
  rcases List.mem_append.mp h with h | h
  · exact tM3 h
  rcases List.mem_append.mp h with h | h
  · exact tM1 h
  rcases List.mem_append.mp h with h | h
  · exact tM6 h
  · exact List.mem_append_left _ h
theorem thg_112 : ∀ w ∈ (vx_atS RX7 116 (exN 0) thrN).filter goodWord, w ∈ tblE := by decide +kernel
theorem thb_112 : ∀ w ∈ (vx_atS RX7 116 (exN 0) thrN).filter (fun w => !goodWord w), w ∈ Cond.castable (exN 0) (exN 0) :: declW.map Cond.declares := by decide +kernel
theorem tho_112 : ∀ w ∈ Cond.classLink RX7 112 (exN 0) :: Cond.initialized (exN 0) :: vx_atS RX7 116 (exN 0) thrN, vx_ot w = true := by decide +kernel
theorem the_112 : Cond.classLink RX7 112 (exN 0) ∈ tblE ∧ Cond.initialized (exN 0) ∈ tblE := by decide +kernel
theorem th_X7_112 : TH RX7 112 116 0 := ⟨List.mem_filter.mpr ⟨tE_in the_112.1, by decide +kernel⟩, List.mem_filter.mpr ⟨tE_in the_112.2, by decide +kernel⟩, fun w hw => List.mem_filter.mpr ⟨tE_in (thg_112 w hw), (List.mem_filter.mp hw).2⟩, thb_112, tho_112, by decide +kernel, by decide +kernel⟩
theorem thg_333 : ∀ w ∈ (vx_atS RX7 337 (exN 1) thrN).filter goodWord, w ∈ tblE := by decide +kernel
theorem thb_333 : ∀ w ∈ (vx_atS RX7 337 (exN 1) thrN).filter (fun w => !goodWord w), w ∈ Cond.castable (exN 1) (exN 1) :: declW.map Cond.declares := by decide +kernel
theorem tho_333 : ∀ w ∈ Cond.classLink RX7 333 (exN 1) :: Cond.initialized (exN 1) :: vx_atS RX7 337 (exN 1) thrN, vx_ot w = true := by decide +kernel
theorem the_333 : Cond.classLink RX7 333 (exN 1) ∈ tblE ∧ Cond.initialized (exN 1) ∈ tblE := by decide +kernel
theorem th_X7_333 : TH RX7 333 337 1 := ⟨List.mem_filter.mpr ⟨tE_in the_333.1, by decide +kernel⟩, List.mem_filter.mpr ⟨tE_in the_333.2, by decide +kernel⟩, fun w hw => List.mem_filter.mpr ⟨tE_in (thg_333 w hw), (List.mem_filter.mp hw).2⟩, thb_333, tho_333, by decide +kernel, by decide +kernel⟩
theorem thg_326 : ∀ w ∈ (vx_atS RX7 330 (exN 2) thrN).filter goodWord, w ∈ tblE := by decide +kernel
theorem thb_326 : ∀ w ∈ (vx_atS RX7 330 (exN 2) thrN).filter (fun w => !goodWord w), w ∈ Cond.castable (exN 2) (exN 2) :: declW.map Cond.declares := by decide +kernel
theorem tho_326 : ∀ w ∈ Cond.classLink RX7 326 (exN 2) :: Cond.initialized (exN 2) :: vx_atS RX7 330 (exN 2) thrN, vx_ot w = true := by decide +kernel
theorem the_326 : Cond.classLink RX7 326 (exN 2) ∈ tblE ∧ Cond.initialized (exN 2) ∈ tblE := by decide +kernel
theorem th_X7_326 : TH RX7 326 330 2 := ⟨List.mem_filter.mpr ⟨tE_in the_326.1, by decide +kernel⟩, List.mem_filter.mpr ⟨tE_in the_326.2, by decide +kernel⟩, fun w hw => List.mem_filter.mpr ⟨tE_in (thg_326 w hw), (List.mem_filter.mp hw).2⟩, thb_326, tho_326, by decide +kernel, by decide +kernel⟩
set_option maxRecDepth 100000 in
set_option maxHeartbeats 4000000 in
theorem ct_X7_requireIndex {X : Xs} {κ : Kp} {M : Mem} {Q : Rs → Kp → Mem → Prop} {b : Bool} (hY : b = true → Q (.inl none) κ M) (hN : b = false → Q (.inr 2) (κ.1, κ.2.1, false) M) : Ct X m_X7_requireIndex [.int (bI b)] κ M Q := by
  refine ct_of B_X7_requireIndex_0 pn_X7 rfl (nle rfl) L_X7_requireIndex_0 ?_
  refine g_iload_n rfl ?_
  refine g_if_ne_b rfl L_X7_requireIndex_15 (fun h_1 => ?_) (fun h_1 => ?_)
  · have hb := h_1
    refine g_vret rfl (nle rfl) (nle rfl) ?_
    exact hY hb
  · have hb := h_1
    refine g_throwW (e := 2) th_X7_326 (List.mem_of_getElem? (i := 1) rfl) rfl rfl (nle rfl) (nle rfl) (nle rfl) (nle rfl) ?_
    exact hN hb
set_option maxRecDepth 100000 in
set_option maxHeartbeats 4000000 in
theorem ct_X7_requireArgument {X : Xs} {κ : Kp} {M : Mem} {Q : Rs → Kp → Mem → Prop} {b : Bool} (hY : b = true → Q (.inl none) κ M) (hN : b = false → Q (.inr 0) (κ.1, κ.2.1, false) M) : Ct X m_X7_requireArgument [.int (bI b)] κ M Q := by
  refine ct_of B_X7_requireArgument_0 pn_X7 rfl (nle rfl) L_X7_requireArgument_0 ?_
  refine g_iload_n rfl ?_
  refine g_if_ne_b rfl L_X7_requireArgument_15 (fun h_1 => ?_) (fun h_1 => ?_)
  · have hb := h_1
    refine g_vret rfl (nle rfl) (nle rfl) ?_
    exact hY hb
  · have hb := h_1
    refine g_throwW (e := 0) th_X7_112 (List.mem_of_getElem? (i := 2) rfl) rfl rfl (nle rfl) (nle rfl) (nle rfl) (nle rfl) ?_
    exact hN hb
set_option maxRecDepth 100000 in
set_option maxHeartbeats 4000000 in
theorem ct_X7_requireState {X : Xs} {κ : Kp} {M : Mem} {Q : Rs → Kp → Mem → Prop} {b : Bool} (hY : b = true → Q (.inl none) κ M) (hN : b = false → Q (.inr 1) (κ.1, κ.2.1, false) M) : Ct X m_X7_requireState [.int (bI b)] κ M Q := by
  refine ct_of B_X7_requireState_0 pn_X7 rfl (nle rfl) L_X7_requireState_0 ?_
  refine g_iload_n rfl ?_
  refine g_if_ne_b rfl L_X7_requireState_15 (fun h_1 => ?_) (fun h_1 => ?_)
  · have hb := h_1
    refine g_vret rfl (nle rfl) (nle rfl) ?_
    exact hY hb
  · have hb := h_1
    refine g_throwW (e := 1) th_X7_333 (List.mem_of_getElem? (i := 3) rfl) rfl rfl (nle rfl) (nle rfl) (nle rfl) (nle rfl) ?_
    exact hN hb
