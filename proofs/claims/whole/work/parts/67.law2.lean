/-! ===== the law's cases ===== -/
def MKH (z : MI) (hh : List (Nat × Nat × Nat × Nat)) (n : Nat) : Prop := cwOf z ∈ tblG ∧ Cond.initialized z.1.cls ∈ tblG ∧ z.2.2.2.2.1 = some hh ∧ (z.1.cls ≠ "java/lang/invoke/MethodHandle" ∧ z.1.cls ≠ "java/lang/invoke/VarHandle" ∧ (parseMethodDescriptor z.1.desc).map (fun d => d.parameters.length) = some n)
theorem MKH.cs {X : Xs} {y : MI} {nc ks : Nat} {own : String} {idx n : Nat} {z : MI} {hh : List (Nat × Nat × Nat × Nat)} {p : Program} {l : Launch} {s : State} {m : MethodId} {args : Array Value} {meth : Method} {c : Code} {b Z : Nat} {D : va_G} (hC : Cx X y l p s m args meth c b Z D) (hk : MKH z hh n) (hl : Cond.methodLink own idx z.1 ∈ tblG) (hi : Cond.static z.1 ∈ tblG) (hrm : roomB y z nc ks) :
    vx_CSW (rmOf y) s args own idx z.1 z.2.1 z.2.2.1 z.2.2.2.1 hh (wsOf z) (rmOf z) (rmOf z).cells (rmOf z).slots n := by
  have hG := good_wsOf (y := y) hk.1
  have hc : Cond.codeWith z.1 z.2.1 z.2.2.1 z.2.2.2.1 hh ∈ wsOf z := by unfold wsOf; rw [cwOf_some hk.2.2.1]; exact List.mem_cons_self
  refine ⟨⟨rfl, rfl, hrm.1.1, hrm.1.2, pay_in hC.words hG, hc⟩, hC.words _ (hG _ hc).1, hC.word hk.2.1, ⟨hk.2.2.2.1, hk.2.2.2.2.1⟩, fun sig h => ?_, hC.word hl, hC.word hi⟩
  have h2 := hk.2.2.2.2.2
  rw [h] at h2
  exact (Option.some.inj h2).symm
theorem g_callSH {X : Xs} {y : MI} {is : List (Instr × Nat)} {pc : Nat} {lo : Lo} {st stk as : List Value} {nc ks : Nat} {κ : Kp} {M : Mem} {Q : Rs → Kp → Mem → Prop} {own : String} {idx n : Nat} {z : MI} {hh : List (Nat × Nat × Nat × Nat)} (hk : MKH z hh n) (hl : Cond.methodLink own idx z.1 ∈ tblG) (hi : Cond.static z.1 ∈ tblG) (ho : y.1.cls = own) (hy : y.2.2.2.2.1 = none) (hrm : roomB y z nc ks)
    (hstk : stk = as.reverse ++ st) (hn : as.length = n) (hcat : (st.map Value.category).sum ≤ 8) (hz : Ct X z as κ M (Kq X y is (pc + 3) lo st (nc + (rmOf z).cells) (ks + (rmOf z).slots) Q)) : G X y ((.invokestatic idx, 3) :: is) pc lo stk nc ks κ M Q := by
  intro hA l p e s m args below meth c b Z D H locs ls hC hR hS hL
  subst ho
  subst hstk
  have hr := vx_runSX (As := as.map (tv b Z)) (rest := st.map (tv b Z)) (n := n) (g := F0 m pc ls ((as.reverse ++ st).map (tv b Z))) (cells := nc) (slots := ks) (locs := locs) (H := H) (p := p) (e := e) (below := below) (meth := meth) (c := c) (index := idx) (own := y.1.cls)
    ⟨hC.2.1, hC.2.2.1, hC.2.2.2.1, hC.own, hC.words⟩ (hz l hC.1 b Z D) (hk.cs hC hl hi hrm)
    ⟨zPc_blind _ _ _ _ _ _ _, fun U hU hW => zPc_call hC.wd hR hS hU hW⟩ rfl (by rw [List.length_map]; exact hn) hL.1 (map_rev b Z as st) (lv_room (by rw [cat_map]; exact hcat)) hA.1 hrm.2
  refine call_core hr hS (fun v κ' M' H' locs' hK hRel hS' => ?_) (hexc_out (Q := Q) (K := Kq X y is (pc + 3) lo st (nc + (rmOf z).cells) (ks + (rmOf z).slots) Q) hy hC (fun e κ M h => h) hrm.2.1 hrm.2.2)
  cases v with
  | none => exact hK hA.2 l p e s m args below meth c b Z D H' locs' ls hC hRel hS' hL
  | some v => exact hK hA.2 l p e s m args below meth c b Z D H' locs' ls hC hRel hS' hL
theorem g_widen {X : Xs} {y : MI} {is : List (Instr × Nat)} {pc : Nat} {lo : Lo} {st : List Value} {nc ks nc' ks' : Nat} {κ : Kp} {M : Mem} {Q : Rs → Kp → Mem → Prop} (h1 : nc ≤ nc') (h2 : ks ≤ ks') (kk : G X y is pc lo st nc' ks' κ M Q) : G X y is pc lo st nc ks κ M Q := fun hA l p e s m args below meth c b Z D H locs ls hC hR hS hL => W.widen h1 h2 (kk hA l p e s m args below meth c b Z D H locs ls hC hR hS hL)
theorem cmp_self (v : Int64) : lg_cmp v v = 0 := by simp [lg_cmp]
theorem ini_L : Cond.initialized RL ∈ tblG := tG1 (i := 0) (by decide +kernel) (by decide +kernel)
theorem mkh_L_append : MKH m_L_append [(0, 9, 12, 13), (0, 9, 15, 15)] 3 := ⟨cw_L_append, ini_L, rfl, by decide +kernel⟩
theorem mkh_L_load : MKH m_L_load [(0, 8, 11, 15)] 2 := ⟨cw_L_load, ini_L, rfl, by decide +kernel⟩
theorem mkh_L_about : MKH m_L_about [(0, 9, 12, 13)] 3 := ⟨cw_L_about, ini_L, rfl, by decide +kernel⟩
theorem mkh_L_floorOf : MKH m_L_floorOf [(0, 10, 13, 28), (0, 10, 17, 13)] 4 := ⟨cw_L_floorOf, ini_L, rfl, by decide +kernel⟩
theorem mkh_L_teacherOf : MKH m_L_teacherOf [(0, 10, 13, 28), (0, 10, 17, 13)] 4 := ⟨cw_L_teacherOf, ini_L, rfl, by decide +kernel⟩
theorem mkh_L_classOf : MKH m_L_classOf [(0, 10, 13, 28), (0, 10, 17, 13)] 4 := ⟨cw_L_classOf, ini_L, rfl, by decide +kernel⟩
theorem mkh_L_dancerOf : MKH m_L_dancerOf [(0, 10, 13, 28), (0, 10, 17, 13)] 4 := ⟨cw_L_dancerOf, ini_L, rfl, by decide +kernel⟩
theorem mkh_L_uses : MKH m_L_uses [(0, 9, 12, 13)] 3 := ⟨cw_L_uses, ini_L, rfl, by decide +kernel⟩
theorem mkh_L_setting : MKH m_L_setting [(0, 9, 12, 13)] 3 := ⟨cw_L_setting, ini_L, rfl, by decide +kernel⟩
theorem mkh_L_floor : MKH m_L_floor [(0, 14, 17, 13), (0, 14, 21, 15)] 6 := ⟨cw_L_floor, ini_L, rfl, by decide +kernel⟩
theorem mkh_L_teacher : MKH m_L_teacher [(0, 10, 13, 13), (0, 10, 17, 15)] 4 := ⟨cw_L_teacher, ini_L, rfl, by decide +kernel⟩
theorem mkh_L_set : MKH m_L_set [(0, 18, 21, 28), (0, 18, 25, 13), (0, 18, 29, 15)] 8 := ⟨cw_L_set, ini_L, rfl, by decide +kernel⟩
theorem mkh_L_drop : MKH m_L_drop [(0, 9, 12, 28)] 3 := ⟨cw_L_drop, ini_L, rfl, by decide +kernel⟩
theorem mkh_L_dancer : MKH m_L_dancer [(0, 8, 11, 15)] 2 := ⟨cw_L_dancer, ini_L, rfl, by decide +kernel⟩
theorem mkh_L_pass : MKH m_L_pass [(0, 9, 12, 28), (0, 9, 15, 15)] 3 := ⟨cw_L_pass, ini_L, rfl, by decide +kernel⟩
theorem mkh_L_enter : MKH m_L_enter [(0, 10, 13, 28)] 4 := ⟨cw_L_enter, ini_L, rfl, by decide +kernel⟩
theorem mkh_L_leave : MKH m_L_leave [(0, 10, 13, 28), (0, 10, 17, 15)] 4 := ⟨cw_L_leave, ini_L, rfl, by decide +kernel⟩
theorem mkh_L_weeks : MKH m_L_weeks [(0, 9, 12, 13)] 3 := ⟨cw_L_weeks, ini_L, rfl, by decide +kernel⟩
theorem mkh_L_tune : MKH m_L_tune [(0, 10, 13, 13)] 4 := ⟨cw_L_tune, ini_L, rfl, by decide +kernel⟩
theorem mkh_L_undo : MKH m_L_undo [(0, 8, 11, 15)] 2 := ⟨cw_L_undo, ini_L, rfl, by decide +kernel⟩
theorem mkh_L_why : MKH m_L_why [(0, 18, 21, 28), (0, 18, 25, 13)] 8 := ⟨cw_L_why, ini_L, rfl, by decide +kernel⟩
theorem mkh_L_whySeat : MKH m_L_whySeat [(0, 10, 13, 28)] 4 := ⟨cw_L_whySeat, ini_L, rfl, by decide +kernel⟩
theorem mkh_L_bestFloor : MKH m_L_bestFloor [(0, 16, 19, 28), (0, 16, 23, 13)] 7 := ⟨cw_L_bestFloor, ini_L, rfl, by decide +kernel⟩
theorem mkh_L_emptyIn : MKH m_L_emptyIn [(0, 9, 12, 28)] 3 := ⟨cw_L_emptyIn, ini_L, rfl, by decide +kernel⟩
theorem mkh_L_runScript : MKH m_L_runScript [(0, 11, 14, 13)] 4 := ⟨cw_L_runScript, ini_L, rfl, by decide +kernel⟩
theorem mkh_L_simulate : MKH m_L_simulate [(0, 11, 14, 13)] 4 := ⟨cw_L_simulate, ini_L, rfl, by decide +kernel⟩
theorem mkh_L_save : MKH m_L_save [(0, 9, 12, 28)] 3 := ⟨cw_L_save, ini_L, rfl, by decide +kernel⟩
theorem mkh_L_restore : MKH m_L_restore [(0, 9, 12, 28), (0, 9, 15, 15)] 3 := ⟨cw_L_restore, ini_L, rfl, by decide +kernel⟩
/-- what holds at the head of the law's loop -/
def LwH (x m out B : Nat) (κ : Kp) (M : Mem) : Prop := IsDF κ.2.1 x ∧ IsMod κ.2.1 m ∧ κ.2.1 out = some (19, 1, []) ∧ x + 674 ≤ m ∧ m + 5 ≤ out ∧ J B M x m
def LoL (x m out i : Nat) : Lo := [(0, some (.ref 0)), (1, some (.ref x)), (2, some (.ref m)), (3, some (.ref out)), (4, some (.int (nI i)))]
def LoK (x m out i : Nat) (k : Int32) : Lo := [(0, some (.ref 0)), (1, some (.ref x)), (2, some (.ref m)), (3, some (.ref out)), (4, some (.int (nI i))), (5, some (.int k))]
def Lrm (z : MI) : Prop := ((rmOf z).frames + 1 ≤ 12 ∧ 8 + (z.2.2.1 + 11) + (rmOf z).locals ≤ 448) ∧ ((rmOf z).cells ≤ 7 ∧ (rmOf z).slots ≤ 42)
theorem Lrm.rb {z : MI} {nc ks : Nat} (h : Lrm z) (h1 : nc + 7 ≤ 601024) (h2 : ks + 42 ≤ 7293034) : roomB m_L_law z nc ks := ⟨⟨h.1.1, h.1.2⟩, by show nc + (rmOf z).cells ≤ 601024; have := h.2.1; omega, by show ks + (rmOf z).slots ≤ 7293034; have := h.2.2; omega⟩
def Lr0 (z : MI) : Prop := ((rmOf z).frames + 1 ≤ 12 ∧ 8 + (z.2.2.1 + 11) + (rmOf z).locals ≤ 448) ∧ ((rmOf z).cells = 0 ∧ (rmOf z).slots = 0)
theorem Lr0.rb {z : MI} {nc ks : Nat} (h : Lr0 z) (h1 : nc ≤ 601024) (h2 : ks ≤ 7293034) : roomB m_L_law z nc ks := ⟨⟨h.1.1, h.1.2⟩, by show nc + (rmOf z).cells ≤ 601024; have := h.2.1; omega, by show ks + (rmOf z).slots ≤ 7293034; have := h.2.2; omega⟩
def T1 (idx : Nat) : List (Instr × Nat) := [(.invokevirtual idx, 3), (.istore 6, 2), (.aload_n 2, 1), (.invokevirtual 117, 3), (.iload 5, 2), (.if_icmp .eq 5, 3), (.iconst 0, 1), (.ireturn, 1)]
def T2 : List (Instr × Nat) := [(.iload 5, 2), (.ifCond .ne 15, 3), (.aload_n 3, 1), (.iconst 0, 1), (.laload, 1), (.iload 6, 2), (.i2l, 1), (.lcmp, 1), (.ifCond .eq 5, 3), (.iconst 0, 1), (.ireturn, 1)]
/-- the loop goes on -/
def Nxt (X : Xs) (x m out i B nc ks : Nat) (S : Nat → Option Sh) (Q : Rs → Kp → Mem → Prop) : Prop := ∀ (κ' : Kp) (M' : Mem), κ'.2.1 = S → J (B + 1100) M' x m → G X m_L_law B_L_law_2155 2155 (LoL x m out i) [] (nc + 7) (ks + 42) κ' M' Q
set_option maxRecDepth 100000 in
theorem lw_tail {X : Xs} {x m out i B nc ks nc0 ks0 : Nat} {S : Nat → Option Sh} {Q : Rs → Kp → Mem → Prop} {κ' : Kp} {M1 : Mem} {as stk : List Value} {z : MI} {n idx p pc : Nat} {v : Int32} {off : Int} (hN : Nxt X x m out i B nc0 ks0 S Q) (hS : κ'.2.1 = S) (hm : IsMod S m) (hx : S out = some (19, 1, [])) (hp : p < 100) (hv : p = 0 → M1 out 0 = v)
    (hc : ∀ Q' : Rs → Kp → Mem → Prop, (∀ M2 w, J (B + 1100) M2 x m → M2 m 0 = nI p → M2 out = M1 out → (p = 0 → w = v) → Q' (.inl (some (.int w))) κ' M2) → Ct X z (.ref m :: as) κ' M1 Q')
    (hk : MK z n) (hl : Cond.methodLink RL idx z.1 ∈ tblG) (hi : Cond.instanceMethod z.1 ∈ tblG) (hse : Cond.selects z.1.cls z.1 z.1 ∈ tblG) (hr0 : Lr0 z) (hzc : z.1.cls = RX8) (hn : as.length = n) (hstk : stk = as.reverse ++ [.ref m]) (h1 : nc ≤ nc0 + 7) (h2 : ks ≤ ks0 + 42) (h3 : nc0 + 7 ≤ 601024) (h4 : ks0 + 42 ≤ 7293034)
    (hA2 : CdAt m_L_law.2.1 (pc + 16) T2) (hA3 : CdAt m_L_law.2.1 (pc + 33) [(.goto off, 3)]) (hoff : ((pc + 33 : Nat) : Int) + off = 2155) : G X m_L_law (T1 idx) pc (LoK x m out i (nI p)) stk nc ks κ' M1 Q := by
  have hm' : IsMod κ'.2.1 m := by rw [hS]; exact hm
  have hx' : κ'.2.1 out = some (19, 1, []) := by rw [hS]; exact hx
  unfold T1
  refine g_callV (as := as) hk hl hi hse rfl rfl (hr0.rb (by omega) (by omega)) hm'.1 (by rw [hzc]; rfl) hstk hn (nle rfl) ?_
  rw [hr0.2.1, hr0.2.2]
  refine hc _ fun M2 w hJ2 ht ho2 hw => ?_
  refine kq_s ?_
  refine g_istore (nle rfl) ?_
  refine g_aload_n rfl ?_
  refine g_callV (as := []) mk_X8_thrown ml_L_117 im_X8_thrown se_X8_thrown rfl rfl (Lr0.rb ⟨⟨nle rfl, nle rfl⟩, rfl, rfl⟩ (by omega) (by omega)) hm'.1 rfl rfl rfl (nle rfl) ?_
  refine ct_X8_thrown hm' ?_
  refine kq_s ?_
  rw [ht]
  refine g_iload rfl ?_
  have hA2' : CdAt m_L_law.2.1 (pc + 3 + 2 + 1 + 3 + 2 + 5) T2 := hA2
  refine g_icmp_eq (tgt := pc + 16) (is' := T2) (by omega) hA2 (fun _ => ?_) (fun h => absurd rfl h)
  unfold T2
  refine g_iload rfl ?_
  refine g_if_ne (tgt := pc + 33) (is' := [(.goto off, 3)]) (by omega) hA3 (fun _ => ?_) (fun h0 => ?_)
  · refine g_goto (tgt := 2155) hoff L_L_law_2155 ?_
    refine g_widen (by show nc + 0 + 0 ≤ _; omega) (by show ks + 0 + 0 ≤ _; omega) (g_lo2 (lo' := LoL x m out i) (hN κ' M2 hS hJ2) ⟨rfl, rfl, rfl, rfl, rfl, trivial⟩)
  · have hp0 : p = 0 := (nI_eq (a := p) (b := 0) (by omega) (by omega)).mp h0
    subst hp0
    refine g_aload_n rfl ?_
    refine g_iconst (v := 0) ik_0 ?_
    refine g_laload (j := 0) hx' rfl (nle rfl) (nle rfl) ?_
    refine g_iload rfl ?_
    refine g_i2l ?_
    refine g_lcmp ?_
    have e1 : M2 out 0 = w := by rw [ho2, hw rfl]; exact hv rfl
    rw [e1, cmp_self]
    refine g_if_eq (tgt := pc + 33) (is' := [(.goto off, 3)]) (by omega) hA3 (fun _ => ?_) (fun h => absurd rfl h)
    refine g_goto (tgt := 2155) hoff L_L_law_2155 ?_
    refine g_widen (by show nc + 0 + 0 ≤ _; omega) (by show ks + 0 + 0 ≤ _; omega) (g_lo2 (lo' := LoL x m out i) (hN κ' M2 hS hJ2) ⟨rfl, rfl, rfl, rfl, rfl, trivial⟩)
