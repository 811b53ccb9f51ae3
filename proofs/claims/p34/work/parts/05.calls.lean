theorem castI {s : State} {q : String} (h : va_Nw (.castable q q) s) {args : Array Value} : (Cond.castable q q).before args s = true := va_Nw.use rfl h
theorem NW.warm {s U : State} (hW : s.WarmedH U.vm) (h : NW s) : NW U := by
  obtain ⟨h1, h2, h3, h4, h5, h6⟩ := h
  refine ⟨fun q hq => va_Nw.warmM hW (h1 q hq), fun q hq => (h2 q hq).moved hW.alike, fun q hq => (h3 q hq).moved hW.alike, fun q hq => ?_, fun q hq => va_Nw.warmC hW (h5 q hq), fun q hq => va_Nw.warmD hW (h6 q hq)⟩
  obtain ⟨a, ha⟩ := h4 q hq
  exact ⟨a, vk_R.warm hW ha⟩
theorem Wd.go {X : Xs} {b Z : Nat} {D : va_G} {s U : State} (hW : s.WarmedH U.vm) (hz : s.heap.size ≤ U.heap.size) (hq : ∀ a : Nat, a < s.heap.size → ¬ Z ≤ a → U.heap[a]? = s.heap[a]?) (h : Wd X b Z D s) : Wd X b Z D U := by
  obtain ⟨h1, h2, h3, h4, h5, h6, h7⟩ := h
  have hv : s.vm.Alike U.vm := hW.alike
  exact ⟨h1.moved hv, (h2.moved hv).kept (hq b (Nat.lt_of_lt_of_le h3 h4) (Nat.not_le.mpr h3)), h3, Nat.le_trans h4 hz, vx_Zq.moved hv (h5.kept hq), vx_Zq.moved hv (h6.kept hq), h7.warm hW⟩
theorem zPc_blind (X : Xs) (b Z : Nat) (D : va_G) (as : List Value) (κ : Kp) (M : Mem) : FrameBlind (zPc X b Z D as κ M) := by
  intro a U g mk h
  obtain ⟨h1, h2, h3⟩ := h
  have hW : U.WarmedH (U.calling g mk a).vm := State.WarmedH.refl U
  exact ⟨h1, h2.go hW (Nat.le_refl _) (fun _ _ _ => rfl), Rel.moved hW.alike h3⟩
theorem zPc_call {X : Xs} {b Z : Nat} {D : va_G} {as : List Value} {κ : Kp} {M : Mem} {s U : State} {H : Heap} {locs : List Loc} (hwd : Wd X b Z D s) (hR : Rel b Z D κ M s H) (hS : va_S (fun q => Z ≤ q) s.heap H locs) (hU : U.heap = H) (hW : s.WarmedH U.vm) : zPc X b Z D as κ M ((as.map (tv b Z)).toArray) U := by
  subst hU
  exact ⟨rfl, hwd.go hW hS.1 (fun a h1 h2 => hS.2.1 a h1 h2), Rel.moved hW.alike hR⟩
/-- what is known of a method that is called -/
def MK (z : MI) (n : Nat) : Prop := cwOf z ∈ tblG ∧ Cond.initialized z.1.cls ∈ tblG ∧ z.2.2.2.2.1 = none ∧ (z.1.cls ≠ "java/lang/invoke/MethodHandle" ∧ z.1.cls ≠ "java/lang/invoke/VarHandle" ∧ (parseMethodDescriptor z.1.desc).map (fun d => d.parameters.length) = some n)
def roomB (y z : MI) (nc ks : Nat) : Prop := ((rmOf z).frames + 1 ≤ (rmOf y).frames ∧ 8 + (z.2.2.1 + 11) + (rmOf z).locals ≤ (rmOf y).locals) ∧ (nc + (rmOf z).cells ≤ (rmOf y).cells ∧ ks + (rmOf z).slots ≤ (rmOf y).slots)
theorem cwOf_none {z : MI} (h : z.2.2.2.2.1 = none) : cwOf z = .code z.1 z.2.1 z.2.2.1 z.2.2.2.1 := by unfold cwOf; rw [h]
theorem cwOf_some {z : MI} {hh : List (Nat × Nat × Nat × Nat)} (h : z.2.2.2.2.1 = some hh) : cwOf z = .codeWith z.1 z.2.1 z.2.2.1 z.2.2.2.1 hh := by unfold cwOf; rw [h]
def Kq (X : Xs) (y : MI) (is : List (Instr × Nat)) (pc : Nat) (lo : Lo) (st : List Value) (nc ks : Nat) (Q : Rs → Kp → Mem → Prop) : Rs → Kp → Mem → Prop := fun o κ M => match o with
  | .inl (some v) => G X y is pc lo (v :: st) nc ks κ M Q
  | .inl none => G X y is pc lo st nc ks κ M Q
  | .inr e => Q (.inr e) κ M
section CORE
variable {p : Program} {l : Launch} {e : Env} {R : Room} {s : State} {m : MethodId} {args : Array Value} {below : List Frame} {meth : Method} {c : Code} {H : Heap} {locs : List Loc} {nc ks mc ms : Nat} {Qf : State → Prop} {pc : Nat} {ls : Array Slot} {st0 rest : List Value} {b Z : Nat} {D : va_G} {K : Rs → Kp → Mem → Prop} {a : Array Value}
theorem call_core (hr : vx_Run p l e R s m args below meth c H locs nc ks mc ms (F0 m pc ls st0) rest (zQc b Z D K a) (zXC b Z D K) (fun q => Z ≤ q)) (hS : va_S (fun q => Z ≤ q) s.heap H locs)
    (hret : ∀ (v : Option Value) (κ' : Kp) (M' : Mem) (H' : Heap) (locs' : List Loc), K (.inl v) κ' M' → Rel b Z D κ' M' s H' → va_S (fun q => Z ≤ q) s.heap H' locs' → W p l e R s m args below meth c H' locs' (nc + mc) (ks + ms) Qf (F0 m (pc + 3) ls ((v.map (tv b Z)).toList ++ rest)))
    (hexc : ∀ (ex : Nat) (κ' : Kp) (M' : Mem) (H' : Heap) (locs' : List Loc) (q : Nat) (ce : Cell), K (.inr ex) κ' M' → Rel b Z D κ' M' s H' → va_S (fun q => Z ≤ q) s.heap H' locs' → H'[q]? = some ce → ce.vm = .none → s.vm.findClass (exN ex) = some ce.cls → vx_W p l e R s m args below meth c H' locs' (nc + mc) (ks + ms) Qf (F0 m pc ls rest) q) :
    W p l e R s m args below meth c H locs nc ks Qf (F0 m pc ls st0) := by
  intro T hT X
  rcases hr T hT X with ⟨v, st₀, t, T', L, h0, X', hL, e1, e2, ⟨⟨r, κ', M', hv, hK, hRel⟩, hF⟩, st⟩ | ⟨q, st₀, t, T', L, E, ce, h0, X', hL, e1, e2, ⟨⟨ex, κ', M', hE, hK, hRel⟩, hF⟩, hce, hcv, hcl, st⟩
  · obtain ⟨k1, k2, k3⟩ := vx_keep h0 e1 hS (fun _ _ h => h) (fun _ h => h) hL hF
    have hal : t.vm.Alike s.vm := by rw [← e2]; exact X'.warmed.alike.symm
    have hv' : v = r.map (tv b Z) := Outcome.returned.inj hv
    subst hv'
    obtain ⟨t2, a1, b1⟩ := hret r κ' M' T'.heap (locs ++ L) hK (by rw [e1]; exact hRel.moved hal) k3 T' rfl X'
    exact ⟨t2, st t2 a1, b1⟩
  · obtain ⟨k1, k2, k3⟩ := vx_keep h0 e1 hS (fun _ _ h => h) (fun _ h => h) hL hF
    have hal : t.vm.Alike s.vm := by rw [← e2]; exact X'.warmed.alike.symm
    subst hE
    obtain ⟨t2, a1, b1⟩ := hexc ex κ' M' T'.heap (locs ++ L) q ce hK (by rw [e1]; exact hRel.moved hal) k3 (by rw [e1]; exact hce) hcv hcl T' rfl X'
    exact ⟨t2, st.trans a1, b1⟩
end CORE
section CALLROWS
variable {X : Xs} {y : MI} {is : List (Instr × Nat)} {pc : Nat} {lo : Lo} {st stk as : List Value} {nc ks : Nat} {κ : Kp} {M : Mem} {Q : Rs → Kp → Mem → Prop} {own : String} {idx n r ci N : Nat} {cs : List Nat} {z : MI}
theorem hexc_out {p : Program} {l : Launch} {e : Env} {s : State} {m : MethodId} {args : Array Value} {below : List Frame} {meth : Method} {c : Code} {b Z : Nat} {D : va_G} (hy : y.2.2.2.2.1 = none) (hC : Cx X y l p s m args meth c b Z D) {ls : Array Slot} {rest : List Value} {K : Rs → Kp → Mem → Prop} (hK : ∀ e κ M, K (.inr e) κ M → Q (.inr e) κ M) {n2 k2 : Nat} (hr1 : n2 ≤ (rmOf y).cells) (hr2 : k2 ≤ (rmOf y).slots)
    (ex : Nat) (κ' : Kp) (M' : Mem) (H' : Heap) (locs' : List Loc) (q : Nat) (ce : Cell) (hk : K (.inr ex) κ' M') (hRel : Rel b Z D κ' M' s H') (hS : va_S (fun q => Z ≤ q) s.heap H' locs') (hce : H'[q]? = some ce) (hcv : ce.vm = .none) (hcl : s.vm.findClass (exN ex) = some ce.cls) :
    vx_W p l e (rmOf y) s m args below meth c H' locs' n2 k2 (vx_MQ below (zQc b Z D Q) (zXC b Z D Q) args s (rmOf y).cells (rmOf y).slots (fun q => Z ≤ q)) (F0 m pc ls rest) q := by
  refine vx_out (E := exN ex) (ce := ce) ?_ hC.2.2.2.2.2.1 hce hcv hcl ?_ hS.2.2 hr1 hr2
  · intro x hx
    rw [hC.2.2.2.2.2.2.2.1, hy] at hx
    cases hx
  · intro t ht hal
    exact ⟨⟨ex, κ', M', rfl, hK _ _ _ hk, by rw [ht]; exact hRel.moved hal⟩, hS.F ht⟩
theorem map_rev (b Z : Nat) (as : List Value) (v : List Value) : (as.reverse ++ v).map (tv b Z) = (as.map (tv b Z)).reverse ++ v.map (tv b Z) := by simp
theorem cat_map (b Z : Nat) (st : List Value) : ((st.map (tv b Z)).map fun v => v.category).sum = (st.map Value.category).sum := by
  rw [List.map_map]
  congr 2
  funext v
  exact tv_cat b Z v
theorem MK.cb {p : Program} {l : Launch} {s : State} {m : MethodId} {args : Array Value} {meth : Method} {c : Code} {b Z : Nat} {D : va_G} (hC : Cx X y l p s m args meth c b Z D) (hk : MK z n) (hl : Cond.methodLink own idx z.1 ∈ tblG) (hrm : roomB y z nc ks) :
    CallB (rmOf y) s args own idx z.1 z.2.1 z.2.2.1 z.2.2.2.1 (wsOf z) (rmOf z) (rmOf z).cells (rmOf z).slots n :=
  callB_of (ws' := tblG) n hC.words (good_wsOf hk.1) (by unfold wsOf; rw [cwOf_none hk.2.2.1]) rfl rfl (hC.word hk.2.1) (hC.word hl) hk.2.2.2 hrm.1
theorem g_callV (hk : MK z n) (hl : Cond.methodLink own idx z.1 ∈ tblG) (hi : Cond.instanceMethod z.1 ∈ tblG) (hv : Cond.selects z.1.cls z.1 z.1 ∈ tblG) (ho : y.1.cls = own) (hy : y.2.2.2.2.1 = none) (hrm : roomB y z nc ks) (hs : κ.2.1 r = some (ci, N, cs)) (hci : (vwCl[ci]?).map (fun q => q.1) = some z.1.cls)
    (hstk : stk = as.reverse ++ .ref r :: st) (hn : as.length = n) (hcat : (st.map Value.category).sum ≤ 8) (hz : Ct X z (.ref r :: as) κ M (Kq X y is (pc + 3) lo st (nc + (rmOf z).cells) (ks + (rmOf z).slots) Q)) : G X y ((.invokevirtual idx, 3) :: is) pc lo stk nc ks κ M Q := by
  intro hA l p e s m args below meth c b Z D H locs ls hC hR hS hL
  subst ho
  subst hstk
  obtain ⟨q, hq, hqn⟩ := Option.map_eq_some_iff.mp hci
  obtain ⟨hN, hlen, cell, q1, q2, q3, q4⟩ := cell_obj hR hs hq
  have hfc : s.vm.findClass z.1.cls = some cell.cls := by rw [q2, ← hqn]; exact (hC.wd.1.1 ci _ hq).2.1
  have hr := vx_runV (C := z.1.cls) (As := as.map (tv b Z)) (rest := st.map (tv b Z)) (n := n) (b := ad b Z r) (g := F0 m pc ls ((as.reverse ++ .ref r :: st).map (tv b Z))) (cells := nc) (slots := ks) (locs := locs) (H := H) (p := p) (e := e) (below := below) (meth := meth) (c := c) (index := idx) (own := y.1.cls)
    ⟨hC.2.1, hC.2.2.1, hC.2.2.2.1, hC.own, hC.words⟩ (hz l hC.1 b Z D) ⟨hk.cb hC hl hrm, hC.word hi, hC.word hv⟩
    ⟨zPc_blind _ _ _ _ _ _ _, ⟨cell, q1, by rw [q3]; rfl, hfc⟩, fun U hU hW => zPc_call hC.wd hR hS hU hW⟩ rfl (by rw [List.length_map]; exact hn) hL.1 (map_rev b Z as (.ref r :: st)) (lv_room (by rw [cat_map]; exact hcat)) hA.1 hrm.2
  refine call_core hr hS (fun v κ' M' H' locs' hK hRel hS' => ?_) (hexc_out (Q := Q) (K := Kq X y is (pc + 3) lo st (nc + (rmOf z).cells) (ks + (rmOf z).slots) Q) hy hC (fun e κ M h => h) hrm.2.1 hrm.2.2)
  cases v with
  | none => exact hK hA.2 l p e s m args below meth c b Z D H' locs' ls hC hRel hS' hL
  | some v => exact hK hA.2 l p e s m args below meth c b Z D H' locs' ls hC hRel hS' hL
theorem g_callS (hk : MK z n) (hl : Cond.methodLink own idx z.1 ∈ tblG) (hi : Cond.static z.1 ∈ tblG) (ho : y.1.cls = own) (hy : y.2.2.2.2.1 = none) (hrm : roomB y z nc ks)
    (hstk : stk = as.reverse ++ st) (hn : as.length = n) (hcat : (st.map Value.category).sum ≤ 8) (hz : Ct X z as κ M (Kq X y is (pc + 3) lo st (nc + (rmOf z).cells) (ks + (rmOf z).slots) Q)) : G X y ((.invokestatic idx, 3) :: is) pc lo stk nc ks κ M Q := by
  intro hA l p e s m args below meth c b Z D H locs ls hC hR hS hL
  subst ho
  subst hstk
  have hr := vx_runS (As := as.map (tv b Z)) (rest := st.map (tv b Z)) (n := n) (g := F0 m pc ls ((as.reverse ++ st).map (tv b Z))) (cells := nc) (slots := ks) (locs := locs) (H := H) (p := p) (e := e) (below := below) (meth := meth) (c := c) (index := idx) (own := y.1.cls)
    ⟨hC.2.1, hC.2.2.1, hC.2.2.2.1, hC.own, hC.words⟩ (hz l hC.1 b Z D) ⟨hk.cb hC hl hrm, hC.word hi⟩
    ⟨zPc_blind _ _ _ _ _ _ _, fun U hU hW => zPc_call hC.wd hR hS hU hW⟩ rfl (by rw [List.length_map]; exact hn) hL.1 (map_rev b Z as st) (lv_room (by rw [cat_map]; exact hcat)) hA.1 hrm.2
  refine call_core hr hS (fun v κ' M' H' locs' hK hRel hS' => ?_) (hexc_out (Q := Q) (K := Kq X y is (pc + 3) lo st (nc + (rmOf z).cells) (ks + (rmOf z).slots) Q) hy hC (fun e κ M h => h) hrm.2.1 hrm.2.2)
  cases v with
  | none => exact hK hA.2 l p e s m args below meth c b Z D H' locs' ls hC hRel hS' hL
  | some v => exact hK hA.2 l p e s m args below meth c b Z D H' locs' ls hC hRel hS' hL
theorem g_callI (hk : MK z n) (hl : Cond.methodLink own idx z.1 ∈ tblG) (hi : Cond.instanceMethod z.1 ∈ tblG) (hin : z.1.name = "<init>") (hret : z.2.2.2.1 = none) (ho : y.1.cls = own) (hy : y.2.2.2.2.1 = none) (hrm : roomB y z nc ks)
    (hstk : stk = as.reverse ++ .ref r :: st) (hn : as.length = n) (hcat : (st.map Value.category).sum ≤ 8) (hz : Ct X z (.ref r :: as) κ M (Kq X y is (pc + 3) lo st (nc + (rmOf z).cells) (ks + (rmOf z).slots) Q)) : G X y ((.invokespecial idx, 3) :: is) pc lo stk nc ks κ M Q := by
  intro hA l p e s m args below meth c b Z D H locs ls hC hR hS hL
  subst ho
  subst hstk
  have hcb := hk.cb hC hl hrm
  rw [hret] at hcb
  have hr := vx_runI (As := as.map (tv b Z)) (rest := st.map (tv b Z)) (n := n) (b := ad b Z r) (g := F0 m pc ls ((as.reverse ++ .ref r :: st).map (tv b Z))) (cells := nc) (slots := ks) (locs := locs) (H := H) (p := p) (e := e) (below := below) (meth := meth) (c := c) (index := idx) (own := y.1.cls)
    ⟨hC.2.1, hC.2.2.1, hC.2.2.2.1, hC.own, hC.words⟩ (hz l hC.1 b Z D) ⟨hcb, hin, hC.word hi⟩
    ⟨zPc_blind _ _ _ _ _ _ _, fun U hU hW => zPc_call hC.wd hR hS hU hW⟩ rfl (by rw [List.length_map]; exact hn) hL.1 (map_rev b Z as (.ref r :: st)) (lv_room (by rw [cat_map]; exact hcat)) hA.1 hrm.2
  refine call_core hr hS (fun v κ' M' H' locs' hK hRel hS' => ?_) (hexc_out (Q := Q) (K := Kq X y is (pc + 3) lo st (nc + (rmOf z).cells) (ks + (rmOf z).slots) Q) hy hC (fun e κ M h => h) hrm.2.1 hrm.2.2)
  cases v with
  | none => exact hK hA.2 l p e s m args below meth c b Z D H' locs' ls hC hRel hS' hL
  | some v => exact hK hA.2 l p e s m args below meth c b Z D H' locs' ls hC hRel hS' hL
theorem MK.cn {p : Program} {l : Launch} {s : State} {m : MethodId} {args : Array Value} {meth : Method} {c : Code} {b Z : Nat} {D : va_G} {host : String} (hC : Cx X y l p s m args meth c b Z D) (hk : MK z n) (hl : (own, idx, z.1, host) ∈ nestW) (hrm : roomB y z nc ks) :
    va_CN (rmOf y) s args own idx z.1 host z.2.1 z.2.2.1 z.2.2.2.1 (wsOf z) (rmOf z) (rmOf z).cells (rmOf z).slots n :=
  va_cnB (ws' := tblG) n hC.words (good_wsOf hk.1) (by unfold wsOf; rw [cwOf_none hk.2.2.1]) rfl rfl (hC.wd.2.2.2.2.2.2.1 _ hl) (hC.word hk.2.1) hk.2.2.2 hrm.1
theorem g_callIN {host : String} (hk : MK z n) (hl : (own, idx, z.1, host) ∈ nestW) (hi : Cond.instanceMethod z.1 ∈ tblG) (hin : z.1.name = "<init>") (hret : z.2.2.2.1 = none) (ho : y.1.cls = own) (hy : y.2.2.2.2.1 = none) (hrm : roomB y z nc ks)
    (hstk : stk = as.reverse ++ .ref r :: st) (hn : as.length = n) (hcat : (st.map Value.category).sum ≤ 8) (hz : Ct X z (.ref r :: as) κ M (Kq X y is (pc + 3) lo st (nc + (rmOf z).cells) (ks + (rmOf z).slots) Q)) : G X y ((.invokespecial idx, 3) :: is) pc lo stk nc ks κ M Q := by
  intro hA l p e s m args below meth c b Z D H locs ls hC hR hS hL
  subst ho
  subst hstk
  have hcb := hk.cn hC hl hrm
  rw [hret] at hcb
  have hr := vx_runIN (As := as.map (tv b Z)) (rest := st.map (tv b Z)) (n := n) (b := ad b Z r) (g := F0 m pc ls ((as.reverse ++ .ref r :: st).map (tv b Z))) (cells := nc) (slots := ks) (locs := locs) (H := H) (p := p) (e := e) (below := below) (meth := meth) (c := c) (index := idx) (own := y.1.cls)
    ⟨hC.2.1, hC.2.2.1, hC.2.2.2.1, hC.own, hC.words⟩ (hz l hC.1 b Z D) ⟨hcb, hin, hC.word hi⟩
    ⟨zPc_blind _ _ _ _ _ _ _, fun U hU hW => zPc_call hC.wd hR hS hU hW⟩ rfl (by rw [List.length_map]; exact hn) hL.1 (map_rev b Z as (.ref r :: st)) (lv_room (by rw [cat_map]; exact hcat)) hA.1 hrm.2
  refine call_core hr hS (fun v κ' M' H' locs' hK hRel hS' => ?_) (hexc_out (Q := Q) (K := Kq X y is (pc + 3) lo st (nc + (rmOf z).cells) (ks + (rmOf z).slots) Q) hy hC (fun e κ M h => h) hrm.2.1 hrm.2.2)
  cases v with
  | none => exact hK hA.2 l p e s m args below meth c b Z D H' locs' ls hC hRel hS' hL
  | some v => exact hK hA.2 l p e s m args below meth c b Z D H' locs' ls hC hRel hS' hL
theorem g_callSN {host : String} (hk : MK z n) (hl : (own, idx, z.1, host) ∈ nestW) (hi : Cond.static z.1 ∈ tblG) (ho : y.1.cls = own) (hy : y.2.2.2.2.1 = none) (hrm : roomB y z nc ks)
    (hstk : stk = as.reverse ++ st) (hn : as.length = n) (hcat : (st.map Value.category).sum ≤ 8) (hz : Ct X z as κ M (Kq X y is (pc + 3) lo st (nc + (rmOf z).cells) (ks + (rmOf z).slots) Q)) : G X y ((.invokestatic idx, 3) :: is) pc lo stk nc ks κ M Q := by
  intro hA l p e s m args below meth c b Z D H locs ls hC hR hS hL
  subst ho
  subst hstk
  have hr := vx_runSN (As := as.map (tv b Z)) (rest := st.map (tv b Z)) (n := n) (g := F0 m pc ls ((as.reverse ++ st).map (tv b Z))) (cells := nc) (slots := ks) (locs := locs) (H := H) (p := p) (e := e) (below := below) (meth := meth) (c := c) (index := idx) (own := y.1.cls)
    ⟨hC.2.1, hC.2.2.1, hC.2.2.2.1, hC.own, hC.words⟩ (hz l hC.1 b Z D) ⟨hk.cn hC hl hrm, hC.word hi, trivial⟩
    ⟨zPc_blind _ _ _ _ _ _ _, fun U hU hW => zPc_call hC.wd hR hS hU hW⟩ rfl (by rw [List.length_map]; exact hn) hL.1 (map_rev b Z as st) (lv_room (by rw [cat_map]; exact hcat)) hA.1 hrm.2
  refine call_core hr hS (fun v κ' M' H' locs' hK hRel hS' => ?_) (hexc_out (Q := Q) (K := Kq X y is (pc + 3) lo st (nc + (rmOf z).cells) (ks + (rmOf z).slots) Q) hy hC (fun e κ M h => h) hrm.2.1 hrm.2.2)
  cases v with
  | none => exact hK hA.2 l p e s m args below meth c b Z D H' locs' ls hC hRel hS' hL
  | some v => exact hK hA.2 l p e s m args below meth c b Z D H' locs' ls hC hRel hS' hL
/-- Object.<init>() -/
theorem g_objI (hl : Cond.methodLink own idx Lib.objectInit ∈ tblG) (hi : Cond.instanceMethod Lib.objectInit ∈ tblG) (hc : Cond.code Lib.objectInit ⟨#[0xb1]⟩ 1 none ∈ tblG) (ho : y.1.cls = own) (hf : 1 ≤ (rmOf y).frames) (hlo : (st.map Value.category).sum + 12 ≤ (rmOf y).locals)
    (kk : G X y is (pc + 3) lo st nc ks κ M Q) : G X y ((.invokespecial idx, 3) :: is) pc lo (.ref r :: st) nc ks κ M Q := by
  intro hA l p e s m args below meth c b Z D H locs ls hC hR hS hL
  subst ho
  refine W.objInit (a := ad b Z r) (rest := st.map (tv b Z)) hC.2.1 hC.2.2.1 hC.own (hC.word hl) (hC.word hi) (hC.word hc) rfl (hL.1.trans hC.2.2.2.1.symm) rfl hA.1 hf ?_ (kk hA.2 l p e s m args below meth c b Z D H locs ls hC hR hS hL)
  rw [cat_map]
  show 2 * 0 + _ + 12 ≤ _
  omega
/-- the ends -/
theorem g_iret {v : Int32} (hr : y.2.2.2.1 = some .int) (h1 : nc ≤ (rmOf y).cells) (h2 : ks ≤ (rmOf y).slots) (hq : Q (.inl (some (.int v))) κ M) : G X y ((.ireturn, 1) :: is) pc lo [.int v] nc ks κ M Q := by
  intro hA l p e s m args below meth c b Z D H locs ls hC hR hS hL
  refine W.widen h1 h2 (vx_ret (W.iret hC.2.1 hC.2.2.1 (hC.2.2.2.2.1.trans hr) (fun t ht hW => ⟨⟨some (.int v), κ, M, rfl, hq, ?_⟩, hS.F ht⟩) hS.2.2 hA.1 hC.2.2.2.2.2.1))
  rw [ht]; exact hR.moved hW.alike
theorem g_zret {v : Int32} {ty : FieldType} (hr : y.2.2.2.1 = some ty) (hn : narrow ty (.int v) = .int v) (h1 : nc ≤ (rmOf y).cells) (h2 : ks ≤ (rmOf y).slots) (hq : Q (.inl (some (.int v))) κ M) : G X y ((.ireturn, 1) :: is) pc lo [.int v] nc ks κ M Q := by
  intro hA l p e s m args below meth c b Z D H locs ls hC hR hS hL
  refine W.widen h1 h2 (vx_ret (W.zret hC.2.1 hC.2.2.1 (hC.2.2.2.2.1.trans hr) hn (fun t ht hW => ⟨⟨some (.int v), κ, M, rfl, hq, ?_⟩, hS.F ht⟩) hS.2.2 hA.1 hC.2.2.2.2.2.1))
  rw [ht]; exact hR.moved hW.alike
theorem g_lret {v : Int64} (hr : y.2.2.2.1 = some .long) (h1 : nc ≤ (rmOf y).cells) (h2 : ks ≤ (rmOf y).slots) (hq : Q (.inl (some (.long v))) κ M) : G X y ((.lreturn, 1) :: is) pc lo [.long v] nc ks κ M Q := by
  intro hA l p e s m args below meth c b Z D H locs ls hC hR hS hL
  refine W.widen h1 h2 (vx_ret (W.lret hC.2.1 hC.2.2.1 (hC.2.2.2.2.1.trans hr) (fun t ht hW => ⟨⟨some (.long v), κ, M, rfl, hq, ?_⟩, hS.F ht⟩) hS.2.2 hA.1 hC.2.2.2.2.2.1))
  rw [ht]; exact hR.moved hW.alike
theorem g_vret (hr : y.2.2.2.1 = none) (h1 : nc ≤ (rmOf y).cells) (h2 : ks ≤ (rmOf y).slots) (hq : Q (.inl none) κ M) : G X y ((.return_, 1) :: is) pc lo [] nc ks κ M Q := by
  intro hA l p e s m args below meth c b Z D H locs ls hC hR hS hL
  refine W.widen h1 h2 (vx_ret (W.vret hC.2.1 hC.2.2.1 (hC.2.2.2.2.1.trans hr) (fun t ht hW => ⟨⟨none, κ, M, rfl, hq, ?_⟩, hS.F ht⟩) hS.2.2 hA.1 hC.2.2.2.2.2.1))
  rw [ht]; exact hR.moved hW.alike
end CALLROWS
/-- the start of a method -/
def loA : Nat → List Value → Lo
  | _, [] => []
  | i, v :: vs => (i, some v) :: loA (bif Nat.beq v.category 2 then i + 2 else i + 1) vs
theorem loA_in (b Z : Nat) : ∀ (vs : List Value) (k i : Nat) (v : Value), lg (loA k vs) i = some v → (i, tv b Z v) ∈ lv_args k (vs.map (tv b Z))
  | [], _, _, _, h => by cases h
  | w :: vs, k, i, v, h => by
    have h : lg ((k, some w) :: loA (bif Nat.beq w.category 2 then k + 2 else k + 1) vs) i = some v := h
    have he : (bif Nat.beq w.category 2 then k + 2 else k + 1) = (if (tv b Z w).category = 2 then k + 2 else k + 1) := by
      rw [tv_cat]
      rcases lv_cat w with e | e <;> rw [e] <;> rfl
    rw [he] at h
    show (i, tv b Z v) ∈ (k, tv b Z w) :: lv_args (if (tv b Z w).category = 2 then k + 2 else k + 1) (vs.map (tv b Z))
    rw [lg_cons] at h
    by_cases hk : k = i
    · rw [if_pos hk] at h
      cases h
      rw [hk]
      exact List.mem_cons_self
    · rw [if_neg hk] at h
      exact List.mem_cons_of_mem _ (loA_in b Z vs _ i v h)
theorem ct_body {X : Xs} {y : MI} {as : List Value} {κ : Kp} {M : Mem} {Q : Rs → Kp → Mem → Prop} {is : List (Instr × Nat)} (hsz : (as.map Value.category).sum ≤ y.2.2.1) (hA : CdAt y.2.1 0 is) (h : G X y is 0 (loA 0 as) [] 0 0 κ M Q)
    {p : Program} {l : Launch} {e : Env} {s : State} {m : MethodId} {args : Array Value} {below : List Frame} {meth : Method} {c : Code} {s₁ : State} {b Z : Nat} {D : va_G} (hl : l.stackTraces = false) (B : BodyLoose p l y.1 (headSpec (wsOf y) (rmOf y)) y.2.1 y.2.2.1 y.2.2.2.1 e s m args below meth c s₁) (hml : c.maxLocals = y.2.2.1) (ht : c.exceptionTable.toList = tableOf (y.2.2.2.2.1.getD [])) (hv : zPc X b Z D as κ M args s) :
    W p l e (rmOf y) s m args below meth c s.heap [] 0 0 (vx_MQ below (zQc b Z D Q) (zXC b Z D Q) args s (rmOf y).cells (rmOf y).slots (fun q => Z ≤ q)) (entryFrame m args y.2.2.1) := by
  obtain ⟨rfl, hwd, hR⟩ := hv
  have hin : meth.name = y.1.name := (name_of_methodNamed B.named B.method).1
  have hsl : (lg_sl (as.map (tv b Z))).length = (as.map Value.category).sum := by
    clear hwd hR hsz h B
    induction as with
    | nil => rfl
    | cons v vs ih =>
      have e1 : lg_sl ((v :: vs).map (tv b Z)) = (if (tv b Z v).category = 2 then [Slot.val (tv b Z v), .second] else [Slot.val (tv b Z v)]) ++ lg_sl (vs.map (tv b Z)) := rfl
      rw [e1, List.length_append, ih, tv_cat]
      rcases lv_cat v with e | e <;> simp [e]
  have hl0 := lv_entry (as.map (tv b Z)) (n := y.2.2.1) (by rw [hsl]; exact hsz)
  rw [lg_entry_eq]
  exact h hA l p e s m _ below meth c b Z D s.heap [] _ ⟨hl, B.exec, B.bytes, hml, B.returns, B.notSynchronized, hin, ht, findClass_of_methodNamed B.named, atoms_spec (ws := wsOf y) B.pre, hwd⟩ hR va_S.rf
    ⟨hl0.1, hl0.2.1, fun i v hg => hl0.2.2 (i, tv b Z v) (loA_in b Z as 0 i v hg)⟩
theorem ct_of {X : Xs} {y : MI} {as : List Value} {κ : Kp} {M : Mem} {Q : Rs → Kp → Mem → Prop} (is : List (Instr × Nat)) (hp : plainName y.1.cls = true) (hh : y.2.2.2.2.1 = none) (hsz : (as.map Value.category).sum ≤ y.2.2.1) (hA : CdAt y.2.1 0 is) (h : G X y is 0 (loA 0 as) [] 0 0 κ M Q) : Ct X y as κ M Q := by
  intro l hl b Z D
  refine vx_ofW (cc := y.2.1) (maxL := y.2.2.1) (ret := y.2.2.2.1) (ws' := tblG) hp (by unfold wsOf; rw [cwOf_none hh]) ?_
  intro p e s m args below meth c s₁ B hml ht hv
  refine ct_body hsz hA h hl B hml ?_ hv
  rw [hh]
  cases hc : c.exceptionTable.toList with
  | nil => rfl
  | cons a t => exact absurd (ht a (by rw [hc]; exact List.mem_cons_self)) (fun h => h)
theorem ct_ofH {X : Xs} {y : MI} {as : List Value} {κ : Kp} {M : Mem} {Q : Rs → Kp → Mem → Prop} {hh : List (Nat × Nat × Nat × Nat)} (is : List (Instr × Nat)) (hp : plainName y.1.cls = true) (hy : y.2.2.2.2.1 = some hh) (hsz : (as.map Value.category).sum ≤ y.2.2.1) (hA : CdAt y.2.1 0 is) (h : G X y is 0 (loA 0 as) [] 0 0 κ M Q) : Ct X y as κ M Q := by
  intro l hl b Z D
  refine vx_ofWH (cc := y.2.1) (maxL := y.2.2.1) (ret := y.2.2.2.1) (ws' := tblG) (hh := hh) hp (by unfold wsOf; rw [cwOf_some hy]) ?_
  intro p e s m args below meth c s₁ B hml hv
  refine ct_body hsz hA h hl B hml ?_ hv
  rw [hy]
  have hw : (cwOf y).before args s = true := atoms_spec (ws := wsOf y) B.pre _ List.mem_cons_self
  rw [cwOf_some hy] at hw
  exact vx_table (x := y.1) B hw
theorem Ct.mono {X : Xs} {y : MI} {as : List Value} {κ : Kp} {M : Mem} {Q Q' : Rs → Kp → Mem → Prop} (h : Ct X y as κ M Q) (hQ : ∀ o κ M, Q o κ M → Q' o κ M) : Ct X y as κ M Q' := by
  intro l hl b Z D
  refine MetFree.mono (h l hl b Z D) (fun _ _ hp => hp) (fun _ _ _ _ _ hk => hk) (fun a st o t _ hq => ?_)
  rcases hq with ⟨⟨⟨r, κ', M', h1, h2, h3⟩, hF⟩, hL⟩ | ⟨q, ho, E, ce, L, ⟨⟨ex, κ', M', hE, h2, h3⟩, hF⟩, hrest⟩
  · exact Or.inl ⟨⟨⟨r, κ', M', h1, hQ _ _ _ h2, h3⟩, hF⟩, hL⟩
  · exact Or.inr ⟨q, ho, E, ce, L, ⟨⟨ex, κ', M', hE, hQ _ _ _ h2, h3⟩, hF⟩, hrest⟩
/-- a throw: 'throw new E("..")' -/
theorem Rel.grow {b Z : Nat} {D : va_G} {κ : Kp} {M : Mem} {U : State} {H H' : Heap} (hR : Rel b Z D κ M U H) (hz : H.size ≤ H'.size) (hq : ∀ q : Nat, q < H.size → H'[q]? = H[q]?) : Rel b Z D (κ.1, κ.2.1, false) M U H' := by
  refine ⟨fun r sh hs => ⟨(hR.1 r sh hs).1, (hR.1 r sh hs).2.kept (hq _ ?_) (fun _ => rfl)⟩, Nat.le_trans hR.2.1 hz, fun h => by cases h⟩
  obtain ⟨h1, h2⟩ := (hR.1 r sh hs).1
  have h3 := hR.2.1
  cases r with
  | zero => omega
  | succ a => show Z + a < H.size; omega
def thrN : List String := ["java/lang/RuntimeException", "java/lang/Exception"]
def TH (own : String) (ik ic e : Nat) : Prop := Cond.classLink own ik (exN e) ∈ tblG ∧ Cond.initialized (exN e) ∈ tblG ∧ (∀ w ∈ (vx_atS own ic (exN e) thrN).filter goodWord, w ∈ tblG) ∧
  (∀ w ∈ (vx_atS own ic (exN e) thrN).filter (fun w => !goodWord w), w ∈ Cond.castable (exN e) (exN e) :: declW.map Cond.declares) ∧ (∀ w ∈ Cond.classLink own ik (exN e) :: Cond.initialized (exN e) :: vx_atS own ic (exN e) thrN, vx_ot w = true) ∧ exN e ∈ castW ∧ Bundle.fit (exN e) = true
theorem thrN_fit : ∀ n ∈ thrN, Bundle.fit n = true := by decide +kernel
section THROWS
variable {X : Xs} {y : MI} {is : List (Instr × Nat)} {pc : Nat} {lo : Lo} {st : List Value} {nc ks : Nat} {κ : Kp} {M : Mem} {Q : Rs → Kp → Mem → Prop}
theorem g_throw {own text : String} {ik ic isx e : Nat} (hth : TH own ik ic e) (htx : (own, isx, text) ∈ strW) (ho : y.1.cls = own) (hy : y.2.2.2.2.1 = none) (hf : 5 < (rmOf y).frames) (hlo : (st.map Value.category).sum + 82 ≤ (rmOf y).locals) (h1 : nc + 1 ≤ (rmOf y).cells) (h2 : ks + 6 ≤ (rmOf y).slots)
    (hq : Q (.inr e) (κ.1, κ.2.1, false) M) : G X y ((.new ik, 3) :: (.dup, 1) :: (.ldc isx, 2) :: (.invokespecial ic, 3) :: (.athrow, 1) :: is) pc lo st nc ks κ M Q := by
  intro hA l p e' s m args below meth c b Z D H locs ls hC hR hS hL
  subst ho
  obtain ⟨t1, t2, t3, t4, t5, t6, t7⟩ := hth
  obtain ⟨-, -, -, hZs, hU, hN, hnw⟩ := hC.wd
  obtain ⟨sa, hstr⟩ := hnw.2.2.2.1 _ htx
  have hB : ∀ w ∈ Cond.castable (exN e) (exN e) :: declW.map Cond.declares, w.before args s = true := by
    intro w hw
    rcases List.mem_cons.mp hw with hw | hw
    · rw [hw]; exact va_Nw.use rfl (hnw.2.2.2.2.1 _ t6)
    · obtain ⟨q, hq1, rfl⟩ := List.mem_map.mp hw
      exact va_Nw.use rfl (hnw.2.2.2.2.2 _ hq1)
  have hat : ∀ w ∈ vx_atS y.1.cls ic (exN e) thrN, w.before args s = true := vx_hat (fun w hw => hC.word (t3 w hw)) t4 hB
  have hout : ∀ x ∈ c.exceptionTable.toList, covers x (pc + 9) = false := by
    intro x hx
    rw [hC.2.2.2.2.2.2.2.1, hy] at hx
    cases hx
  refine vx_throwS (names := thrN) (A := fun q => Z ≤ q) hC.2.1 hC.2.2.1 hC.1 hC.own t7 thrN_fit (hC.word t1) (hC.word t2) hstr hat t5 hU hN hS (hL.1.trans hC.2.2.2.1.symm) hA.1 hA.2.1 hA.2.2.1 hA.2.2.2.1 hA.2.2.2.2.1 hout hf ?_ h1 h2 hC.2.2.2.2.2.1 ?_ hS.2.2 h1 h2
  · rw [cat_map]; exact hlo
  · intro t hal hz hk
    exact ⟨⟨e, _, M, rfl, hq, (hR.moved hal).grow hz hk⟩, ⟨Nat.le_trans hS.1 hz, fun q h3 h4 => (hk q (Nat.lt_of_lt_of_le h3 hS.1)).trans (hS.2.1 q h3 h4)⟩⟩
theorem g_throwW {own text : String} {ik ic isx e : Nat} (hth : TH own ik ic e) (htx : (own, isx, text) ∈ strW) (ho : y.1.cls = own) (hy : y.2.2.2.2.1 = none) (hf : 5 < (rmOf y).frames) (hlo : (st.map Value.category).sum + 82 ≤ (rmOf y).locals) (h1 : nc + 1 ≤ (rmOf y).cells) (h2 : ks + 6 ≤ (rmOf y).slots)
    (hq : Q (.inr e) (κ.1, κ.2.1, false) M) : G X y ((.new ik, 3) :: (.dup, 1) :: (.ldc_w isx, 3) :: (.invokespecial ic, 3) :: (.athrow, 1) :: is) pc lo st nc ks κ M Q := by
  intro hA l p e' s m args below meth c b Z D H locs ls hC hR hS hL
  subst ho
  obtain ⟨t1, t2, t3, t4, t5, t6, t7⟩ := hth
  obtain ⟨-, -, -, hZs, hU, hN, hnw⟩ := hC.wd
  obtain ⟨sa, hstr⟩ := hnw.2.2.2.1 _ htx
  have hB : ∀ w ∈ Cond.castable (exN e) (exN e) :: declW.map Cond.declares, w.before args s = true := by
    intro w hw
    rcases List.mem_cons.mp hw with hw | hw
    · rw [hw]; exact va_Nw.use rfl (hnw.2.2.2.2.1 _ t6)
    · obtain ⟨q, hq1, rfl⟩ := List.mem_map.mp hw
      exact va_Nw.use rfl (hnw.2.2.2.2.2 _ hq1)
  have hat : ∀ w ∈ vx_atS y.1.cls ic (exN e) thrN, w.before args s = true := vx_hat (fun w hw => hC.word (t3 w hw)) t4 hB
  have hout : ∀ x ∈ c.exceptionTable.toList, covers x (pc + 10) = false := by
    intro x hx
    rw [hC.2.2.2.2.2.2.2.1, hy] at hx
    cases hx
  refine vx_throwSW (names := thrN) (A := fun q => Z ≤ q) hC.2.1 hC.2.2.1 hC.1 hC.own t7 thrN_fit (hC.word t1) (hC.word t2) hstr hat t5 hU hN hS (hL.1.trans hC.2.2.2.1.symm) hA.1 hA.2.1 hA.2.2.1 hA.2.2.2.1 hA.2.2.2.2.1 hout hf ?_ h1 h2 hC.2.2.2.2.2.1 ?_ hS.2.2 h1 h2
  · rw [cat_map]; exact hlo
  · intro t hal hz hk
    exact ⟨⟨e, _, M, rfl, hq, (hR.moved hal).grow hz hk⟩, ⟨Nat.le_trans hS.1 hz, fun q h3 h4 => (hk q (Nat.lt_of_lt_of_le h3 hS.1)).trans (hS.2.1 q h3 h4)⟩⟩
/-- a handler of the law's methods: 'catch (E e) { return j; }' -/
def Hdl (y : MI) (hh : List (Nat × Nat × Nat × Nat)) (pc e : Nat) (j : Int32) : Prop := ∃ (pre : List (Nat × Nat × Nat × Nat)) (x : Nat × Nat × Nat × Nat) (suf : List (Nat × Nat × Nat × Nat)) (ia : Instr × Nat) (i : Int) (a : Nat), hh = pre ++ x :: suf ∧
  (∀ z ∈ pre, z.2.2.2 ≠ 0 ∧ ∃ nm : String, Cond.classLink y.1.cls z.2.2.2 nm ∈ tblG ∧ (exN e, nm) ∈ ncW) ∧ covers ⟨x.1, x.2.1, x.2.2.1, x.2.2.2⟩ pc = true ∧ x.2.2.2 ≠ 0 ∧ Cond.classLink y.1.cls x.2.2.2 (exN e) ∈ tblG ∧ exN e ∈ castW ∧
  (ia = (.astore a, 2) ∨ ∃ f : Fin 4, (f : Nat) = a ∧ ia = (.astore_n f, 1)) ∧ a < y.2.2.1 ∧ Int32.ofInt i = j ∧ CdAt y.2.1 x.2.2.1 [ia, (.iconst i, 1), (.ireturn, 1)]
theorem g_callVh {own : String} {idx n r ci N : Nat} {cs : List Nat} {z : MI} {as stk : List Value} {hh : List (Nat × Nat × Nat × Nat)} (hk : MK z n) (hl : Cond.methodLink own idx z.1 ∈ tblG) (hi : Cond.instanceMethod z.1 ∈ tblG) (hv : Cond.selects z.1.cls z.1 z.1 ∈ tblG) (ho : y.1.cls = own) (hy : y.2.2.2.2.1 = some hh) (hret : y.2.2.2.1 = some .int) (hrm : roomB y z nc ks) (hs : κ.2.1 r = some (ci, N, cs)) (hci : (vwCl[ci]?).map (fun q => q.1) = some z.1.cls)
    (hstk : stk = as.reverse ++ .ref r :: st) (hn : as.length = n) (hcat : (st.map Value.category).sum ≤ 8)
    (hz : Ct X z (.ref r :: as) κ M (fun o κ' M' => match o with
      | .inl (some v) => G X y is (pc + 3) lo (v :: st) (nc + (rmOf z).cells) (ks + (rmOf z).slots) κ' M' Q
      | .inl none => G X y is (pc + 3) lo st (nc + (rmOf z).cells) (ks + (rmOf z).slots) κ' M' Q
      | .inr e => ∃ j : Int32, Hdl y hh pc e j ∧ Q (.inl (some (.int j))) κ' M')) : G X y ((.invokevirtual idx, 3) :: is) pc lo stk nc ks κ M Q := by
  intro hA l p e s m args below meth c b Z D H locs ls hC hR hS hL
  subst ho
  subst hstk
  obtain ⟨q, hq, hqn⟩ := Option.map_eq_some_iff.mp hci
  obtain ⟨hN, hlen, cell, q1, q2, q3, q4⟩ := cell_obj hR hs hq
  have hfc : s.vm.findClass z.1.cls = some cell.cls := by rw [q2, ← hqn]; exact (hC.wd.1.1 ci _ hq).2.1
  have hr := vx_runV (C := z.1.cls) (As := as.map (tv b Z)) (rest := st.map (tv b Z)) (n := n) (b := ad b Z r) (g := F0 m pc ls ((as.reverse ++ .ref r :: st).map (tv b Z))) (cells := nc) (slots := ks) (locs := locs) (H := H) (p := p) (e := e) (below := below) (meth := meth) (c := c) (index := idx) (own := y.1.cls)
    ⟨hC.2.1, hC.2.2.1, hC.2.2.2.1, hC.own, hC.words⟩ (hz l hC.1 b Z D) ⟨hk.cb hC hl hrm, hC.word hi, hC.word hv⟩
    ⟨zPc_blind _ _ _ _ _ _ _, ⟨cell, q1, by rw [q3]; rfl, hfc⟩, fun U hU hW => zPc_call hC.wd hR hS hU hW⟩ rfl (by rw [List.length_map]; exact hn) hL.1 (map_rev b Z as (.ref r :: st)) (lv_room (by rw [cat_map]; exact hcat)) hA.1 hrm.2
  refine call_core hr hS (fun v κ' M' H' locs' hK hRel hS' => ?_) (fun ex κ' M' H' locs' qa ce hK hRel hS' hce hcv hcl => ?_)
  · cases v with
    | none => exact hK hA.2 l p e s m args below meth c b Z D H' locs' ls hC hRel hS' hL
    | some v => exact hK hA.2 l p e s m args below meth c b Z D H' locs' ls hC hRel hS' hL
  · obtain ⟨j, ⟨pre, x, suf, ia, i, a, e1, e2, e3, e4, e5, e6, e7, e8, e9, e10⟩, hQ⟩ := hK
    obtain ⟨-, -, -, -, -, -, hnw⟩ := hC.wd
    have htab : c.exceptionTable.toList = tableOf hh := by rw [hC.2.2.2.2.2.2.2.1, hy]; rfl
    refine vx_catch (own := y.1.cls) (name := exN ex) (E := exN ex) hC.own (tableOf pre) ⟨x.1, x.2.1, x.2.2.1, x.2.2.2⟩ (tableOf suf) ?_ ?_ e3 e4 (hC.word e5) (va_Nw.use rfl (hnw.2.2.2.2.1 _ e6)) hce hcv hcl ?_
    · rw [htab, e1]; simp [tableOf]
    · intro z hz
      obtain ⟨w, hw, rfl⟩ := List.mem_map.mp hz
      obtain ⟨h1, nm, h2, h3⟩ := e2 w hw
      exact Or.inr ⟨h1, nm, hC.word h2, hnw.2.2.1 _ h3⟩
    · obtain ⟨d1, d2, d3, -⟩ := e10
      have fin : ∀ ls' : Array Slot, W p l e (rmOf y) s m args below meth c H' locs' (nc + (rmOf z).cells) (ks + (rmOf z).slots) (vx_MQ below (zQc b Z D Q) (zXC b Z D Q) args s (rmOf y).cells (rmOf y).slots (fun q => Z ≤ q)) (F0 m (x.2.2.1 + ia.2) ls' []) := by
        intro ls'
        refine lv_iconst (v := j) hC.2.1 hC.2.2.1 d2 e9 ?_
        refine W.widen hrm.2.1 hrm.2.2 (vx_ret (W.iret hC.2.1 hC.2.2.1 (hC.2.2.2.2.1.trans hret) (fun t ht hW => ⟨⟨some (.int j), κ', M', rfl, hQ, ?_⟩, hS'.F ht⟩) hS'.2.2 d3 hC.2.2.2.2.2.1))
        rw [ht]; exact hRel.moved hW.alike
      have hls : lv_has ls y.2.2.1 [] := ⟨hL.1, hL.2.1, fun q hq => by cases hq⟩
      rcases e7 with rfl | ⟨f, hf, rfl⟩
      · exact lv_astore (lv := []) hC.2.1 hC.2.2.1 d1 hls e8 rfl (fun ls' _ => fin ls')
      · subst hf
        exact lv_astore_n (lv := []) hC.2.1 hC.2.2.1 d1 rfl hls e8 rfl (fun ls' _ => fin ls')
end THROWS
