def upM (M : Mem) (r k : Nat) (x : Int32) : Mem := fun r' j => if r' = r ∧ j = k then x else M r' j
theorem upM_s (M : Mem) (r k : Nat) (x : Int32) : upM M r k x r k = x := if_pos ⟨rfl, rfl⟩
theorem upM_o (M : Mem) (r k : Nat) (x : Int32) {r' : Nat} (h : r' ≠ r) (j : Nat) : upM M r k x r' j = M r' j := if_neg fun q => h q.1
theorem upM_j (M : Mem) (r k : Nat) (x : Int32) {j : Nat} (h : j ≠ k) (r' : Nat) : upM M r k x r' j = M r' j := if_neg fun q => h q.2
theorem upM_f (M : Mem) (r k : Nat) (x : Int32) : upM M r k x r = upd (M r) k x := by
  funext j
  by_cases h : j = k
  · subst h; simp [upM, upd]
  · simp [upM, upd, h]
def upS (S : Nat → Option Sh) (r : Nat) (sh : Sh) : Nat → Option Sh := fun r' => if r' = r then some sh else S r'
theorem upS_s (S : Nat → Option Sh) (r : Nat) (sh : Sh) : upS S r sh r = some sh := if_pos rfl
theorem upS_o (S : Nat → Option Sh) (r : Nat) (sh : Sh) {r' : Nat} (h : r' ≠ r) : upS S r sh r' = S r' := if_neg h
def FL (own : String) (idx ci k : Nat) : Prop := ∃ q : vw_C, vwCl[ci]? = some q ∧ k < q.2.2 ∧ Cond.fieldLink own idx (q.2.1 k).1 (q.2.1 k).2.1 (q.2.1 k).2.2.1 ∈ tblG ∧ (∀ w ∈ u_ws q.1 q.2.1 q.2.2, w ∈ tblG)
def PL (own : String) (idx ci k : Nat) (ty : FieldType) (fin : Bool) : Prop := ∃ q : vw_C, vwCl[ci]? = some q ∧ k < q.2.2 ∧ Cond.fieldLink own idx (q.2.1 k).1 (q.2.1 k).2.1 (q.2.1 k).2.2.1 ∈ tblG ∧ (∀ w ∈ u_ws q.1 q.2.1 q.2.2, w ∈ tblG) ∧
  (∀ a, a < q.2.2 → ∀ b, b < q.2.2 → a ≠ b → (q.2.1 a).2.1 ≠ (q.2.1 b).2.1) ∧ (∃ ty0 : Nat → FieldType, ∀ k, k < q.2.2 → parseFieldDescriptor (q.2.1 k).2.2.1 = some (ty0 k)) ∧ (q.2.1 k).2.2.2 = fin ∧ parseFieldDescriptor (q.2.1 k).2.2.1 = some ty ∧ (fin = true → (q.2.1 k).1 = own)
theorem ad_ne {b Z r r' : Nat} (h : 1 ≤ r) (h' : 1 ≤ r') (hn : r' ≠ r) : ad b Z r' ≠ ad b Z r := by
  cases r with
  | zero => omega
  | succ a => cases r' with
    | zero => omega
    | succ c => show Z + c ≠ Z + a; omega
theorem ad_ge {b Z r : Nat} (h : 1 ≤ r) : Z ≤ ad b Z r := by
  cases r with
  | zero => omega
  | succ a => exact Nat.le_add_right Z a
theorem cellOK.kept {b Z : Nat} {D : va_G} {M M' : Mem} {U : State} {H H' : Heap} {r : Nat} {sh : Sh} (h : cellOK b Z D M U H r sh) (hq : H'[ad b Z r]? = H[ad b Z r]?) (hM : ∀ j, M' r j = M r j) : cellOK b Z D M' U H' r sh := by
  have hf : fv b Z M' r sh.2.2 = fv b Z M r sh.2.2 := by
    funext k; unfold fv; rw [hM]
  have he : aev b Z M' r sh.1 sh.2.2 = aev b Z M r sh.1 sh.2.2 := by
    funext k; unfold aev; rw [hM, hf]
  unfold cellOK at h ⊢
  rw [hf, he]
  split at h
  · rename_i hc
    rw [if_pos hc]
    obtain ⟨q, h1, h2, h3, h4⟩ := h
    exact ⟨q, h1, h2, h3, h4.kept hq⟩
  · rename_i hc
    rw [if_neg hc, hq]
    exact h
theorem cellOK.moved {b Z : Nat} {D : va_G} {M : Mem} {u U : State} {H : Heap} {r : Nat} {sh : Sh} (hvm : u.vm.Alike U.vm) (h : cellOK b Z D M u H r sh) : cellOK b Z D M U H r sh := by
  unfold cellOK at h ⊢
  split at h
  · rename_i hc
    rw [if_pos hc]; exact h
  · rename_i hc
    rw [if_neg hc]
    obtain ⟨cA, h1, h2, h3⟩ := h
    exact ⟨cA, h1, arrOfT_moved hvm h2, h3.moved hvm⟩
theorem Rel.moved {b Z : Nat} {D : va_G} {κ : Kp} {M : Mem} {u U : State} {H : Heap} (hvm : u.vm.Alike U.vm) (h : Rel b Z D κ M u H) : Rel b Z D κ M U H := ⟨fun r sh hs => ⟨(h.1 r sh hs).1, (h.1 r sh hs).2.moved hvm⟩, h.2⟩
theorem Rel.put {b Z : Nat} {D : va_G} {κ κ' : Kp} {M M' : Mem} {U : State} {H H' : Heap} {r : Nat} {sh' : Sh} (hR : Rel b Z D κ M U H) (hr : 1 ≤ r ∧ r ≤ κ.1) (hz : H'.size = H.size) (ho : ∀ q, q ≠ ad b Z r → H'[q]? = H[q]?)
    (hκ1 : κ'.1 = κ.1) (hκ3 : κ'.2.2 = κ.2.2) (hκ : ∀ r', r' ≠ r → κ'.2.1 r' = κ.2.1 r') (hr' : κ'.2.1 r = some sh') (hc : cellOK b Z D M' U H' r sh') (hM : ∀ r', r' ≠ r → ∀ j, M' r' j = M r' j) : Rel b Z D κ' M' U H' := by
  refine ⟨fun r2 sh hs => ?_, by rw [hκ1, hz]; exact hR.2.1, by rw [hκ1, hκ3, hz]; exact hR.2.2⟩
  rw [hκ1]
  by_cases h : r2 = r
  · subst h
    rw [hr'] at hs
    cases hs
    exact ⟨hr, hc⟩
  · rw [hκ r2 h] at hs
    obtain ⟨h1, h2⟩ := hR.1 r2 sh hs
    exact ⟨h1, h2.kept (ho _ (ad_ne hr.1 h1.1 h)) (hM r2 h)⟩
theorem cell_obj {b Z : Nat} {D : va_G} {κ : Kp} {M : Mem} {U : State} {H : Heap} {r ci N : Nat} {cs : List Nat} {q : vw_C} (hR : Rel b Z D κ M U H) (hs : κ.2.1 r = some (ci, N, cs)) (hq : vwCl[ci]? = some q) : q.2.2 = N ∧ cs.length = N ∧ t_OB (ad b Z r) (D.1 ci) q.2.2 (D.2 ci) H (fv b Z M r cs) := by
  have h := (hR.1 r _ hs).2
  have hci : ci < 16 := Nat.lt_of_lt_of_le (List.getElem?_eq_some_iff.mp hq).1 (by decide)
  unfold cellOK at h
  rw [if_pos hci] at h
  obtain ⟨q', h1, h2, h3, h4⟩ := h
  cases hq.symm.trans h1
  exact ⟨h2, h3, h4⟩
theorem cell_arr {b Z : Nat} {D : va_G} {κ : Kp} {M : Mem} {U : State} {H : Heap} {r t N : Nat} {cs : List Nat} (hR : Rel b Z D κ M U H) (hs : κ.2.1 r = some (t, N, cs)) (ht : 16 ≤ t) : ∃ cA : ClassId, H[ad b Z r]? = some (arrV cA N (aev b Z M r t cs)) ∧ ArrOfT U cA (aty t) ∧ va_RA U cA (aty t) := by
  have h := (hR.1 r _ hs).2
  unfold cellOK at h
  rw [if_neg (by show ¬ t < 16; omega)] at h
  exact h
theorem ix_in {i : Int32} {j N : Nat} (hi : i = nI j) (hj : j < N) (hN : N < 2147483648) : vp_in i N ∧ i.toNatClampNeg = j := by
  subst hi
  exact ⟨vp_in_nI hj hN, nI_clamp (Nat.lt_trans hj hN)⟩
section HEAPROWS

theorem g_getI {X : Xs} {y : MI} {is : List (Instr × Nat)} {pc : Nat} {lo : Lo} {st : List Value} {nc ks : Nat} {κ : Kp} {M : Mem} {Q : Rs → Kp → Mem → Prop} {own : String} {idx ci k N r : Nat} {cs : List Nat} (hf : FL own idx ci k) (ho : y.1.cls = own) (hs : κ.2.1 r = some (ci, N, cs)) (hc : cs.getD k 0 = 0) (kk : G X y is (pc + 3) lo (.int (M r k) :: st) nc ks κ M Q) : G X y (((.getfield idx), 3) :: is) pc lo (.ref r :: st) nc ks κ M Q := by
  intro hA l p e s m args below meth c b Z D H locs ls hC hR hS hL
  have hx := hC.2.1
  have hb := hC.2.2.1
  subst ho
  obtain ⟨q, hq, hk, hlink, hws⟩ := hf
  obtain ⟨hN, hlen, cell, q1, q2, q3, q4⟩ := cell_obj hR hs hq
  obtain ⟨hSl, hfc, kC, hkC, hkind⟩ := hC.wd.1.1 ci _ hq
  obtain ⟨cf, kf, fi, f, hi, hsl⟩ := hSl k hk
  refine W.getf hx hb hC.own (hC.word hlink) hi (u_facts hfc hkC (u_lays hC.words (fun w h => List.mem_cons_of_mem _ (hws w h)) hk) hi).1 q1 (by rw [q3]; exact fun h => by cases h) (v := tv b Z (.int (M r k))) ?_ rfl rfl hA.1 (kk hA.2 l p e s m args below meth c b Z D H locs ls hC hR hS hL)
  rw [hsl, q4 k hk]
  unfold fv
  rw [hc]
  rfl
theorem g_getR {X : Xs} {y : MI} {is : List (Instr × Nat)} {pc : Nat} {lo : Lo} {st : List Value} {nc ks : Nat} {κ : Kp} {M : Mem} {Q : Rs → Kp → Mem → Prop} {own : String} {idx ci k N r : Nat} {w : Nat} {cs : List Nat} (hf : FL own idx ci k) (ho : y.1.cls = own) (hs : κ.2.1 r = some (ci, N, cs)) (hc : cs.getD k 0 = w + 2) (kk : G X y is (pc + 3) lo (.ref w :: st) nc ks κ M Q) : G X y (((.getfield idx), 3) :: is) pc lo (.ref r :: st) nc ks κ M Q := by
  intro hA l p e s m args below meth c b Z D H locs ls hC hR hS hL
  have hx := hC.2.1
  have hb := hC.2.2.1
  subst ho
  obtain ⟨q, hq, hk, hlink, hws⟩ := hf
  obtain ⟨hN, hlen, cell, q1, q2, q3, q4⟩ := cell_obj hR hs hq
  obtain ⟨hSl, hfc, kC, hkC, hkind⟩ := hC.wd.1.1 ci _ hq
  obtain ⟨cf, kf, fi, f, hi, hsl⟩ := hSl k hk
  refine W.getf hx hb hC.own (hC.word hlink) hi (u_facts hfc hkC (u_lays hC.words (fun w h => List.mem_cons_of_mem _ (hws w h)) hk) hi).1 q1 (by rw [q3]; exact fun h => by cases h) (v := tv b Z (.ref w)) ?_ rfl rfl hA.1 (kk hA.2 l p e s m args below meth c b Z D H locs ls hC hR hS hL)
  rw [hsl, q4 k hk]
  unfold fv
  rw [hc]
  rfl
theorem g_putI {X : Xs} {y : MI} {is : List (Instr × Nat)} {pc : Nat} {lo : Lo} {st : List Value} {nc ks : Nat} {κ : Kp} {M : Mem} {Q : Rs → Kp → Mem → Prop} {own : String} {idx ci k N r : Nat} {cs : List Nat} {ty : FieldType} {x : Int32} (hf : PL own idx ci k ty false) (ho : y.1.cls = own) (hs : κ.2.1 r = some (ci, N, cs)) (hc : cs.getD k 0 = 0) (hn : narrow ty (.int x) = .int x) (hft : fits ty (.int x) = true) (kk : G X y is (pc + 3) lo st nc ks κ (upM M r k x) Q) : G X y (((.putfield idx), 3) :: is) pc lo (.int x :: .ref r :: st) nc ks κ M Q := by
  intro hA l p e s m args below meth c b Z D H locs ls hC hR hS hL
  have hx := hC.2.1
  have hb := hC.2.2.1
  subst ho
  obtain ⟨q, hq, hk, hlink, hws, hnm, ⟨ty0, hty⟩, hfin, hpd, -⟩ := hf
  obtain ⟨hN, hlen, cell, q1, q2, q3, q4⟩ := cell_obj hR hs hq
  have hin : ∀ w ∈ u_ws q.1 q.2.1 q.2.2, w ∈ wsOf y := fun w h => List.mem_cons_of_mem _ (hws w h)
  have hap := va_apart (own := y.1.cls) hC.words hin ty0 hty hnm hC.wd.1 hq
  obtain ⟨hSl, hfc, kC, hkC, hkind⟩ := hC.wd.1.1 ci _ hq
  obtain ⟨cf, kf, fi, f, hi, hsl⟩ := hSl k hk
  have hlay := hC.words _ (hin _ (u_in_lay hk))
  unfold u_lay at hlay
  rw [if_neg (by rw [hfin]; decide)] at hlay
  have hst := (u_facts hfc hkC (u_lays hC.words hin hk) hi).1
  have h6 := u_store hfc hkC hkind hlay hi hpd hn hft
  refine W.putK hx hb (f := f) ⟨hC.own, hC.word hlink, ⟨_, _, _, hi⟩, hst⟩ (by rw [q2]; exact h6) q1 q3 (by rw [hsl]; exact k2_hasslot (q4 k hk)) rfl rfl hA.1 fun H1 e1 e2 e3 => ?_
  have hr := (hR.1 r _ hs).1
  refine kk hA.2 l p e s m args below meth c b Z D H1 _ ls hC (hR.put hr e2 e3 rfl rfl (fun _ _ => rfl) hs ?_ (fun r2 h2 j => upM_o M r k x h2 j)) (hS.put e2 e3 (ad_ge hr.1)) hL
  rw [hsl] at e1
  have hci : ci < 16 := Nat.lt_of_lt_of_le (List.getElem?_eq_some_iff.mp hq).1 (by decide)
  unfold cellOK
  rw [if_pos hci]
  refine ⟨q, hq, hN, hlen, t_OB.to (V := updV (fv b Z M r cs) k (.int x)) ⟨_, e1, q2, q3, t_set q4 hap hk _⟩ (fun j _ => ?_)⟩
  show updV (fv b Z M r cs) k (.int x) j = fv b Z (upM M r k x) r cs j
  by_cases hj : j = k
  · subst hj
    simp only [updV, if_pos]
    unfold fv
    rw [hc, upM_s]
  · simp only [updV, if_neg hj]
    unfold fv
    rw [upM_j M r k x hj]
theorem g_putR {X : Xs} {y : MI} {is : List (Instr × Nat)} {pc : Nat} {lo : Lo} {st : List Value} {nc ks : Nat} {κ : Kp} {M : Mem} {Q : Rs → Kp → Mem → Prop} {own : String} {idx ci k N r w : Nat} {cs : List Nat} {ty : FieldType} (hf : PL own idx ci k ty true) (ho : y.1.cls = own) (hin2 : y.1.name = "<init>") (hs : κ.2.1 r = some (ci, N, cs)) (hn : ∀ a, narrow ty (.ref a) = .ref a) (hft : ∀ a, fits ty (.ref a) = true) (kk : G X y is (pc + 3) lo st nc ks (κ.1, upS κ.2.1 r (ci, N, cs.set k (w + 2)), κ.2.2) M Q) : G X y (((.putfield idx), 3) :: is) pc lo (.ref w :: .ref r :: st) nc ks κ M Q := by
  intro hA l p e s m args below meth c b Z D H locs ls hC hR hS hL
  have hx := hC.2.1
  have hb := hC.2.2.1
  subst ho
  obtain ⟨q, hq, hk, hlink, hws, hnm, ⟨ty0, hty⟩, hfin, hpd, hdecl⟩ := hf
  obtain ⟨hN, hlen, cell, q1, q2, q3, q4⟩ := cell_obj hR hs hq
  have hin : ∀ w ∈ u_ws q.1 q.2.1 q.2.2, w ∈ wsOf y := fun w h => List.mem_cons_of_mem _ (hws w h)
  have hap := va_apart (own := y.1.cls) hC.words hin ty0 hty hnm hC.wd.1 hq
  obtain ⟨hSl, hfc, kC, hkC, hkind⟩ := hC.wd.1.1 ci _ hq
  obtain ⟨cf, kf, fi, f, hi, hsl⟩ := hSl k hk
  have hst := (u_facts hfc hkC (u_lays hC.words hin hk) hi).1
  have h6 := u_fits hfc hkC hkind (u_lays hC.words hin hk) hi hpd (hn (ad b Z w)) (hft (ad b Z w))
  have hlay := hC.words _ (hin _ (u_in_lay hk))
  unfold u_lay at hlay
  rw [if_pos hfin] at hlay
  have hcf : m.cls = cf := by
    obtain ⟨_, _, c', _, _, _, -, -, hf', -, -, -, hown2, -⟩ := Cond.laysFinal_spec hlay
    have e1 : c' = cf := by have := hi.symm.trans hf'; simp at this; exact this.1.symm
    rw [hdecl rfl] at hown2
    rw [← e1]; exact Option.some.inj (hC.own.symm.trans hown2)
  refine W.putFinK hx hb hC.own (hC.word hlink) hi hst hcf (by rw [hC.2.2.2.2.2.2.1]; exact hin2) (by rw [q2]; exact h6) q1 q3 (by rw [hsl]; exact k2_hasslot (q4 k hk)) rfl rfl hA.1 fun H1 e1 e2 e3 => ?_
  have hr := (hR.1 r _ hs).1
  refine kk hA.2 l p e s m args below meth c b Z D H1 _ ls hC (hR.put hr e2 e3 rfl rfl (fun _ h => upS_o _ _ _ h) (upS_s _ _ _) ?_ (fun _ _ _ => rfl)) (hS.put e2 e3 (ad_ge hr.1)) hL
  rw [hsl] at e1
  have hci : ci < 16 := Nat.lt_of_lt_of_le (List.getElem?_eq_some_iff.mp hq).1 (by decide)
  unfold cellOK
  rw [if_pos hci]
  refine ⟨q, hq, hN, by simp only [List.length_set]; exact hlen, t_OB.to (V := updV (fv b Z M r cs) k (.ref (ad b Z w))) ⟨_, e1, q2, q3, t_set q4 hap hk _⟩ (fun j _ => ?_)⟩
  show updV (fv b Z M r cs) k (.ref (ad b Z w)) j = fv b Z M r (cs.set k (w + 2)) j
  have hkl : k < cs.length := by rw [hlen, ← hN]; exact hk
  by_cases hj : j = k
  · subst hj
    simp only [updV, if_pos]
    unfold fv
    simp [hkl]
  · simp only [updV, if_neg hj]
    unfold fv
    simp [List.getElem?_set_ne (Ne.symm hj)]
theorem g_iaload {X : Xs} {y : MI} {is : List (Instr × Nat)} {pc : Nat} {lo : Lo} {st : List Value} {nc ks : Nat} {κ : Kp} {M : Mem} {Q : Rs → Kp → Mem → Prop} {r N j : Nat} {cs : List Nat} {i : Int32} (hs : κ.2.1 r = some (16, N, cs)) (hi : i = nI j) (hj : j < N) (hN : N < 2147483648) (kk : G X y is (pc + 1) lo (.int (M r j) :: st) nc ks κ M Q) : G X y (((.iaload), 1) :: is) pc lo (.int i :: .ref r :: st) nc ks κ M Q := by
  intro hA l p e s m args below meth c b Z D H locs ls hC hR hS hL
  have hx := hC.2.1
  have hb := hC.2.2.1
  obtain ⟨cA, h1, h2, h3⟩ := cell_arr hR hs (by decide)
  obtain ⟨hin, hcl⟩ := ix_in hi hj hN
  refine W.iald (v := .int (M r j)) hx hb h1 (h2 N _) (fun q => by cases q) (by rw [arrV_size]; exact hin) (by rw [hcl, arrV_read _ _ hj]; rfl) rfl rfl hA.1 (kk hA.2 l p e s m args below meth c b Z D H locs ls hC hR hS hL)
theorem g_caload {X : Xs} {y : MI} {is : List (Instr × Nat)} {pc : Nat} {lo : Lo} {st : List Value} {nc ks : Nat} {κ : Kp} {M : Mem} {Q : Rs → Kp → Mem → Prop} {r N j : Nat} {cs : List Nat} {i : Int32} (hs : κ.2.1 r = some (17, N, cs)) (hi : i = nI j) (hj : j < N) (hN : N < 2147483648) (kk : G X y is (pc + 1) lo (.int (M r j) :: st) nc ks κ M Q) : G X y (((.caload), 1) :: is) pc lo (.int i :: .ref r :: st) nc ks κ M Q := by
  intro hA l p e s m args below meth c b Z D H locs ls hC hR hS hL
  have hx := hC.2.1
  have hb := hC.2.2.1
  obtain ⟨cA, h1, h2, h3⟩ := cell_arr hR hs (by decide)
  obtain ⟨hin, hcl⟩ := ix_in hi hj hN
  refine W.cald (v := .int (M r j)) hx hb h1 (h2 N _) (fun q => by cases q) (by rw [arrV_size]; exact hin) (by rw [hcl, arrV_read _ _ hj]; rfl) rfl rfl hA.1 (kk hA.2 l p e s m args below meth c b Z D H locs ls hC hR hS hL)
theorem g_baload {X : Xs} {y : MI} {is : List (Instr × Nat)} {pc : Nat} {lo : Lo} {st : List Value} {nc ks : Nat} {κ : Kp} {M : Mem} {Q : Rs → Kp → Mem → Prop} {r N j : Nat} {cs : List Nat} {i : Int32} (hs : κ.2.1 r = some (18, N, cs)) (hi : i = nI j) (hj : j < N) (hN : N < 2147483648) (kk : G X y is (pc + 1) lo (.int (M r j) :: st) nc ks κ M Q) : G X y (((.baload), 1) :: is) pc lo (.int i :: .ref r :: st) nc ks κ M Q := by
  intro hA l p e s m args below meth c b Z D H locs ls hC hR hS hL
  have hx := hC.2.1
  have hb := hC.2.2.1
  obtain ⟨cA, h1, h2, h3⟩ := cell_arr hR hs (by decide)
  obtain ⟨hin, hcl⟩ := ix_in hi hj hN
  refine W.zald (v := .int (M r j)) hx hb h1 (h2 N _) (fun q => by cases q) (by rw [arrV_size]; exact hin) (by rw [hcl, arrV_read _ _ hj]; rfl) rfl rfl hA.1 (kk hA.2 l p e s m args below meth c b Z D H locs ls hC hR hS hL)
theorem g_laload {X : Xs} {y : MI} {is : List (Instr × Nat)} {pc : Nat} {lo : Lo} {st : List Value} {nc ks : Nat} {κ : Kp} {M : Mem} {Q : Rs → Kp → Mem → Prop} {r N j : Nat} {cs : List Nat} {i : Int32} (hs : κ.2.1 r = some (19, N, cs)) (hi : i = nI j) (hj : j < N) (hN : N < 2147483648) (kk : G X y is (pc + 1) lo (.long (M r j).toInt64 :: st) nc ks κ M Q) : G X y (((.laload), 1) :: is) pc lo (.int i :: .ref r :: st) nc ks κ M Q := by
  intro hA l p e s m args below meth c b Z D H locs ls hC hR hS hL
  have hx := hC.2.1
  have hb := hC.2.2.1
  obtain ⟨cA, h1, h2, h3⟩ := cell_arr hR hs (by decide)
  obtain ⟨hin, hcl⟩ := ix_in hi hj hN
  refine W.lald (v := .long (M r j).toInt64) hx hb h1 (h2 N _) (fun q => by cases q) (by rw [arrV_size]; exact hin) (by rw [hcl, arrV_read _ _ hj]; rfl) rfl rfl hA.1 (kk hA.2 l p e s m args below meth c b Z D H locs ls hC hR hS hL)
theorem g_aaload {X : Xs} {y : MI} {is : List (Instr × Nat)} {pc : Nat} {lo : Lo} {st : List Value} {nc ks : Nat} {κ : Kp} {M : Mem} {Q : Rs → Kp → Mem → Prop} {r t N j w : Nat} {cs : List Nat} {i : Int32} (hs : κ.2.1 r = some (t, N, cs)) (ht : 20 ≤ t) (hi : i = nI j) (hj : j < N) (hN : N < 2147483648) (hc : cs.getD j 0 = w + 2) (kk : G X y is (pc + 1) lo (.ref w :: st) nc ks κ M Q) : G X y (((.aaload), 1) :: is) pc lo (.int i :: .ref r :: st) nc ks κ M Q := by
  intro hA l p e s m args below meth c b Z D H locs ls hC hR hS hL
  have hx := hC.2.1
  have hb := hC.2.2.1
  obtain ⟨cA, h1, h2, h3⟩ := cell_arr hR hs (by omega)
  obtain ⟨hin, hcl⟩ := ix_in hi hj hN
  have hty : aty t = .object (clN (t - 20)) := by simp [aty, show ¬ t = 16 by omega, show ¬ t = 17 by omega, show ¬ t = 18 by omega, show ¬ t = 19 by omega]
  refine W.aald (v := .ref (ad b Z w)) (ty := aty t) hx hb h1 (h2 N _) (by rw [hty]; rfl) (fun q => by cases q) (by rw [arrV_size]; exact hin) ?_ rfl rfl hA.1 (kk hA.2 l p e s m args below meth c b Z D H locs ls hC hR hS hL)
  rw [hcl, arrV_read _ _ hj]
  unfold aev
  rw [if_neg (by omega), if_neg (by omega)]
  unfold fv
  rw [hc]
theorem g_iastore {X : Xs} {y : MI} {is : List (Instr × Nat)} {pc : Nat} {lo : Lo} {st : List Value} {nc ks : Nat} {κ : Kp} {M : Mem} {Q : Rs → Kp → Mem → Prop} {r N j : Nat} {cs : List Nat} {i x : Int32} (hs : κ.2.1 r = some (16, N, cs)) (hi : i = nI j) (hj : j < N) (hN : N < 2147483648) (kk : G X y is (pc + 1) lo st nc ks κ (upM M r j x) Q) : G X y (((.iastore), 1) :: is) pc lo (.int x :: .int i :: .ref r :: st) nc ks κ M Q := by
  intro hA l p e s m args below meth c b Z D H locs ls hC hR hS hL
  have hx := hC.2.1
  have hb := hC.2.2.1
  obtain ⟨cA, h1, h2, h3⟩ := cell_arr hR hs (by decide)
  obtain ⟨hin, hcl⟩ := ix_in hi hj hN
  have hr := (hR.1 r _ hs).1
  refine W.iast hx hb h1 (h2 N _) (fun q => by cases q) (by rw [arrV_size]; exact hin) rfl rfl hA.1 fun H1 e1 e2 e3 => ?_
  refine kk hA.2 l p e s m args below meth c b Z D H1 _ ls hC (hR.put hr e2 e3 rfl rfl (fun _ _ => rfl) hs ?_ (fun r2 h2 j2 => upM_o M r j x h2 j2)) (hS.put e2 e3 (ad_ge hr.1)) hL
  unfold cellOK
  rw [if_neg (by show ¬ (16 : Nat) < 16; decide)]
  refine ⟨cA, ?_, h2, h3⟩
  rw [e1, hcl, arrV_store]
  congr 2
  funext a
  by_cases ha : a = j
  · subst ha
    simp [updV, aev, upM_s]
  · simp only [updV, if_neg ha]
    simp only [aev, upM_j M r j x ha]
    rfl
theorem g_castore {X : Xs} {y : MI} {is : List (Instr × Nat)} {pc : Nat} {lo : Lo} {st : List Value} {nc ks : Nat} {κ : Kp} {M : Mem} {Q : Rs → Kp → Mem → Prop} {r N j : Nat} {cs : List Nat} {i x : Int32} (hs : κ.2.1 r = some (17, N, cs)) (hi : i = nI j) (hj : j < N) (hN : N < 2147483648) (hn : narrow .char (.int x) = .int x) (kk : G X y is (pc + 1) lo st nc ks κ (upM M r j x) Q) : G X y (((.castore), 1) :: is) pc lo (.int x :: .int i :: .ref r :: st) nc ks κ M Q := by
  intro hA l p e s m args below meth c b Z D H locs ls hC hR hS hL
  have hx := hC.2.1
  have hb := hC.2.2.1
  obtain ⟨cA, h1, h2, h3⟩ := cell_arr hR hs (by decide)
  obtain ⟨hin, hcl⟩ := ix_in hi hj hN
  have hr := (hR.1 r _ hs).1
  refine W.cast hx hb h1 (h2 N _) (fun q => by cases q) (by rw [arrV_size]; exact hin) rfl rfl hA.1 fun H1 e1 e2 e3 => ?_
  refine kk hA.2 l p e s m args below meth c b Z D H1 _ ls hC (hR.put hr e2 e3 rfl rfl (fun _ _ => rfl) hs ?_ (fun r2 h2 j2 => upM_o M r j x h2 j2)) (hS.put e2 e3 (ad_ge hr.1)) hL
  unfold cellOK
  rw [if_neg (by show ¬ (17 : Nat) < 16; decide)]
  refine ⟨cA, ?_, h2, h3⟩
  rw [e1, hcl, hn, arrV_store]
  congr 2
  funext a
  by_cases ha : a = j
  · subst ha
    simp [updV, aev, upM_s]
  · simp only [updV, if_neg ha]
    simp only [aev, upM_j M r j x ha]
    rfl
theorem g_bastore {X : Xs} {y : MI} {is : List (Instr × Nat)} {pc : Nat} {lo : Lo} {st : List Value} {nc ks : Nat} {κ : Kp} {M : Mem} {Q : Rs → Kp → Mem → Prop} {r N j : Nat} {cs : List Nat} {i x : Int32} (hs : κ.2.1 r = some (18, N, cs)) (hi : i = nI j) (hj : j < N) (hN : N < 2147483648) (hn : narrow .boolean (.int x) = .int x) (kk : G X y is (pc + 1) lo st nc ks κ (upM M r j x) Q) : G X y (((.bastore), 1) :: is) pc lo (.int x :: .int i :: .ref r :: st) nc ks κ M Q := by
  intro hA l p e s m args below meth c b Z D H locs ls hC hR hS hL
  have hx := hC.2.1
  have hb := hC.2.2.1
  obtain ⟨cA, h1, h2, h3⟩ := cell_arr hR hs (by decide)
  obtain ⟨hin, hcl⟩ := ix_in hi hj hN
  have hr := (hR.1 r _ hs).1
  refine W.zast hx hb h1 (h2 N _) (fun q => by cases q) (by rw [arrV_size]; exact hin) rfl rfl hA.1 fun H1 e1 e2 e3 => ?_
  refine kk hA.2 l p e s m args below meth c b Z D H1 _ ls hC (hR.put hr e2 e3 rfl rfl (fun _ _ => rfl) hs ?_ (fun r2 h2 j2 => upM_o M r j x h2 j2)) (hS.put e2 e3 (ad_ge hr.1)) hL
  unfold cellOK
  rw [if_neg (by show ¬ (18 : Nat) < 16; decide)]
  refine ⟨cA, ?_, h2, h3⟩
  rw [e1, hcl, hn, arrV_store]
  congr 2
  funext a
  by_cases ha : a = j
  · subst ha
    simp [updV, aev, upM_s]
  · simp only [updV, if_neg ha]
    simp only [aev, upM_j M r j x ha]
    rfl
theorem g_lastore {X : Xs} {y : MI} {is : List (Instr × Nat)} {pc : Nat} {lo : Lo} {st : List Value} {nc ks : Nat} {κ : Kp} {M : Mem} {Q : Rs → Kp → Mem → Prop} {r N j : Nat} {cs : List Nat} {i x : Int32} (hs : κ.2.1 r = some (19, N, cs)) (hi : i = nI j) (hj : j < N) (hN : N < 2147483648) (kk : G X y is (pc + 1) lo st nc ks κ (upM M r j x) Q) : G X y (((.lastore), 1) :: is) pc lo (.long x.toInt64 :: .int i :: .ref r :: st) nc ks κ M Q := by
  intro hA l p e s m args below meth c b Z D H locs ls hC hR hS hL
  have hx := hC.2.1
  have hb := hC.2.2.1
  obtain ⟨cA, h1, h2, h3⟩ := cell_arr hR hs (by decide)
  obtain ⟨hin, hcl⟩ := ix_in hi hj hN
  have hr := (hR.1 r _ hs).1
  refine W.last hx hb h1 (h2 N _) (fun q => by cases q) (by rw [arrV_size]; exact hin) rfl rfl hA.1 fun H1 e1 e2 e3 => ?_
  refine kk hA.2 l p e s m args below meth c b Z D H1 _ ls hC (hR.put hr e2 e3 rfl rfl (fun _ _ => rfl) hs ?_ (fun r2 h2 j2 => upM_o M r j x h2 j2)) (hS.put e2 e3 (ad_ge hr.1)) hL
  unfold cellOK
  rw [if_neg (by show ¬ (19 : Nat) < 16; decide)]
  refine ⟨cA, ?_, h2, h3⟩
  rw [e1, hcl, arrV_store]
  congr 2
  funext a
  by_cases ha : a = j
  · subst ha
    simp [updV, aev, upM_s]
  · simp only [updV, if_neg ha]
    simp only [aev, upM_j M r j x ha]
    rfl
theorem g_sload {X : Xs} {y : MI} {is : List (Instr × Nat)} {pc : Nat} {lo : Lo} {st : List Value} {nc ks : Nat} {κ : Kp} {M : Mem} {Q : Rs → Kp → Mem → Prop} {i : Int32} {j : Nat} (hi : i = nI j) (hj : j < X.1) (hN : X.1 < 2147483648) (kk : G X y is (pc + 1) lo (.int (X.2 j) :: st) nc ks κ M Q) : G X y (((.iaload), 1) :: is) pc lo (.int i :: .ref 0 :: st) nc ks κ M Q := by
  intro hA l p e s m args below meth c b Z D H locs ls hC hR hS hL
  have hx := hC.2.1
  have hb := hC.2.2.1
  obtain ⟨hin, hcl⟩ := ix_in hi hj hN
  obtain ⟨-, hXx, hbZ, hZs, -⟩ := hC.wd
  refine va_sld hx hb hXx (Nat.lt_of_lt_of_le hbZ hZs) (Nat.not_le.mpr hbZ) hS hin hA.1 ?_
  rw [hcl]
  exact kk hA.2 l p e s m args below meth c b Z D H locs ls hC hR hS hL
theorem g_slen {X : Xs} {y : MI} {is : List (Instr × Nat)} {pc : Nat} {lo : Lo} {st : List Value} {nc ks : Nat} {κ : Kp} {M : Mem} {Q : Rs → Kp → Mem → Prop}  (kk : G X y is (pc + 1) lo (.int (nI X.1) :: st) nc ks κ M Q) : G X y (((.arraylength), 1) :: is) pc lo (.ref 0 :: st) nc ks κ M Q := by
  intro hA l p e s m args below meth c b Z D H locs ls hC hR hS hL
  have hx := hC.2.1
  have hb := hC.2.2.1
  obtain ⟨-, hXx, hbZ, hZs, -⟩ := hC.wd
  exact va_slen hx hb hXx (Nat.lt_of_lt_of_le hbZ hZs) (Nat.not_le.mpr hbZ) hS hA.1 (kk hA.2 l p e s m args below meth c b Z D H locs ls hC hR hS hL)
end HEAPROWS
