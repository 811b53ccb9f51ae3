def zM (M : Mem) (r : Nat) : Mem := fun r' j => if r' = r then 0 else M r' j
theorem zM_s (M : Mem) (r j : Nat) : zM M r r j = 0 := if_pos rfl
theorem zM_o (M : Mem) (r : Nat) {r' : Nat} (h : r' ≠ r) (j : Nat) : zM M r r' j = M r' j := if_neg h
def NWK (own : String) (idx ci N : Nat) (ds : List Nat) : Prop := ∃ q : vw_C, vwCl[ci]? = some q ∧ q.2.2 = N ∧ ds.length = N ∧ Cond.classLink own idx q.1 ∈ tblG ∧ Cond.instantiable q.1 q.2.2 ∈ tblG ∧ Cond.initialized q.1 ∈ tblG ∧ (∀ w ∈ u_ws q.1 q.2.1 q.2.2, w ∈ tblG) ∧
  ∃ ty0 : Nat → FieldType, (∀ k, k < q.2.2 → parseFieldDescriptor (q.2.1 k).2.2.1 = some (ty0 k)) ∧ (∀ k, k < q.2.2 → (ds.getD k 0 = 0 ∧ defaultValue (ty0 k) = .int 0) ∨ (ds.getD k 0 = 1 ∧ defaultValue (ty0 k) = .null))
section MAKES
variable {X : Xs} {y : MI} {is : List (Instr × Nat)} {pc : Nat} {lo : Lo} {st : List Value} {nc ks : Nat} {κ : Kp} {M : Mem} {Q : Rs → Kp → Mem → Prop}
theorem Rel.push {b Z : Nat} {D : va_G} {U : State} {H H' : Heap} {sh : Sh} (hR : Rel b Z D κ M U H) (hf : κ.2.2 = true) (hz : H'.size = H.size + 1) (ho : ∀ q, q < H.size → H'[q]? = H[q]?) (hc : cellOK b Z D (zM M (κ.1 + 1)) U H' (κ.1 + 1) sh) : Rel b Z D (κ.1 + 1, upS κ.2.1 (κ.1 + 1) sh, true) (zM M (κ.1 + 1)) U H' := by
  have he := hR.2.2 hf
  refine ⟨fun r2 sh2 hs => ?_, by show Z + (κ.1 + 1) ≤ _; omega, fun _ => by show Z + (κ.1 + 1) = _; omega⟩
  by_cases h : r2 = κ.1 + 1
  · subst h
    have hs : upS κ.2.1 (κ.1 + 1) sh (κ.1 + 1) = some sh2 := hs
    rw [upS_s] at hs
    cases hs
    exact ⟨⟨by omega, Nat.le_refl _⟩, hc⟩
  · have hs : upS κ.2.1 (κ.1 + 1) sh r2 = some sh2 := hs
    rw [upS_o _ _ _ h] at hs
    obtain ⟨⟨h1, h2⟩, h3⟩ := hR.1 r2 sh2 hs
    refine ⟨⟨h1, Nat.le_succ_of_le h2⟩, h3.kept (ho _ ?_) (fun j => zM_o M _ h j)⟩
    cases r2 with
    | zero => omega
    | succ a => show Z + a < H.size; omega
theorem ad_new {b Z : Nat} {D : va_G} {U : State} {H : Heap} (hR : Rel b Z D κ M U H) (hf : κ.2.2 = true) : ad b Z (κ.1 + 1) = H.size := hR.2.2 hf
theorem g_new {own : String} {idx ci N : Nat} {ds : List Nat} (hk : NWK own idx ci N ds) (ho : y.1.cls = own) (hf : κ.2.2 = true) (h1 : nc + 1 ≤ (rmOf y).cells) (h2 : ks + N ≤ (rmOf y).slots)
    (kk : G X y is (pc + 3) lo (.ref (κ.1 + 1) :: st) (nc + 1) (ks + N) (κ.1 + 1, upS κ.2.1 (κ.1 + 1) (ci, N, ds), true) (zM M (κ.1 + 1)) Q) : G X y ((.new idx, 3) :: is) pc lo st nc ks κ M Q := by
  intro hA l p e s m args below meth c b Z D H locs ls hC hR hS hL
  subst ho
  obtain ⟨q, hq, hN, hlen, k1, k2, k3, k4, ty0, k5, k6⟩ := hk
  subst hN
  have hKn := hC.wd.1.1 ci _ hq
  refine W.newcK hC.2.1 hC.2.2.1 hC.own (hC.word k1) (hC.word k2) (hC.word k3) rfl hA.1 h1 h2 hKn.2.1 (ad_new hR hf).symm fun H1 kC hkC e1 z1 o1 => ?_
  rw [ad_new hR hf] at z1 o1
  have hci : ci < 16 := Nat.lt_of_lt_of_le (List.getElem?_eq_some_iff.mp hq).1 (by decide)
  refine kk hA.2 l p e s m args below meth c b Z D H1 locs ls hC (hR.push hf z1 o1 ?_) ⟨Nat.le_trans hS.1 (by omega), fun x g1 g2 => (o1 x (Nat.lt_of_lt_of_le g1 hS.1)).trans (hS.2.1 x g1 g2), hS.2.2⟩ hL
  unfold cellOK
  rw [if_pos hci]
  refine ⟨q, hq, rfl, hlen, (u_born ty0 hC.words (fun w h => List.mem_cons_of_mem _ (k4 w h)) hKn hkC e1 k5).to fun k hk => ?_⟩
  unfold fv
  rcases k6 k hk with ⟨g1, g2⟩ | ⟨g1, g2⟩
  · rw [g1, g2, zM_s]
  · rw [g1, g2]
theorem g_newarray {at_ : ArrayType} {tag N : Nat} {i : Int32} (hw : Cond.arrayClass (newarray.typeOf at_) ∈ tblG) (htag : 16 ≤ tag ∧ tag < 20) (hty : aty tag = newarray.typeOf at_) (hi : i = nI N) (hN : N < 1000000) (hf : κ.2.2 = true) (h1 : nc + 1 ≤ (rmOf y).cells) (h2 : ks + N ≤ (rmOf y).slots)
    (kk : G X y is (pc + 2) lo (.ref (κ.1 + 1) :: st) (nc + 1) (ks + N) (κ.1 + 1, upS κ.2.1 (κ.1 + 1) (tag, N, []), true) (zM M (κ.1 + 1)) Q) : G X y ((.newarray at_, 2) :: is) pc lo (.int i :: st) nc ks κ M Q := by
  intro hA l p e s m args below meth c b Z D H locs ls hC hR hS hL
  subst hi
  have hN2 : N < 2147483648 := Nat.lt_trans hN (by decide)
  have hb8 : componentBytes (newarray.typeOf at_) ≤ 8 := by cases at_ <;> decide
  have hbytes : N * componentBytes (newarray.typeOf at_) ≤ 536870912 := Nat.le_trans (Nat.mul_le_mul (Nat.le_of_lt hN) hb8) (by decide)
  refine va_newaK hC.2.1 hC.2.2.1 (hC.word hw) rfl hA.1 rfl (nI_pos hN2) (nI_clamp hN2) hbytes h1 h2 (ad_new hR hf).symm fun H1 cA e1 z1 o1 hAr hNm => ?_
  rw [ad_new hR hf] at z1 o1
  refine kk hA.2 l p e s m args below meth c b Z D H1 locs ls hC (hR.push hf z1 o1 ?_) ⟨Nat.le_trans hS.1 (by omega), fun x g1 g2 => (o1 x (Nat.lt_of_lt_of_le g1 hS.1)).trans (hS.2.1 x g1 g2), hS.2.2⟩ hL
  unfold cellOK
  rw [if_neg (by show ¬ tag < 16; omega)]
  refine ⟨cA, ?_, by show ArrOfT s cA (aty tag); rw [hty]; exact hAr, by show va_RA s cA (aty tag); rw [hty]; cases at_ <;> exact hNm⟩
  rw [e1]
  congr 2
  funext j
  have htg : tag = 16 ∨ tag = 17 ∨ tag = 18 ∨ tag = 19 := by omega
  have hd : defaultValue (newarray.typeOf at_) = if tag = 19 then .long 0 else .int 0 := by
    rw [← hty]
    rcases htg with rfl | rfl | rfl | rfl <;> rfl
  rw [hd]
  unfold aev
  rw [zM_s]
  rcases htg with rfl | rfl | rfl | rfl <;> rfl
def AWK (own : String) (idx ci : Nat) : Prop := Cond.classLink own idx (clN ci) ∈ tblG ∧ clN ci ∈ overW
theorem g_anewarray {own : String} {idx ci N : Nat} {i : Int32} (hk : AWK own idx ci) (ho : y.1.cls = own) (hi : i = nI N) (hN : N < 1000000) (hf : κ.2.2 = true) (h1 : nc + 1 ≤ (rmOf y).cells) (h2 : ks + N ≤ (rmOf y).slots)
    (kk : G X y is (pc + 3) lo (.ref (κ.1 + 1) :: st) (nc + 1) (ks + N) (κ.1 + 1, upS κ.2.1 (κ.1 + 1) (20 + ci, N, List.replicate N 1), true) (zM M (κ.1 + 1)) Q) : G X y ((.anewarray idx, 3) :: is) pc lo (.int i :: st) nc ks κ M Q := by
  intro hA l p e s m args below meth c b Z D H locs ls hC hR hS hL
  subst ho
  subst hi
  have hN2 : N < 2147483648 := Nat.lt_trans hN (by decide)
  obtain ⟨-, -, -, -, -, -, hnw⟩ := hC.wd
  refine W.anew hC.2.1 hC.2.2.1 hC.own (hC.word hk.1) (va_AO.use (hnw.2.1 _ hk.2)) rfl hA.1 rfl (nI_pos hN2) (by rw [nI_clamp hN2]; omega) h1 (by rw [nI_clamp hN2]; exact h2) fun cA kA comp g1 g2 g3 g4 => ?_
  rw [nI_clamp hN2]
  have he : H.size = ad b Z (κ.1 + 1) := (ad_new hR hf).symm
  have o1 : ∀ (x : Cell) (q : Nat), q < H.size → (H.push x)[q]? = H[q]? := fun x q hq => by rw [Array.getElem?_push, if_neg (Nat.ne_of_lt hq)]
  rw [he]
  refine kk hA.2 l p e s m args below meth c b Z D _ locs ls hC (hR.push hf (by simp) (o1 _) ?_) ⟨Nat.le_trans hS.1 (by simp), fun x k1 k2 => (o1 _ x (Nat.lt_of_lt_of_le k1 hS.1)).trans (hS.2.1 x k1 k2), hS.2.2⟩ hL
  have hty : aty (20 + ci) = .object (clN ci) := by simp [aty, show ¬ 20 + ci = 16 by omega, show ¬ 20 + ci = 17 by omega, show ¬ 20 + ci = 18 by omega, show ¬ 20 + ci = 19 by omega]
  unfold cellOK
  rw [if_neg (by show ¬ 20 + ci < 16; omega)]
  refine ⟨cA, ?_, ?_, ?_⟩
  · rw [← he, arrV_new]
    simp only [Array.getElem?_push_size, Option.some.injEq]
    have : ∀ j, j < N → aev b Z (zM M (κ.1 + 1)) (κ.1 + 1) (20 + ci) (List.replicate N 1) j = .null := fun j hj => by
      unfold aev
      rw [if_neg (by omega), if_neg (by omega)]
      unfold fv
      simp [hj]
    unfold arrV
    congr 1
    apply Array.ext
    · simp
    · intro j hj1 hj2
      simp at hj1
      simp [this j hj1]
  · show ArrOfT s cA (aty (20 + ci))
    rw [hty]
    exact fun n z => ⟨fun k h => (by cases h), kA, g2, comp, g3⟩
  · show va_RA s cA (aty (20 + ci))
    rw [hty]
    exact ⟨kA, comp, g2, g3, g4, g1⟩
theorem g_aastore {r v N N2 ci j : Nat} {cs ds : List Nat} {i : Int32} (hs : κ.2.1 r = some (20 + ci, N, cs)) (hv : κ.2.1 v = some (ci, N2, ds)) (hci : ci < 8) (hcl : cs.length = N) (hi : i = nI j) (hj : j < N) (hN : N < 2147483648)
    (kk : G X y is (pc + 1) lo st nc ks (κ.1, upS κ.2.1 r (20 + ci, N, cs.set j (v + 2)), κ.2.2) M Q) : G X y ((.aastore, 1) :: is) pc lo (.ref v :: .int i :: .ref r :: st) nc ks κ M Q := by
  intro hA l p e s m args below meth c b Z D H locs ls hC hR hS hL
  have hty : aty (20 + ci) = .object (clN ci) := by simp [aty, show ¬ 20 + ci = 16 by omega, show ¬ 20 + ci = 17 by omega, show ¬ 20 + ci = 18 by omega, show ¬ 20 + ci = 19 by omega]
  obtain ⟨cA, h1, h2, h3⟩ := cell_arr hR hs (by omega)
  obtain ⟨hin, hcn⟩ := ix_in hi hj hN
  have hr := (hR.1 r _ hs).1
  have h2' := h2
  have h3' := h3
  rw [hty] at h3
  obtain ⟨kA, comp, g1, g2, g3, g4⟩ := h3
  obtain ⟨q, hq⟩ : ∃ q, vwCl[ci]? = some q := by
    have : ci < vwCl.length := hci
    exact ⟨_, List.getElem?_eq_getElem this⟩
  obtain ⟨hNq, hlen, cell, q1, q2, q3, q4⟩ := cell_obj hR hv hq
  have hKn := hC.wd.1.1 ci _ hq
  have hcln : clN ci = q.1 := by unfold clN; rw [hq]
  have hcomp : comp = D.1 ci := by
    rw [hcln] at g3
    exact Option.some.inj (g3.symm.trans hKn.2.1)
  obtain ⟨-, kq, hkq, hkind⟩ := hKn.2
  refine W.aast (k := kA) (kv := kq) (kcomp := kq) (comp := comp) (t := .object (clN ci)) hC.2.1 hC.2.2.1 h1 (fun q h => by cases h) (fun h => by cases h) g1 g2 rfl (by rw [hcomp]; exact hkq) ⟨fun h => hin (Or.inl h), by rw [hcn, arrV_size]; exact hj⟩ q1 (fun z h => by rw [q3] at h; cases h) (by rw [q2]; exact hkq) (by rw [q2, hcomp]; exact va_assign hKn.2) rfl rfl hA.1 fun H1 e1 e2 e3 => ?_
  refine kk hA.2 l p e s m args below meth c b Z D H1 _ ls hC (hR.put hr e2 e3 rfl rfl (fun _ h => upS_o _ _ _ h) (upS_s _ _ _) ?_ (fun _ _ _ => rfl)) (hS.put e2 e3 (ad_ge hr.1)) hL
  unfold cellOK
  rw [if_neg (by show ¬ 20 + ci < 16; omega)]
  refine ⟨cA, ?_, h2', h3'⟩
  rw [e1, hcn, arrV_store]
  congr 2
  funext a
  show updV (aev b Z M r (20 + ci) cs) j (.ref (ad b Z v)) a = aev b Z M r (20 + ci) (cs.set j (v + 2)) a
  have hjl : j < cs.length := by rw [hcl]; exact hj
  unfold aev
  by_cases ha : a = j
  · subst ha
    simp only [updV, if_pos]
    rw [if_neg (by omega), if_neg (by omega)]
    unfold fv
    simp [hjl]
  · simp only [updV, if_neg ha]
    rw [if_neg (by omega), if_neg (by omega), if_neg (by omega), if_neg (by omega)]
    unfold fv
    simp [List.getElem?_set_ne (Ne.symm ha)]
end MAKES
