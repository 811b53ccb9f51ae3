/-! ===== the class and the reference side by side ===== -/
def J (B : Nat) (M : Mem) (x m : Nat) : Prop :=
  ∃ (cnt len : Nat) (fb : Nat → Bool), SF B M (x + 4) (M (m + 1)) ∧ cnt ≤ 14 ∧ M m 2 = nI cnt ∧ HisOK B M (x + 78) cnt (fun i => bk (M (m + 1)) (i + 1)) ∧ (∀ k, k < 2 → M (x + 673) k = bI (fb k)) ∧ (∀ k, k < 2 → M (m + 2) k = bI (fb k)) ∧ (∀ k, k < 2 → fb k = true → SF B M (x + 599 + 37 * k) (bk (M (m + 1)) (15 + k))) ∧ M (x + 1) 2 = nI len ∧ M m 5 = nI len ∧ TxOK (M (m + 3)) len ∧ M (x + 1 + 1) = M (m + 3)
theorem J_keep {B B' : Nat} {M M2 : Mem} {x m : Nat} (hJ : J B M x m) (hB : B ≤ B') (h1 : ∀ r, (x + 4 ≤ r ∧ r < x + 41) ∨ (x + 78 ≤ r ∧ r ≤ x + 673) → M2 r = M r) (h2 : M2 (x + 1) 2 = M (x + 1) 2) (h3 : M2 (x + 1 + 1) = M (x + 1 + 1)) (h4 : ∀ j, j < 3213 → M2 (m + 1) j = M (m + 1) j) (h5 : M2 m 2 = M m 2) (h6 : M2 m 5 = M m 5) (h7 : M2 (m + 2) = M (m + 2)) (h8 : M2 (m + 3) = M (m + 3)) : J B' M2 x m := by
  obtain ⟨cnt, len, fb, a1, a2, a3, a4, a5, a6, a7, a8, a9, a10, a11⟩ := hJ
  refine ⟨cnt, len, fb, ?_, a2, h5.trans a3, ?_, fun k hk => ?_, fun k hk => ?_, fun k hk hb => ?_, h2.trans a8, h6.trans a9, by rw [h8]; exact a10, by rw [h3, h8]; exact a11⟩
  · exact ((a1.fr fun r p q => h1 r (by omega)).cg fun j hj => h4 j (by omega)).up hB
  · exact ((a4.fr fun r p q => h1 r (by omega)).cg fun i j hi hj => h4 _ (by omega)).up hB
  · rw [h1 (x + 673) (by omega)]; exact a5 k hk
  · rw [h7]; exact a6 k hk
  · exact (((a7 k hk hb).fr fun r p q => h1 r (by omega)).cg fun j hj => h4 _ (by omega)).up hB
/-- an action of both: blocks remembered, one block changed -/
theorem J_act {B B' : Nat} {M M1 M1' M2 : Mem} {x m out cnt : Nat} {f : Nat → Int32} (hJ : J B M x m) (hd : x + 674 ≤ m) (ho : m + 5 ≤ out) (hB : B ≤ B') (hc : M m 2 = nI cnt) (hc2 : cnt ≤ 14) (g1 : SF B' M1 (x + 4) f) (g2 : HisOK B' M1 (x + 78) (remC cnt) (remB cnt (rmS cnt (M (m + 1))) (fun i => bk (M (m + 1)) (i + 1)))) (g3 : FrA M M1 x) (hM1 : ∀ r, r ≠ out → M1' r = M1 r) (g4 : AM M1' M2 m cnt f) (hf : ∀ j, 189 ≤ j → f j = rmS cnt (M (m + 1)) j) : J B' M2 x m := by
  obtain ⟨cnt', len, fb, a1, a2, a3, a4, a5, a6, a7, a8, a9, a10, a11⟩ := hJ
  obtain ⟨b1, b2, b3, b4, b5⟩ := g4
  have E : ∀ r, r < x + 674 → M2 r = M1 r := fun r h => (b4 r (by omega) (by omega)).trans (hM1 r (by omega))
  have rc : remC cnt ≤ 14 := by unfold remC; split <;> omega
  refine ⟨remC cnt, len, fb, ?_, rc, b3, ?_, fun k hk => ?_, fun k hk => ?_, fun k hk hb => ?_, ?_, ?_, ?_, ?_⟩
  · rw [b1]; exact g1.fr fun r p q => E r (by omega)
  · rw [b1]
    refine (g2.fr fun r p q => E r (by omega)).cg fun i j hi hj => ?_
    have e1 : bk f (i + 1) j = bk (rmS cnt (M (m + 1))) (i + 1) j := hf _ (by omega)
    rw [e1, rm_blk hc2 hi hj]
    unfold remB
    split
    · split
      · exact (rm_low hj).symm
      · rfl
    · split
      · exact (rm_low hj).symm
      · rfl
  · rw [E _ (by omega), g3 (x + 673) (by omega) (by omega)]; exact a5 k hk
  · rw [b4 (m + 2) (by omega) (by omega), hM1 (m + 2) (by omega), g3 (m + 2) (by omega) (by omega)]; exact a6 k hk
  · rw [b1]
    refine ((a7 k hk hb).fr fun r p q => ?_).cg (fun j hj => ?_) |>.up hB
    · rw [E r (by omega)]; exact g3 r (by omega) (by omega)
    · have e1 : bk f (15 + k) j = rmS cnt (M (m + 1)) (189 * (15 + k) + j) := hf _ (by omega)
      rw [e1, rm_high hc2 (by omega) hj]; rfl
  · rw [E _ (by omega), g3 (x + 1) (by omega) (by omega)]; exact a8
  · rw [b5 5 (by omega) (by omega), hM1 m (by omega), g3 m (by omega) (by omega)]; exact a9
  · rw [b4 (m + 3) (by omega) (by omega), hM1 (m + 3) (by omega), g3 (m + 3) (by omega) (by omega)]; exact a10
  · rw [E _ (by omega), g3 (x + 1 + 1) (by omega) (by omega), b4 (m + 3) (by omega) (by omega), hM1 (m + 3) (by omega), g3 (m + 3) (by omega) (by omega)]; exact a11
/-- how the reference answers after the class has answered r -/
def Pst (X : Xs) (κ : Kp) (x m out B' : Nat) (z : MI) (as : List Value) (cd : List (Nat × Nat)) : Rs → Kp → Mem → Prop := fun r κ' M1 => ∃ (p : Nat) (v : Int32), ((r = .inl (some (.int v)) ∧ p = 0 ∧ κ' = κ) ∨ (∃ e, r = .inr e ∧ (e, p) ∈ cd ∧ κ' = (κ.1, κ.2.1, false))) ∧ ∀ M1', (∀ r, r ≠ out → M1' r = M1 r) → ∀ Q : Rs → Kp → Mem → Prop, (∀ M2 w, J B' M2 x m → M2 m 0 = nI p → M2 out = M1' out → (p = 0 → w = v) → Q (.inl (some (.int w))) κ' M2) → Ct X z (.ref m :: as) κ' M1' Q
theorem J_err {B B' : Nat} {M M1' : Mem} {x m out : Nat} {v : Int32} (hJ : J B M x m) (hd : x + 674 ≤ m) (ho : m + 5 ≤ out) (hB : B ≤ B') (hM1 : ∀ r, r ≠ out → M1' r = M r) : J B' (upM M1' m 0 v) x m := by
  have E : ∀ r, r ≠ m → r ≠ out → upM M1' m 0 v r = M r := fun r a b => (funext fun j => upM_o _ _ _ _ a j).trans (hM1 r b)
  have F : ∀ j, j ≠ 0 → upM M1' m 0 v m j = M m j := fun j a => (upM_j _ _ _ _ a m).trans (congrFun (hM1 m (by omega)) j)
  exact J_keep hJ hB (fun r h => E r (by omega) (by omega)) (congrFun (E _ (by omega) (by omega)) 2) (E _ (by omega) (by omega)) (fun j _ => congrFun (E _ (by omega) (by omega)) j) (F 2 (by omega)) (F 5 (by omega)) (E _ (by omega) (by omega)) (E _ (by omega) (by omega))
theorem J_look {B B' : Nat} {M M1' M2 : Mem} {x m out : Nat} (hJ : J B M x m) (hd : x + 674 ≤ m) (ho : m + 5 ≤ out) (hB : B ≤ B') (hM1 : ∀ r, r ≠ out → M1' r = M r) (hF : FrH M1' M2 m) : J B' M2 x m := by
  have E : ∀ r, r ≠ m → r ≠ out → M2 r = M r := fun r a b => (hF.2.1 r a).trans (hM1 r b)
  have F : ∀ j, j ≠ 0 → M2 m j = M m j := fun j a => (hF.2.2 j a).trans (congrFun (hM1 m (by omega)) j)
  exact J_keep hJ hB (fun r h => E r (by omega) (by omega)) (congrFun (E _ (by omega) (by omega)) 2) (E _ (by omega) (by omega)) (fun j _ => congrFun (E _ (by omega) (by omega)) j) (F 2 (by omega)) (F 5 (by omega)) (E _ (by omega) (by omega)) (E _ (by omega) (by omega))
theorem J_ahead {B B' : Nat} {M M1 M1' M2 : Mem} {x m out : Nat} {s : Nat → Int32} (hJ : J B M x m) (hd : x + 674 ≤ m) (ho : m + 5 ≤ out) (hB : B ≤ B') (h1 : ∀ r, r < x + 41 ∨ x + 78 ≤ r → M1 r = M r) (hM1 : ∀ r, r ≠ out → M1' r = M1 r) (hs : M (m + 1) = s) (hF : AT M1' M2 m s) : J B' M2 x m := by
  have E : ∀ r, r < x + 41 ∨ x + 78 ≤ r → r ≠ m → r ≠ m + 1 → r ≠ out → M2 r = M r := fun r h a b c => (hF.2.2.1 r a b).trans ((hM1 r c).trans (h1 r h))
  have F : ∀ j, j ≠ 0 → M2 m j = M m j := fun j a => (hF.2.2.2 j a).trans (congrFun ((hM1 m (by omega)).trans (h1 m (by omega))) j)
  refine J_keep hJ hB (fun r h => E r (by omega) (by omega) (by omega) (by omega)) (congrFun (E _ (by omega) (by omega) (by omega) (by omega)) 2) (E _ (by omega) (by omega) (by omega) (by omega)) (fun j hj => ?_) (F 2 (by omega)) (F 5 (by omega)) (E _ (by omega) (by omega) (by omega) (by omega)) (E _ (by omega) (by omega) (by omega) (by omega))
  rw [hF.1 j hj, hs]
