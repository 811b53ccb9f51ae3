/-- what a load leaves alone in the class -/
def FrL (M M' : Mem) (x : Nat) : Prop := (∀ r, r ≠ x + 1 → r ≠ x + 1 + 2 → (r < x + 4 ∨ x + 4 + 37 ≤ r) → M' r = M r) ∧ M' (x + 1) 2 = M (x + 1) 2 ∧ M' (x + 4) 12 = M (x + 4) 12
theorem FrL.rf (M : Mem) (x : Nat) : FrL M M x := ⟨fun _ _ _ _ => rfl, rfl, rfl⟩
theorem FrL.tr {M M' M'' : Mem} {x : Nat} (h : FrL M M' x) (h2 : FrL M' M'' x) : FrL M M'' x := ⟨fun r a b c => (h2.1 r a b c).trans (h.1 r a b c), h2.2.1.trans h.2.1, h2.2.2.trans h.2.2⟩
theorem FrC.l {M M' : Mem} {x : Nat} (h : FrC M M' (x + 1)) : FrL M M' x := ⟨fun r a b _ => h.1 r a b, h.2, by rw [h.1 (x + 4) (by omega) (by omega)]⟩
theorem FrS.l {M M' : Mem} {x : Nat} (h : FrS M M' (x + 4)) : FrL M M' x := ⟨fun r _ _ c => h.1 r c, by rw [h.1 (x + 1) (by omega)], h.2⟩
theorem FrC.sr {B : Nat} {M M' : Mem} {x : Nat} {s : Nat → Int32} (h : FrC M M' (x + 1)) (hS : SR B M (x + 4) s) : SR B M' (x + 4) s := hS.fr fun r h1 h2 => h.1 r (by omega) (by omega)