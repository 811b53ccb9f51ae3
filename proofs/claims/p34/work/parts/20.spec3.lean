/-! ===== seats as sets ===== -/
theorem bt_nI {n i : Nat} (hi : i < 32) : bt (nI n) i = n.testBit i := by
  show (BitVec.ofNat 32 n).getLsbD i = _
  rw [BitVec.getLsbD_ofNat]
  simp [hi]
theorem bd12 {x : Int32} : bd 0 4095 x ↔ ∀ i, 12 ≤ i → i < 32 → bt x i = false := by
  constructor
  · rintro ⟨n, -, h2, rfl⟩ i h3 h4
    rw [bt_nI h4]
    exact Nat.testBit_lt_two_pow (Nat.lt_of_lt_of_le (show n < 2 ^ 12 by omega) (Nat.pow_le_pow_right (by omega) h3))
  · intro h
    refine ⟨x.toBitVec.toNat, Nat.zero_le _, ?_, ?_⟩
    · have : x.toBitVec.toNat < 2 ^ 12 := by
        apply Nat.lt_pow_two_of_testBit
        intro i hi
        rcases Nat.lt_or_ge i 32 with q | q
        · exact h i hi q
        · exact Nat.testBit_lt_two_pow (Nat.lt_of_lt_of_le x.toBitVec.isLt (Nat.pow_le_pow_right (by omega) q))
      omega
    · apply Int32.toBitVec_inj.mp
      show x.toBitVec = BitVec.ofNat 32 x.toBitVec.toNat
      simp
theorem or_add {x y : Int32} (h : ∀ i, i < 32 → (bt x i && bt y i) = false) : x ||| y = x + y := by
  apply Int32.toBitVec_inj.mp
  rw [Int32.toBitVec_or, Int32.toBitVec_add]
  symm
  apply BitVec.add_eq_or_of_and_eq_zero
  apply BitVec.eq_of_getLsbD_eq
  intro i hi
  rw [BitVec.getLsbD_and, BitVec.getLsbD_zero]
  exact h i hi
theorem seat_on {x : Int32} {d : Nat} (hd : d < 12) (h : bitS x (nI d) = false) : x ||| (1 : Int32) <<< (nI d &&& 31) = x + (1 : Int32) <<< (nI d &&& 31) := by
  rw [bitS_bt (by omega)] at h
  apply or_add
  intro i hi
  rw [bt1 (by omega) hi]
  by_cases e : i = d
  · subst e; rw [h]; rfl
  · simp [e]
theorem seat_bd {x : Int32} {d : Nat} (hd : d < 12) (hx : bd 0 4095 x) (h : bitS x (nI d) = false) : bd 0 4095 (x + (1 : Int32) <<< (nI d &&& 31)) := by
  rw [← seat_on hd h]
  rw [bd12] at hx ⊢
  intro i h1 h2
  rw [b_or, hx i h1 h2, bt1 (by omega) h2, decide_eq_false (by omega)]
  rfl
theorem off_bt {x : Int32} {d i : Nat} (hd : d < 12) (hi : i < 32) : bt (x &&& ((1 : Int32) <<< (nI d &&& 31) ^^^ (-1))) i = (bt x i && !decide (i = d)) := by
  rw [b_and, b_xor, bt1 (by omega) hi, b_m1 i hi]
  simp
theorem seat_off {x : Int32} {d : Nat} (hd : d < 12) (h : bitS x (nI d) = true) : x &&& ((1 : Int32) <<< (nI d &&& 31) ^^^ (-1)) = x + -((1 : Int32) <<< (nI d &&& 31)) := by
  rw [bitS_bt (by omega)] at h
  have e1 : (x &&& ((1 : Int32) <<< (nI d &&& 31) ^^^ (-1))) ||| (1 : Int32) <<< (nI d &&& 31) = (x &&& ((1 : Int32) <<< (nI d &&& 31) ^^^ (-1))) + (1 : Int32) <<< (nI d &&& 31) := by
    apply or_add
    intro i hi
    rw [off_bt hd hi, bt1 (by omega) hi]
    by_cases e : i = d <;> simp [e]
  have e2 : (x &&& ((1 : Int32) <<< (nI d &&& 31) ^^^ (-1))) ||| (1 : Int32) <<< (nI d &&& 31) = x := by
    apply b_ext
    intro i hi
    rw [b_or, off_bt hd hi, bt1 (by omega) hi]
    by_cases e : i = d
    · subst e; simp [h]
    · simp [e]
  rw [e2] at e1
  generalize hy : x &&& ((1 : Int32) <<< (nI d &&& 31) ^^^ (-1)) = y at e1 ⊢
  generalize hm : (1 : Int32) <<< (nI d &&& 31) = m at e1 ⊢
  grind
theorem off_bd {x : Int32} {d : Nat} (hd : d < 12) (hx : bd 0 4095 x) (h : bitS x (nI d) = true) : bd 0 4095 (x + -((1 : Int32) <<< (nI d &&& 31))) := by
  rw [← seat_off hd h]
  rw [bd12] at hx ⊢
  intro i h1 h2
  rw [off_bt hd h2, hx i h1 h2]
  rfl
theorem whyS_bit {s : Nat → Int32} {nc d k f : Nat} (h : whyS s nc d k f = 0) : bitS (s (39 + 9 * k + 8)) (nI d) = false := by
  unfold whyS at h
  cases hb : bitS (s (39 + 9 * k + 8)) (nI d) with
  | false => rfl
  | true => rw [hb, if_pos rfl] at h; exact absurd h (by decide)
theorem inv_en {B nf nt nc nd : Nat} {s : Nat → Int32} (h : Inv B nf nt nc nd s) {d k : Nat} (hd : d < nd) (hk : k < nc) (hb : bitS (s (39 + 9 * k + 8)) (nI d) = false) : Inv B nf nt nc nd (enS s (nI d) k) :=
  inv_se h hk (seat_bd (Nat.lt_of_lt_of_le hd h.ld) (h.cl hk).2.2.2 hb)
theorem inv_le {B nf nt nc nd : Nat} {s : Nat → Int32} (h : Inv B nf nt nc nd s) {d k : Nat} (hd : d < nd) (hk : k < nc) (hb : bitS (s (39 + 9 * k + 8)) (nI d) = true) : Inv B nf nt nc nd (leS s (nI d) k) :=
  inv_se h hk (off_bd (Nat.lt_of_lt_of_le hd h.ld) (h.cl hk).2.2.2 hb)
theorem bd_days {nc nf B t : Nat} {s : Nat → Int32} {v : Int32} (h : ∀ k, k < nc → ClOK B nf s k) : bd 0 4095 (orI nc (fun k => if s (39 + 9 * k + 3) = v then 1 <<< (s (39 + 9 * k + 4) &&& 31) else 0)) := by
  rw [bd12]
  intro i h1 h2
  rw [orI_bt]
  rw [show anyB nc (fun k => bt (if s (39 + 9 * k + 3) = v then 1 <<< (s (39 + 9 * k + 4) &&& 31) else 0) i) = anyB nc (fun k => decide (i = 100) && true) from anyB_congr fun k hk => by
    obtain ⟨n, -, n2, n3⟩ := (h k hk).2.1
    rw [n3]
    split
    · rw [bt1 (by omega) h2, decide_eq_false (by omega), decide_eq_false (by omega)]; rfl
    · rw [b_0, decide_eq_false (by omega)]; rfl]
  rw [show (fun k : Nat => decide (i = 100) && true) = fun k => false by funext k; simp; omega]
  clear h
  induction nc with
  | zero => rfl
  | succ n ih => show (anyB n _ || false) = false; rw [ih]; rfl
