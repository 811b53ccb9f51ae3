/-! ===== the pure side: what blocks keep, what cells stand for them ===== -/
theorem t_ring (a b c : Int32) : a - c + (b - a) = b - c := by grind
theorem t_ring2 (p l : Int32) : 10 * (p + 1) - (l + 10) = 10 * p - l := by grind
theorem sumI_congr {f g : Nat → Int32} : ∀ {n : Nat}, (∀ k, k < n → f k = g k) → sumI n f = sumI n g
  | 0, _ => rfl
  | n + 1, h => by
    show sumI n f + f n = sumI n g + g n
    rw [sumI_congr (fun k hk => h k (Nat.lt_succ_of_lt hk)), h n (Nat.lt_succ_self n)]
theorem orI_congr {f g : Nat → Int32} : ∀ {n : Nat}, (∀ k, k < n → f k = g k) → orI n f = orI n g
  | 0, _ => rfl
  | n + 1, h => by
    show orI n f ||| f n = orI n g ||| g n
    rw [orI_congr (fun k hk => h k (Nat.lt_succ_of_lt hk)), h n (Nat.lt_succ_self n)]
theorem anyB_congr {f g : Nat → Bool} : ∀ {n : Nat}, (∀ k, k < n → f k = g k) → anyB n f = anyB n g
  | 0, _ => rfl
  | n + 1, h => by
    show (anyB n f || f n) = (anyB n g || g n)
    rw [anyB_congr (fun k hk => h k (Nat.lt_succ_of_lt hk)), h n (Nat.lt_succ_self n)]
theorem sumI_one {f g : Nat → Int32} {i : Nat} : ∀ {n : Nat}, i < n → (∀ k, k < n → k ≠ i → f k = g k) → sumI n f = sumI n g + (f i - g i)
  | 0, hi, _ => absurd hi (Nat.not_lt_zero i)
  | n + 1, hi, h => by
    show sumI n f + f n = sumI n g + g n + (f i - g i)
    rcases Nat.lt_succ_iff_lt_or_eq.mp hi with q | q
    · rw [sumI_one q (fun k hk => h k (Nat.lt_succ_of_lt hk)), h n (Nat.lt_succ_self n) (by omega)]
      grind
    · subst q
      rw [sumI_congr (fun k hk => h k (Nat.lt_succ_of_lt hk) (by omega))]
      grind
def bd (lo hi : Nat) (x : Int32) : Prop := ∃ n : Nat, lo ≤ n ∧ n ≤ hi ∧ x = nI n
def bt (x : Int32) (i : Nat) : Bool := x.toBitVec.getLsbD i
theorem b_ext {x y : Int32} (h : ∀ i, i < 32 → bt x i = bt y i) : x = y := Int32.toBitVec_inj.mp (BitVec.eq_of_getLsbD_eq (fun i hi => h i hi))
theorem b_or (x y : Int32) (i : Nat) : bt (x ||| y) i = (bt x i || bt y i) := by unfold bt; rw [Int32.toBitVec_or, BitVec.getLsbD_or]
theorem b_and (x y : Int32) (i : Nat) : bt (x &&& y) i = (bt x i && bt y i) := by unfold bt; rw [Int32.toBitVec_and, BitVec.getLsbD_and]
theorem b_xor (x y : Int32) (i : Nat) : bt (x ^^^ y) i = (bt x i ^^ bt y i) := by unfold bt; rw [Int32.toBitVec_xor, BitVec.getLsbD_xor]
theorem b_m1 : ∀ i, i < 32 → bt (-1) i = true := by decide +kernel
theorem b_0 (i : Nat) : bt 0 i = false := BitVec.getLsbD_zero
theorem s_l : ∀ n, n < 32 → ((nI n &&& 31).toBitVec.smod 32).toNat = n := by decide +kernel
theorem b_shl (n : Nat) (hn : n < 32) (x : Int32) {i : Nat} (hi : i < 32) : bt (x <<< (nI n &&& 31)) i = (decide (n ≤ i) && bt x (i - n)) := by
  unfold bt
  rw [Int32.toBitVec_shiftLeft]
  show (x.toBitVec <<< ((nI n &&& 31).toBitVec.smod 32).toNat).getLsbD i = _
  rw [s_l n hn, BitVec.getLsbD_shiftLeft]
  rcases Nat.lt_or_ge i n with h | h
  · simp [h, Nat.not_le.mpr h]
  · simp [hi, h, Nat.not_lt.mpr h]
theorem b_sshr (n : Nat) (hn : n < 32) (x : Int32) {i : Nat} (hi : i < 32) : bt (x >>> (nI n &&& 31)) i = if n + i < 32 then bt x (n + i) else bt x 31 := by
  unfold bt
  rw [Int32.toBitVec_shiftRight]
  show (x.toBitVec.sshiftRight ((nI n &&& 31).toBitVec.smod 32).toNat).getLsbD i = _
  rw [s_l n hn, BitVec.getLsbD_sshiftRight, BitVec.msb_eq_getLsbD_last]
  simp [hi]
theorem b_1 : ∀ i, i < 32 → bt 1 i = decide (i = 0) := by decide +kernel
theorem and1_bt (z : Int32) : z &&& 1 = if bt z 0 then 1 else 0 := by
  apply b_ext
  intro i hi
  rw [b_and, b_1 i hi]
  by_cases h : i = 0
  · subst h
    cases hz : bt z 0
    · simp [b_0]
    · simp [b_1]
  · cases hz : bt z 0
    · simp [h, b_0]
    · simp [h, b_1 i hi]
theorem bitS_bt {x : Int32} {d : Nat} (hd : d < 32) : bitS x (nI d) = bt x d := by
  unfold bitS
  rw [and1_bt, b_sshr d hd x (by omega), if_pos (show d + 0 < 32 by omega), Nat.add_zero]
  cases bt x d <;> decide
theorem bt1 {d i : Nat} (hd : d < 32) (hi : i < 32) : bt (1 <<< (nI d &&& 31)) i = decide (i = d) := by
  rw [b_shl d hd 1 hi]
  by_cases h : i = d
  · subst h
    simp [b_1]
  · rcases Nat.lt_or_ge i d with q | q
    · simp [h, Nat.not_le.mpr q]
    · rw [b_1 _ (by omega)]
      simp [h, q]
      omega
theorem bitsN_sum {s : Int32} : ∀ {n : Nat}, n ≤ 32 → bitsN n s = sumI n (fun d => if bt s d then 1 else 0)
  | 0, _ => rfl
  | n + 1, h => by
    show bitsN n s + (s >>> (nI n &&& 31) &&& 1) = sumI n _ + _
    rw [bitsN_sum (by omega), and1_bt, b_sshr n (by omega) s (by omega), if_pos (show n + 0 < 32 by omega), Nat.add_zero]
theorem orI_bt {f : Nat → Int32} {i : Nat} : ∀ {n : Nat}, bt (orI n f) i = anyB n (fun k => bt (f k) i)
  | 0 => b_0 i
  | n + 1 => by
    show bt (orI n f ||| f n) i = (anyB n _ || _)
    rw [b_or, orI_bt]
theorem anyB_at {c : Nat → Bool} {i : Nat} : ∀ {n : Nat}, anyB n (fun k => decide (i = k) && c k) = (decide (i < n) && c i)
  | 0 => by simp [anyB]
  | n + 1 => by
    show (anyB n (fun k => decide (i = k) && c k) || (decide (i = n) && c n)) = _
    rw [anyB_at]
    by_cases h : i = n
    · subst h; simp
    · by_cases h2 : i < n
      · simp [h, h2, Nat.lt_succ_of_lt h2]
      · simp [h, h2, show ¬ i < n + 1 by omega]
def comB (s : Nat → Int32) (k d : Nat) : Bool := bitS (s (39 + 9 * k + 8)) (nI d) && decide (0 < s (129 + 5 * d + 2))
theorem comI_bt {s : Nat → Int32} {k n i : Nat} (hn : n ≤ 12) (hi : i < 32) : bt (comI s k n) i = (decide (i < n) && comB s k i) := by
  unfold comI
  rw [orI_bt, ← anyB_at]
  apply anyB_congr
  intro d hd
  show bt (if comB s k d = true then _ else _) i = _
  cases h : comB s k d
  · simp [b_0]
  · rw [if_pos rfl, bt1 (by omega) hi]; simp
theorem sumI_zero {f : Nat → Int32} : ∀ {n : Nat}, (∀ k, k < n → f k = 0) → sumI n f = 0
  | 0, _ => rfl
  | n + 1, h => by
    show sumI n f + f n = 0
    rw [sumI_zero (fun k hk => h k (Nat.lt_succ_of_lt hk)), h n (Nat.lt_succ_self n)]
    rfl
theorem sumI_add {f : Nat → Int32} (a : Nat) : ∀ (b : Nat), sumI (a + b) f = sumI a f + sumI b (fun k => f (a + k))
  | 0 => by show sumI a f = sumI a f + 0; grind
  | b + 1 => by
    show sumI (a + b) f + f (a + b) = sumI a f + (sumI b _ + f (a + b))
    rw [sumI_add a b]
    grind
theorem bits_com {s : Nat → Int32} {k n : Nat} (hn : n ≤ 12) : bitsI (comI s k n) = sumI n (fun d => if comB s k d = true then 1 else 0) := by
  unfold bitsI
  rw [bitsN_sum (by omega)]
  have e : 12 = n + (12 - n) := by omega
  rw [e, sumI_add]
  have h1 : sumI n (fun d => if bt (comI s k n) d = true then (1 : Int32) else 0) = sumI n (fun d => if comB s k d = true then 1 else 0) := by
    apply sumI_congr
    intro d hd
    rw [comI_bt hn (by omega)]
    simp [hd]
  have h2 : sumI (12 - n) (fun d => if bt (comI s k n) (n + d) = true then (1 : Int32) else 0) = 0 := by
    apply sumI_zero
    intro d hd
    rw [comI_bt hn (by omega), decide_eq_false (show ¬ n + d < n by omega)]
    rfl
  rw [h1, h2]
  grind
/-! ===== blocks and cells ===== -/
def FlOK (s : Nat → Int32) (f : Nat) : Prop := bd 0 4 (s (13 + 4 * f + 1)) ∧ bd 0 60 (s (13 + 4 * f + 2)) ∧ bd 1 30 (s (13 + 4 * f + 3))
def ClOK (B nf : Nat) (s : Nat → Int32) (k : Nat) : Prop := (∃ f, f < nf ∧ s (39 + 9 * k + 2) = nI f) ∧ bd 0 5 (s (39 + 9 * k + 4)) ∧ bd 0 B (s (39 + 9 * k + 6)) ∧ bd 0 4095 (s (39 + 9 * k + 8))
def DaOK (s : Nat → Int32) (d : Nat) : Prop := bd 0 99 (s (129 + 5 * d + 2)) ∧ s (129 + 5 * d + 3) = 10 * s (129 + 5 * d + 4) - s (129 + 5 * d + 2)
def SmOK (nc nd : Nat) (s : Nat → Int32) : Prop := s 5 = sumI nd (fun d => s (129 + 5 * d + 4)) ∧ s 6 = sumI nd (fun d => s (129 + 5 * d + 3)) ∧ s 6 = s 10 + sumI nc (fun k => s (39 + 9 * k + 7))
def Inv (B nf nt nc nd : Nat) (s : Nat → Int32) : Prop := ((s 0 = nI nf ∧ nf ≤ 4) ∧ (s 1 = nI nt ∧ nt ≤ 5) ∧ (s 2 = nI nc ∧ nc ≤ 10) ∧ (s 3 = nI nd ∧ nd ≤ 12)) ∧ bd 1 9 (s 11) ∧
  (∀ f, f < nf → FlOK s f) ∧ (∀ k, k < nc → ClOK B nf s k) ∧ (∀ d, d < nd → DaOK s d) ∧ SmOK nc nd s
def RepS (M : Mem) (o nf nt nc nd : Nat) (s : Nat → Int32) : Prop :=
  (M o 5 = s 0 ∧ M o 6 = s 1 ∧ M o 7 = s 2 ∧ M o 8 = s 3 ∧ M o 9 = s 4 ∧ M o 10 = s 7 ∧ M o 11 = s 8 ∧ M o 13 = s 10 ∧ M (o + 36) 0 = s 11 ∧ M (o + 36) 1 = s 12) ∧
  (∀ f, f < nf → M (o + 2 + f) 0 = s (13 + 4 * f) ∧ M (o + 2 + f) 1 = s (13 + 4 * f + 1) ∧ M (o + 2 + f) 2 = s (13 + 4 * f + 2) ∧ M (o + 2 + f) 3 = s (13 + 4 * f + 3)) ∧
  (∀ t, t < nt → M (o + 7 + t) 0 = s (29 + 2 * t) ∧ M (o + 7 + t) 1 = s (29 + 2 * t + 1)) ∧
  (∀ k, k < nc → M (o + 13 + k) 0 = s (39 + 9 * k + 0) ∧ M (o + 13 + k) 1 = s (39 + 9 * k + 1) ∧ M (o + 13 + k) 2 = s (39 + 9 * k + 2) ∧ M (o + 13 + k) 3 = s (39 + 9 * k + 3) ∧ M (o + 13 + k) 4 = s (39 + 9 * k + 4) ∧ M (o + 13 + k) 5 = s (39 + 9 * k + 5) ∧ M (o + 13 + k) 6 = s (39 + 9 * k + 8) ∧ M (o + 13 + k) 7 = s (39 + 9 * k + 6) ∧ M (o + 13 + k) 8 = s (39 + 9 * k + 7)) ∧
  (∀ d, d < nd → M (o + 24 + d) 0 = s (129 + 5 * d) ∧ M (o + 24 + d) 1 = s (129 + 5 * d + 1) ∧ M (o + 24 + d) 2 = s (129 + 5 * d + 2) ∧ M (o + 24 + d) 3 = s (129 + 5 * d + 4))
def FrS (M M' : Mem) (o : Nat) : Prop := (∀ r, r < o ∨ o + 37 ≤ r → M' r = M r) ∧ M' o 12 = M o 12
theorem FrS.rf (M : Mem) (o : Nat) : FrS M M o := ⟨fun _ _ => rfl, rfl⟩
theorem FrS.tr {M M' M'' : Mem} {o : Nat} (h : FrS M M' o) (h2 : FrS M' M'' o) : FrS M M'' o := ⟨fun r hr => (h2.1 r hr).trans (h.1 r hr), h2.2.trans h.2⟩
section INV
variable {B nf nt nc nd : Nat} {s : Nat → Int32}
theorem Inv.f (h : Inv B nf nt nc nd s) : s 0 = nI nf := h.1.1.1
theorem Inv.lf (h : Inv B nf nt nc nd s) : nf ≤ 4 := h.1.1.2
theorem Inv.t (h : Inv B nf nt nc nd s) : s 1 = nI nt := h.1.2.1.1
theorem Inv.lt (h : Inv B nf nt nc nd s) : nt ≤ 5 := h.1.2.1.2
theorem Inv.c (h : Inv B nf nt nc nd s) : s 2 = nI nc := h.1.2.2.1.1
theorem Inv.lc (h : Inv B nf nt nc nd s) : nc ≤ 10 := h.1.2.2.1.2
theorem Inv.d (h : Inv B nf nt nc nd s) : s 3 = nI nd := h.1.2.2.2.1
theorem Inv.ld (h : Inv B nf nt nc nd s) : nd ≤ 12 := h.1.2.2.2.2
theorem Inv.s11 (h : Inv B nf nt nc nd s) : bd 1 9 (s 11) := h.2.1
theorem Inv.fl (h : Inv B nf nt nc nd s) {f : Nat} (hf : f < nf) : FlOK s f := h.2.2.1 f hf
theorem Inv.cl (h : Inv B nf nt nc nd s) {k : Nat} (hk : k < nc) : ClOK B nf s k := h.2.2.2.1 k hk
theorem Inv.da (h : Inv B nf nt nc nd s) {d : Nat} (hd : d < nd) : DaOK s d := h.2.2.2.2.1 d hd
theorem Inv.sm (h : Inv B nf nt nc nd s) : SmOK nc nd s := h.2.2.2.2.2
theorem RepS.c5 {M : Mem} {o : Nat} (h : RepS M o nf nt nc nd s) (hI : Inv B nf nt nc nd s) : M o 5 = nI nf := h.1.1.trans hI.f
theorem RepS.c6 {M : Mem} {o : Nat} (h : RepS M o nf nt nc nd s) (hI : Inv B nf nt nc nd s) : M o 6 = nI nt := h.1.2.1.trans hI.t
theorem RepS.c7 {M : Mem} {o : Nat} (h : RepS M o nf nt nc nd s) (hI : Inv B nf nt nc nd s) : M o 7 = nI nc := h.1.2.2.1.trans hI.c
theorem RepS.c8 {M : Mem} {o : Nat} (h : RepS M o nf nt nc nd s) (hI : Inv B nf nt nc nd s) : M o 8 = nI nd := h.1.2.2.2.1.trans hI.d
theorem RepS.r9 {M : Mem} {o : Nat} {x : Int32} (h : RepS M o nf nt nc nd s) : RepS M o nf nt nc nd (upd s 9 x) := by
  obtain ⟨⟨a1, a2, a3, a4, a5, a6, a7, a8, a9, a10⟩, hf, ht, hk, hd⟩ := h
  refine ⟨⟨a1, a2, a3, a4, a5, a6, a7, a8, a9, a10⟩, fun f hf' => ?_, fun t ht' => ?_, fun k hk' => ?_, fun d hd' => ?_⟩
  · simp (disch := omega) only [upd_ne]; exact hf f hf'
  · simp (disch := omega) only [upd_ne]; exact ht t ht'
  · simp (disch := omega) only [upd_ne]; exact hk k hk'
  · simp (disch := omega) only [upd_ne]; exact hd d hd'
theorem RepS.cg {M : Mem} {o : Nat} {s' : Nat → Int32} (h : RepS M o nf nt nc nd s) (hnf : nf ≤ 4) (hnt : nt ≤ 5) (hnc : nc ≤ 10) (hnd : nd ≤ 12) (e : ∀ j, j < 189 → j ≠ 9 → s' j = s j) : RepS M o nf nt nc nd s' := by
  obtain ⟨⟨a1, a2, a3, a4, a5, a6, a7, a8, a9, a10⟩, hf, ht, hk, hd⟩ := h
  refine ⟨?_, fun f hf' => ?_, fun t ht' => ?_, fun k hk' => ?_, fun d hd' => ?_⟩
  · simp (disch := omega) only [e]; exact ⟨a1, a2, a3, a4, a5, a6, a7, a8, a9, a10⟩
  · simp (disch := omega) only [e]; exact hf f hf'
  · simp (disch := omega) only [e]; exact ht t ht'
  · simp (disch := omega) only [e]; exact hk k hk'
  · simp (disch := omega) only [e]; exact hd d hd'
theorem RepS.fr {M M' : Mem} {o : Nat} (h : RepS M o nf nt nc nd s) (hnf : nf ≤ 4) (hnt : nt ≤ 5) (hnc : nc ≤ 10) (hnd : nd ≤ 12) (e : ∀ r, o ≤ r → r < o + 37 → M' r = M r) : RepS M' o nf nt nc nd s := by
  obtain ⟨⟨a1, a2, a3, a4, a5, a6, a7, a8, a9, a10⟩, hf, ht, hk, hd⟩ := h
  refine ⟨?_, fun f hf' => ?_, fun t ht' => ?_, fun k hk' => ?_, fun d hd' => ?_⟩
  · rw [e o (by omega) (by omega), e (o + 36) (by omega) (by omega)]; exact ⟨a1, a2, a3, a4, a5, a6, a7, a8, a9, a10⟩
  · rw [e _ (by omega) (by omega)]; exact hf f hf'
  · rw [e _ (by omega) (by omega)]; exact ht t ht'
  · rw [e _ (by omega) (by omega)]; exact hk k hk'
  · rw [e _ (by omega) (by omega)]; exact hd d hd'
theorem Inv.r9 {x : Int32} (h : Inv B nf nt nc nd s) : Inv B nf nt nc nd (upd s 9 x) := by
  obtain ⟨h1, h2, hf, hk, hd, hs⟩ := h
  refine ⟨h1, h2, fun f hf' => ?_, fun k hk' => ?_, fun d hd' => ?_, ?_⟩
  · unfold FlOK; simp (disch := omega) only [upd_ne]; exact hf f hf'
  · unfold ClOK; simp (disch := omega) only [upd_ne]; exact hk k hk'
  · unfold DaOK; simp (disch := omega) only [upd_ne]; exact hd d hd'
  · unfold SmOK; simp (disch := omega) only [upd_ne]; exact hs
theorem Inv.cg {s' : Nat → Int32} (h : Inv B nf nt nc nd s) (e : ∀ j, j < 189 → s' j = s j) : Inv B nf nt nc nd s' := by
  obtain ⟨⟨b1, b2, b3, b4⟩, h2, hf, hk, hd, hs⟩ := h
  refine ⟨?_, ?_, fun f hf' => ?_, fun k hk' => ?_, fun d hd' => ?_, ?_⟩
  · simp (disch := omega) only [e]; exact ⟨b1, b2, b3, b4⟩
  · simp (disch := omega) only [e]; exact h2
  · unfold FlOK; simp (disch := omega) only [e]; exact hf f hf'
  · unfold ClOK; simp (disch := omega) only [e]; exact hk k hk'
  · unfold DaOK; simp (disch := omega) only [e]; exact hd d hd'
  · obtain ⟨c1, c2, c3⟩ := hs
    have hnd := b4.2
    have hnc := b3.2
    refine ⟨?_, ?_, ?_⟩
    · rw [e 5 (by omega), c1]; exact sumI_congr fun d hd => (e _ (by omega)).symm
    · rw [e 6 (by omega), c2]; exact sumI_congr fun d hd => (e _ (by omega)).symm
    · rw [e 6 (by omega), c3, e 10 (by omega)]; exact congrArg _ (sumI_congr fun d hd => (e _ (by omega)).symm)
theorem bd_le {x : Int32} {a b b' : Nat} (h : bd a b x) (hb : b ≤ b') : bd a b' x := by
  obtain ⟨n, h1, h2, h3⟩ := h
  exact ⟨n, h1, Nat.le_trans h2 hb, h3⟩
theorem Inv.up {B' : Nat} (h : Inv B nf nt nc nd s) (hB : B ≤ B') : Inv B' nf nt nc nd s :=
  ⟨h.1, h.2.1, h.2.2.1, fun k hk => ⟨(h.cl hk).1, (h.cl hk).2.1, bd_le (h.cl hk).2.2.1 hB, (h.cl hk).2.2.2⟩, h.2.2.2.2⟩
theorem bc_bits : ∀ n, n < 4096 → bcI (nI n) = bitsI (nI n) := by
  have h : ∀ a, a < 64 → ∀ b, b < 64 → bcI (nI (64 * a + b)) = bitsI (nI (64 * a + b)) := by decide +kernel
  intro n hn
  have := h (n / 64) (by omega) (n % 64) (by omega)
  rwa [show 64 * (n / 64) + n % 64 = n by omega] at this
theorem bc_bd {x : Int32} (h : bd 0 4095 x) : bcI x = bitsI x := by
  obtain ⟨n, -, h2, rfl⟩ := h
  exact bc_bits n (by omega)
end INV
