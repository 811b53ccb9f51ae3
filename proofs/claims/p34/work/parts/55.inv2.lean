/-! ===== p34: classes set and dropped, seats taken and left ===== -/
theorem i32_sucLe {u n : Nat} (hu : u < 1000) (hn : n < 1000) : nI u < nI n → nI u + 1 ≤ nI n := by
  rw [nI_ltI (by omega) (by omega), nI_1, nI_leI (by omega) (by omega)]
  omega
theorem bits_N (x : Int32) : bitsI x = nI (sumN 12 (fun d => if bt x d = true then 1 else 0)) := by
  show bitsN 12 x = _
  rw [bitsN_sum (by omega)]
  exact sumI_N fun k hk => by split <;> rfl
theorem sumN_b {f : Nat → Bool} (n : Nat) : sumN n (fun d => if f d = true then 1 else 0) ≤ n := by
  refine Nat.le_trans (sumN_le (g := fun _ => 1) fun k hk => by split <;> omega) ?_
  rw [sumN_c]; omega
theorem bits_on {x : Int32} {d : Nat} (hd : d < 12) (h : bitS x (nI d) = false) : bitsI (x + (1 : Int32) <<< (nI d &&& 31)) = bitsI x + 1 := by
  rw [← seat_on hd h]
  rw [bitS_bt (by omega)] at h
  rw [bits_N, bits_N, nI_1]
  congr 1
  have this : sumN 12 (fun k => if bt (x ||| (1 : Int32) <<< (nI d &&& 31)) k = true then 1 else 0) + (if bt x d = true then 1 else 0) = sumN 12 (fun k => if bt x k = true then 1 else 0) + (if bt (x ||| (1 : Int32) <<< (nI d &&& 31)) d = true then 1 else 0) := sumN_one (f := fun k => if bt (x ||| (1 : Int32) <<< (nI d &&& 31)) k = true then 1 else 0) (g := fun k => if bt x k = true then 1 else 0) hd (fun k hk hne => by
    show (if _ then _ else _) = _
    rw [b_or, bt1 (by omega) (by omega), decide_eq_false hne, Bool.or_false])
  have e1 : (if bt (x ||| (1 : Int32) <<< (nI d &&& 31)) d = true then 1 else 0) = 1 := by rw [b_or, bt1 (by omega) (by omega), h]; simp
  have e2 : (if bt x d = true then 1 else 0) = 0 := by rw [h]; rfl
  rw [e1, e2] at this
  exact this
theorem bits_off {x : Int32} {d : Nat} (hd : d < 12) (h : bitS x (nI d) = true) : bitsI (x + -((1 : Int32) <<< (nI d &&& 31))) + 1 = bitsI x := by
  rw [← seat_off hd h]
  rw [bitS_bt (by omega)] at h
  rw [bits_N, bits_N, nI_1]
  congr 1
  have this : sumN 12 (fun k => if bt (x &&& ((1 : Int32) <<< (nI d &&& 31) ^^^ (-1))) k = true then 1 else 0) + (if bt x d = true then 1 else 0) = sumN 12 (fun k => if bt x k = true then 1 else 0) + (if bt (x &&& ((1 : Int32) <<< (nI d &&& 31) ^^^ (-1))) d = true then 1 else 0) := sumN_one (f := fun k => if bt (x &&& ((1 : Int32) <<< (nI d &&& 31) ^^^ (-1))) k = true then 1 else 0) (g := fun k => if bt x k = true then 1 else 0) hd (fun k hk hne => by
    show (if _ then _ else _) = _
    rw [off_bt hd (by omega), decide_eq_false hne]; simp)
  have e1 : (if bt (x &&& ((1 : Int32) <<< (nI d &&& 31) ^^^ (-1))) d = true then 1 else 0) = 0 := by rw [off_bt hd (by omega), h]; simp
  have e2 : (if bt x d = true then 1 else 0) = 1 := by rw [h]; rfl
  rw [e1, e2] at this
  exact this
theorem tk_nn {s : Nat → Int32} {f : Nat} (h : FlOK s f) (x : Int32) : ∃ n : Nat, n ≤ 30 ∧ tkI (s (13 + 4 * f + 3)) (s (13 + 4 * f + 2)) x = nI n ∧ (∀ lv, bd 1 5 lv → barOK (s (13 + 4 * f + 2)) x lv = true → 1 ≤ n) := by
  obtain ⟨-, ⟨b, -, b2, b3⟩, ⟨p, p1, p2, p3⟩⟩ := h
  unfold tkI
  rw [b3, p3, show nI b / 2 = nI (b / 2) from pk_div (d := 2) (by omega) (by omega) (by omega)]
  split
  · rename_i hx
    refine ⟨b / 2, by omega, rfl, fun lv hl hb => ?_⟩
    obtain ⟨l, l1, l2, rfl⟩ := hl
    unfold barOK at hb
    rw [decide_eq_true hx.1] at hb
    have h2 : (2 : Int32) * nI l + 4 ≤ nI b := of_decide_eq_true (by simpa using hb)
    have e : (2 : Int32) * nI l + 4 = nI (2 * l + 4) := by
      rw [show (2 : Int32) = nI 2 from rfl, nI_mul, show (4 : Int32) = nI 4 from rfl, nI_add]
    rw [e, nI_leI (by omega) (by omega)] at h2
    omega
  · exact ⟨p, p2, rfl, fun _ _ _ => p1⟩
section LKB
variable {B nf nt nc nd : Nat} {s : Nat → Int32}
theorem anyB_no {n : Nat} {P : Nat → Bool} (h : anyB n P = false) : ∀ k, k < n → P k = false := by
  induction n with
  | zero => exact fun k hk => absurd hk (by omega)
  | succ n ih =>
    intro k hk
    have h' : (anyB n P || P n) = false := h
    rw [Bool.or_eq_false_iff] at h'
    by_cases e : k = n
    · subst e; exact h'.2
    · exact ih h'.1 k (by omega)
theorem why0 {st lv dy hr : Int32} {f t : Nat} (h : whyI s nc st lv f t dy hr = 0) : (∀ k, k < nc → atC s k dy hr = true → s (39 + 9 * k + 2) ≠ nI f ∧ s (39 + 9 * k + 3) ≠ nI t) ∧
    bitS (s (29 + 2 * t)) st = true ∧ lv ≤ s (29 + 2 * t + 1) ∧ sprOK (s (13 + 4 * f)) st lv = true ∧ barOK (s (13 + 4 * f + 2)) st lv = true ∧ mirOK (s (13 + 4 * f + 1)) st lv = true := by
  unfold whyI at h
  split at h
  · exact absurd h (by decide)
  rename_i q1
  split at h
  · exact absurd h (by decide)
  rename_i q2
  split at h
  · exact absurd h (by decide)
  rename_i q3
  split at h
  · exact absurd h (by decide)
  rename_i q4
  split at h
  · exact absurd h (by decide)
  rename_i q5
  split at h
  · exact absurd h (by decide)
  rename_i q6
  have q3' := Bool.not_eq_false _ ▸ q3
  rw [Bool.and_eq_true] at q3'
  refine ⟨fun k hk ha => ?_, q3'.1, of_decide_eq_true q3'.2, by simpa using q4, by simpa using q5, by simpa using q6⟩
  have r1 := anyB_no (by simpa using q1) k hk
  have r2 := anyB_no (by simpa using q2) k hk
  simp only [ha, Bool.true_and, decide_eq_false_iff_not] at r1 r2
  exact ⟨r1, r2⟩
theorem lk_cl (hI : Inv B nf nt nc nd s) (h : LqK B nf nt nc nd s) (hn : nc < 10) {st lv dy hr : Int32} {f t : Nat} (hf0 : f < nf) (ht0 : t < nt) (hst : bd 0 3 st) (hlv : bd 1 5 lv) (hw : whyI s nc st lv f t dy hr = 0) : LqK B nf nt (nc + 1) nd (clS s nc st lv (nI f) (nI t) dy hr) := by
  have bf := hI.lf
  have bt' := hI.lt
  have bn := hI.ld
  have e : ∀ j, j ≠ 2 → (j < 39 + 9 * nc ∨ 39 + 9 * nc + 9 ≤ j) → clS s nc st lv (nI f) (nI t) dy hr j = s j := fun j h1 h2 => by
    unfold clS
    simp (disch := omega) only [upd_ne]
  have c0 : clS s nc st lv (nI f) (nI t) dy hr (39 + 9 * nc + 0) = st := by unfold clS; simp (disch := omega) only [upd_ne]; exact upd_same
  have c1 : clS s nc st lv (nI f) (nI t) dy hr (39 + 9 * nc + 1) = lv := by unfold clS; simp (disch := omega) only [upd_ne, upd_same]
  have c2 : clS s nc st lv (nI f) (nI t) dy hr (39 + 9 * nc + 2) = nI f := by unfold clS; simp (disch := omega) only [upd_ne, upd_same]
  have c3 : clS s nc st lv (nI f) (nI t) dy hr (39 + 9 * nc + 3) = nI t := by unfold clS; simp (disch := omega) only [upd_ne, upd_same]
  have c4 : clS s nc st lv (nI f) (nI t) dy hr (39 + 9 * nc + 4) = dy := by unfold clS; simp (disch := omega) only [upd_ne, upd_same]
  have c5 : clS s nc st lv (nI f) (nI t) dy hr (39 + 9 * nc + 5) = hr := by unfold clS; simp (disch := omega) only [upd_ne, upd_same]
  have c6 : clS s nc st lv (nI f) (nI t) dy hr (39 + 9 * nc + 6) = 0 := by unfold clS; simp (disch := omega) only [upd_ne, upd_same]
  have c7 : clS s nc st lv (nI f) (nI t) dy hr (39 + 9 * nc + 7) = 0 := by unfold clS; simp (disch := omega) only [upd_ne, upd_same]
  have c8 : clS s nc st lv (nI f) (nI t) dy hr (39 + 9 * nc + 8) = 0 := by unfold clS; simp (disch := omega) only [upd_ne, upd_same]
  obtain ⟨a1, a2, a3, a4, ⟨w, w1, w2, w3⟩, ⟨v, u, u1, u2, u3⟩, a7⟩ := h
  obtain ⟨y1, y2, y3, y4, y5, y6⟩ := why0 hw
  generalize clS s nc st lv (nI f) (nI t) dy hr = s' at *
  refine ⟨?_, fun k hk => ?_, fun k hk => ?_, fun k e' hk he hT => ?_, ⟨w, w1, ?_, fun k hk => ?_⟩, ⟨v, fun k => if k = nc then 0 else u k, ?_, fun k hk => ?_, ?_⟩, a7.cg fun d hd => e _ (by omega) (by omega)⟩
  · rw [e _ (by omega) (by omega)]; exact a1
  · by_cases q : k = nc
    · subst q
      refine ⟨f, t, hf0, ht0, c2, c3, ?_⟩
      rw [c0, c1, e _ (by omega) (by omega), e _ (by omega) (by omega), e _ (by omega) (by omega), e _ (by omega) (by omega), e _ (by omega) (by omega)]
      exact ⟨hst, hlv, y2, y3, y4, y5, y6⟩
    · exact (a2 k (by omega)).cg (Nat.le_refl _) (Nat.le_refl _) (fun i hi => e _ (by omega) (by omega)) (fun f i hf hi => e _ (by omega) (by omega)) (fun t i ht hi => e _ (by omega) (by omega))
  · by_cases q : k = nc
    · subst q
      refine ⟨fun i _ _ => by rw [c8]; exact b_0 i, ?_⟩
      rw [c8, tkV_f (f := f) (by omega) c2, e _ (by omega) (by omega), e _ (by omega) (by omega)]
      obtain ⟨n, n1, n2, -⟩ := tk_nn (hI.fl hf0) (s' (39 + 9 * k + 0))
      rw [n2, show bitsI 0 = nI 0 by decide]
      exact (nI_leI (by omega) (by omega)).mpr (Nat.zero_le n)
    · exact (a3 k (by omega)).cg (a2 k (by omega)) bf (Nat.le_refl _) (fun i hi => e _ (by omega) (by omega)) (e _ (by omega) (by omega)) (fun f i hf hi => e _ (by omega) (by omega))
  · unfold sameT at hT
    rw [e (39 + 9 * e' + 4) (by omega) (by omega), e (39 + 9 * e' + 5) (by omega) (by omega)] at hT
    rw [e (39 + 9 * e' + 2) (by omega) (by omega), e (39 + 9 * e' + 3) (by omega) (by omega)]
    by_cases q : k = nc
    · subst q
      rw [c4, c5] at hT
      rw [c2, c3]
      exact y1 e' he (by unfold atC; rw [decide_eq_true hT.1, decide_eq_true hT.2]; rfl)
    · rw [e (39 + 9 * k + 4) (by omega) (by omega), e (39 + 9 * k + 5) (by omega) (by omega)] at hT
      rw [e (39 + 9 * k + 2) (by omega) (by omega), e (39 + 9 * k + 3) (by omega) (by omega)]
      exact a4 k e' (by omega) he hT
  · rw [e _ (by omega) (by omega)]; exact w2
  · by_cases q : k = nc
    · subst q; exact ⟨0, by omega, c6⟩
    · rw [e _ (by omega) (by omega)]; exact w3 k (by omega)
  · rw [e _ (by omega) (by omega)]; exact u1
  · by_cases q : k = nc
    · subst q
      rw [c7]
      show (0 : Int32) = nI (if k = k then 0 else u k)
      rw [if_pos rfl]; rfl
    · rw [e _ (by omega) (by omega)]
      show _ = nI (if k = nc then 0 else u k)
      rw [if_neg q]; exact u2 k (by omega)
  · show v + (sumN nc _ + (if nc = nc then 0 else _)) ≤ _
    rw [if_pos rfl, sumN_congr (g := u) (fun k hk => if_neg (by omega))]
    exact u3
theorem lk_dr (hI : Inv B nf nt nc nd s) (h : LqK B nf nt nc nd s) {k : Nat} (hk : k < nc) : LqK B nf nt (nc - 1) nd (drS s nc k) := by
  have bf := hI.lf
  have bt' := hI.lt
  have bc := hI.lc
  have bn := hI.ld
  have e : ∀ j, j ≠ 2 → j ≠ 10 → (j < 39 + 9 * k ∨ 39 + 9 * (nc - 1) ≤ j) → drS s nc k j = s j := fun j h1 h2 h3 => by
    show (if _ then _ else _) = _
    rw [if_neg (by omega), upd_ne (by omega), upd_ne (by omega)]
  have e10 : drS s nc k 10 = s 10 + s (39 + 9 * k + 7) := by
    show (if _ then _ else _) = _
    rw [if_neg (by omega), upd_ne (by omega), upd_same]
  have ek : ∀ k' i, k' < nc - 1 → i < 9 → drS s nc k (39 + 9 * k' + i) = s (39 + 9 * (if k' < k then k' else k' + 1) + i) := fun k' i h1 h2 => by
    show (if _ then _ else _) = _
    by_cases q : k' < k
    · rw [if_neg (by omega), if_pos q, upd_ne (by omega), upd_ne (by omega)]
    · rw [if_pos (by omega), if_neg q, upd_ne (by omega), upd_ne (by omega)]
      congr 1
      omega
  obtain ⟨a1, a2, a3, a4, a5, ⟨v, u, u1, u2, u3⟩, a7⟩ := h
  generalize drS s nc k = s' at *
  have hp : ∀ k', k' < nc - 1 → (if k' < k then k' else k' + 1) < nc := fun k' h => by split <;> omega
  refine ⟨?_, fun k' hk' => ?_, fun k' hk' => ?_, a4.cg (fun k' => if k' < k then k' else k' + 1) hp (fun k' e' he => by show (if e' < k then e' else e' + 1) < (if k' < k then k' else k' + 1); split <;> split <;> omega) (fun k' i h1 _ h3 => ek k' i h1 (by omega)), a5.cg (fun k' => if k' < k then k' else k' + 1) hp (e _ (by omega) (by omega) (by omega)) (fun k' h1 => ek k' 6 h1 (by omega)),
    ⟨v + u k, fun k' => u (if k' < k then k' else k' + 1), ?_, fun k' hk' => ?_, ?_⟩, a7.cg fun d hd => e _ (by omega) (by omega) (by omega)⟩
  · rw [e _ (by omega) (by omega) (by omega)]; exact a1
  · exact (a2 _ (hp k' hk')).cg (Nat.le_refl _) (Nat.le_refl _) (fun i hi => ek k' i hk' (by omega)) (fun f i hf hi => e _ (by omega) (by omega) (by omega)) (fun t i ht hi => e _ (by omega) (by omega) (by omega))
  · exact (a3 _ (hp k' hk')).cg (a2 _ (hp k' hk')) bf (Nat.le_refl _) (fun i hi => ek k' i hk' (by omega)) (ek k' 8 hk' (by omega)) (fun f i hf hi => e _ (by omega) (by omega) (by omega))
  · rw [e10, u1, u2 k hk, nI_add]
  · rw [ek k' 7 hk' (by omega)]; exact u2 _ (hp k' hk')
  · have g1 : sumN (nc - 1) (fun k' => u (if k' < k then k' else k' + 1)) = sumN k u + sumN (nc - 1 - k) (fun j => u (k + 1 + j)) := by
      have h0 : nc - 1 = k + (nc - 1 - k) := by omega
      rw [h0, sumN_add, ← h0]
      congr 1
      · exact sumN_congr fun j hj => by rw [if_pos hj]
      · exact sumN_congr fun j hj => by rw [if_neg (by omega), show k + j + 1 = k + 1 + j by omega]
    have g2 : sumN nc u = sumN k u + u k + sumN (nc - 1 - k) (fun j => u (k + 1 + j)) := by
      have h0 : nc = (k + 1) + (nc - 1 - k) := by omega
      conv => lhs; rw [h0]
      rw [sumN_add]
      rfl
    rw [g1]
    rw [g2] at u3
    omega
theorem lk_se (hI : Inv B nf nt nc nd s) (h : LqK B nf nt nc nd s) {k : Nat} (hk : k < nc) {x : Int32} (h1 : ∀ i, nd ≤ i → i < 32 → bt x i = false) (h2 : bitsI x ≤ tkV s k) : LqK B nf nt nc nd (upd s (39 + 9 * k + 8) x) := by
  have bf := hI.lf
  have bt' := hI.lt
  have bc := hI.lc
  obtain ⟨a1, a2, a3, a4, a5, a6, a7⟩ := h
  refine ⟨?_, fun k' hk' => (a2 k' hk').cg (Nat.le_refl _) (Nat.le_refl _) (fun i hi => upd_ne (by omega)) (fun f i hf hi => upd_ne (by omega)) (fun t i ht hi => upd_ne (by omega)), fun k' hk' => ?_,
    a4.cg (fun k => k) (fun k hk => hk) (fun k e he => he) (fun k' i hk' _ hi => upd_ne (by omega)), a5.cg (fun k => k) (fun k hk => hk) (upd_ne (by omega)) (fun k' hk' => upd_ne (by omega)), a6.cg (upd_ne (by omega)) (fun k' hk' => upd_ne (by omega)), a7.cg fun d hd => upd_ne (by omega)⟩
  · rw [upd_ne (by omega)]; exact a1
  · by_cases q : k' = k
    · subst q
      obtain ⟨f, t, b1, b2, b3, -⟩ := a2 k' hk'
      have e2 : upd s (39 + 9 * k' + 8) x (39 + 9 * k' + 2) = nI f := (upd_ne (by omega)).trans b3
      refine ⟨fun i c1 c2 => by rw [upd_same]; exact h1 i c1 c2, ?_⟩
      rw [upd_same, tkV_f (f := f) (by omega) e2, upd_ne (by omega), upd_ne (by omega), upd_ne (by omega), ← tkV_f (by omega) b3]
      exact h2
    · exact (a3 k' hk').cg (a2 k' hk') bf (Nat.le_refl _) (fun i hi => upd_ne (by omega)) (upd_ne (by omega)) (fun f i hf hi => upd_ne (by omega))
theorem why0S {d k f : Nat} (h : whyS s nc d k f = 0) : bitS (s (39 + 9 * k + 8)) (nI d) = false ∧ bitsI (s (39 + 9 * k + 8)) < tkI (s (13 + 4 * f + 3)) (s (13 + 4 * f + 2)) (s (39 + 9 * k + 0)) := by
  refine ⟨whyS_bit h, ?_⟩
  unfold whyS at h
  split at h
  · exact absurd h (by decide)
  split at h
  · exact absurd h (by decide)
  split at h
  · exact absurd h (by decide)
  split at h
  · assumption
  · exact absurd h (by decide)
theorem lk_en (hI : Inv B nf nt nc nd s) (h : LqK B nf nt nc nd s) {d k : Nat} (hd : d < nd) (hk : k < nc) (hw : whyS s nc d k (tn (s (39 + 9 * k + 2))) = 0) : LqK B nf nt nc nd (enS s (nI d) k) := by
  have bf := hI.lf
  have bn := hI.ld
  obtain ⟨f, t, b1, b2, b3, -⟩ := h.2.1 k hk
  rw [b3, tn_nI (by omega)] at hw
  obtain ⟨y1, y2⟩ := why0S hw
  have hs := h.2.2.1 k hk
  refine lk_se hI h hk (fun i c1 c2 => ?_) ?_
  · rw [← seat_on (by omega) y1, b_or, hs.1 i c1 c2, bt1 (by omega) c2, decide_eq_false (by omega)]
    rfl
  · rw [bits_on (by omega) y1, tkV_f (by omega) b3]
    obtain ⟨n, n1, n2, -⟩ := tk_nn (hI.fl b1) (s (39 + 9 * k + 0))
    obtain ⟨u, u1, u2⟩ := bits_nn (s (39 + 9 * k + 8))
    rw [n2, u2] at y2 ⊢
    exact i32_sucLe (by omega) (by omega) y2
theorem lk_le (hI : Inv B nf nt nc nd s) (h : LqK B nf nt nc nd s) {d k : Nat} (hd : d < nd) (hk : k < nc) (hb : bitS (s (39 + 9 * k + 8)) (nI d) = true) : LqK B nf nt nc nd (leS s (nI d) k) := by
  have bf := hI.lf
  have bn := hI.ld
  obtain ⟨f, t, b1, b2, b3, -⟩ := h.2.1 k hk
  have hs := h.2.2.1 k hk
  refine lk_se hI h hk (fun i c1 c2 => ?_) ?_
  · rw [← seat_off (by omega) hb, off_bt (by omega) c2, hs.1 i c1 c2]
    rfl
  · have y := bits_off (show d < 12 by omega) hb
    have y2 := hs.2
    rw [tkV_f (by omega) b3] at y2 ⊢
    obtain ⟨n, n1, n2, -⟩ := tk_nn (hI.fl b1) (s (39 + 9 * k + 0))
    obtain ⟨u, u1, u2⟩ := bits_nn (s (39 + 9 * k + 8))
    obtain ⟨u', u1', u2'⟩ := bits_nn (s (39 + 9 * k + 8) + -((1 : Int32) <<< (nI d &&& 31)))
    rw [n2, u2] at y2
    rw [n2, u2']
    rw [u2, u2', nI_1, nI_eq (by omega) (by omega)] at y
    rw [nI_leI (by omega) (by omega)] at y2 ⊢
    omega
end LKB
