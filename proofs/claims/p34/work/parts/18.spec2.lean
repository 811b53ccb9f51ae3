/-! ===== what the class reads is what the block holds; what an action does to both ===== -/
section CONV
variable {B nf nt nc nd : Nat} {s : Nat → Int32} {M : Mem} {o : Nat}
theorem why_eq (h : RepS M o nf nt nc nd s) {f t : Nat} (hf : f < nf) (ht : t < nt) (style level day hour : Int32) : whyC M o nc style level f t day hour = whyI s nc style level f t day hour := by
  obtain ⟨-, h1, h2, h3, -⟩ := h
  obtain ⟨e1, e2, e3, e4⟩ := h1 f hf
  obtain ⟨e5, e6⟩ := h2 t ht
  unfold whyC whyI
  rw [e1, e2, e3, e5, e6]
  have ea : anyB nc (fun k => decide (M (o + 13 + k) 2 = nI f) && (decide (M (o + 13 + k) 4 = day) && decide (M (o + 13 + k) 5 = hour))) = anyB nc (fun k => atC s k day hour && decide (s (39 + 9 * k + 2) = nI f)) := by
    apply anyB_congr
    intro k hk
    obtain ⟨k0, k1, k2, k3, k4, k5, k6, k7, k8⟩ := h3 k hk
    rw [k2, k4, k5]
    unfold atC
    rw [Bool.and_comm]
  have eb : anyB nc (fun k => decide (M (o + 13 + k) 3 = nI t) && (decide (M (o + 13 + k) 4 = day) && decide (M (o + 13 + k) 5 = hour))) = anyB nc (fun k => atC s k day hour && decide (s (39 + 9 * k + 3) = nI t)) := by
    apply anyB_congr
    intro k hk
    obtain ⟨k0, k1, k2, k3, k4, k5, k6, k7, k8⟩ := h3 k hk
    rw [k3, k4, k5]
    unfold atC
    rw [Bool.and_comm]
  rw [ea, eb]
theorem whyD_eq (h : RepS M o nf nt nc nd s) (hI : Inv B nf nt nc nd s) {d k f : Nat} (hd : d < nd) (hk : k < nc) (hf : f < nf) : whyD M o nc d k f = whyS s nc d k f := by
  obtain ⟨-, h1, -, h3, h4⟩ := h
  obtain ⟨e1, e2, e3, e4⟩ := h1 f hf
  obtain ⟨g1, g2, g3, g4⟩ := h4 d hd
  obtain ⟨k0, k1, k2, k3, k4, k5, k6, k7, k8⟩ := h3 k hk
  unfold whyD whyS
  rw [e3, e4, g1, k0, k1, k4, k5, k6, bc_bd (hI.cl hk).2.2.2]
  have ea : anyB nc (fun e => bitS (M (o + 13 + e) 6) (nI d) && (decide (M (o + 13 + e) 4 = s (39 + 9 * k + 4)) && decide (M (o + 13 + e) 5 = s (39 + 9 * k + 5)))) = anyB nc (fun e => bitS (s (39 + 9 * e + 8)) (nI d) && (decide (s (39 + 9 * e + 4) = s (39 + 9 * k + 4)) && decide (s (39 + 9 * e + 5) = s (39 + 9 * k + 5)))) := by
    apply anyB_congr
    intro e he
    obtain ⟨k0, k1, k2, k3, k4, k5, k6, k7, k8⟩ := h3 e he
    rw [k4, k5, k6]
  rw [ea]
  rfl
end CONV
section ACTS
variable {B nf nt nc nd : Nat} {s : Nat → Int32}
theorem upd_at {f : Nat → Int32} {i j : Nat} {x : Int32} (h : j = i) : upd f i x j = x := by subst h; exact upd_same
theorem inv_fl (h : Inv B nf nt nc nd s) (hn : nf < 4) {a b c d : Int32} (hb : bd 0 4 b) (hc : bd 0 60 c) (hd : bd 1 30 d) : Inv B (nf + 1) nt nc nd (flS s nf a b c d) := by
  obtain ⟨⟨b1, b2, b3, b4⟩, h2, hf, hk, hd2, hs⟩ := h
  have hnd := b4.2
  have hnc := b3.2
  refine ⟨⟨⟨upd_same, by omega⟩, ?_, ?_, ?_⟩, ?_, fun f hf' => ?_, fun k hk' => ?_, fun d hd' => ?_, ?_⟩
  all_goals unfold flS
  · simp (disch := omega) only [upd_ne]; exact b2
  · simp (disch := omega) only [upd_ne]; exact b3
  · simp (disch := omega) only [upd_ne]; exact b4
  · simp (disch := omega) only [upd_ne]; exact h2
  · unfold FlOK
    by_cases e : f = nf
    · subst e
      simp (disch := omega) only [upd_ne, upd_same]; exact ⟨hb, hc, hd⟩
    · simp (disch := omega) only [upd_ne]; exact hf f (by omega)
  · unfold ClOK
    simp (disch := omega) only [upd_ne]
    obtain ⟨⟨f, c1, c2⟩, c3⟩ := hk k hk'
    exact ⟨⟨f, by omega, c2⟩, c3⟩
  · unfold DaOK; simp (disch := omega) only [upd_ne]; exact hd2 d hd'
  · unfold SmOK; simp (disch := omega) only [upd_ne]; exact hs
theorem inv_te (h : Inv B nf nt nc nd s) (hn : nt < 5) {a b : Int32} : Inv B nf (nt + 1) nc nd (teS s nt a b) := by
  obtain ⟨⟨b1, b2, b3, b4⟩, h2, hf, hk, hd2, hs⟩ := h
  have hnf := b1.2
  refine ⟨⟨?_, ⟨upd_same, by omega⟩, ?_, ?_⟩, ?_, fun f hf' => ?_, fun k hk' => ?_, fun d hd' => ?_, ?_⟩
  all_goals unfold teS
  · simp (disch := omega) only [upd_ne]; exact b1
  · simp (disch := omega) only [upd_ne]; exact b3
  · simp (disch := omega) only [upd_ne]; exact b4
  · simp (disch := omega) only [upd_ne]; exact h2
  · unfold FlOK; simp (disch := omega) only [upd_ne]; exact hf f hf'
  · unfold ClOK; simp (disch := omega) only [upd_ne]; exact hk k hk'
  · unfold DaOK; simp (disch := omega) only [upd_ne]; exact hd2 d hd'
  · unfold SmOK; simp (disch := omega) only [upd_ne]; exact hs
theorem inv_cl (h : Inv B nf nt nc nd s) (hn : nc < 10) {a b dy hr t : Int32} {f : Nat} (hf0 : f < nf) (hdy : bd 0 5 dy) : Inv B nf nt (nc + 1) nd (clS s nc a b (nI f) t dy hr) := by
  obtain ⟨⟨b1, b2, b3, b4⟩, h2, hf, hk, hd2, hs⟩ := h
  have hnf := b1.2
  refine ⟨⟨?_, ?_, ⟨upd_same, by omega⟩, ?_⟩, ?_, fun f hf' => ?_, fun k hk' => ?_, fun d hd' => ?_, ?_⟩
  all_goals unfold clS
  · simp (disch := omega) only [upd_ne]; exact b1
  · simp (disch := omega) only [upd_ne]; exact b2
  · simp (disch := omega) only [upd_ne]; exact b4
  · simp (disch := omega) only [upd_ne]; exact h2
  · unfold FlOK; simp (disch := omega) only [upd_ne]; exact hf f hf'
  · unfold ClOK
    by_cases e : k = nc
    · subst e
      simp (disch := omega) only [upd_ne, upd_same]
      exact ⟨⟨f, hf0, rfl⟩, hdy, ⟨0, by omega, by omega, rfl⟩, ⟨0, by omega, by omega, rfl⟩⟩
    · simp (disch := omega) only [upd_ne]; exact hk k (by omega)
  · unfold DaOK; simp (disch := omega) only [upd_ne]; exact hd2 d hd'
  · obtain ⟨c1, c2, c3⟩ := hs
    unfold SmOK
    refine ⟨?_, ?_, ?_⟩
    · simp (disch := omega) only [upd_ne]; exact c1
    · simp (disch := omega) only [upd_ne]; exact c2
    · show _ = _ + (sumI nc _ + _)
      rw [sumI_congr (g := fun k => s (39 + 9 * k + 7)) (fun k hk => by simp (disch := omega) only [upd_ne])]
      simp (disch := omega) only [upd_ne, upd_same]
      rw [c3]
      grind
theorem inv_da (h : Inv B nf nt nc nd s) (hn : nd < 12) : Inv B nf nt nc (nd + 1) (daS s nd) := by
  obtain ⟨⟨b1, b2, b3, b4⟩, h2, hf, hk, hd2, hs⟩ := h
  have hnf := b1.2
  have hnc := b3.2
  have e : ∀ j, j < 129 + 5 * nd → j ≠ 3 → daS s nd j = s j := fun j hj h3 => by
    unfold daS
    rw [upd_ne h3, if_neg (by omega), if_neg (by omega)]
  have e2 : ∀ j, j = 129 + 5 * nd + 1 ∨ j = 129 + 5 * nd + 2 ∨ j = 129 + 5 * nd + 3 ∨ j = 129 + 5 * nd + 4 → daS s nd j = 0 := fun j hj => by
    unfold daS
    rw [upd_ne (by omega), if_neg (by omega), if_pos (by omega)]
  refine ⟨⟨?_, ?_, ?_, ⟨upd_same, by omega⟩⟩, ?_, fun f hf' => ?_, fun k hk' => ?_, fun d hd' => ?_, ?_⟩
  · simp (disch := omega) only [e]; exact b1
  · simp (disch := omega) only [e]; exact b2
  · simp (disch := omega) only [e]; exact b3
  · simp (disch := omega) only [e]; exact h2
  · unfold FlOK; simp (disch := omega) only [e]; exact hf f hf'
  · unfold ClOK; simp (disch := omega) only [e]; exact hk k hk'
  · unfold DaOK
    by_cases e0 : d = nd
    · subst e0
      simp (disch := omega) only [e2]
      exact ⟨⟨0, by omega, by omega, rfl⟩, by decide⟩
    · simp (disch := omega) only [e]; exact hd2 d (by omega)
  · obtain ⟨c1, c2, c3⟩ := hs
    refine ⟨?_, ?_, ?_⟩
    · show _ = sumI nd _ + daS s nd (129 + 5 * nd + 4)
      rw [sumI_congr (g := fun d => s (129 + 5 * d + 4)) (fun k hk => by simp (disch := omega) only [e]), e2 (129 + 5 * nd + 4) (by omega), ← c1, e 5 (by omega) (by omega)]
      grind
    · show _ = sumI nd _ + daS s nd (129 + 5 * nd + 3)
      rw [sumI_congr (g := fun d => s (129 + 5 * d + 3)) (fun k hk => by simp (disch := omega) only [e]), e2 (129 + 5 * nd + 3) (by omega), ← c2, e 6 (by omega) (by omega)]
      grind
    · rw [sumI_congr (g := fun k => s (39 + 9 * k + 7)) (fun k hk => by simp (disch := omega) only [e]), e 6 (by omega) (by omega), e 10 (by omega) (by omega)]
      exact c3
theorem inv_pa (h : Inv B nf nt nc nd s) {d : Nat} (hd : d < nd) (hl : s (129 + 5 * d + 2) < 90) : Inv B nf nt nc nd (paS s d) := by
  obtain ⟨⟨b1, b2, b3, b4⟩, h2, hf, hk, hd2, hs⟩ := h
  have hnf := b1.2
  have hnc := b3.2
  have hnd := b4.2
  have e : ∀ j, j ≠ 5 → j ≠ 129 + 5 * d + 2 → j ≠ 129 + 5 * d + 4 → paS s d j = s j := fun j h1 h2 h3 => by
    unfold paS
    simp (disch := omega) only [upd_ne]
  have e5 : paS s d 5 = s 5 + 1 := by unfold paS; simp (disch := omega) only [upd_ne, upd_same]
  have eL : paS s d (129 + 5 * d + 2) = s (129 + 5 * d + 2) + 10 := by unfold paS; simp (disch := omega) only [upd_ne, upd_same]
  have eP : paS s d (129 + 5 * d + 4) = s (129 + 5 * d + 4) + 1 := by unfold paS; simp (disch := omega) only [upd_ne, upd_same]
  refine ⟨⟨?_, ?_, ?_, ?_⟩, ?_, fun f hf' => ?_, fun k hk' => ?_, fun d' hd' => ?_, ?_⟩
  · simp (disch := omega) only [e]; exact b1
  · simp (disch := omega) only [e]; exact b2
  · simp (disch := omega) only [e]; exact b3
  · simp (disch := omega) only [e]; exact b4
  · simp (disch := omega) only [e]; exact h2
  · unfold FlOK; simp (disch := omega) only [e]; exact hf f hf'
  · unfold ClOK; simp (disch := omega) only [e]; exact hk k hk'
  · unfold DaOK
    by_cases e0 : d' = d
    · subst e0
      rw [eL, eP, e _ (by omega) (by omega) (by omega)]
      obtain ⟨⟨n, -, n2, n3⟩, n4⟩ := hd2 d' hd'
      refine ⟨⟨n + 10, by omega, ?_, ?_⟩, ?_⟩
      · rw [n3] at hl
        have := (nI_ltI (a := n) (b := 90) (by omega) (by omega)).mp hl
        omega
      · rw [n3]; simp only [nI, Int32.ofNat_add]; rfl
      · rw [n4]; grind
    · simp (disch := omega) only [e]; exact hd2 d' hd'
  · obtain ⟨c1, c2, c3⟩ := hs
    refine ⟨?_, ?_, ?_⟩
    · rw [sumI_one (g := fun d => s (129 + 5 * d + 4)) hd (fun k hk hne => e _ (by omega) (by omega) (by omega)), ← c1, eP, e5]
      grind
    · rw [e 6 (by omega) (by omega) (by omega), c2]
      exact sumI_congr fun k hk => (e _ (by omega) (by omega) (by omega)).symm
    · rw [e 6 (by omega) (by omega) (by omega), e 10 (by omega) (by omega) (by omega), c3]
      exact congrArg _ (sumI_congr fun k hk => (e _ (by omega) (by omega) (by omega)).symm)
theorem inv_se (h : Inv B nf nt nc nd s) {k : Nat} (hk : k < nc) {x : Int32} (hx : bd 0 4095 x) : Inv B nf nt nc nd (upd s (39 + 9 * k + 8) x) := by
  obtain ⟨⟨b1, b2, b3, b4⟩, h2, hf, hk2, hd2, hs⟩ := h
  have hnf := b1.2
  have hnc := b3.2
  refine ⟨⟨?_, ?_, ?_, ?_⟩, ?_, fun f hf' => ?_, fun k' hk' => ?_, fun d hd' => ?_, ?_⟩
  · simp (disch := omega) only [upd_ne]; exact b1
  · simp (disch := omega) only [upd_ne]; exact b2
  · simp (disch := omega) only [upd_ne]; exact b3
  · simp (disch := omega) only [upd_ne]; exact b4
  · simp (disch := omega) only [upd_ne]; exact h2
  · unfold FlOK; simp (disch := omega) only [upd_ne]; exact hf f hf'
  · unfold ClOK
    by_cases e : k' = k
    · subst e
      simp (disch := omega) only [upd_ne, upd_same]
      exact ⟨(hk2 k' hk').1, (hk2 k' hk').2.1, (hk2 k' hk').2.2.1, hx⟩
    · simp (disch := omega) only [upd_ne]; exact hk2 k' hk'
  · unfold DaOK; simp (disch := omega) only [upd_ne]; exact hd2 d hd'
  · unfold SmOK; simp (disch := omega) only [upd_ne]; exact hs
theorem inv_dr (h : Inv B nf nt nc nd s) {k : Nat} (hk : k < nc) : Inv B nf nt (nc - 1) nd (drS s nc k) := by
  obtain ⟨⟨b1, b2, b3, b4⟩, h2, hf, hk2, hd2, hs⟩ := h
  have hnf := b1.2
  have hnc := b3.2
  have hnd := b4.2
  have e : ∀ j, j ≠ 2 → j ≠ 10 → (j < 39 + 9 * k ∨ 39 + 9 * (nc - 1) ≤ j) → drS s nc k j = s j := fun j h1 h2 h3 => by
    show (if _ then _ else _) = _
    rw [if_neg (by omega), upd_ne (by omega), upd_ne (by omega)]
  have ek : ∀ k' i, k' < nc - 1 → i < 9 → drS s nc k (39 + 9 * k' + i) = if k' < k then s (39 + 9 * k' + i) else s (39 + 9 * (k' + 1) + i) := fun k' i h1 h2 => by
    show (if _ then _ else _) = _
    by_cases q : k' < k
    · rw [if_neg (by omega), if_pos q, upd_ne (by omega), upd_ne (by omega)]
    · rw [if_pos (by omega), if_neg q, upd_ne (by omega), upd_ne (by omega)]
      congr 1
      omega
  refine ⟨⟨?_, ?_, ⟨?_, by omega⟩, ?_⟩, ?_, fun f hf' => ?_, fun k' hk' => ?_, fun d hd' => ?_, ?_⟩
  · simp (disch := omega) only [e]; exact b1
  · simp (disch := omega) only [e]; exact b2
  · show (if _ then _ else _) = _
    rw [if_neg (by omega), upd_same]
  · simp (disch := omega) only [e]; exact b4
  · simp (disch := omega) only [e]; exact h2
  · unfold FlOK; simp (disch := omega) only [e]; exact hf f hf'
  · unfold ClOK
    rw [ek k' 2 hk' (by omega), ek k' 4 hk' (by omega), ek k' 6 hk' (by omega), ek k' 8 hk' (by omega)]
    by_cases q : k' < k
    · simp only [if_pos q]; exact hk2 k' (by omega)
    · simp only [if_neg q]; exact hk2 (k' + 1) (by omega)
  · unfold DaOK; simp (disch := omega) only [e]; exact hd2 d hd'
  · obtain ⟨c1, c2, c3⟩ := hs
    refine ⟨?_, ?_, ?_⟩
    · rw [e 5 (by omega) (by omega) (by omega), c1]
      exact sumI_congr fun d hd => (e _ (by omega) (by omega) (by omega)).symm
    · rw [e 6 (by omega) (by omega) (by omega), c2]
      exact sumI_congr fun d hd => (e _ (by omega) (by omega) (by omega)).symm
    · have e10 : drS s nc k 10 = s 10 + s (39 + 9 * k + 7) := by
        show (if _ then _ else _) = _
        rw [if_neg (by omega), upd_ne (by omega), upd_same]
      rw [e 6 (by omega) (by omega) (by omega), e10, c3, Int32.add_assoc]
      congr 1
      have g1 : sumI (nc - 1) (fun k' => drS s nc k (39 + 9 * k' + 7)) = sumI k (fun k' => s (39 + 9 * k' + 7)) + sumI (nc - 1 - k) (fun j => s (39 + 9 * (k + 1 + j) + 7)) := by
        have h0 : nc - 1 = k + (nc - 1 - k) := by omega
        rw [h0, sumI_add, ← h0]
        congr 1
        · exact sumI_congr fun j hj => by rw [ek j 7 (by omega) (by omega), if_pos hj]
        · exact sumI_congr fun j hj => by rw [ek (k + j) 7 (by omega) (by omega), if_neg (by omega), show k + j + 1 = k + 1 + j by omega]
      have g2 : sumI nc (fun k' => s (39 + 9 * k' + 7)) = sumI k (fun k' => s (39 + 9 * k' + 7)) + s (39 + 9 * k + 7) + sumI (nc - 1 - k) (fun j => s (39 + 9 * (k + 1 + j) + 7)) := by
        have h0 : nc = (k + 1) + (nc - 1 - k) := by omega
        conv => lhs; rw [h0]
        rw [sumI_add]
        rfl
      rw [g1, g2]
      grind
theorem inv_ne (B : Nat) (s : Nat → Int32) : Inv B 0 0 0 0 (neS s) := by
  refine ⟨⟨⟨?_, by omega⟩, ⟨?_, by omega⟩, ⟨?_, by omega⟩, ⟨?_, by omega⟩⟩, ?_, fun f hf' => absurd hf' (by omega), fun k' hk' => absurd hk' (by omega), fun d hd' => absurd hd' (by omega), ?_⟩
  all_goals unfold neS
  · simp (disch := omega) only [upd_ne]; rfl
  · simp (disch := omega) only [upd_ne]; rfl
  · simp (disch := omega) only [upd_ne]; rfl
  · simp (disch := omega) only [upd_ne]; rfl
  · simp (disch := omega) only [upd_ne, upd_same]; exact ⟨2, by omega, by omega, rfl⟩
  · unfold SmOK
    simp (disch := omega) only [upd_ne]
    exact ⟨rfl, rfl, by show (0 : Int32) = 0 + 0; decide⟩
end ACTS
