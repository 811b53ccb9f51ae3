/-! ===== p34: a week ===== -/
section LKW
variable {B nf nt nc nd : Nat} {s : Nat → Int32}
theorem stepC_o {k j : Nat} (hj : j < 129) (h6 : j ≠ 6) (h7 : j ≠ 7) (h8 : j ≠ 8) (hk : j ≠ 39 + 9 * k + 6 ∧ j ≠ 39 + 9 * k + 7) : stepC nd s k j = s j := by
  unfold stepC
  split
  · exact upd_ne h8
  · rw [dn_o hj h6 hk.2]
    unfold holdS
    rw [upd_ne hk.1, upd_ne h7]
theorem cls_st {j : Nat} (hj : j < 129) (h6 : j ≠ 6) (h7 : j ≠ 7) (h8 : j ≠ 8) : ∀ n, (∀ k, k < n → j ≠ 39 + 9 * k + 6 ∧ j ≠ 39 + 9 * k + 7) → clsN nd n s j = s j
  | 0, _ => rfl
  | n + 1, hk => by
    show stepC nd (clsN nd n s) n j = _
    rw [stepC_o hj h6 h7 h8 (hk n (by omega)), cls_st hj h6 h7 h8 n (fun k h => hk k (by omega))]
theorem cls_lv {d : Nat} : ∀ n, n ≤ 10 → clsN nd n s (129 + 5 * d) = s (129 + 5 * d)
  | 0, _ => rfl
  | n + 1, hn => by
    show stepC nd (clsN nd n s) n (129 + 5 * d) = _
    rw [← cls_lv n (by omega)]
    unfold stepC
    split
    · exact upd_ne (by omega)
    · rw [dn_lv (by omega)]
      unfold holdS
      rw [upd_ne (by omega), upd_ne (by omega)]
theorem cnt_nn {w : Int32} : ∀ n, ∃ c, c ≤ n ∧ cntW w n = nI c
  | 0 => ⟨0, Nat.le_refl _, rfl⟩
  | n + 1 => by
    obtain ⟨c, h1, h2⟩ := cnt_nn (w := w) n
    by_cases hb : bitS w (nI n) = true
    · refine ⟨c + 1, by omega, ?_⟩
      show cntW w n + (if bitS w (nI n) = true then 1 else 0) = _
      rw [h2, if_pos hb, nI_1]
    · refine ⟨c, by omega, ?_⟩
      show cntW w n + (if bitS w (nI n) = true then 1 else 0) = _
      rw [h2, if_neg hb]
      exact add_z _
theorem step_7 {k : Nat} (hk : k < 10) (hn : nd ≤ 12) : ∃ c, c ≤ 12 ∧ stepC nd s k (39 + 9 * k + 7) = s (39 + 9 * k + 7) + nI c := by
  unfold stepC
  split
  · exact ⟨0, by omega, by rw [upd_ne (by omega)]; exact (add_z _).symm⟩
  · obtain ⟨c, h1, h2⟩ := cnt_nn (w := comI s k nd) nd
    refine ⟨c, by omega, ?_⟩
    rw [dn_7, if_pos hk, h2]
    unfold holdS
    rw [upd_ne (by omega), upd_ne (by omega)]
theorem step_7o {k k' : Nat} (hk : k' < 10) (hne : k' ≠ k) : stepC nd s k (39 + 9 * k' + 7) = s (39 + 9 * k' + 7) := stepC_o (by omega) (by omega) (by omega) (by omega) (by omega)
theorem cls_u (hc : nc ≤ 10) (hn : nd ≤ 12) {u : Nat → Nat} (hu : ∀ k, k < nc → s (39 + 9 * k + 7) = nI (u k)) : ∀ n, n ≤ nc → ∃ u' : Nat → Nat, (∀ k, k < nc → clsN nd n s (39 + 9 * k + 7) = nI (u' k)) ∧ sumN nc u' ≤ sumN nc u + 12 * n
  | 0, _ => ⟨u, hu, Nat.le_refl _⟩
  | n + 1, h => by
    obtain ⟨u', h1, h2⟩ := cls_u hc hn hu n (by omega)
    obtain ⟨c, c1, c2⟩ := step_7 (s := clsN nd n s) (k := n) (nd := nd) (by omega) hn
    refine ⟨fun k => if k = n then u' n + c else u' k, fun k hk => ?_, ?_⟩
    · show stepC nd (clsN nd n s) n (39 + 9 * k + 7) = nI (if k = n then _ else _)
      by_cases q : k = n
      · subst q
        rw [if_pos rfl, c2, h1 k hk, nI_add]
      · rw [if_neg q, step_7o (by omega) q, h1 k hk]
    · have := sumN_one (f := fun k => if k = n then u' n + c else u' k) (g := u') (i := n) (n := nc) (by omega) (fun k hk hne => if_neg hne)
      simp only [if_pos] at this
      omega
theorem wk_st {j : Nat} (hj : j < 129) (h4 : j ≠ 4) (h6 : j ≠ 6) (h7 : j ≠ 7) (h8 : j ≠ 8) (hk : ∀ k, k < nc → j ≠ 39 + 9 * k + 6 ∧ j ≠ 39 + 9 * k + 7) : weekS nc nd s j = s j := by
  unfold weekS
  rw [ri_l hj, cls_st hj h6 h7 h8 nc hk, upd_ne h4]
theorem wk_4 : weekS nc nd s 4 = s 4 + 1 := by
  unfold weekS
  rw [ri_l (by omega), cls_st (by omega) (by omega) (by omega) (by omega) nc (fun k hk => by omega), upd_same]
theorem cls_7 (hc : nc ≤ 10) : ∀ n, n ≤ nc → clsN nd n s 7 = s 7 + nI (sumN n (fun k => if hdB nd s k = true then 1 else 0)) ∧ clsN nd n s 8 = s 8 + nI (sumN n (fun k => if hdB nd s k = true then 0 else 1))
  | 0, _ => ⟨(add_z _).symm, (add_z _).symm⟩
  | n + 1, h => by
    obtain ⟨h1, h2⟩ := cls_7 hc n (by omega)
    have e7 : stepC nd (clsN nd n s) n 7 = clsN nd n s 7 + nI (if hdB nd s n = true then 1 else 0) := by
      unfold stepC hdB
      split
      · rename_i q
        rw [upd_ne (by omega), decide_eq_true q, if_neg (by decide)]
        exact (add_z _).symm
      · rename_i q
        rw [dn_o (by omega) (by omega) (by omega), decide_eq_false q, if_pos (show (!false) = true from rfl)]
        unfold holdS
        rw [upd_ne (by omega), upd_same]
        rfl
    have e8 : stepC nd (clsN nd n s) n 8 = clsN nd n s 8 + nI (if hdB nd s n = true then 0 else 1) := by
      unfold stepC hdB
      split
      · rename_i q
        rw [upd_same, decide_eq_true q, if_neg (by decide)]
        rfl
      · rename_i q
        rw [dn_o (by omega) (by omega) (by omega), decide_eq_false q, if_pos (show (!false) = true from rfl)]
        unfold holdS
        rw [upd_ne (by omega), upd_ne (by omega)]
        exact (add_z _).symm
    refine ⟨?_, ?_⟩
    · show stepC nd (clsN nd n s) n 7 = s 7 + nI (sumN n _ + _)
      rw [e7, h1, Int32.add_assoc, nI_add]
    · show stepC nd (clsN nd n s) n 8 = s 8 + nI (sumN n _ + _)
      rw [e8, h2, Int32.add_assoc, nI_add]
/-- how many classes a week holds -/
def hdN (nc nd : Nat) (s : Nat → Int32) : Nat := sumN nc (fun k => if hdB nd (upd s 4 (s 4 + 1)) k = true then 1 else 0)
theorem wk_7 (hc : nc ≤ 10) : weekS nc nd s 7 = s 7 + nI (hdN nc nd s) := by
  unfold weekS
  rw [ri_l (by omega), (cls_7 hc nc (Nat.le_refl _)).1, upd_ne (by omega)]
  rfl
theorem sumN_not {f : Nat → Bool} : ∀ n, sumN n (fun k => if f k = true then 0 else 1) + sumN n (fun k => if f k = true then 1 else 0) = n
  | 0 => rfl
  | n + 1 => by
    show (sumN n _ + (if _ then _ else _)) + (sumN n _ + (if _ then _ else _)) = _
    have := sumN_not (f := f) n
    split <;> omega
theorem wk_8 (hc : nc ≤ 10) : weekS nc nd s 8 = s 8 + nI nc - nI (hdN nc nd s) := by
  unfold weekS
  rw [ri_l (by omega), (cls_7 hc nc (Nat.le_refl _)).2, upd_ne (by omega)]
  have h := sumN_not (f := fun k => hdB nd (upd s 4 (s 4 + 1)) k) nc
  have h2 : nI (sumN nc (fun k => if hdB nd (upd s 4 (s 4 + 1)) k = true then 0 else 1)) + nI (hdN nc nd s) = nI nc := by
    rw [nI_add]; exact congrArg nI h
  rw [← h2]
  grind
theorem held_bt (hc : nc ≤ 10) {i : Nat} (hi : i < 32) : bt (weekH nc nd s) i = (decide (i < nc) && hdB nd (upd s 4 (s 4 + 1)) i) := by
  unfold weekH
  rw [hld_or, orI_bt, ← anyB_at (c := fun k => hdB nd (upd s 4 (s 4 + 1)) k)]
  apply anyB_congr
  intro k hk
  split
  · rename_i q
    rw [bt1 (by omega) hi, q]; simp
  · rename_i q
    rw [b_0]; simp [q]
theorem held_sum (hc : nc ≤ 10) : sumI nc (fun k => weekH nc nd s >>> (nI k &&& 31) &&& 1) = nI (hdN nc nd s) := by
  apply sumI_N
  intro k hk
  have e : bt (weekH nc nd s >>> (nI k &&& 31)) 0 = bt (weekH nc nd s) k := by
    rw [b_sshr k (by omega) _ (by omega), if_pos (show k + 0 < 32 by omega)]
    rfl
  rw [and1_bt, e, held_bt hc (by omega), decide_eq_true hk, Bool.true_and]
  split <;> rfl
theorem held_hi (hc : nc ≤ 10) : weekH nc nd s >>> (nI nc &&& 31) = 0 := by
  apply b_ext
  intro i hi
  rw [b_sshr nc (by omega) _ hi, b_0]
  split
  · rw [held_bt hc (by omega), decide_eq_false (by omega)]; rfl
  · rw [held_bt hc (by omega), decide_eq_false (by omega)]; rfl
theorem lk_week (hI : Inv B nf nt nc nd s) (h : LqK B nf nt nc nd s) : LqK (B + 1) nf nt nc nd (weekS nc nd s) := by
  have bf := hI.lf
  have bt' := hI.lt
  have bc := hI.lc
  have bn := hI.ld
  obtain ⟨a1, a2, a3, a4, ⟨w, w1, w2, w3⟩, ⟨v, u, u1, u2, u3⟩, a7⟩ := h
  have hc : ∀ k i, k < nc → i < 9 → i ≠ 6 → i ≠ 7 → weekS nc nd s (39 + 9 * k + i) = s (39 + 9 * k + i) := fun k i hk hi q1 q2 => wk_st (by omega) (by omega) (by omega) (by omega) (by omega) (fun k' hk' => by omega)
  have hf : ∀ f i, f < nf → i < 4 → weekS nc nd s (13 + 4 * f + i) = s (13 + 4 * f + i) := fun f i hf hi => wk_st (by omega) (by omega) (by omega) (by omega) (by omega) (fun k' hk' => by omega)
  have ht : ∀ t i, t < nt → i < 2 → weekS nc nd s (29 + 2 * t + i) = s (29 + 2 * t + i) := fun t i ht hi => wk_st (by omega) (by omega) (by omega) (by omega) (by omega) (fun k' hk' => by omega)
  obtain ⟨u', v1, v2⟩ := cls_u (s := upd s 4 (s 4 + 1)) (nc := nc) (nd := nd) bc bn (u := u) (fun k hk => by rw [upd_ne (by omega)]; exact u2 k hk) nc (Nat.le_refl _)
  refine ⟨?_, fun k hk => (a2 k hk).cg (Nat.le_refl _) (Nat.le_refl _) (fun i hi => hc k i hk (by omega) (by omega) (by omega)) hf ht, fun k hk => (a3 k hk).cg (a2 k hk) bf (Nat.le_refl _) (fun i hi => hc k i hk (by omega) (by omega) (by omega)) (hc k 8 hk (by omega) (by omega) (by omega)) hf,
    a4.cg (fun k => k) (fun k hk => hk) (fun k e he => he) (fun k i hk _ hi => hc k i hk (by omega) (by omega) (by omega)), ⟨w + 1, by omega, ?_, fun k hk => ?_⟩, ⟨v, u', ?_, fun k hk => ?_, by omega⟩, fun d hd => ?_⟩
  · rw [wk_st (by omega) (by omega) (by omega) (by omega) (by omega) (fun k' hk' => by omega)]; exact a1
  · rw [wk_4, w2, nI_1]
  · rw [week_h hk bc]
    obtain ⟨h, h1, h2⟩ := w3 k hk
    split
    · exact ⟨h + 1, by omega, by rw [h2, nI_1]⟩
    · exact ⟨h, by omega, h2⟩
  · rw [wk_st (by omega) (by omega) (by omega) (by omega) (by omega) (fun k' hk' => by omega)]; exact u1
  · unfold weekS
    rw [ri_l (by omega)]; exact v1 k hk
  · have e : clsN nd nc (upd s 4 (s 4 + 1)) (129 + 5 * d) = s (129 + 5 * d) := by rw [cls_lv nc bc, upd_ne (by omega)]
    unfold weekS
    obtain ⟨l, l1, l2, l3⟩ := a7 d hd
    by_cases q : risC (clsN nd nc (upd s 4 (s 4 + 1))) d
    · rw [(((ri_01 (d := d) nd).1 hd).1 q).1, e, l3]
      have q2 := q.2
      rw [e, l3, show (5 : Int32) = nI 5 from rfl, nI_ltI (by omega) (by omega)] at q2
      exact ⟨l + 1, by omega, by omega, nI_1 l⟩
    · rw [(((ri_01 (d := d) nd).1 hd).2 q).1, e]
      exact ⟨l, l1, l2, l3⟩
theorem lk_wk (hI : Inv B nf nt nc nd s) (h : LqK B nf nt nc nd s) : ∀ n, LqK (B + n) nf nt nc nd (wkN nc nd n s)
  | 0 => h
  | n + 1 => lk_week (inv_wk hI n) (lk_wk hI h n)
theorem lk_ne (B : Nat) (s : Nat → Int32) : LqK B 0 0 0 0 (neS s) := by
  refine ⟨?_, fun k hk => absurd hk (by omega), fun k hk => absurd hk (by omega), fun k e hk => absurd hk (by omega), ⟨0, by omega, ?_, fun k hk => absurd hk (by omega)⟩, ⟨0, fun _ => 0, ?_, fun k hk => absurd hk (by omega), by show 0 + 0 ≤ _; omega⟩, fun d hd => absurd hd (by omega)⟩
  all_goals unfold neS
  · rw [upd_same]; exact ⟨12, by omega, by omega, rfl⟩
  · simp (disch := omega) only [upd_ne]; rfl
  · simp (disch := omega) only [upd_ne]; rfl
end LKW
