theorem i2c_n {n : Nat} (h : n < 65536) : ((nI n).toUInt32 % 65536).toInt32 = nI n := Value.int.inj (pk_charN h).1
theorem rdL_le {t : Nat → Int32} {len : Nat} : ∀ (qs : List (Bool × Nat × Nat)) (p : Nat), (rdL t len qs p).2 ≤ p + 2 * qs.length
  | [], p => Nat.le_refl p
  | (false, l, u) :: qs, p => by
    cases h : d1B t len l u p with
    | false => rw [rd1n h]; exact Nat.le_add_right _ _
    | true =>
      rw [rd1y h rfl]
      have := rdL_le qs (p + 1) (t := t) (len := len)
      show _ ≤ p + 2 * (qs.length + 1)
      omega
  | (true, l, u) :: qs, p => by
    cases h : d1B t len (l / 10) (u / 10) p with
    | false => rw [rd2n h]; exact Nat.le_add_right _ _
    | true =>
      cases h2 : d1B t len (lo2 t l p) (hi2 t u p) (p + 1) with
      | false =>
        rw [rd2m h h2]
        show p + 1 ≤ p + 2 * (qs.length + 1)
        omega
      | true =>
        rw [rd2y h h2 rfl]
        have := rdL_le qs (p + 2) (t := t) (len := len)
        show _ ≤ p + 2 * (qs.length + 1)
        omega
theorem flds_len {c : Nat} {qs : List (Bool × Nat × Nat)} (h : flds c = some qs) : qs.length ≤ 6 := by
  unfold flds at h
  repeat' split at h
  all_goals cases h
  all_goals decide
theorem rdC_le {t : Nat → Int32} {len p : Nat} : (rdC t len p).2 ≤ p + 13 := by
  cases hf : flds (ch t p) with
  | none => rw [rdC_no hf]; exact Nat.le_add_right _ _
  | some qs =>
    rw [rdC_yes hf]
    have h1 := rdL_le qs (p + 1) (t := t) (len := len)
    have h2 := flds_len hf
    omega
theorem prs_le {t : Nat → Int32} {len : Nat} : ∀ (n p : Nat), (prs t len n p).2 ≤ max p (len + 13)
  | 0, p => Nat.le_max_left _ _
  | n + 1, p => by
    by_cases hp : p < len
    · cases hr : rdC t len p with
      | mk b e =>
        have h1 := rdC_le (t := t) (len := len) (p := p)
        rw [hr] at h1
        cases b with
        | true =>
          rw [prs_y hp hr]
          have := prs_le n e (t := t) (len := len)
          have h1 : e ≤ p + 13 := h1
          omega
        | false =>
          rw [prs_n hp hr]
          have h1 : e ≤ p + 13 := h1
          show e ≤ _
          omega
    · rw [prs_end hp]
      show p ≤ _
      omega
theorem isSt_le {t : Nat → Int32} {len e : Nat} {b : Bool} (hl : len ≤ 120) (h : isSt t len = (b, e)) : e ≤ 200 := by
  unfold isSt at h
  split at h
  · have := prs_le 120 1 (t := t) (len := len)
    rw [h] at this
    have h1 : e ≤ max 1 (len + 13) := this
    omega
  · cases h; omega
theorem cmd_9 {c : Nat} {s a : Nat → Int32} : cmdT c s a 9 = s 9 := by
  have h1 : ∀ n x y z w, flS s n x y z w 9 = s 9 := fun n x y z w => by unfold flS; simp (disch := omega) only [upd_ne]
  have h2 : ∀ n x y, teS s n x y 9 = s 9 := fun n x y => by unfold teS; simp (disch := omega) only [upd_ne]
  have h3 : ∀ n x y z w u v, clS s n x y z w u v 9 = s 9 := fun n x y z w u v => by unfold clS; simp (disch := omega) only [upd_ne]
  have h4 : ∀ n, daS s n 9 = s 9 := fun n => daS_o (by omega) (by omega)
  have h5 : ∀ n, paS s n 9 = s 9 := fun n => by unfold paS; simp (disch := omega) only [upd_ne]
  have h6 : ∀ d k, enS s d k 9 = s 9 := fun d k => by unfold enS; simp (disch := omega) only [upd_ne]
  have h7 : ∀ d k, leS s d k 9 = s 9 := fun d k => by unfold leS; simp (disch := omega) only [upd_ne]
  have h8 : ∀ n k, drS s n k 9 = s 9 := fun n k => drS_o (by omega) (by omega) (by omega)
  unfold cmdT
  split
  · exact h1 _ _ _ _ _
  split
  · exact h2 _ _ _
  split
  · exact h3 _ _ _ _ _ _ _
  split
  · exact h4 _
  split
  · exact h5 _
  split
  · exact h6 _ _
  split
  · exact h7 _ _
  split
  · exact h8 _ _
  · exact wk_9 _
theorem ld_9 {t : Nat → Int32} {len : Nat} : ∀ (n p : Nat) (s : Nat → Int32) (out : Int32), (ldF t len n p s out).1 9 = s 9
  | 0, _, _, _ => rfl
  | n + 1, p, s, out => by
    show (if p < len then (if cmdG (ch t p) s (cmdA t p) = true then ldF t len n (rdC t len p).2 (cmdT (ch t p) s (cmdA t p)) out else ldF t len n (rdC t len p).2 s (out + 1)) else (s, out)).1 9 = s 9
    split
    · split
      · rw [ld_9 n]; exact cmd_9
      · exact ld_9 n _ _ _
    · rfl
set_option maxRecDepth 100000 in
set_option maxHeartbeats 4000000 in
theorem ct_X7_errorPosition {X : Xs} {κ : Kp} {M : Mem} {Q : Rs → Kp → Mem → Prop} {x : Nat} (hx : IsDF κ.2.1 x) {len : Nat} {t : Nat → Int32} (h2 : M (x + 1) 2 = nI len) (ht : M (x + 1 + 1) = t) (hT : TxOK t len) (hE : ∀ e, isSt t len = (false, e) → ∀ M', FrC M M' (x + 1) → Q (.inl (some (.int (nI e)))) κ M') (hO : ∀ e, isSt t len = (true, e) → ∀ M', FrC M M' (x + 1) → Q (.inl (some (.int (-1)))) κ M') : Ct X m_X7_errorPosition [.ref x] κ M Q := by
  refine ct_of B_X7_errorPosition_0 pn_X7 rfl (nle rfl) L_X7_errorPosition_0 ?_
  refine g_aload_n rfl ?_
  refine g_getR (w := (x + 1)) fl_X7_10 rfl hx.1 rfl ?_
  refine g_callV (as := []) mk_X6_findError ml_X7_64 im_X6_findError se_X6_findError rfl rfl ⟨⟨nle rfl, nle rfl⟩, nle rfl, nle rfl⟩ hx.2.1.1 rfl rfl rfl (nle rfl) ?_
  refine ct_X6_findError hx.2.1 h2 ht hT (fun e he M1 F1 => ?_) (fun e he M1 F1 => ?_)
  · refine kq_s ?_
    refine g_iret rfl (nle rfl) (nle rfl) ?_
    exact hE e he M1 F1
  · refine kq_s ?_
    refine g_iret rfl (nle rfl) (nle rfl) ?_
    exact hO e he M1 F1