/-! ===== actions as functions of the block ===== -/
def IR (B : Nat) (s : Nat → Int32) : Prop := ∃ nf nt nc nd : Nat, Inv B nf nt nc nd s
def SR (B : Nat) (M : Mem) (o : Nat) (s : Nat → Int32) : Prop := ∃ nf nt nc nd : Nat, RepS M o nf nt nc nd s ∧ Inv B nf nt nc nd s
theorem SR.ir {B : Nat} {M : Mem} {o : Nat} {s : Nat → Int32} (h : SR B M o s) : IR B s := by
  obtain ⟨nf, nt, nc, nd, -, h2⟩ := h
  exact ⟨nf, nt, nc, nd, h2⟩
theorem SR.up {B B' : Nat} {M : Mem} {o : Nat} {s : Nat → Int32} (h : SR B M o s) (hB : B ≤ B') : SR B' M o s := by
  obtain ⟨nf, nt, nc, nd, h1, h2⟩ := h
  exact ⟨nf, nt, nc, nd, h1, h2.up hB⟩
theorem SR.fr {B : Nat} {M M' : Mem} {o : Nat} {s : Nat → Int32} (h : SR B M o s) (e : ∀ r, o ≤ r → r < o + 37 → M' r = M r) : SR B M' o s := by
  obtain ⟨nf, nt, nc, nd, h1, h2⟩ := h
  exact ⟨nf, nt, nc, nd, h1.fr h2.lf h2.lt h2.lc h2.ld e, h2⟩
theorem SF.sr {B : Nat} {M : Mem} {o : Nat} {s : Nat → Int32} (h : SF B M o s) : SR B M o s := by
  obtain ⟨nf, nt, nc, nd, h1, h2, -⟩ := h
  exact ⟨nf, nt, nc, nd, h1, h2⟩
theorem SR.sf {B : Nat} {M : Mem} {o : Nat} {s : Nat → Int32} (h : SR B M o s) (h9 : M o 12 = s 9) : SF B M o s := by
  obtain ⟨nf, nt, nc, nd, h1, h2⟩ := h
  exact ⟨nf, nt, nc, nd, h1, h2, h9⟩
theorem SR.r9 {B : Nat} {M : Mem} {o : Nat} {s : Nat → Int32} {x : Int32} (h : SR B M o s) : SR B M o (upd s 9 x) := by
  obtain ⟨nf, nt, nc, nd, h1, h2⟩ := h
  exact ⟨nf, nt, nc, nd, h1.r9, h2.r9⟩
theorem IR.up {B B' : Nat} {s : Nat → Int32} (h : IR B s) (hB : B ≤ B') : IR B' s := by
  obtain ⟨nf, nt, nc, nd, h1⟩ := h
  exact ⟨nf, nt, nc, nd, h1.up hB⟩
def isF (s : Nat → Int32) (v : Int32) : Bool := inB v 0 (s 0 - 1)
def isT (s : Nat → Int32) (v : Int32) : Bool := inB v 0 (s 1 - 1)
def isC (s : Nat → Int32) (v : Int32) : Bool := inB v 0 (s 2 - 1)
def isD (s : Nat → Int32) (v : Int32) : Bool := inB v 0 (s 3 - 1)
def gFl (s : Nat → Int32) : Bool := decide (s 0 < 4)
def gTe (s : Nat → Int32) : Bool := decide (s 1 < 5)
def gDa (s : Nat → Int32) : Bool := decide (s 3 < 12)
def gCl (s : Nat → Int32) (f t : Int32) : Bool := decide (s 2 < 10) && (isF s f && isT s t)
def wCl (s : Nat → Int32) (st lv f t dy hr : Int32) : Int32 := whyI s (cN s 2) st lv (tn f) (tn t) dy hr
def gSe (s : Nat → Int32) (d k : Int32) : Bool := isD s d && isC s k
def wSe (s : Nat → Int32) (d k : Int32) : Int32 := whyS s (cN s 2) (tn d) (tn k) (tn (s (39 + 9 * tn k + 2)))
def gLe (s : Nat → Int32) (d k : Int32) : Bool := isD s d && (isC s k && bitS (s (39 + 9 * tn k + 8)) d)
section GU
variable {B nf nt nc nd : Nat} {s : Nat → Int32}
theorem isX_iff {v : Int32} {n : Nat} (hn : n < 100000) {x : Int32} (hx : x = nI n) : inB v 0 (x - 1) = true ↔ isX v n := by
  subst hx
  exact ⟨fun h => nI_lt_of hn h, by rintro ⟨k, hk, rfl⟩; exact inB_yes hn hk⟩
theorem Inv.xF (h : Inv B nf nt nc nd s) {v : Int32} : isF s v = true ↔ isX v nf := isX_iff (by have := h.lf; omega) h.f
theorem Inv.xT (h : Inv B nf nt nc nd s) {v : Int32} : isT s v = true ↔ isX v nt := isX_iff (by have := h.lt; omega) h.t
theorem Inv.xC (h : Inv B nf nt nc nd s) {v : Int32} : isC s v = true ↔ isX v nc := isX_iff (by have := h.lc; omega) h.c
theorem Inv.xD (h : Inv B nf nt nc nd s) {v : Int32} : isD s v = true ↔ isX v nd := isX_iff (by have := h.ld; omega) h.d
theorem Inv.n0 (h : Inv B nf nt nc nd s) : cN s 0 = nf := by unfold cN; rw [h.f]; exact nI_clamp (by have := h.lf; omega)
theorem Inv.n1 (h : Inv B nf nt nc nd s) : cN s 1 = nt := by unfold cN; rw [h.t]; exact nI_clamp (by have := h.lt; omega)
theorem Inv.n2 (h : Inv B nf nt nc nd s) : cN s 2 = nc := by unfold cN; rw [h.c]; exact nI_clamp (by have := h.lc; omega)
theorem Inv.n3 (h : Inv B nf nt nc nd s) : cN s 3 = nd := by unfold cN; rw [h.d]; exact nI_clamp (by have := h.ld; omega)
theorem lt_iff {x : Int32} {n b : Nat} (hx : x = nI n) (hn : n < 1000) (hb : b < 1000) : decide (x < nI b) = decide (n < b) := by
  subst hx
  exact decide_eq_decide.mpr (nI_ltI (by omega) (by omega))
theorem Inv.qFl (h : Inv B nf nt nc nd s) : gFl s = decide (nf < 4) := lt_iff (b := 4) h.f (by have := h.lf; omega) (by omega)
theorem Inv.qTe (h : Inv B nf nt nc nd s) : gTe s = decide (nt < 5) := lt_iff (b := 5) h.t (by have := h.lt; omega) (by omega)
theorem Inv.qDa (h : Inv B nf nt nc nd s) : gDa s = decide (nd < 12) := lt_iff (b := 12) h.d (by have := h.ld; omega) (by omega)
theorem Inv.qCl (h : Inv B nf nt nc nd s) {f t : Int32} : gCl s f t = true ↔ (nc < 10 ∧ isX f nf ∧ isX t nt) := by
  unfold gCl
  rw [Bool.and_eq_true, Bool.and_eq_true, h.xF, h.xT]
  have e : decide (s 2 < 10) = decide (nc < 10) := lt_iff (b := 10) h.c (by have := h.lc; omega) (by omega)
  rw [e, decide_eq_true_iff]
theorem Inv.qSe (h : Inv B nf nt nc nd s) {d k : Int32} : gSe s d k = true ↔ (isX d nd ∧ isX k nc) := by
  unfold gSe
  rw [Bool.and_eq_true, h.xD, h.xC]
theorem Inv.qLe (h : Inv B nf nt nc nd s) {d k : Int32} : gLe s d k = true ↔ seatX s nc nd d k := by
  have bn := h.ld
  have bc := h.lc
  unfold gLe seatX
  rw [Bool.and_eq_true, Bool.and_eq_true, h.xD, h.xC]
  constructor
  · rintro ⟨⟨d', hd, rfl⟩, ⟨k', hk, rfl⟩, hb⟩
    rw [tn_nI (by omega)] at hb
    exact ⟨d', k', hd, hk, rfl, rfl, hb⟩
  · rintro ⟨d', k', hd, hk, rfl, rfl, hb⟩
    exact ⟨⟨d', hd, rfl⟩, ⟨k', hk, rfl⟩, by rw [tn_nI (by omega)]; exact hb⟩
theorem Inv.qPa (h : Inv B nf nt nc nd s) {d : Int32} : cpass s d = true ↔ passX s nd d := by
  have bn := h.ld
  unfold passX
  constructor
  · intro q
    unfold cpass at q
    rw [Bool.and_eq_true] at q
    obtain ⟨d', hd, rfl⟩ := h.xD.mp q.1
    have q2 := of_decide_eq_true q.2
    rw [nI_clamp (by omega)] at q2
    exact ⟨d', hd, rfl, q2⟩
  · rintro ⟨d', hd, rfl, q⟩
    rw [cpass_yes h.d bn hd]
    exact decide_eq_true q
theorem b_no {b : Bool} {P : Prop} (h : b = true ↔ P) (hn : ¬ P) : b = false := by
  cases hb : b with
  | false => rfl
  | true => exact absurd (h.mp hb) hn
end GU
/-! the class's actions over SR -/
section KACT
variable {X : Xs} {κ : Kp} {M : Mem} {Q : Rs → Kp → Mem → Prop} {o : Nat} {B : Nat} {s : Nat → Int32}
theorem k_addFloor (ho : IsStu κ.2.1 o) (hS : SR B M o s) {a b c d : Int32} (hb : bd 0 4 b) (hc : bd 0 60 c) (hd : bd 1 30 d) (hN : gFl s = false → Q (.inl (some (.int (-1)))) κ M) (hY : gFl s = true → ∀ n, n < 4 → cN s 0 = n → ∀ M', SR B M' o (flS s (cN s 0) a b c d) → FrS M M' o → Q (.inl (some (.int (nI n)))) κ M') : Ct X m_X4_addFloor [.ref o, .int a, .int b, .int c, .int d] κ M Q := by
  obtain ⟨nf, nt, nc, nd, hr, hI⟩ := hS
  rw [hI.n0] at hY
  rw [hI.qFl] at hN hY
  exact ct_X4_addFloor ho hr hI (fun h => hN (decide_eq_false h)) (fun h M' hr' hF => hY (decide_eq_true h) nf h rfl M' ⟨_, _, _, _, hr', inv_fl hI h hb hc hd⟩ hF)
theorem k_addTeacher (ho : IsStu κ.2.1 o) (hS : SR B M o s) {a b : Int32} (hN : gTe s = false → Q (.inl (some (.int (-1)))) κ M) (hY : gTe s = true → ∀ n, n < 5 → cN s 1 = n → ∀ M', SR B M' o (teS s (cN s 1) a b) → FrS M M' o → Q (.inl (some (.int (nI n)))) κ M') : Ct X m_X4_addTeacher [.ref o, .int a, .int b] κ M Q := by
  obtain ⟨nf, nt, nc, nd, hr, hI⟩ := hS
  rw [hI.n1] at hY
  rw [hI.qTe] at hN hY
  exact ct_X4_addTeacher ho hr hI (fun h => hN (decide_eq_false h)) (fun h M' hr' hF => hY (decide_eq_true h) nt h rfl M' ⟨_, _, _, _, hr', inv_te hI h⟩ hF)
theorem k_addDancer (ho : IsStu κ.2.1 o) (hS : SR B M o s) (hN : gDa s = false → Q (.inl (some (.int (-1)))) κ M) (hY : gDa s = true → ∀ n, n < 12 → cN s 3 = n → ∀ M', SR B M' o (daS s (cN s 3)) → FrS M M' o → Q (.inl (some (.int (nI n)))) κ M') : Ct X m_X4_addDancer [.ref o] κ M Q := by
  obtain ⟨nf, nt, nc, nd, hr, hI⟩ := hS
  rw [hI.n3] at hY
  rw [hI.qDa] at hN hY
  exact ct_X4_addDancer ho hr hI (fun h => hN (decide_eq_false h)) (fun h M' hr' hF => hY (decide_eq_true h) nd h rfl M' ⟨_, _, _, _, hr', inv_da hI h⟩ hF)
theorem k_addLesson (ho : IsStu κ.2.1 o) (hS : SR B M o s) {st lv f t dy hr_ : Int32} (hdy : bd 0 5 dy) (hN : gCl s f t = false → Q (.inl (some (.int (-1)))) κ M) (hW : gCl s f t = true → ¬ wCl s st lv f t dy hr_ = 0 → Q (.inl (some (.int (wCl s st lv f t dy hr_)))) κ M) (hY : gCl s f t = true → wCl s st lv f t dy hr_ = 0 → ∀ M', SR B M' o (clS s (cN s 2) st lv f t dy hr_) → FrS M M' o → Q (.inl (some (.int 0))) κ M') : Ct X m_X4_addLesson [.ref o, .int st, .int lv, .int f, .int t, .int dy, .int hr_] κ M Q := by
  obtain ⟨nf, nt, nc, nd, hr, hI⟩ := hS
  have bf := hI.lf
  have bt := hI.lt
  refine ct_X4_addLesson ho hr hI (fun h => hN (b_no hI.qCl h)) (fun h1 f' t' hf ht ef et hw => ?_) (fun h1 f' t' hf ht ef et hw M' hr' hF => ?_)
  · subst ef et
    have hg := hI.qCl.mpr ⟨h1, ⟨f', hf, rfl⟩, ⟨t', ht, rfl⟩⟩
    have e : wCl s st lv (nI f') (nI t') dy hr_ = whyI s nc st lv f' t' dy hr_ := by unfold wCl; rw [hI.n2, tn_nI (by omega), tn_nI (by omega)]
    rw [e] at hW
    exact hW hg hw
  · subst ef et
    have hg := hI.qCl.mpr ⟨h1, ⟨f', hf, rfl⟩, ⟨t', ht, rfl⟩⟩
    have e : wCl s st lv (nI f') (nI t') dy hr_ = whyI s nc st lv f' t' dy hr_ := by unfold wCl; rw [hI.n2, tn_nI (by omega), tn_nI (by omega)]
    rw [e, hI.n2] at hY
    exact hY hg hw M' ⟨_, _, _, _, hr', inv_cl hI h1 hf hdy⟩ hF
theorem k_dropLesson (ho : IsStu κ.2.1 o) (hS : SR B M o s) {k : Int32} (hN : isC s k = false → Q (.inl (some (.int (-1)))) κ M) (hY : isC s k = true → ∀ M', SR B M' o (drS s (cN s 2) (tn k)) → FrS M M' o → Q (.inl (some (.int (bitsI (s (39 + 9 * tn k + 8)))))) κ M') : Ct X m_X4_dropLesson [.ref o, .int k] κ M Q := by
  obtain ⟨nf, nt, nc, nd, hr, hI⟩ := hS
  have bc := hI.lc
  refine ct_X4_dropLesson ho hr hI (fun h => hN (b_no hI.xC h)) (fun k' hk ek M' hr' hF => ?_)
  subst ek
  rw [hI.n2, tn_nI (by omega)] at hY
  exact hY (hI.xC.mpr ⟨k', hk, rfl⟩) M' ⟨_, _, _, _, hr', inv_dr hI hk⟩ hF
theorem k_givePass (ho : IsStu κ.2.1 o) (hS : SR B M o s) {d : Int32} (hN : cpass s d = false → Q (.inl (some (.int (-1)))) κ M) (hY : cpass s d = true → ∀ n, n < 90 → s (129 + 5 * tn d + 2) = nI n → ∀ M', SR B M' o (paS s (tn d)) → FrS M M' o → Q (.inl (some (.int (nI (n + 10))))) κ M') : Ct X m_X4_givePass [.ref o, .int d] κ M Q := by
  obtain ⟨nf, nt, nc, nd, hr, hI⟩ := hS
  have bn := hI.ld
  refine ct_X4_givePass ho hr hI (fun h => hN (b_no hI.qPa h)) (fun d' hd ed hl M' hr' hF => ?_)
  subst ed
  rw [tn_nI (by omega)] at hY
  obtain ⟨n, -, n2, n3⟩ := (hI.da hd).1
  have h90 : n < 90 := by
    rw [n3] at hl
    exact (nI_ltI (a := n) (b := 90) (by omega) (by omega)).mp hl
  refine qeq (hY (hI.qPa.mpr ⟨d', hd, rfl, hl⟩) n h90 n3 M' ⟨_, _, _, _, hr', inv_pa hI hd hl⟩ hF) ?_ rfl
  rw [n3]
  exact nI_add n 10
theorem k_takeSeat (ho : IsStu κ.2.1 o) (hS : SR B M o s) {d k : Int32} (hN : gSe s d k = false → Q (.inl (some (.int (-1)))) κ M) (hW : gSe s d k = true → ¬ wSe s d k = 0 → Q (.inl (some (.int (wSe s d k)))) κ M) (hY : gSe s d k = true → wSe s d k = 0 → ∀ M', SR B M' o (enS s d (tn k)) → FrS M M' o → Q (.inl (some (.int 0))) κ M') : Ct X m_X4_takeSeat [.ref o, .int d, .int k] κ M Q := by
  obtain ⟨nf, nt, nc, nd, hr, hI⟩ := hS
  have bn := hI.ld
  have bc := hI.lc
  have bf := hI.lf
  refine ct_X4_takeSeat ho hr hI (fun h => hN (b_no hI.qSe h)) (fun d' k' f hd hk hf ed ek ef hw => ?_) (fun d' k' f hd hk hf ed ek ef hw M' hr' hF => ?_)
  · subst ed ek
    have e : wSe s (nI d') (nI k') = whyS s nc d' k' f := by unfold wSe; rw [hI.n2, tn_nI (by omega), tn_nI (by omega), ef, tn_nI (by omega)]
    rw [e] at hW
    exact hW (hI.qSe.mpr ⟨⟨d', hd, rfl⟩, ⟨k', hk, rfl⟩⟩) hw
  · subst ed ek
    have e : wSe s (nI d') (nI k') = whyS s nc d' k' f := by unfold wSe; rw [hI.n2, tn_nI (by omega), tn_nI (by omega), ef, tn_nI (by omega)]
    rw [e, tn_nI (by omega)] at hY
    exact hY (hI.qSe.mpr ⟨⟨d', hd, rfl⟩, ⟨k', hk, rfl⟩⟩) hw M' ⟨_, _, _, _, hr', inv_en hI hd hk (whyS_bit hw)⟩ hF
theorem k_giveUpSeat (ho : IsStu κ.2.1 o) (hS : SR B M o s) {d k : Int32} (hN : gLe s d k = false → Q (.inl (some (.int (-1)))) κ M) (hY : gLe s d k = true → ∀ M', SR B M' o (leS s d (tn k)) → FrS M M' o → Q (.inl (some (.int (bitsI (leS s d (tn k) (39 + 9 * tn k + 8)))))) κ M') : Ct X m_X4_giveUpSeat [.ref o, .int d, .int k] κ M Q := by
  obtain ⟨nf, nt, nc, nd, hr, hI⟩ := hS
  have bc := hI.lc
  refine ct_X4_giveUpSeat ho hr hI (fun h => hN (b_no hI.qLe h)) (fun d' k' hd hk ed ek hb M' hr' hF => ?_)
  subst ed ek
  rw [tn_nI (by omega)] at hY
  exact hY (hI.qLe.mpr ⟨d', k', hd, hk, rfl, rfl, hb⟩) M' ⟨_, _, _, _, hr', inv_le hI hd hk hb⟩ hF
/-- few uses in few weeks -/
theorem bitsN_nn {x : Int32} : ∀ n, ∃ u, u ≤ n ∧ bitsN n x = nI u
  | 0 => ⟨0, Nat.le_refl _, rfl⟩
  | n + 1 => by
    obtain ⟨u, h1, h2⟩ := bitsN_nn (x := x) n
    show ∃ v, v ≤ n + 1 ∧ bitsN n x + (x >>> (nI n &&& 31) &&& 1) = nI v
    rw [h2, and1_bt]
    split
    · exact ⟨u + 1, by omega, nI_1 u⟩
    · exact ⟨u, by omega, add_z _⟩
theorem bits_nn (x : Int32) : ∃ u, u ≤ 12 ∧ bitsI x = nI u := bitsN_nn 12
theorem cls_6 {nf nt nc nd : Nat} (hI : Inv B nf nt nc nd s) : ∀ k, k ≤ nc → ∃ u, u ≤ 12 * k ∧ clsN nd k s 6 = s 6 + nI u
  | 0, _ => ⟨0, Nat.le_refl _, (add_z _).symm⟩
  | k + 1, hk => by
    obtain ⟨u, h1, h2⟩ := cls_6 hI k (by omega)
    have hk2 := (invW_c hI k (by omega)).1
    have e : clsN nd (k + 1) s 6 = stepC nd (clsN nd k s) k 6 := rfl
    by_cases h : bitsI (comI (clsN nd k s) k nd) < (clsN nd k s) 11
    · have q := step_6n h
      refine ⟨u, by omega, ?_⟩
      rw [e, ← h2]
      grind
    · have q := step_6y hk2 h
      obtain ⟨v, h3, h4⟩ := bits_nn (comI (clsN nd k s) k nd)
      refine ⟨u + v, by omega, ?_⟩
      rw [e, ← nI_add, ← Int32.add_assoc, ← h2, ← h4]
      grind
theorem week_nn {nf nt nc nd : Nat} (hI : Inv B nf nt nc nd s) : ∃ u, u ≤ 120 ∧ weekS nc nd s 6 = s 6 + nI u := by
  obtain ⟨u, h1, h2⟩ := cls_6 (inv_lo (i := 4) (x := s 4 + 1) (Or.inl rfl) hI) nc (Nat.le_refl _)
  have hc := hI.lc
  refine ⟨u, by omega, ?_⟩
  unfold weekS
  rw [ri_l (by omega), h2, upd_ne (by omega)]
theorem wk_nn {nf nt nc nd : Nat} (hI : Inv B nf nt nc nd s) : ∀ n, ∃ u, u ≤ 120 * n ∧ wkN nc nd n s 6 = s 6 + nI u
  | 0 => ⟨0, Nat.le_refl _, (add_z _).symm⟩
  | n + 1 => by
    obtain ⟨u, h1, h2⟩ := wk_nn hI n
    obtain ⟨v, h3, h4⟩ := week_nn (inv_wk hI n)
    refine ⟨u + v, by omega, ?_⟩
    show weekS nc nd (wkN nc nd n s) 6 = _
    rw [h4, h2, ← nI_add, Int32.add_assoc]
def wkC (n : Nat) (s : Nat → Int32) : Nat → Int32 := wkN (cN s 2) (cN s 3) n s
theorem k_passWeeks (ho : IsStu κ.2.1 o) (hS : SR B M o s) {v : Int32} (n : Nat) (hv : v = nI n) (hn : n < 10000) (hY : ∀ u M', u ≤ 120 * n → wkC n s 6 = s 6 + nI u → SR (B + n) M' o (wkC n s) → FrS M M' o → Q (.inl (some (.int (nI u)))) κ M') : Ct X m_X4_passWeeks [.ref o, .int v] κ M Q := by
  obtain ⟨nf, nt, nc, nd, hr, hI⟩ := hS
  obtain ⟨u, h1, h2⟩ := wk_nn hI n
  unfold wkC at hY
  rw [hI.n2, hI.n3] at hY
  refine ct_X4_passWeeks ho hr hI n hv (by omega) (fun M' hr' hF => ?_)
  refine qeq (hY u M' h1 h2 ⟨_, _, _, _, hr', inv_wk hI n⟩ hF) ?_ rfl
  rw [h2]
  grind
theorem k_copyFrom (ho : IsStu κ.2.1 o) {o2 : Nat} (ho2 : IsStu κ.2.1 o2) (hd : o + 37 ≤ o2 ∨ o2 + 37 ≤ o) (hS : SF B M o2 s) (hY : ∀ M', SF B M' o s → (∀ r, r < o ∨ o + 37 ≤ r → M' r = M r) → Q (.inl none) κ M') : Ct X m_X4_copyFrom [.ref o, .ref o2] κ M Q := by
  obtain ⟨nf, nt, nc, nd, hr, hI, h9⟩ := hS
  exact ct_X4_copyFrom ho ho2 hd hr hI (fun M' hr' h12 hF => hY M' ⟨_, _, _, _, hr', hI, h12.trans h9⟩ hF)
end KACT
