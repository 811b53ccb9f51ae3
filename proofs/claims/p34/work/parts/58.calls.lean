/-! ===== p34: the object, and its calls as the law makes them ===== -/
def OB (B : Nat) (M : Mem) (o : Nat) (s : Nat → Int32) (cnt : Nat) (blk : Nat → Nat → Int32) : Prop :=
  SF B M (o + 4) s ∧ HisOK B M (o + 78) cnt blk ∧ M (o + 1) 2 = 0 ∧ ∃ (fb : Nat → Bool) (sv : Nat → Nat → Int32), (∀ k, k < 2 → M (o + 673) k = bI (fb k)) ∧ ∀ k, k < 2 → fb k = true → SF B M (o + 599 + 37 * k) (sv k)
theorem OB.frA {B B' o cnt cnt' : Nat} {M M' : Mem} {s s' : Nat → Int32} {blk blk' : Nat → Nat → Int32} (h : OB B M o s cnt blk) (hB : B ≤ B') (hF : FrA M M' o) (hS : SF B' M' (o + 4) s') (hH : HisOK B' M' (o + 78) cnt' blk') : OB B' M' o s' cnt' blk' := by
  obtain ⟨-, -, h3, fb, sv, h4, h5⟩ := h
  refine ⟨hS, hH, by rw [hF _ (by omega) (by omega)]; exact h3, fb, sv, fun k hk => by rw [hF _ (by omega) (by omega)]; exact h4 k hk, fun k hk hb => ((h5 k hk hb).fr fun r a b => hF r (by omega) (by omega)).up hB⟩
theorem OB.scr {B o cnt : Nat} {M M' : Mem} {s : Nat → Int32} {blk : Nat → Nat → Int32} (h : OB B M o s cnt blk) (hF : ∀ r, r < o + 41 ∨ o + 78 ≤ r → M' r = M r) : OB B M' o s cnt blk := by
  obtain ⟨h1, h2, h3, fb, sv, h4, h5⟩ := h
  exact ⟨h1.fr fun r a b => hF r (by omega), h2.fr fun r a b => hF r (by omega), by rw [hF _ (by omega)]; exact h3, fb, sv, fun k hk => by rw [hF _ (by omega)]; exact h4 k hk, fun k hk hb => (h5 k hk hb).fr fun r a b => hF r (by omega)⟩
theorem OB.txt {B o cnt : Nat} {M M' : Mem} {s : Nat → Int32} {blk : Nat → Nat → Int32} (h : OB B M o s cnt blk) (hF : FrC M M' (o + 1)) : OB B M' o s cnt blk := by
  obtain ⟨h1, h2, h3, fb, sv, h4, h5⟩ := h
  exact ⟨h1.fr fun r a b => hF.1 r (by omega) (by omega), h2.fr fun r a b => hF.1 r (by omega) (by omega), hF.2.trans h3, fb, sv, fun k hk => by rw [hF.1 _ (by omega) (by omega)]; exact h4 k hk, fun k hk hb => (h5 k hk hb).fr fun r a b => hF.1 r (by omega) (by omega)⟩
theorem OB.out {B o cnt : Nat} {M M' : Mem} {s : Nat → Int32} {blk : Nat → Nat → Int32} (h : OB B M o s cnt blk) (hF : ∀ r, r < o + 674 → M' r = M r) : OB B M' o s cnt blk := by
  obtain ⟨h1, h2, h3, fb, sv, h4, h5⟩ := h
  exact ⟨h1.fr fun r a b => hF r (by omega), h2.fr fun r a b => hF r (by omega), by rw [hF _ (by omega)]; exact h3, fb, sv, fun k hk => by rw [hF _ (by omega)]; exact h4 k hk, fun k hk hb => (h5 k hk hb).fr fun r a b => hF r (by omega)⟩
theorem OB.up {B B' o cnt : Nat} {M : Mem} {s : Nat → Int32} {blk : Nat → Nat → Int32} (h : OB B M o s cnt blk) (hB : B ≤ B') : OB B' M o s cnt blk := by
  obtain ⟨h1, h2, h3, fb, sv, h4, h5⟩ := h
  exact ⟨h1.up hB, h2.up hB, h3, fb, sv, h4, fun k hk hb => (h5 k hk hb).up hB⟩
theorem in_bd {x : Int32} {lo hi : Nat} (h : bd lo hi x) (hh : hi < 1000) : inB x (nI lo) (nI hi) = true := by
  obtain ⟨n, h1, h2, rfl⟩ := h
  unfold inB
  rw [decide_eq_true ((nI_leI (by omega) (by omega)).mpr h1), decide_eq_true ((nI_leI (by omega) (by omega)).mpr h2)]
  rfl
theorem no_in {b : Bool} (h : b = true) : b = false → False := fun q => by rw [h] at q; cases q
/-- (v & 0x7fffffff) % n -/
def upN (v : Int32) (m : Nat) : Nat := v.toBitVec.toNat % 2 ^ 31 % m
theorem upN_lt (v : Int32) {m : Nat} (h : 1 ≤ m) : upN v m < m := Nat.mod_lt _ h
theorem bd_up {v : Int32} {m : Nat} (h : 1 ≤ m) : bd 0 (m - 1) (nI (upN v m)) := ⟨_, Nat.zero_le _, by have := upN_lt v h; omega, rfl⟩
theorem bd_1up {v : Int32} {m : Nat} (h : 1 ≤ m) : bd 1 m (1 + nI (upN v m)) := ⟨1 + upN v m, by omega, by have := upN_lt v h; omega, nI_add 1 _⟩
section LWC
variable {X : Xs} {κ : Kp} {M : Mem} {Q : Rs → Kp → Mem → Prop} {o B nf nt nc nd : Nat} {s : Nat → Int32}
theorem l_about (hx : IsDF κ.2.1 o) (hS : SF B M (o + 4) s) {w : Nat} {v : Int32} (hw : w < 12) (hv : abV s w = v) (hQ : Q (.inl (some (.int v))) κ M) : Ct X m_X7_about [.ref o, .int (nI w)] κ M Q := by
  subst hv
  refine ct_X7_about hx hS (no_in (in_bd (lo := 0) (hi := 11) ⟨w, by omega, by omega, rfl⟩ (by omega))) (fun w' hw' e => ?_)
  obtain rfl := (nI_eq (by omega) (by omega)).mp e
  exact hQ
theorem l_floorOf (hx : IsDF κ.2.1 o) (hS : SF B M (o + 4) s) (hI : Inv B nf nt nc nd s) {k w : Nat} {v : Int32} (hk : k < nf) (hw : w < 6) (hv : flV s k w = v) (hQ : Q (.inl (some (.int v))) κ M) : Ct X m_X7_floorOf [.ref o, .int (nI k), .int (nI w)] κ M Q := by
  subst hv
  have hc := hI.lf
  refine ct_X7_floorOf hx hS (no_in (hI.xF.mpr ⟨k, hk, rfl⟩)) (fun _ => no_in (in_bd (lo := 0) (hi := 5) ⟨w, by omega, by omega, rfl⟩ (by omega))) (fun _ k' hk' e w' hw' e' => ?_)
  obtain rfl := (nI_eq (by omega) (by omega)).mp e
  obtain rfl := (nI_eq (by omega) (by omega)).mp e'
  exact hQ
theorem l_teacherOf (hx : IsDF κ.2.1 o) (hS : SF B M (o + 4) s) (hI : Inv B nf nt nc nd s) {k w : Nat} {v : Int32} (hk : k < nt) (hw : w < 4) (hv : teV s k w = v) (hQ : Q (.inl (some (.int v))) κ M) : Ct X m_X7_teacherOf [.ref o, .int (nI k), .int (nI w)] κ M Q := by
  subst hv
  have hc := hI.lt
  refine ct_X7_teacherOf hx hS (no_in (hI.xT.mpr ⟨k, hk, rfl⟩)) (fun _ => no_in (in_bd (lo := 0) (hi := 3) ⟨w, by omega, by omega, rfl⟩ (by omega))) (fun _ k' hk' e w' hw' e' => ?_)
  obtain rfl := (nI_eq (by omega) (by omega)).mp e
  obtain rfl := (nI_eq (by omega) (by omega)).mp e'
  exact hQ
theorem l_classOf (hx : IsDF κ.2.1 o) (hS : SF B M (o + 4) s) (hI : Inv B nf nt nc nd s) {k w : Nat} {v : Int32} (hk : k < nc) (hw : w < 10) (hv : clV s k w = v) (hQ : Q (.inl (some (.int v))) κ M) : Ct X m_X7_classOf [.ref o, .int (nI k), .int (nI w)] κ M Q := by
  subst hv
  have hc := hI.lc
  refine ct_X7_classOf hx hS (no_in (hI.xC.mpr ⟨k, hk, rfl⟩)) (fun _ => no_in (in_bd (lo := 0) (hi := 9) ⟨w, by omega, by omega, rfl⟩ (by omega))) (fun _ k' hk' e w' hw' e' => ?_)
  obtain rfl := (nI_eq (by omega) (by omega)).mp e
  obtain rfl := (nI_eq (by omega) (by omega)).mp e'
  exact hQ
theorem l_dancerOf (hx : IsDF κ.2.1 o) (hS : SF B M (o + 4) s) (hI : Inv B nf nt nc nd s) {k w : Nat} {v : Int32} (hk : k < nd) (hw : w < 6) (hv : daV s k w = v) (hQ : Q (.inl (some (.int v))) κ M) : Ct X m_X7_dancerOf [.ref o, .int (nI k), .int (nI w)] κ M Q := by
  subst hv
  have hc := hI.ld
  refine ct_X7_dancerOf hx hS (no_in (hI.xD.mpr ⟨k, hk, rfl⟩)) (fun _ => no_in (in_bd (lo := 0) (hi := 5) ⟨w, by omega, by omega, rfl⟩ (by omega))) (fun _ k' hk' e w' hw' e' => ?_)
  obtain rfl := (nI_eq (by omega) (by omega)).mp e
  obtain rfl := (nI_eq (by omega) (by omega)).mp e'
  exact hQ
theorem l_uses (hx : IsDF κ.2.1 o) (hS : SF B M (o + 4) s) {w : Nat} (hw : w < 2) (hQ : Q (.inl (some (.int (s 6)))) κ M) : Ct X m_X7_uses [.ref o, .int (nI w)] κ M Q :=
  ct_X7_uses hx hS (no_in (in_bd (lo := 0) (hi := 1) ⟨w, by omega, by omega, rfl⟩ (by omega))) (fun _ => hQ)
theorem l_setting (hx : IsDF κ.2.1 o) (hS : SF B M (o + 4) s) {w : Nat} (hw : w < 2) {v : Int32} (hv : s (11 + w) = v) (hQ : Q (.inl (some (.int v))) κ M) : Ct X m_X7_setting [.ref o, .int (nI w)] κ M Q := by
  subst hv
  refine ct_X7_setting hx hS (no_in (in_bd (lo := 0) (hi := 1) ⟨w, by omega, by omega, rfl⟩ (by omega))) (fun _ k hk e => ?_)
  obtain rfl := (nI_eq (by omega) (by omega)).mp e
  exact hQ
theorem l_emptyIn (hx : IsDF κ.2.1 o) (hI : Inv B nf nt nc nd s) {cnt : Nat} {blk : Nat → Nat → Int32} (hO : OB B M o s cnt blk) {d : Nat} (hd : d < nd) (hQ : ∀ M', OB B M' o s cnt blk → Q (.inl (some (.int (emF (leftF s d) 100 0)))) κ M') : Ct X m_X7_emptyIn [.ref o, .int (nI d)] κ M Q := by
  have hc := hI.ld
  refine ct_X7_emptyIn hx hO.1 (no_in (hI.xD.mpr ⟨d, hd, rfl⟩)) (fun _ d' hd' e M' hF => ?_)
  obtain rfl := (nI_eq (by omega) (by omega)).mp e
  exact hQ M' (hO.scr hF)
theorem l_errorPosition (hx : IsDF κ.2.1 o) {cnt : Nat} {blk : Nat → Nat → Int32} (hO : OB B M o s cnt blk) (hQ : ∀ M', OB B M' o s cnt blk → Q (.inl (some (.int 0))) κ M') : Ct X m_X7_errorPosition [.ref o] κ M Q := by
  refine ct_X7_errorPosition hx (len := 0) hO.2.2.1 rfl ⟨by omega, fun j hj => absurd hj (by omega)⟩ (fun e he M' hF => ?_) (fun e he M' hF => ?_)
  · unfold isSt at he
    rw [if_neg (by omega)] at he
    have : e = 0 := (Prod.mk.inj he).2.symm
    subst this
    exact hQ M' (hO.txt hF)
  · unfold isSt at he
    rw [if_neg (by omega)] at he
    exact absurd (Prod.mk.inj he).1 (by decide)
theorem l_held (hx : IsDF κ.2.1 o) (hI : Inv B nf nt nc nd s) (hB : B < 1000000) {cnt : Nat} {blk : Nat → Nat → Int32} (hO : OB B M o s cnt blk) (hQ : ∀ M', OB B M' o s cnt blk → Q (.inl (some (.int (weekH nc nd s)))) κ M') : Ct X m_X7_held [.ref o] κ M Q := by
  refine ct_X7_held hx hO.1 hB (fun M' hF => ?_)
  rw [hI.n2, hI.n3]
  exact hQ M' (hO.scr hF)
theorem l_simulate (hx : IsDF κ.2.1 o) {cnt : Nat} {blk : Nat → Nat → Int32} (hO : OB B M o s cnt blk) {seed : Int64} {m : Int32} (hm : bd 1 100 m) (hQ : ∀ M', OB B M' o s cnt blk → Q (.inl (some (.int (siV s (siS seed (tn m) s))))) κ M') : Ct X m_X7_simulate [.ref o, .long seed, .int m] κ M Q := by
  refine ct_X7_simulate hx hO.1 (no_in (in_bd (lo := 1) (hi := 100) hm (by omega))) (fun _ n h1 h2 e M' hF => ?_)
  subst e
  have h := hQ M' (hO.scr hF)
  rw [tn_nI (by omega)] at h
  exact h
theorem l_why (hx : IsDF κ.2.1 o) (hS : SF B M (o + 4) s) (hI : Inv B nf nt nc nd s) {st lv dy hr : Int32} {f t : Nat} (hf : f < nf) (ht : t < nt) (h1 : bd 0 3 st) (h2 : bd 1 5 lv) (h3 : bd 0 5 dy) (h4 : bd 0 5 hr) (hQ : Q (.inl (some (.int (whyI s nc st lv f t dy hr)))) κ M) : Ct X m_X7_why [.ref o, .int st, .int lv, .int (nI f), .int (nI t), .int dy, .int hr] κ M Q := by
  have bf := hI.lf
  have bt := hI.lt
  have e1 : (isF s (nI f) && isT s (nI t)) = true := by rw [hI.xF.mpr ⟨f, hf, rfl⟩, hI.xT.mpr ⟨t, ht, rfl⟩]; rfl
  have e2 : isTm st lv dy hr = true := by
    unfold isTm
    rw [show inB st 0 3 = true from in_bd (lo := 0) (hi := 3) h1 (by omega), show inB lv 1 5 = true from in_bd (lo := 1) (hi := 5) h2 (by omega), show inB dy 0 5 = true from in_bd (lo := 0) (hi := 5) h3 (by omega), show inB hr 0 5 = true from in_bd (lo := 0) (hi := 5) h4 (by omega)]; rfl
  refine ct_X7_why hx hS (no_in e1) (fun _ => no_in e2) (fun _ _ => ?_)
  unfold wCl
  rw [hI.n2, tn_nI (by omega), tn_nI (by omega)]
  exact hQ
theorem l_whySeat (hx : IsDF κ.2.1 o) (hS : SF B M (o + 4) s) (hI : Inv B nf nt nc nd s) {d k : Nat} (hd : d < nd) (hk : k < nc) (hQ : Q (.inl (some (.int (wSe s (nI d) (nI k))))) κ M) : Ct X m_X7_whySeat [.ref o, .int (nI d), .int (nI k)] κ M Q :=
  ct_X7_whySeat hx hS (no_in (hI.qSe.mpr ⟨⟨d, hd, rfl⟩, ⟨k, hk, rfl⟩⟩)) (fun _ => hQ)
theorem l_bestFloor (hx : IsDF κ.2.1 o) (hS : SF B M (o + 4) s) (hI : Inv B nf nt nc nd s) {st lv dy hr : Int32} {t : Nat} (ht : t < nt) (h1 : bd 0 3 st) (h2 : bd 1 5 lv) (h3 : bd 0 5 dy) (h4 : bd 0 5 hr) (hQ : Q (.inl (some (.int (bfC s nc st lv t dy hr nf).1))) κ M) : Ct X m_X7_bestFloor [.ref o, .int st, .int lv, .int (nI t), .int dy, .int hr] κ M Q := by
  have bt := hI.lt
  have e2 : isTm st lv dy hr = true := by
    unfold isTm
    rw [show inB st 0 3 = true from in_bd (lo := 0) (hi := 3) h1 (by omega), show inB lv 1 5 = true from in_bd (lo := 1) (hi := 5) h2 (by omega), show inB dy 0 5 = true from in_bd (lo := 0) (hi := 5) h3 (by omega), show inB hr 0 5 = true from in_bd (lo := 0) (hi := 5) h4 (by omega)]; rfl
  refine ct_X7_bestFloor hx hS (no_in (hI.xT.mpr ⟨t, ht, rfl⟩)) (fun _ => no_in e2) (fun _ _ => ?_)
  rw [hI.n2, hI.n0, tn_nI (by omega)]
  exact hQ
/-! actions -/
variable {cnt : Nat} {blk : Nat → Nat → Int32}
theorem l_floor (hx : IsDF κ.2.1 o) (hI : Inv B nf nt nc nd s) (hO : OB B M o s cnt blk) {a b c d : Int32} (h1 : bd 1 9 a) (h2 : bd 0 4 b) (h3 : bd 0 60 c) (h4 : bd 1 30 d) (hn : nf < 4) (hQ : ∀ M', OB B M' o (flS s nf a b c d) (remC cnt) (remB cnt s blk) → Q (.inl (some (.int (nI nf)))) κ M') : Ct X m_X7_floor [.ref o, .int a, .int b, .int c, .int d] κ M Q := by
  have e : isFl a b c d = true := by
    unfold isFl
    rw [show inB a 1 9 = true from in_bd (lo := 1) (hi := 9) h1 (by omega), show inB b 0 4 = true from in_bd (lo := 0) (hi := 4) h2 (by omega), show inB c 0 60 = true from in_bd (lo := 0) (hi := 60) h3 (by omega), show inB d 1 30 = true from in_bd (lo := 1) (hi := 30) h4 (by omega)]; rfl
  refine ct_X7_floor hx hO.1 hO.2.1 (no_in e) (fun _ => no_in (by rw [hI.qFl]; exact decide_eq_true hn)) (fun _ _ M' k1 k2 k3 => ?_)
  rw [hI.n0] at k1 ⊢
  exact hQ M' (hO.frA (Nat.le_refl _) k3 k1 k2)
theorem l_teacher (hx : IsDF κ.2.1 o) (hI : Inv B nf nt nc nd s) (hO : OB B M o s cnt blk) {a b : Int32} (h1 : bd 0 15 a) (h2 : bd 1 5 b) (hn : nt < 5) (hQ : ∀ M', OB B M' o (teS s nt a b) (remC cnt) (remB cnt s blk) → Q (.inl (some (.int (nI nt)))) κ M') : Ct X m_X7_teacher [.ref o, .int a, .int b] κ M Q := by
  have e : (inB a 0 15 && inB b 1 5) = true := by
    rw [show inB a 0 15 = true from in_bd (lo := 0) (hi := 15) h1 (by omega), show inB b 1 5 = true from in_bd (lo := 1) (hi := 5) h2 (by omega)]; rfl
  refine ct_X7_teacher hx hO.1 hO.2.1 (no_in e) (fun _ => no_in (by rw [hI.qTe]; exact decide_eq_true hn)) (fun _ _ M' k1 k2 k3 => ?_)
  rw [hI.n1] at k1 ⊢
  exact hQ M' (hO.frA (Nat.le_refl _) k3 k1 k2)
theorem l_dancer (hx : IsDF κ.2.1 o) (hI : Inv B nf nt nc nd s) (hO : OB B M o s cnt blk) (hn : nd < 12) (hQ : ∀ M', OB B M' o (daS s nd) (remC cnt) (remB cnt s blk) → Q (.inl (some (.int (nI nd)))) κ M') : Ct X m_X7_dancer [.ref o] κ M Q := by
  refine ct_X7_dancer hx hO.1 hO.2.1 (no_in (by rw [hI.qDa]; exact decide_eq_true hn)) (fun _ M' k1 k2 k3 => ?_)
  rw [hI.n3] at k1 ⊢
  exact hQ M' (hO.frA (Nat.le_refl _) k3 k1 k2)
theorem l_drop (hx : IsDF κ.2.1 o) (hI : Inv B nf nt nc nd s) (hO : OB B M o s cnt blk) {k : Nat} (hk : k < nc) (hQ : ∀ M', OB B M' o (drS s nc k) (remC cnt) (remB cnt s blk) → Q (.inl (some (.int (bitsI (s (39 + 9 * k + 8)))))) κ M') : Ct X m_X7_drop [.ref o, .int (nI k)] κ M Q := by
  have bc := hI.lc
  refine ct_X7_drop hx hO.1 hO.2.1 (no_in (hI.xC.mpr ⟨k, hk, rfl⟩)) (fun _ M' k1 k2 k3 => ?_)
  rw [hI.n2, tn_nI (by omega)] at k1
  rw [tn_nI (by omega)]
  exact hQ M' (hO.frA (Nat.le_refl _) k3 k1 k2)
theorem l_pass (hx : IsDF κ.2.1 o) (hI : Inv B nf nt nc nd s) (hO : OB B M o s cnt blk) {d : Nat} (hd : d < nd) (hl : s (129 + 5 * d + 2) < 90) (hQ : ∀ M', OB B M' o (paS s d) (remC cnt) (remB cnt s blk) → Q (.inl (some (.int (s (129 + 5 * d + 2) + 10)))) κ M') : Ct X m_X7_pass [.ref o, .int (nI d)] κ M Q := by
  have bn := hI.ld
  refine ct_X7_pass hx hO.1 hO.2.1 (no_in (hI.xD.mpr ⟨d, hd, rfl⟩)) (fun _ => no_in (hI.qPa.mpr ⟨d, hd, rfl, hl⟩)) (fun _ _ M' k1 k2 k3 => ?_)
  rw [tn_nI (by omega)] at k1 ⊢
  exact hQ M' (hO.frA (Nat.le_refl _) k3 k1 k2)
theorem l_weeks (hx : IsDF κ.2.1 o) (hI : Inv B nf nt nc nd s) (hO : OB B M o s cnt blk) {v : Int32} (hv : bd 1 9 v) (hQ : ∀ n M', 1 ≤ n → n ≤ 9 → v = nI n → OB (B + n) M' o (wkN nc nd n s) (remC cnt) (remB cnt s blk) → Q (.inl (some (.int (wkN nc nd n s 6 - s 6)))) κ M') : Ct X m_X7_weeks [.ref o, .int v] κ M Q := by
  refine ct_X7_weeks hx hO.1 hO.2.1 (no_in (in_bd (lo := 1) (hi := 9) hv (by omega))) (fun _ n h1 h2 e M' k1 k2 k3 => ?_)
  unfold wkC at k1 ⊢
  rw [hI.n2, hI.n3] at k1 ⊢
  exact hQ n M' h1 h2 e (hO.frA (by omega) k3 k1 k2)
theorem l_leave (hx : IsDF κ.2.1 o) (hI : Inv B nf nt nc nd s) (hO : OB B M o s cnt blk) {d k : Nat} (hd : d < nd) (hk : k < nc) (hb : bitS (s (39 + 9 * k + 8)) (nI d) = true) (hQ : ∀ M', OB B M' o (leS s (nI d) k) (remC cnt) (remB cnt s blk) → Q (.inl (some (.int (bitsI (leS s (nI d) k (39 + 9 * k + 8)))))) κ M') : Ct X m_X7_leave [.ref o, .int (nI d), .int (nI k)] κ M Q := by
  have bc := hI.lc
  refine ct_X7_leave hx hO.1 hO.2.1 (no_in (hI.qSe.mpr ⟨⟨d, hd, rfl⟩, ⟨k, hk, rfl⟩⟩)) (fun _ => no_in (hI.qLe.mpr ⟨d, k, hd, hk, rfl, rfl, hb⟩)) (fun _ _ M' k1 k2 k3 => ?_)
  rw [tn_nI (by omega)] at k1 ⊢
  exact hQ M' (hO.frA (Nat.le_refl _) k3 k1 k2)
theorem l_enter (hx : IsDF κ.2.1 o) (hI : Inv B nf nt nc nd s) (hO : OB B M o s cnt blk) {d k : Nat} (hd : d < nd) (hk : k < nc) (hQ : ∀ M', OB B M' o (tsT s (nI d) (nI k)) (remC cnt) (remB cnt s blk) → Q (.inl (some (.int (wSe s (nI d) (nI k))))) κ M') : Ct X m_X7_enter [.ref o, .int (nI d), .int (nI k)] κ M Q :=
  ct_X7_enter hx hO.1 hO.2.1 (no_in (hI.qSe.mpr ⟨⟨d, hd, rfl⟩, ⟨k, hk, rfl⟩⟩)) (fun _ M' k1 k2 k3 => hQ M' (hO.frA (Nat.le_refl _) k3 k1 k2))
theorem l_set (hx : IsDF κ.2.1 o) (hI : Inv B nf nt nc nd s) (hO : OB B M o s cnt blk) {st lv dy hr : Int32} {f t : Nat} (hf : f < nf) (ht : t < nt) (h1 : bd 0 3 st) (h2 : bd 1 5 lv) (h3 : bd 0 5 dy) (h4 : bd 0 5 hr) (hn : nc < 10) (hQ : ∀ M', OB B M' o (tcT s st lv (nI f) (nI t) dy hr) (remC cnt) (remB cnt s blk) → Q (.inl (some (.int (whyI s nc st lv f t dy hr)))) κ M') : Ct X m_X7_set [.ref o, .int st, .int lv, .int (nI f), .int (nI t), .int dy, .int hr] κ M Q := by
  have bf := hI.lf
  have bt := hI.lt
  have e1 : (isF s (nI f) && isT s (nI t)) = true := by rw [hI.xF.mpr ⟨f, hf, rfl⟩, hI.xT.mpr ⟨t, ht, rfl⟩]; rfl
  have e2 : isTm st lv dy hr = true := by
    unfold isTm
    rw [show inB st 0 3 = true from in_bd (lo := 0) (hi := 3) h1 (by omega), show inB lv 1 5 = true from in_bd (lo := 1) (hi := 5) h2 (by omega), show inB dy 0 5 = true from in_bd (lo := 0) (hi := 5) h3 (by omega), show inB hr 0 5 = true from in_bd (lo := 0) (hi := 5) h4 (by omega)]; rfl
  refine ct_X7_set hx hO.1 hO.2.1 (no_in e1) (fun _ => no_in e2) (fun _ _ => no_in (show decide (s 2 < (10 : Int32)) = true from (lt_iff (b := 10) hI.c (by have := hI.lc; omega) (by omega)).trans (decide_eq_true hn))) (fun _ _ _ M' k1 k2 k3 => ?_)
  unfold wCl
  rw [hI.n2, tn_nI (by omega), tn_nI (by omega)]
  exact hQ M' (hO.frA (Nat.le_refl _) k3 k1 k2)
theorem l_tune (hx : IsDF κ.2.1 o) (hO : OB B M o s cnt blk) {w : Nat} {v : Int32} (hw : w < 2) (hv : bd 1 (if w = 0 then 9 else 50) v) (hQ : ∀ M', OB B M' o (upd s (11 + w) v) (remC cnt) (remB cnt s blk) → Q (.inl (some (.int (s (11 + w))))) κ M') : Ct X m_X7_tune [.ref o, .int (nI w), .int v] κ M Q := by
  have e : tnG (nI w) v = true := by
    unfold tnG
    rw [show inB (nI w) 0 1 = true from in_bd (lo := 0) (hi := 1) ⟨w, by omega, by omega, rfl⟩ (by omega)]
    have : tnR (nI w) = nI (if w = 0 then 9 else 50) := by
      unfold tnR
      by_cases q : w = 0
      · subst q; rfl
      · have : w = 1 := by omega
        subst this; rfl
    rw [this]
    exact in_bd hv (by split <;> omega)
  refine ct_X7_tune hx hO.1 hO.2.1 (no_in e) (fun _ k hk e' M' k1 k2 k3 => ?_)
  obtain rfl := (nI_eq (by omega) (by omega)).mp e'
  exact hQ M' (hO.frA (Nat.le_refl _) k3 k1 k2)
theorem l_undo (hx : IsDF κ.2.1 o) (hO : OB B M o s cnt blk) (hc : 0 < cnt) (hQ : ∀ M', OB B M' o (blk (cnt - 1)) (cnt - 1) blk → Q (.inl (some (.int (nI (cnt - 1))))) κ M') : Ct X m_X7_undo [.ref o] κ M Q :=
  ct_X7_undo hx hO.2.1 (fun h => absurd h (by omega)) (fun _ M' k1 k2 k3 => hQ M' (hO.frA (Nat.le_refl _) k3 k2 k1))
theorem rem_top (cnt : Nat) (hc : cnt ≤ 14) (s : Nat → Int32) (blk : Nat → Nat → Int32) : 0 < remC cnt ∧ remB cnt s blk (remC cnt - 1) = s := by
  by_cases q : cnt < 14
  · have e : remC cnt = cnt + 1 := if_pos q
    rw [e]
    refine ⟨by omega, ?_⟩
    unfold remB
    rw [if_pos q, if_pos (show cnt + 1 - 1 = cnt by omega)]
  · have e : remC cnt = 14 := if_neg q
    rw [e]
    refine ⟨by omega, ?_⟩
    unfold remB
    rw [if_neg q, if_pos (show 14 - 1 = 13 from rfl)]
theorem OB.cn (h : OB B M o s cnt blk) : cnt ≤ 14 := by
  obtain ⟨-, ⟨old, -, -, -, h4, -⟩, -⟩ := h
  exact h4
/-- undo right behind an action -/
theorem l_undo1 (hx : IsDF κ.2.1 o) {s' : Nat → Int32} (hn : cnt ≤ 14) (hO : OB B M o s' (remC cnt) (remB cnt s blk)) (hQ : ∀ M', OB B M' o s (remC cnt - 1) (remB cnt s blk) → Q (.inl (some (.int (nI (remC cnt - 1))))) κ M') : Ct X m_X7_undo [.ref o] κ M Q := by
  obtain ⟨h1, h2⟩ := rem_top cnt hn s blk
  refine l_undo hx hO h1 (fun M' h => ?_)
  rw [h2] at h
  exact hQ M' h
theorem l_save (hx : IsDF κ.2.1 o) (hO : OB B M o s cnt blk) {k : Nat} (hk : k < 2) (hQ : ∀ M', OB B M' o s cnt blk → M' (o + 673) k = 1 → SF B M' (o + 599 + 37 * k) s → Q (.inl (some (.int (s 4)))) κ M') : Ct X m_X7_save [.ref o, .int (nI k)] κ M Q := by
  obtain ⟨h1, h2, h3, fb, sv, h4, h5⟩ := hO
  refine ct_X7_save hx h1 (no_in (in_bd (lo := 0) (hi := 1) ⟨k, by omega, by omega, rfl⟩ (by omega))) (fun _ k' hk' e M' k1 k2 k3 k4 => ?_)
  obtain rfl := (nI_eq (by omega) (by omega)).mp e
  refine hQ M' ⟨h1.fr fun r a b => k4 r (by omega) (by omega), h2.fr fun r a b => k4 r (by omega) (by omega), by rw [k4 _ (by omega) (by omega)]; exact h3, fun j => if j = k then true else fb j, fun j => if j = k then s else sv j, fun j hj => ?_, fun j hj hb => ?_⟩ k2 k1
  · show _ = bI (if j = k then true else fb j)
    by_cases q : j = k
    · subst q; rw [k2, if_pos rfl]; rfl
    · rw [k3 j q, if_neg q]; exact h4 j hj
  · show SF B M' _ (if j = k then s else sv j)
    have hb' : (if j = k then true else fb j) = true := hb
    by_cases q : j = k
    · subst q; rw [if_pos rfl]; exact k1
    · rw [if_neg q] at hb' ⊢
      exact (h5 j hj hb').fr fun r a b => k4 r (by omega) (by omega)
theorem l_restore (hx : IsDF κ.2.1 o) (hO : OB B M o s cnt blk) {k : Nat} (hk : k < 2) (h1 : M (o + 673) k = 1) (hS : SF B M (o + 599 + 37 * k) s) (hQ : ∀ M', (∀ blk', OB B M' o s 0 blk') → Q (.inl (some (.int (s 4)))) κ M') : Ct X m_X7_restore [.ref o, .int (nI k)] κ M Q := by
  have hO' := hO
  obtain ⟨-, -, h3, fb, sv, h4, h5⟩ := hO
  have hfk : fb k = true := by
    have := h4 k hk
    rw [h1] at this
    cases q : fb k with
    | true => rfl
    | false => rw [q] at this; exact absurd this (by decide)
  refine ct_X7_restore hx (B := B) (fb := fb) (sv := fun j => if j = k then s else sv j) h4 (fun j hj hb => ?_) (no_in (in_bd (lo := 0) (hi := 1) ⟨k, by omega, by omega, rfl⟩ (by omega))) (fun _ k' hk' e hb => ?_) (fun _ k' hk' e hb M' k1 k2 k3 => ?_)
  · show SF B M _ (if j = k then s else sv j)
    by_cases q : j = k
    · subst q; rw [if_pos rfl]; exact hS
    · rw [if_neg q]; exact h5 j hj hb
  · obtain rfl := (nI_eq (by omega) (by omega)).mp e
    rw [hfk] at hb; cases hb
  · obtain rfl := (nI_eq (by omega) (by omega)).mp e
    have k1' : SF B M' (o + 4) (if k = k then s else sv k) := k1
    show Q (.inl (some (.int ((if k = k then s else sv k) 4)))) κ M'
    rw [if_pos rfl] at k1' ⊢
    exact hQ M' (fun blk' => hO'.frA (Nat.le_refl _) k3 k1' (k2 B blk'))
end LWC
