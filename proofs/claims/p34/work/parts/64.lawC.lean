/-! ===== p34: one deed ===== -/
def actJ (nc nd : Nat) (s : Nat → Int32) (n : Nat) : Int32 × (Nat → Int32) := (wkN nc nd n s 6 - s 6, wkN nc nd n s)
def actI (nc nd : Nat) (s : Nat → Int32) (w : Nat) (y : Int32) : Int32 × (Nat → Int32) :=
  if w = 17 ∧ 0 < nc then
    if y &&& 3 = 0 then (bitsI (s (39 + 9 * upN (y >>> (2 &&& 31)) nc + 8)), drS s nc (upN (y >>> (2 &&& 31)) nc)) else actJ nc nd s 9
  else actJ nc nd s (1 + upN y 4)
def actH (nc nd : Nat) (s : Nat → Int32) (w : Nat) (y : Int32) : Int32 × (Nat → Int32) :=
  if w = 16 then
    if y &&& 1 = 0 then (s 11, upd s 11 ((1 : Int32) + nI (upN (y >>> (1 &&& 31)) 4))) else (s 12, upd s 12 ((1 : Int32) + nI (upN (y >>> (1 &&& 31)) 50)))
  else actI nc nd s w y
def actE (nc nd : Nat) (s : Nat → Int32) (w d : Nat) (y : Int32) : Int32 × (Nat → Int32) :=
  if w < 16 ∧ 0 < nc then
    if wSe s (nI d) (nI (upN (y >>> (5 &&& 31)) nc)) = 1 ∧ y >>> (12 &&& 31) &&& 3 = 0 then (bitsI (leS s (nI d) (upN (y >>> (5 &&& 31)) nc) (39 + 9 * upN (y >>> (5 &&& 31)) nc + 8)), leS s (nI d) (upN (y >>> (5 &&& 31)) nc))
    else (wSe s (nI d) (nI (upN (y >>> (5 &&& 31)) nc)), tsT s (nI d) (nI (upN (y >>> (5 &&& 31)) nc)))
  else actH nc nd s w y
def actD (nc nd : Nat) (s : Nat → Int32) (w d : Nat) (y : Int32) : Int32 × (Nat → Int32) :=
  if w < 12 then
    if s (129 + 5 * d + 2) < 90 then (s (129 + 5 * d + 2) + 10, paS s d) else actJ nc nd s 3
  else actE nc nd s w d y
/-- the floor that is taken: the roomiest, if there is one -/
def bstN (b : Int32) (f : Nat) : Nat := if 0 ≤ b then tn b else f
def actS (nf nc : Nat) (s : Nat → Int32) (f t : Nat) (y : Int32) (st lv dy hr : Int32) : Int32 × (Nat → Int32) :=
  if nc < 10 then (whyI s nc st lv (bstN (bfC s nc st lv t dy hr nf).1 f) t dy hr, tcT s st lv (nI (bstN (bfC s nc st lv t dy hr nf).1 f)) (nI t) dy hr)
  else (bitsI (s (39 + 9 * upN y 10 + 8)), drS s nc (upN y 10))
def actC (nf nt nc nd : Nat) (s : Nat → Int32) (w : Nat) (y : Int32) : Int32 × (Nat → Int32) :=
  if w < 9 then actS nf nc s (upN (y >>> (6 &&& 31)) nf) (upN (y >>> (9 &&& 31)) nt) y (nI (upN (y >>> (2 &&& 31)) 4)) ((1 : Int32) + nI (upN (y >>> (4 &&& 31)) 3)) (nI (upN (y >>> (12 &&& 31)) 6)) (nI (upN (y >>> (16 &&& 31)) 6))
  else actD nc nd s w (upN y nd) y
def actB (nf nt nc nd : Nat) (s : Nat → Int32) (w : Nat) (y : Int32) : Int32 × (Nat → Int32) :=
  if nd = 0 ∨ w < 4 ∧ nd < 12 then (nI nd, daS s nd) else actC nf nt nc nd s w y
def actA (nf nt nc nd : Nat) (s : Nat → Int32) (w : Nat) (y : Int32) : Int32 × (Nat → Int32) :=
  if nt = 0 ∨ w = 1 ∧ nt < 5 then (nI nt, teS s nt (if y &&& 1 = 0 then 15 else nI (upN (y >>> (1 &&& 31)) 16)) ((1 : Int32) + nI (upN (y >>> (5 &&& 31)) 5)))
  else actB nf nt nc nd s w y
def actF (nf nt nc nd : Nat) (s : Nat → Int32) (x y : Int32) : Int32 × (Nat → Int32) :=
  if nf = 0 ∨ upN x 20 = 0 ∧ nf < 4 then (nI nf, flS s nf ((1 : Int32) + nI (upN y 9)) (nI (upN (y >>> (4 &&& 31)) 5)) (nI (upN (y >>> (7 &&& 31)) 61)) ((1 : Int32) + nI (upN (y >>> (13 &&& 31)) (if y >>> (20 &&& 31) &&& 1 = 0 then 30 else 3))))
  else actA nf nt nc nd s (upN x 20) y
theorem bf_cases {s : Nat → Int32} {nc t : Nat} {st lv dy hr : Int32} : ∀ n, n < 1000 → (bfC s nc st lv t dy hr n).1 = -1 ∨ ∃ g, g < n ∧ (bfC s nc st lv t dy hr n).1 = nI g ∧ whyI s nc st lv g t dy hr = 0
  | 0, _ => Or.inl rfl
  | n + 1, hn => by
    by_cases q : (bfC s nc st lv t dy hr n).2 < rmI s st n ∧ whyI s nc st lv n t dy hr = 0
    · rw [bfC_y q]
      exact Or.inr ⟨n, by omega, rfl, q.2⟩
    · rw [bfC_n q]
      rcases bf_cases n (by omega) with h | ⟨g, h1, h2, h3⟩
      · exact Or.inl h
      · exact Or.inr ⟨g, by omega, h2, h3⟩
theorem bstN_lt {s : Nat → Int32} {nc t nf f : Nat} {st lv dy hr : Int32} (hn : nf < 1000) (hf : f < nf) : bstN (bfC s nc st lv t dy hr nf).1 f < nf := by
  unfold bstN
  rcases bf_cases (s := s) (nc := nc) (st := st) (lv := lv) (t := t) (dy := dy) (hr := hr) nf hn with h | ⟨g, h1, h2, h3⟩
  · rw [h, if_neg (by decide)]; exact hf
  · have e : (0 : Int32) ≤ nI g := (nI_leI (a := 0) (b := g) (by omega) (by omega)).mpr (Nat.zero_le _)
    rw [h2, if_pos e, tn_nI (by omega)]; exact h1
theorem bstN_y {s : Nat → Int32} {nc t nf f : Nat} {st lv dy hr : Int32} (hn : nf < 1000) (h0 : 0 ≤ (bfC s nc st lv t dy hr nf).1) : (bfC s nc st lv t dy hr nf).1 = nI (bstN (bfC s nc st lv t dy hr nf).1 f) := by
  unfold bstN
  rw [if_pos h0]
  rcases bf_cases (s := s) (nc := nc) (st := st) (lv := lv) (t := t) (dy := dy) (hr := hr) nf hn with h | ⟨g, h1, h2, h3⟩
  · rw [h] at h0; exact absurd h0 (by decide)
  · rw [h2, tn_nI (by omega)]
theorem bd_w {a b c : Nat} {x : Int32} (h : bd a b x) (h2 : b ≤ c) : bd a c x := by
  obtain ⟨n, h1, h3, h4⟩ := h
  exact ⟨n, h1, by omega, h4⟩
set_option maxRecDepth 100000 in
set_option maxHeartbeats 4000000 in
theorem act_508 {X : Xs} {κ : Kp} {M : Mem} {Q : Rs → Kp → Mem → Prop} {o B nf nt nc nd cnt : Nat} {s : Nat → Int32} {blk : Nat → Nat → Int32} {y : Int32} (hx : IsDF κ.2.1 o) (hI : Inv B nf nt nc nd s) (hO : OB B M o s cnt blk) (hQ : ∀ M', OB (B + 9) M' o (actJ nc nd s (1 + upN y 4)).2 (remC cnt) (remB cnt s blk) → Q (.inl (some (.int (actJ nc nd s (1 + upN y 4)).1))) κ M') : G X m_L_act B_L_act_508 508 [(0, some (.ref o)), (2, some (.int y))] [] 0 0 κ M Q := by
  have bf := hI.lf
  have bt' := hI.lt
  have bc := hI.lc
  have bn := hI.ld
  have hS := hO.1
  refine g_aload_n rfl ?_
  refine g_iconst (v := 1) ik_1 ?_
  refine g_iload_n rfl ?_
  refine g_iconst (v := 4) ik_4 ?_
  refine g_callS (as := [_, _]) mk_L_up ml_L_35 sm_L_up rfl rfl ⟨⟨nle rfl, nle rfl⟩, nle rfl, nle rfl⟩ rfl rfl (nle rfl) ?_
  refine ct_L_up (m := 4) (by omega) (by omega) ?_
  refine kq_s ?_
  refine g_iadd ?_
  refine g_callV (as := [_]) mk_X7_weeks ml_L_65 im_X7_weeks se_X7_weeks rfl rfl ⟨⟨nle rfl, nle rfl⟩, nle rfl, nle rfl⟩ hx.1 rfl rfl rfl (nle rfl) ?_
  refine l_weeks hx hI hO (bd_w (bd_1up (m := 4) (by omega)) (by omega)) (fun n M' hn1 hn2 en hO' => ?_)
  refine kq_s ?_
  refine g_iret rfl (nle rfl) (nle rfl) ?_
  obtain rfl : 1 + upN y 4 = n := (nI_eq (by have := upN_lt y (m := 4) (by omega); omega) (by omega)).mp ((nI_add 1 _).symm.trans en)
  exact hQ M' (hO'.up (by omega))
set_option maxRecDepth 100000 in
set_option maxHeartbeats 4000000 in
theorem act_468 {X : Xs} {κ : Kp} {M : Mem} {Q : Rs → Kp → Mem → Prop} {o B nf nt nc nd cnt : Nat} {s : Nat → Int32} {blk : Nat → Nat → Int32} {y : Int32} (hx : IsDF κ.2.1 o) (hI : Inv B nf nt nc nd s) (hO : OB B M o s cnt blk) {w : Nat} (hw : w < 20) (hQ : ∀ M', OB (B + 9) M' o (actI nc nd s w y).2 (remC cnt) (remB cnt s blk) → Q (.inl (some (.int (actI nc nd s w y).1))) κ M') : G X m_L_act B_L_act_468 468 [(0, some (.ref o)), (2, some (.int y)), (5, some (.int (nI nc))), (7, some (.int (nI w)))] [] 0 0 κ M Q := by
  have bf := hI.lf
  have bt' := hI.lt
  have bc := hI.lc
  have bn := hI.ld
  have hS := hO.1
  refine g_iload rfl ?_
  refine g_bipush (v := 17) bk_17 ?_
  refine g_icmp_ne rfl L_L_act_508 (fun h_1 => ?_) (fun h_1 => ?_)
  · have q_1 : ¬ w = 17 := fun e => h_1 ((nI_eq (a := w) (b := 17) (by omega) (by omega)).mpr e)
    unfold actI at hQ
    rw [if_neg (show ¬ (w = 17 ∧ 0 < nc) by omega)] at hQ
    exact g_lo2 (act_508 hx hI hO hQ) ⟨rfl, rfl, trivial⟩
  · have q_1 : w = 17 := (nI_eq (a := w) (b := 17) (by omega) (by omega)).mp h_1
    refine g_iload rfl ?_
    refine g_if_le rfl L_L_act_508 (fun h_2 => ?_) (fun h_2 => ?_)
    · have q_2 : nc ≤ 0 := (nI_leI (a := nc) (b := 0) (by omega) (by omega)).mp h_2
      unfold actI at hQ
      rw [if_neg (show ¬ (w = 17 ∧ 0 < nc) by omega)] at hQ
      exact g_lo2 (act_508 hx hI hO hQ) ⟨rfl, rfl, trivial⟩
    · have q_2 : 0 < nc := Nat.not_le.mp (fun e => h_2 ((nI_leI (a := nc) (b := 0) (by omega) (by omega)).mpr e))
      refine g_iload_n rfl ?_
      refine g_iconst (v := 3) ik_3 ?_
      refine g_iand ?_
      refine g_if_ne rfl L_L_act_501 (fun h_3 => ?_) (fun h_3 => ?_)
      · have q_483 := h_3
        refine g_aload_n rfl ?_
        refine g_bipush (v := 9) bk_9 ?_
        refine g_callV (as := [_]) mk_X7_weeks ml_L_65 im_X7_weeks se_X7_weeks rfl rfl ⟨⟨nle rfl, nle rfl⟩, nle rfl, nle rfl⟩ hx.1 rfl rfl rfl (nle rfl) ?_
        refine l_weeks hx hI hO ⟨9, by omega, by omega, rfl⟩ (fun n M' hn1 hn2 en hO' => ?_)
        refine kq_s ?_
        refine g_fall rfl L_L_act_507 ?_
        refine g_iret rfl (nle rfl) (nle rfl) ?_
        unfold actI at hQ
        rw [if_pos (show w = 17 ∧ 0 < nc by omega)] at hQ
        rw [if_neg q_483] at hQ
        obtain rfl : 9 = n := (nI_eq (a := 9) (by omega) (by omega)).mp en
        exact hQ M' hO'
      · have q_483 := h_3
        refine g_aload_n rfl ?_
        refine g_iload_n rfl ?_
        refine g_iconst (v := 2) ik_2 ?_
        refine g_ishr ?_
        refine g_iload rfl ?_
        refine g_callS (as := [_, _]) mk_L_up ml_L_35 sm_L_up rfl rfl ⟨⟨nle rfl, nle rfl⟩, nle rfl, nle rfl⟩ rfl rfl (nle rfl) ?_
        refine ct_L_up (m := nc) (by omega) (by omega) ?_
        refine kq_s ?_
        refine g_callV (as := [_]) mk_X7_drop ml_L_59 im_X7_drop se_X7_drop rfl rfl ⟨⟨nle rfl, nle rfl⟩, nle rfl, nle rfl⟩ hx.1 rfl rfl rfl (nle rfl) ?_
        refine l_drop hx hI hO (upN_lt _ (by omega)) (fun M' hO' => ?_)
        refine kq_s ?_
        refine g_goto rfl L_L_act_507 ?_
        refine g_iret rfl (nle rfl) (nle rfl) ?_
        unfold actI at hQ
        rw [if_pos (show w = 17 ∧ 0 < nc by omega)] at hQ
        rw [if_pos q_483] at hQ
        exact hQ M' (hO'.up (by omega))
set_option maxRecDepth 100000 in
set_option maxHeartbeats 4000000 in
theorem act_422 {X : Xs} {κ : Kp} {M : Mem} {Q : Rs → Kp → Mem → Prop} {o B nf nt nc nd cnt : Nat} {s : Nat → Int32} {blk : Nat → Nat → Int32} {y : Int32} (hx : IsDF κ.2.1 o) (hI : Inv B nf nt nc nd s) (hO : OB B M o s cnt blk) {w : Nat} (hw : w < 20) (hQ : ∀ M', OB (B + 9) M' o (actH nc nd s w y).2 (remC cnt) (remB cnt s blk) → Q (.inl (some (.int (actH nc nd s w y).1))) κ M') : G X m_L_act B_L_act_422 422 [(0, some (.ref o)), (2, some (.int y)), (5, some (.int (nI nc))), (7, some (.int (nI w)))] [] 0 0 κ M Q := by
  have bf := hI.lf
  have bt' := hI.lt
  have bc := hI.lc
  have bn := hI.ld
  have hS := hO.1
  refine g_iload rfl ?_
  refine g_bipush (v := 16) bk_16 ?_
  refine g_icmp_ne rfl L_L_act_468 (fun h_1 => ?_) (fun h_1 => ?_)
  · have q_426 : ¬ w = 16 := fun e => h_1 ((nI_eq (a := w) (b := 16) (by omega) (by omega)).mpr e)
    unfold actH at hQ
    rw [if_neg q_426] at hQ
    exact g_lo2 (act_468 hx hI hO hw hQ) ⟨rfl, rfl, rfl, rfl, trivial⟩
  · have q_426 : w = 16 := (nI_eq (a := w) (b := 16) (by omega) (by omega)).mp h_1
    refine g_iload_n rfl ?_
    refine g_iconst (v := 1) ik_1 ?_
    refine g_iand ?_
    refine g_if_ne rfl L_L_act_452 (fun h_2 => ?_) (fun h_2 => ?_)
    · have q_432 := h_2
      refine g_aload_n rfl ?_
      refine g_iconst (v := 1) ik_1 ?_
      refine g_iconst (v := 1) ik_1 ?_
      refine g_iload_n rfl ?_
      refine g_iconst (v := 1) ik_1 ?_
      refine g_ishr ?_
      refine g_bipush (v := 50) bk_50 ?_
      refine g_callS (as := [_, _]) mk_L_up ml_L_35 sm_L_up rfl rfl ⟨⟨nle rfl, nle rfl⟩, nle rfl, nle rfl⟩ rfl rfl (nle rfl) ?_
      refine ct_L_up (m := 50) (by omega) (by omega) ?_
      refine kq_s ?_
      refine g_iadd ?_
      refine g_callV (as := [_, _]) mk_X7_tune ml_L_77 im_X7_tune se_X7_tune rfl rfl ⟨⟨nle rfl, nle rfl⟩, nle rfl, nle rfl⟩ hx.1 rfl rfl rfl (nle rfl) ?_
      refine l_tune hx hO (w := 1) (by decide) (bd_1up (m := 50) (by omega)) (fun M' hO' => ?_)
      refine kq_s ?_
      refine g_fall rfl L_L_act_467 ?_
      refine g_iret rfl (nle rfl) (nle rfl) ?_
      unfold actH at hQ
      rw [if_pos q_426] at hQ
      rw [if_neg q_432] at hQ
      exact hQ M' (hO'.up (by omega))
    · have q_432 := h_2
      refine g_aload_n rfl ?_
      refine g_iconst (v := 0) ik_0 ?_
      refine g_iconst (v := 1) ik_1 ?_
      refine g_iload_n rfl ?_
      refine g_iconst (v := 1) ik_1 ?_
      refine g_ishr ?_
      refine g_iconst (v := 4) ik_4 ?_
      refine g_callS (as := [_, _]) mk_L_up ml_L_35 sm_L_up rfl rfl ⟨⟨nle rfl, nle rfl⟩, nle rfl, nle rfl⟩ rfl rfl (nle rfl) ?_
      refine ct_L_up (m := 4) (by omega) (by omega) ?_
      refine kq_s ?_
      refine g_iadd ?_
      refine g_callV (as := [_, _]) mk_X7_tune ml_L_77 im_X7_tune se_X7_tune rfl rfl ⟨⟨nle rfl, nle rfl⟩, nle rfl, nle rfl⟩ hx.1 rfl rfl rfl (nle rfl) ?_
      refine l_tune hx hO (w := 0) (by decide) (bd_w (bd_1up (m := 4) (by omega)) (by decide)) (fun M' hO' => ?_)
      refine kq_s ?_
      refine g_goto rfl L_L_act_467 ?_
      refine g_iret rfl (nle rfl) (nle rfl) ?_
      unfold actH at hQ
      rw [if_pos q_426] at hQ
      rw [if_pos q_432] at hQ
      exact hQ M' (hO'.up (by omega))
theorem wSe_1 {B nf nt nc nd : Nat} {s : Nat → Int32} (hI : Inv B nf nt nc nd s) {d k : Nat} (hd : d < nd) (hk : k < nc) (h : wSe s (nI d) (nI k) = 1) : bitS (s (39 + 9 * k + 8)) (nI d) = true := by
  have bn := hI.ld
  have bc := hI.lc
  unfold wSe at h
  rw [tn_nI (by omega), tn_nI (by omega)] at h
  unfold whyS at h
  split at h
  · assumption
  split at h
  · exact absurd h (by decide)
  split at h
  · exact absurd h (by decide)
  split at h
  · exact absurd h (by decide)
  · exact absurd h (by decide)
set_option maxRecDepth 100000 in
set_option maxHeartbeats 4000000 in
theorem act_359 {X : Xs} {κ : Kp} {M : Mem} {Q : Rs → Kp → Mem → Prop} {o B nf nt nc nd cnt : Nat} {s : Nat → Int32} {blk : Nat → Nat → Int32} {y : Int32} (hx : IsDF κ.2.1 o) (hI : Inv B nf nt nc nd s) (hO : OB B M o s cnt blk) {w d : Nat} (hw : w < 20) (hd : d < nd) (hQ : ∀ M', OB (B + 9) M' o (actE nc nd s w d y).2 (remC cnt) (remB cnt s blk) → Q (.inl (some (.int (actE nc nd s w d y).1))) κ M') : G X m_L_act B_L_act_359 359 [(0, some (.ref o)), (2, some (.int y)), (5, some (.int (nI nc))), (7, some (.int (nI w))), (8, some (.int (nI d)))] [] 0 0 κ M Q := by
  have bf := hI.lf
  have bt' := hI.lt
  have bc := hI.lc
  have bn := hI.ld
  have hS := hO.1
  refine g_iload rfl ?_
  refine g_bipush (v := 16) bk_16 ?_
  refine g_icmp_ge rfl L_L_act_422 (fun h_1 => ?_) (fun h_1 => ?_)
  · have q_1 : 16 ≤ w := (nI_leI (a := 16) (b := w) (by omega) (by omega)).mp h_1
    unfold actE at hQ
    rw [if_neg (show ¬ (w < 16 ∧ 0 < nc) by omega)] at hQ
    exact g_lo2 (act_422 hx hI hO hw hQ) ⟨rfl, rfl, rfl, rfl, trivial⟩
  · have q_1 : w < 16 := Nat.not_le.mp (fun e => h_1 ((nI_leI (a := 16) (b := w) (by omega) (by omega)).mpr e))
    refine g_iload rfl ?_
    refine g_if_le rfl L_L_act_422 (fun h_2 => ?_) (fun h_2 => ?_)
    · have q_2 : nc ≤ 0 := (nI_leI (a := nc) (b := 0) (by omega) (by omega)).mp h_2
      unfold actE at hQ
      rw [if_neg (show ¬ (w < 16 ∧ 0 < nc) by omega)] at hQ
      exact g_lo2 (act_422 hx hI hO hw hQ) ⟨rfl, rfl, rfl, rfl, trivial⟩
    · have q_2 : 0 < nc := Nat.not_le.mp (fun e => h_2 ((nI_leI (a := nc) (b := 0) (by omega) (by omega)).mpr e))
      have hk : (upN (y >>> (5 &&& 31)) nc) < nc := upN_lt _ (by omega)
      refine g_iload_n rfl ?_
      refine g_iconst (v := 5) ik_5 ?_
      refine g_ishr ?_
      refine g_iload rfl ?_
      refine g_callS (as := [_, _]) mk_L_up ml_L_35 sm_L_up rfl rfl ⟨⟨nle rfl, nle rfl⟩, nle rfl, nle rfl⟩ rfl rfl (nle rfl) ?_
      refine ct_L_up (m := nc) (by omega) (by omega) ?_
      refine kq_s ?_
      refine g_istore (nle rfl) ?_
      refine g_aload_n rfl ?_
      refine g_iload rfl ?_
      refine g_iload rfl ?_
      refine g_callV (as := [_, _]) mk_X7_whySeat ml_L_68 im_X7_whySeat se_X7_whySeat rfl rfl ⟨⟨nle rfl, nle rfl⟩, nle rfl, nle rfl⟩ hx.1 rfl rfl rfl (nle rfl) ?_
      refine l_whySeat hx hS hI hd hk ?_
      refine kq_s ?_
      refine g_iconst (v := 1) ik_1 ?_
      refine g_icmp_ne rfl L_L_act_413 (fun h_3 => ?_) (fun h_3 => ?_)
      · have qn : ¬ (wSe s (nI d) (nI (upN (y >>> (5 &&& 31)) nc)) = 1 ∧ y >>> (12 &&& 31) &&& 3 = 0) := fun e => h_3 e.1
        refine g_aload_n rfl ?_
        refine g_iload rfl ?_
        refine g_iload rfl ?_
        refine g_callV (as := [_, _]) mk_X7_enter ml_L_74 im_X7_enter se_X7_enter rfl rfl ⟨⟨nle rfl, nle rfl⟩, nle rfl, nle rfl⟩ hx.1 rfl rfl rfl (nle rfl) ?_
        refine l_enter hx hI hO hd hk (fun M' hO' => ?_)
        refine kq_s ?_
        refine g_fall rfl L_L_act_421 ?_
        refine g_iret rfl (nle rfl) (nle rfl) ?_
        unfold actE at hQ
        rw [if_pos (show w < 16 ∧ 0 < nc by omega)] at hQ
        rw [if_neg qn] at hQ
        exact hQ M' (hO'.up (by omega))
      · have q_390 := h_3
        refine g_iload_n rfl ?_
        refine g_bipush (v := 12) bk_12 ?_
        refine g_ishr ?_
        refine g_iconst (v := 3) ik_3 ?_
        refine g_iand ?_
        refine g_if_ne rfl L_L_act_413 (fun h_4 => ?_) (fun h_4 => ?_)
        · have qn : ¬ (wSe s (nI d) (nI (upN (y >>> (5 &&& 31)) nc)) = 1 ∧ y >>> (12 &&& 31) &&& 3 = 0) := fun e => h_4 e.2
          refine g_aload_n rfl ?_
          refine g_iload rfl ?_
          refine g_iload rfl ?_
          refine g_callV (as := [_, _]) mk_X7_enter ml_L_74 im_X7_enter se_X7_enter rfl rfl ⟨⟨nle rfl, nle rfl⟩, nle rfl, nle rfl⟩ hx.1 rfl rfl rfl (nle rfl) ?_
          refine l_enter hx hI hO hd hk (fun M' hO' => ?_)
          refine kq_s ?_
          refine g_fall rfl L_L_act_421 ?_
          refine g_iret rfl (nle rfl) (nle rfl) ?_
          unfold actE at hQ
          rw [if_pos (show w < 16 ∧ 0 < nc by omega)] at hQ
          rw [if_neg qn] at hQ
          exact hQ M' (hO'.up (by omega))
        · have q_399 := h_4
          refine g_aload_n rfl ?_
          refine g_iload rfl ?_
          refine g_iload rfl ?_
          refine g_callV (as := [_, _]) mk_X7_leave ml_L_71 im_X7_leave se_X7_leave rfl rfl ⟨⟨nle rfl, nle rfl⟩, nle rfl, nle rfl⟩ hx.1 rfl rfl rfl (nle rfl) ?_
          refine l_leave hx hI hO hd hk (wSe_1 hI hd hk q_390) (fun M' hO' => ?_)
          refine kq_s ?_
          refine g_goto rfl L_L_act_421 ?_
          refine g_iret rfl (nle rfl) (nle rfl) ?_
          unfold actE at hQ
          rw [if_pos (show w < 16 ∧ 0 < nc by omega)] at hQ
          rw [if_pos ⟨q_390, q_399⟩] at hQ
          exact hQ M' (hO'.up (by omega))
set_option maxRecDepth 100000 in
set_option maxHeartbeats 4000000 in
theorem act_325 {X : Xs} {κ : Kp} {M : Mem} {Q : Rs → Kp → Mem → Prop} {o B nf nt nc nd cnt : Nat} {s : Nat → Int32} {blk : Nat → Nat → Int32} {y : Int32} (hx : IsDF κ.2.1 o) (hI : Inv B nf nt nc nd s) (hO : OB B M o s cnt blk) {w d : Nat} (hw : w < 20) (hd : d < nd) (hQ : ∀ M', OB (B + 9) M' o (actD nc nd s w d y).2 (remC cnt) (remB cnt s blk) → Q (.inl (some (.int (actD nc nd s w d y).1))) κ M') : G X m_L_act B_L_act_325 325 [(0, some (.ref o)), (2, some (.int y)), (5, some (.int (nI nc))), (7, some (.int (nI w))), (8, some (.int (nI d)))] [] 0 0 κ M Q := by
  have bf := hI.lf
  have bt' := hI.lt
  have bc := hI.lc
  have bn := hI.ld
  have hS := hO.1
  refine g_iload rfl ?_
  refine g_bipush (v := 12) bk_12 ?_
  refine g_icmp_ge rfl L_L_act_359 (fun h_1 => ?_) (fun h_1 => ?_)
  · have q_329 : 12 ≤ w := (nI_leI (a := 12) (b := w) (by omega) (by omega)).mp h_1
    unfold actD at hQ
    rw [if_neg (show ¬ w < 12 by omega)] at hQ
    exact g_lo2 (act_359 hx hI hO hw hd hQ) ⟨rfl, rfl, rfl, rfl, rfl, trivial⟩
  · have q_329 : w < 12 := Nat.not_le.mp (fun e => h_1 ((nI_leI (a := 12) (b := w) (by omega) (by omega)).mpr e))
    refine g_aload_n rfl ?_
    refine g_iload rfl ?_
    refine g_iconst (v := 2) ik_2 ?_
    refine g_callV (as := [_, _]) mk_X7_dancerOf ml_L_23 im_X7_dancerOf se_X7_dancerOf rfl rfl ⟨⟨nle rfl, nle rfl⟩, nle rfl, nle rfl⟩ hx.1 rfl rfl rfl (nle rfl) ?_
    refine l_dancerOf hx hS hI (k := d) (w := 2) (v := s (129 + 5 * d + 2)) (by omega) (by decide) rfl ?_
    refine kq_s ?_
    refine g_bipush (v := 90) bk_90 ?_
    refine g_icmp_ge rfl L_L_act_353 (fun h_2 => ?_) (fun h_2 => ?_)
    · have q_341 : ¬ s (129 + 5 * d + 2) < 90 := Int32.not_lt.mpr h_2
      refine g_aload_n rfl ?_
      refine g_iconst (v := 3) ik_3 ?_
      refine g_callV (as := [_]) mk_X7_weeks ml_L_65 im_X7_weeks se_X7_weeks rfl rfl ⟨⟨nle rfl, nle rfl⟩, nle rfl, nle rfl⟩ hx.1 rfl rfl rfl (nle rfl) ?_
      refine l_weeks hx hI hO ⟨3, by omega, by omega, rfl⟩ (fun n M' hn1 hn2 en hO' => ?_)
      refine kq_s ?_
      refine g_fall rfl L_L_act_358 ?_
      refine g_iret rfl (nle rfl) (nle rfl) ?_
      unfold actD at hQ
      rw [if_pos q_329] at hQ
      rw [if_neg q_341] at hQ
      obtain rfl : 3 = n := (nI_eq (a := 3) (by omega) (by omega)).mp en
      exact hQ M' (hO'.up (by omega))
    · have q_341 : s (129 + 5 * d + 2) < 90 := Int32.not_le.mp h_2
      refine g_aload_n rfl ?_
      refine g_iload rfl ?_
      refine g_callV (as := [_]) mk_X7_pass ml_L_62 im_X7_pass se_X7_pass rfl rfl ⟨⟨nle rfl, nle rfl⟩, nle rfl, nle rfl⟩ hx.1 rfl rfl rfl (nle rfl) ?_
      refine l_pass hx hI hO hd q_341 (fun M' hO' => ?_)
      refine kq_s ?_
      refine g_goto rfl L_L_act_358 ?_
      refine g_iret rfl (nle rfl) (nle rfl) ?_
      unfold actD at hQ
      rw [if_pos q_329] at hQ
      rw [if_pos q_341] at hQ
      exact hQ M' (hO'.up (by omega))
set_option maxRecDepth 100000 in
set_option maxHeartbeats 4000000 in
theorem act_175 {X : Xs} {κ : Kp} {M : Mem} {Q : Rs → Kp → Mem → Prop} {o B nf nt nc nd cnt : Nat} {s : Nat → Int32} {blk : Nat → Nat → Int32} {y : Int32} (hx : IsDF κ.2.1 o) (hI : Inv B nf nt nc nd s) (hO : OB B M o s cnt blk) {w : Nat} (hw : w < 20) (hf0 : 0 < nf) (ht0 : 0 < nt) (hd0 : 0 < nd) (hQ : ∀ M', OB (B + 9) M' o (actC nf nt nc nd s w y).2 (remC cnt) (remB cnt s blk) → Q (.inl (some (.int (actC nf nt nc nd s w y).1))) κ M') : G X m_L_act B_L_act_175 175 [(0, some (.ref o)), (2, some (.int y)), (3, some (.int (nI nf))), (4, some (.int (nI nt))), (5, some (.int (nI nc))), (6, some (.int (nI nd))), (7, some (.int (nI w)))] [] 0 0 κ M Q := by
  have bf := hI.lf
  have bt' := hI.lt
  have bc := hI.lc
  have bn := hI.ld
  have hS := hO.1
  have hd : upN y nd < nd := upN_lt _ hd0
  have hf : (upN (y >>> (6 &&& 31)) nf) < nf := upN_lt _ hf0
  have ht : (upN (y >>> (9 &&& 31)) nt) < nt := upN_lt _ ht0
  refine g_iload_n rfl ?_
  refine g_iload rfl ?_
  refine g_callS (as := [_, _]) mk_L_up ml_L_35 sm_L_up rfl rfl ⟨⟨nle rfl, nle rfl⟩, nle rfl, nle rfl⟩ rfl rfl (nle rfl) ?_
  refine ct_L_up (m := nd) (by omega) (by omega) ?_
  refine kq_s ?_
  refine g_istore (nle rfl) ?_
  refine g_iload rfl ?_
  refine g_bipush (v := 9) bk_9 ?_
  refine g_icmp_ge rfl L_L_act_325 (fun h_1 => ?_) (fun h_1 => ?_)
  · have q_187 : 9 ≤ w := (nI_leI (a := 9) (b := w) (by omega) (by omega)).mp h_1
    unfold actC at hQ
    rw [if_neg (show ¬ w < 9 by omega)] at hQ
    exact g_lo2 (act_325 hx hI hO hw hd hQ) ⟨rfl, rfl, rfl, rfl, rfl, trivial⟩
  · have q_187 : w < 9 := Nat.not_le.mp (fun e => h_1 ((nI_leI (a := 9) (b := w) (by omega) (by omega)).mpr e))
    refine g_iload_n rfl ?_
    refine g_bipush (v := 6) bk_6 ?_
    refine g_ishr ?_
    refine g_iload_n rfl ?_
    refine g_callS (as := [_, _]) mk_L_up ml_L_35 sm_L_up rfl rfl ⟨⟨nle rfl, nle rfl⟩, nle rfl, nle rfl⟩ rfl rfl (nle rfl) ?_
    refine ct_L_up (m := nf) (by omega) (by omega) ?_
    refine kq_s ?_
    refine g_istore (nle rfl) ?_
    refine g_iload_n rfl ?_
    refine g_bipush (v := 9) bk_9 ?_
    refine g_ishr ?_
    refine g_iload rfl ?_
    refine g_callS (as := [_, _]) mk_L_up ml_L_35 sm_L_up rfl rfl ⟨⟨nle rfl, nle rfl⟩, nle rfl, nle rfl⟩ rfl rfl (nle rfl) ?_
    refine ct_L_up (m := nt) (by omega) (by omega) ?_
    refine kq_s ?_
    refine g_istore (nle rfl) ?_
    refine g_iload_n rfl ?_
    refine g_iconst (v := 2) ik_2 ?_
    refine g_ishr ?_
    refine g_iconst (v := 4) ik_4 ?_
    refine g_callS (as := [_, _]) mk_L_up ml_L_35 sm_L_up rfl rfl ⟨⟨nle rfl, nle rfl⟩, nle rfl, nle rfl⟩ rfl rfl (nle rfl) ?_
    refine ct_L_up (m := 4) (by omega) (by omega) ?_
    refine kq_s ?_
    refine g_istore (nle rfl) ?_
    refine g_aload_n rfl ?_
    refine g_iload rfl ?_
    refine g_iconst (v := 1) ik_1 ?_
    refine g_iload_n rfl ?_
    refine g_iconst (v := 4) ik_4 ?_
    refine g_ishr ?_
    refine g_iconst (v := 3) ik_3 ?_
    refine g_callS (as := [_, _]) mk_L_up ml_L_35 sm_L_up rfl rfl ⟨⟨nle rfl, nle rfl⟩, nle rfl, nle rfl⟩ rfl rfl (nle rfl) ?_
    refine ct_L_up (m := 3) (by omega) (by omega) ?_
    refine kq_s ?_
    refine g_iadd ?_
    refine g_iload rfl ?_
    refine g_iload_n rfl ?_
    refine g_bipush (v := 12) bk_12 ?_
    refine g_ishr ?_
    refine g_bipush (v := 6) bk_6 ?_
    refine g_callS (as := [_, _]) mk_L_up ml_L_35 sm_L_up rfl rfl ⟨⟨nle rfl, nle rfl⟩, nle rfl, nle rfl⟩ rfl rfl (nle rfl) ?_
    refine ct_L_up (m := 6) (by omega) (by omega) ?_
    refine kq_s ?_
    refine g_iload_n rfl ?_
    refine g_bipush (v := 16) bk_16 ?_
    refine g_ishr ?_
    refine g_bipush (v := 6) bk_6 ?_
    refine g_callS (as := [_, _]) mk_L_up ml_L_35 sm_L_up rfl rfl ⟨⟨nle rfl, nle rfl⟩, nle rfl, nle rfl⟩ rfl rfl (nle rfl) ?_
    refine ct_L_up (m := 6) (by omega) (by omega) ?_
    refine kq_s ?_
    refine g_callV (as := [_, _, _, _, _]) mk_X7_bestFloor ml_L_51 im_X7_bestFloor se_X7_bestFloor rfl rfl ⟨⟨nle rfl, nle rfl⟩, nle rfl, nle rfl⟩ hx.1 rfl rfl rfl (nle rfl) ?_
    refine l_bestFloor hx hS hI ht (bd_up (m := 4) (by omega)) (bd_w (bd_1up (m := 3) (by omega)) (by omega)) (bd_up (m := 6) (by omega)) (bd_up (m := 6) (by omega)) ?_
    refine kq_s ?_
    refine g_istore (nle rfl) ?_
    refine g_iload rfl ?_
    refine g_bipush (v := 10) bk_10 ?_
    refine g_icmp_ge rfl L_L_act_314 (fun h_2 => ?_) (fun h_2 => ?_)
    · have q_261 : 10 ≤ nc := (nI_leI (a := 10) (b := nc) (by omega) (by omega)).mp h_2
      refine g_aload_n rfl ?_
      refine g_iload_n rfl ?_
      refine g_bipush (v := 10) bk_10 ?_
      refine g_callS (as := [_, _]) mk_L_up ml_L_35 sm_L_up rfl rfl ⟨⟨nle rfl, nle rfl⟩, nle rfl, nle rfl⟩ rfl rfl (nle rfl) ?_
      refine ct_L_up (m := 10) (by omega) (by omega) ?_
      refine kq_s ?_
      refine g_callV (as := [_]) mk_X7_drop ml_L_59 im_X7_drop se_X7_drop rfl rfl ⟨⟨nle rfl, nle rfl⟩, nle rfl, nle rfl⟩ hx.1 rfl rfl rfl (nle rfl) ?_
      refine l_drop hx hI hO (show upN y 10 < nc from Nat.lt_of_lt_of_le (upN_lt _ (by omega)) q_261) (fun M' hO' => ?_)
      refine kq_s ?_
      refine g_fall rfl L_L_act_324 ?_
      refine g_iret rfl (nle rfl) (nle rfl) ?_
      unfold actC at hQ
      rw [if_pos q_187] at hQ
      unfold actS at hQ
      rw [if_neg (show ¬ nc < 10 by omega)] at hQ
      exact hQ M' (hO'.up (by omega))
    · have q_261 : nc < 10 := Nat.not_le.mp (fun e => h_2 ((nI_leI (a := 10) (b := nc) (by omega) (by omega)).mpr e))
      refine g_aload_n rfl ?_
      refine g_iload rfl ?_
      refine g_iconst (v := 1) ik_1 ?_
      refine g_iload_n rfl ?_
      refine g_iconst (v := 4) ik_4 ?_
      refine g_ishr ?_
      refine g_iconst (v := 3) ik_3 ?_
      refine g_callS (as := [_, _]) mk_L_up ml_L_35 sm_L_up rfl rfl ⟨⟨nle rfl, nle rfl⟩, nle rfl, nle rfl⟩ rfl rfl (nle rfl) ?_
      refine ct_L_up (m := 3) (by omega) (by omega) ?_
      refine kq_s ?_
      refine g_iadd ?_
      refine g_iload rfl ?_
      refine g_if_ge rfl L_L_act_286 (fun h_3 => ?_) (fun h_3 => ?_)
      · have e9 : (bfC s nc (nI (upN (y >>> (2 &&& 31)) 4)) ((1 : Int32) + nI (upN (y >>> (4 &&& 31)) 3)) (upN (y >>> (9 &&& 31)) nt) (nI (upN (y >>> (12 &&& 31)) 6)) (nI (upN (y >>> (16 &&& 31)) 6)) nf).1 = nI (bstN (bfC s nc (nI (upN (y >>> (2 &&& 31)) 4)) ((1 : Int32) + nI (upN (y >>> (4 &&& 31)) 3)) (upN (y >>> (9 &&& 31)) nt) (nI (upN (y >>> (12 &&& 31)) 6)) (nI (upN (y >>> (16 &&& 31)) 6)) nf).1 (upN (y >>> (6 &&& 31)) nf)) := bstN_y (show nf < 1000 by omega) h_3
        refine g_iload rfl ?_
        refine g_fall rfl L_L_act_288 ?_
        refine g_iload rfl ?_
        refine g_iload_n rfl ?_
        refine g_bipush (v := 12) bk_12 ?_
        refine g_ishr ?_
        refine g_bipush (v := 6) bk_6 ?_
        refine g_callS (as := [_, _]) mk_L_up ml_L_35 sm_L_up rfl rfl ⟨⟨nle rfl, nle rfl⟩, nle rfl, nle rfl⟩ rfl rfl (nle rfl) ?_
        refine ct_L_up (m := 6) (by omega) (by omega) ?_
        refine kq_s ?_
        refine g_iload_n rfl ?_
        refine g_bipush (v := 16) bk_16 ?_
        refine g_ishr ?_
        refine g_bipush (v := 6) bk_6 ?_
        refine g_callS (as := [_, _]) mk_L_up ml_L_35 sm_L_up rfl rfl ⟨⟨nle rfl, nle rfl⟩, nle rfl, nle rfl⟩ rfl rfl (nle rfl) ?_
        refine ct_L_up (m := 6) (by omega) (by omega) ?_
        refine kq_s ?_
        refine g_callV (as := [_, _, _, _, _, _]) mk_X7_set ml_L_55 im_X7_set se_X7_set rfl rfl ⟨⟨nle rfl, nle rfl⟩, nle rfl, nle rfl⟩ hx.1 rfl rfl rfl (nle rfl) ?_
        rw [e9]
        refine l_set hx hI hO (bstN_lt (show nf < 1000 by omega) hf) ht (bd_up (m := 4) (by omega)) (bd_w (bd_1up (m := 3) (by omega)) (by omega)) (bd_up (m := 6) (by omega)) (bd_up (m := 6) (by omega)) q_261 (fun M' hO' => ?_)
        refine kq_s ?_
        refine g_goto rfl L_L_act_324 ?_
        refine g_iret rfl (nle rfl) (nle rfl) ?_
        unfold actC at hQ
        rw [if_pos q_187] at hQ
        unfold actS at hQ
        rw [if_pos q_261] at hQ
        exact hQ M' (hO'.up (by omega))
      · have e9 : nI (upN (y >>> (6 &&& 31)) nf) = nI (bstN (bfC s nc (nI (upN (y >>> (2 &&& 31)) 4)) ((1 : Int32) + nI (upN (y >>> (4 &&& 31)) 3)) (upN (y >>> (9 &&& 31)) nt) (nI (upN (y >>> (12 &&& 31)) 6)) (nI (upN (y >>> (16 &&& 31)) 6)) nf).1 (upN (y >>> (6 &&& 31)) nf)) := congrArg nI (if_neg h_3).symm
        refine g_iload rfl ?_
        refine g_goto rfl L_L_act_288 ?_
        refine g_iload rfl ?_
        refine g_iload_n rfl ?_
        refine g_bipush (v := 12) bk_12 ?_
        refine g_ishr ?_
        refine g_bipush (v := 6) bk_6 ?_
        refine g_callS (as := [_, _]) mk_L_up ml_L_35 sm_L_up rfl rfl ⟨⟨nle rfl, nle rfl⟩, nle rfl, nle rfl⟩ rfl rfl (nle rfl) ?_
        refine ct_L_up (m := 6) (by omega) (by omega) ?_
        refine kq_s ?_
        refine g_iload_n rfl ?_
        refine g_bipush (v := 16) bk_16 ?_
        refine g_ishr ?_
        refine g_bipush (v := 6) bk_6 ?_
        refine g_callS (as := [_, _]) mk_L_up ml_L_35 sm_L_up rfl rfl ⟨⟨nle rfl, nle rfl⟩, nle rfl, nle rfl⟩ rfl rfl (nle rfl) ?_
        refine ct_L_up (m := 6) (by omega) (by omega) ?_
        refine kq_s ?_
        refine g_callV (as := [_, _, _, _, _, _]) mk_X7_set ml_L_55 im_X7_set se_X7_set rfl rfl ⟨⟨nle rfl, nle rfl⟩, nle rfl, nle rfl⟩ hx.1 rfl rfl rfl (nle rfl) ?_
        rw [e9]
        refine l_set hx hI hO (bstN_lt (show nf < 1000 by omega) hf) ht (bd_up (m := 4) (by omega)) (bd_w (bd_1up (m := 3) (by omega)) (by omega)) (bd_up (m := 6) (by omega)) (bd_up (m := 6) (by omega)) q_261 (fun M' hO' => ?_)
        refine kq_s ?_
        refine g_goto rfl L_L_act_324 ?_
        refine g_iret rfl (nle rfl) (nle rfl) ?_
        unfold actC at hQ
        rw [if_pos q_187] at hQ
        unfold actS at hQ
        rw [if_pos q_261] at hQ
        exact hQ M' (hO'.up (by omega))
set_option maxRecDepth 100000 in
set_option maxHeartbeats 4000000 in
theorem act_170 {X : Xs} {κ : Kp} {M : Mem} {Q : Rs → Kp → Mem → Prop} {o B nf nt nc nd cnt : Nat} {s : Nat → Int32} {blk : Nat → Nat → Int32} {y : Int32} (hx : IsDF κ.2.1 o) (hI : Inv B nf nt nc nd s) (hO : OB B M o s cnt blk) (hn : nd < 12) (hQ : ∀ M', OB (B + 9) M' o ((nI nd, daS s nd)).2 (remC cnt) (remB cnt s blk) → Q (.inl (some (.int ((nI nd, daS s nd)).1))) κ M') : G X m_L_act B_L_act_170 170 [(0, some (.ref o))] [] 0 0 κ M Q := by
  have bf := hI.lf
  have bt' := hI.lt
  have bc := hI.lc
  have bn := hI.ld
  have hS := hO.1
  refine g_aload_n rfl ?_
  refine g_callV (as := []) mk_X7_dancer ml_L_47 im_X7_dancer se_X7_dancer rfl rfl ⟨⟨nle rfl, nle rfl⟩, nle rfl, nle rfl⟩ hx.1 rfl rfl rfl (nle rfl) ?_
  refine l_dancer hx hI hO hn (fun M' hO' => ?_)
  refine kq_s ?_
  refine g_iret rfl (nle rfl) (nle rfl) ?_
  exact hQ M' (hO'.up (by omega))
set_option maxRecDepth 100000 in
set_option maxHeartbeats 4000000 in
theorem act_152 {X : Xs} {κ : Kp} {M : Mem} {Q : Rs → Kp → Mem → Prop} {o B nf nt nc nd cnt : Nat} {s : Nat → Int32} {blk : Nat → Nat → Int32} {y : Int32} (hx : IsDF κ.2.1 o) (hI : Inv B nf nt nc nd s) (hO : OB B M o s cnt blk) {w : Nat} (hw : w < 20) (hf0 : 0 < nf) (ht0 : 0 < nt) (hQ : ∀ M', OB (B + 9) M' o (actB nf nt nc nd s w y).2 (remC cnt) (remB cnt s blk) → Q (.inl (some (.int (actB nf nt nc nd s w y).1))) κ M') : G X m_L_act B_L_act_152 152 [(0, some (.ref o)), (2, some (.int y)), (3, some (.int (nI nf))), (4, some (.int (nI nt))), (5, some (.int (nI nc))), (6, some (.int (nI nd))), (7, some (.int (nI w)))] [] 0 0 κ M Q := by
  have bf := hI.lf
  have bt' := hI.lt
  have bc := hI.lc
  have bn := hI.ld
  have hS := hO.1
  refine g_iload rfl ?_
  refine g_if_eq rfl L_L_act_170 (fun h_1 => ?_) (fun h_1 => ?_)
  · have q_1 : nd = 0 := (nI_eq (a := nd) (b := 0) (by omega) (by omega)).mp h_1
    unfold actB at hQ
    rw [if_pos (show nd = 0 ∨ w < 4 ∧ nd < 12 by omega)] at hQ
    exact g_lo2 (act_170 hx hI hO (y := y) (by omega) hQ) ⟨rfl, trivial⟩
  · have q_1 : ¬ nd = 0 := fun e => h_1 ((nI_eq (a := nd) (b := 0) (by omega) (by omega)).mpr e)
    refine g_iload rfl ?_
    refine g_iconst (v := 4) ik_4 ?_
    refine g_icmp_ge rfl L_L_act_175 (fun h_2 => ?_) (fun h_2 => ?_)
    · have q_2 : 4 ≤ w := (nI_leI (a := 4) (b := w) (by omega) (by omega)).mp h_2
      unfold actB at hQ
      rw [if_neg (show ¬ (nd = 0 ∨ w < 4 ∧ nd < 12) by omega)] at hQ
      exact g_lo2 (act_175 hx hI hO hw hf0 ht0 (by omega) hQ) ⟨rfl, rfl, rfl, rfl, rfl, rfl, rfl, trivial⟩
    · have q_2 : w < 4 := Nat.not_le.mp (fun e => h_2 ((nI_leI (a := 4) (b := w) (by omega) (by omega)).mpr e))
      refine g_iload rfl ?_
      refine g_bipush (v := 12) bk_12 ?_
      refine g_icmp_ge rfl L_L_act_175 (fun h_3 => ?_) (fun h_3 => ?_)
      · have q_3 : 12 ≤ nd := (nI_leI (a := 12) (b := nd) (by omega) (by omega)).mp h_3
        unfold actB at hQ
        rw [if_neg (show ¬ (nd = 0 ∨ w < 4 ∧ nd < 12) by omega)] at hQ
        exact g_lo2 (act_175 hx hI hO hw hf0 ht0 (by omega) hQ) ⟨rfl, rfl, rfl, rfl, rfl, rfl, rfl, trivial⟩
      · have q_3 : nd < 12 := Nat.not_le.mp (fun e => h_3 ((nI_leI (a := 12) (b := nd) (by omega) (by omega)).mpr e))
        refine g_fall rfl L_L_act_170 ?_
        unfold actB at hQ
        rw [if_pos (show nd = 0 ∨ w < 4 ∧ nd < 12 by omega)] at hQ
        exact g_lo2 (act_170 hx hI hO (y := y) (by omega) hQ) ⟨rfl, trivial⟩
set_option maxRecDepth 100000 in
set_option maxHeartbeats 4000000 in
theorem act_119 {X : Xs} {κ : Kp} {M : Mem} {Q : Rs → Kp → Mem → Prop} {o B nf nt nc nd cnt : Nat} {s : Nat → Int32} {blk : Nat → Nat → Int32} {y : Int32} (hx : IsDF κ.2.1 o) (hI : Inv B nf nt nc nd s) (hO : OB B M o s cnt blk) (hn : nt < 5) (hQ : ∀ M', OB (B + 9) M' o ((nI nt, teS s nt (if y &&& 1 = 0 then 15 else nI (upN (y >>> (1 &&& 31)) 16)) ((1 : Int32) + nI (upN (y >>> (5 &&& 31)) 5)))).2 (remC cnt) (remB cnt s blk) → Q (.inl (some (.int ((nI nt, teS s nt (if y &&& 1 = 0 then 15 else nI (upN (y >>> (1 &&& 31)) 16)) ((1 : Int32) + nI (upN (y >>> (5 &&& 31)) 5)))).1))) κ M') : G X m_L_act B_L_act_119 119 [(0, some (.ref o)), (2, some (.int y))] [] 0 0 κ M Q := by
  have bf := hI.lf
  have bt' := hI.lt
  have bc := hI.lc
  have bn := hI.ld
  have hS := hO.1
  refine g_aload_n rfl ?_
  refine g_iload_n rfl ?_
  refine g_iconst (v := 1) ik_1 ?_
  refine g_iand ?_
  refine g_if_ne rfl L_L_act_131 (fun h_1 => ?_) (fun h_1 => ?_)
  · have q_123 := h_1
    refine g_iload_n rfl ?_
    refine g_iconst (v := 1) ik_1 ?_
    refine g_ishr ?_
    refine g_bipush (v := 16) bk_16 ?_
    refine g_callS (as := [_, _]) mk_L_up ml_L_35 sm_L_up rfl rfl ⟨⟨nle rfl, nle rfl⟩, nle rfl, nle rfl⟩ rfl rfl (nle rfl) ?_
    refine ct_L_up (m := 16) (by omega) (by omega) ?_
    refine kq_s ?_
    refine g_fall rfl L_L_act_139 ?_
    refine g_iconst (v := 1) ik_1 ?_
    refine g_iload_n rfl ?_
    refine g_iconst (v := 5) ik_5 ?_
    refine g_ishr ?_
    refine g_iconst (v := 5) ik_5 ?_
    refine g_callS (as := [_, _]) mk_L_up ml_L_35 sm_L_up rfl rfl ⟨⟨nle rfl, nle rfl⟩, nle rfl, nle rfl⟩ rfl rfl (nle rfl) ?_
    refine ct_L_up (m := 5) (by omega) (by omega) ?_
    refine kq_s ?_
    refine g_iadd ?_
    refine g_callV (as := [_, _]) mk_X7_teacher ml_L_44 im_X7_teacher se_X7_teacher rfl rfl ⟨⟨nle rfl, nle rfl⟩, nle rfl, nle rfl⟩ hx.1 rfl rfl rfl (nle rfl) ?_
    refine l_teacher hx hI hO (bd_up (m := 16) (by omega)) (bd_1up (m := 5) (by omega)) hn (fun M' hO' => ?_)
    refine kq_s ?_
    refine g_iret rfl (nle rfl) (nle rfl) ?_
    rw [if_neg q_123] at hQ
    exact hQ M' (hO'.up (by omega))
  · have q_123 := h_1
    refine g_bipush (v := 15) bk_15 ?_
    refine g_goto rfl L_L_act_139 ?_
    refine g_iconst (v := 1) ik_1 ?_
    refine g_iload_n rfl ?_
    refine g_iconst (v := 5) ik_5 ?_
    refine g_ishr ?_
    refine g_iconst (v := 5) ik_5 ?_
    refine g_callS (as := [_, _]) mk_L_up ml_L_35 sm_L_up rfl rfl ⟨⟨nle rfl, nle rfl⟩, nle rfl, nle rfl⟩ rfl rfl (nle rfl) ?_
    refine ct_L_up (m := 5) (by omega) (by omega) ?_
    refine kq_s ?_
    refine g_iadd ?_
    refine g_callV (as := [_, _]) mk_X7_teacher ml_L_44 im_X7_teacher se_X7_teacher rfl rfl ⟨⟨nle rfl, nle rfl⟩, nle rfl, nle rfl⟩ hx.1 rfl rfl rfl (nle rfl) ?_
    refine l_teacher hx hI hO ⟨15, by omega, by omega, rfl⟩ (bd_1up (m := 5) (by omega)) hn (fun M' hO' => ?_)
    refine kq_s ?_
    refine g_iret rfl (nle rfl) (nle rfl) ?_
    rw [if_pos q_123] at hQ
    exact hQ M' (hO'.up (by omega))
set_option maxRecDepth 100000 in
set_option maxHeartbeats 4000000 in
theorem act_102 {X : Xs} {κ : Kp} {M : Mem} {Q : Rs → Kp → Mem → Prop} {o B nf nt nc nd cnt : Nat} {s : Nat → Int32} {blk : Nat → Nat → Int32} {y : Int32} (hx : IsDF κ.2.1 o) (hI : Inv B nf nt nc nd s) (hO : OB B M o s cnt blk) {w : Nat} (hw : w < 20) (hf0 : 0 < nf) (hQ : ∀ M', OB (B + 9) M' o (actA nf nt nc nd s w y).2 (remC cnt) (remB cnt s blk) → Q (.inl (some (.int (actA nf nt nc nd s w y).1))) κ M') : G X m_L_act B_L_act_102 102 [(0, some (.ref o)), (2, some (.int y)), (3, some (.int (nI nf))), (4, some (.int (nI nt))), (5, some (.int (nI nc))), (6, some (.int (nI nd))), (7, some (.int (nI w)))] [] 0 0 κ M Q := by
  have bf := hI.lf
  have bt' := hI.lt
  have bc := hI.lc
  have bn := hI.ld
  have hS := hO.1
  refine g_iload rfl ?_
  refine g_if_eq rfl L_L_act_119 (fun h_1 => ?_) (fun h_1 => ?_)
  · have q_1 : nt = 0 := (nI_eq (a := nt) (b := 0) (by omega) (by omega)).mp h_1
    unfold actA at hQ
    rw [if_pos (show nt = 0 ∨ w = 1 ∧ nt < 5 by omega)] at hQ
    exact g_lo2 (act_119 hx hI hO (by omega) hQ) ⟨rfl, rfl, trivial⟩
  · have q_1 : ¬ nt = 0 := fun e => h_1 ((nI_eq (a := nt) (b := 0) (by omega) (by omega)).mpr e)
    refine g_iload rfl ?_
    refine g_iconst (v := 1) ik_1 ?_
    refine g_icmp_ne rfl L_L_act_152 (fun h_2 => ?_) (fun h_2 => ?_)
    · have q_2 : ¬ w = 1 := fun e => h_2 ((nI_eq (a := w) (b := 1) (by omega) (by omega)).mpr e)
      unfold actA at hQ
      rw [if_neg (show ¬ (nt = 0 ∨ w = 1 ∧ nt < 5) by omega)] at hQ
      exact g_lo2 (act_152 hx hI hO hw hf0 (by omega) hQ) ⟨rfl, rfl, rfl, rfl, rfl, rfl, rfl, trivial⟩
    · have q_2 : w = 1 := (nI_eq (a := w) (b := 1) (by omega) (by omega)).mp h_2
      refine g_iload rfl ?_
      refine g_iconst (v := 5) ik_5 ?_
      refine g_icmp_ge rfl L_L_act_152 (fun h_3 => ?_) (fun h_3 => ?_)
      · have q_3 : 5 ≤ nt := (nI_leI (a := 5) (b := nt) (by omega) (by omega)).mp h_3
        unfold actA at hQ
        rw [if_neg (show ¬ (nt = 0 ∨ w = 1 ∧ nt < 5) by omega)] at hQ
        exact g_lo2 (act_152 hx hI hO hw hf0 (by omega) hQ) ⟨rfl, rfl, rfl, rfl, rfl, rfl, rfl, trivial⟩
      · have q_3 : nt < 5 := Nat.not_le.mp (fun e => h_3 ((nI_leI (a := 5) (b := nt) (by omega) (by omega)).mpr e))
        refine g_fall rfl L_L_act_119 ?_
        unfold actA at hQ
        rw [if_pos (show nt = 0 ∨ w = 1 ∧ nt < 5 by omega)] at hQ
        exact g_lo2 (act_119 hx hI hO (by omega) hQ) ⟨rfl, rfl, trivial⟩
set_option maxRecDepth 100000 in
set_option maxHeartbeats 4000000 in
theorem act_49 {X : Xs} {κ : Kp} {M : Mem} {Q : Rs → Kp → Mem → Prop} {o B nf nt nc nd cnt : Nat} {s : Nat → Int32} {blk : Nat → Nat → Int32} {y : Int32} (hx : IsDF κ.2.1 o) (hI : Inv B nf nt nc nd s) (hO : OB B M o s cnt blk) (hn : nf < 4) (hQ : ∀ M', OB (B + 9) M' o ((nI nf, flS s nf ((1 : Int32) + nI (upN y 9)) (nI (upN (y >>> (4 &&& 31)) 5)) (nI (upN (y >>> (7 &&& 31)) 61)) ((1 : Int32) + nI (upN (y >>> (13 &&& 31)) (if y >>> (20 &&& 31) &&& 1 = 0 then 30 else 3))))).2 (remC cnt) (remB cnt s blk) → Q (.inl (some (.int ((nI nf, flS s nf ((1 : Int32) + nI (upN y 9)) (nI (upN (y >>> (4 &&& 31)) 5)) (nI (upN (y >>> (7 &&& 31)) 61)) ((1 : Int32) + nI (upN (y >>> (13 &&& 31)) (if y >>> (20 &&& 31) &&& 1 = 0 then 30 else 3))))).1))) κ M') : G X m_L_act B_L_act_49 49 [(0, some (.ref o)), (2, some (.int y))] [] 0 0 κ M Q := by
  have bf := hI.lf
  have bt' := hI.lt
  have bc := hI.lc
  have bn := hI.ld
  have hS := hO.1
  refine g_aload_n rfl ?_
  refine g_iconst (v := 1) ik_1 ?_
  refine g_iload_n rfl ?_
  refine g_bipush (v := 9) bk_9 ?_
  refine g_callS (as := [_, _]) mk_L_up ml_L_35 sm_L_up rfl rfl ⟨⟨nle rfl, nle rfl⟩, nle rfl, nle rfl⟩ rfl rfl (nle rfl) ?_
  refine ct_L_up (m := 9) (by omega) (by omega) ?_
  refine kq_s ?_
  refine g_iadd ?_
  refine g_iload_n rfl ?_
  refine g_iconst (v := 4) ik_4 ?_
  refine g_ishr ?_
  refine g_iconst (v := 5) ik_5 ?_
  refine g_callS (as := [_, _]) mk_L_up ml_L_35 sm_L_up rfl rfl ⟨⟨nle rfl, nle rfl⟩, nle rfl, nle rfl⟩ rfl rfl (nle rfl) ?_
  refine ct_L_up (m := 5) (by omega) (by omega) ?_
  refine kq_s ?_
  refine g_iload_n rfl ?_
  refine g_bipush (v := 7) bk_7 ?_
  refine g_ishr ?_
  refine g_bipush (v := 61) bk_61 ?_
  refine g_callS (as := [_, _]) mk_L_up ml_L_35 sm_L_up rfl rfl ⟨⟨nle rfl, nle rfl⟩, nle rfl, nle rfl⟩ rfl rfl (nle rfl) ?_
  refine ct_L_up (m := 61) (by omega) (by omega) ?_
  refine kq_s ?_
  refine g_iconst (v := 1) ik_1 ?_
  refine g_iload_n rfl ?_
  refine g_bipush (v := 13) bk_13 ?_
  refine g_ishr ?_
  refine g_iload_n rfl ?_
  refine g_bipush (v := 20) bk_20 ?_
  refine g_ishr ?_
  refine g_iconst (v := 1) ik_1 ?_
  refine g_iand ?_
  refine g_if_ne rfl L_L_act_93 (fun h_1 => ?_) (fun h_1 => ?_)
  · have q_85 := h_1
    refine g_iconst (v := 3) ik_3 ?_
    refine g_fall rfl L_L_act_94 ?_
    refine g_callS (as := [_, _]) mk_L_up ml_L_35 sm_L_up rfl rfl ⟨⟨nle rfl, nle rfl⟩, nle rfl, nle rfl⟩ rfl rfl (nle rfl) ?_
    refine ct_L_up (m := 3) (by omega) (by omega) ?_
    refine kq_s ?_
    refine g_iadd ?_
    refine g_callV (as := [_, _, _, _]) mk_X7_floor ml_L_40 im_X7_floor se_X7_floor rfl rfl ⟨⟨nle rfl, nle rfl⟩, nle rfl, nle rfl⟩ hx.1 rfl rfl rfl (nle rfl) ?_
    refine l_floor hx hI hO (bd_1up (m := 9) (by omega)) (bd_up (m := 5) (by omega)) (bd_up (m := 61) (by omega)) (bd_w (bd_1up (m := 3) (by omega)) (by omega)) hn (fun M' hO' => ?_)
    refine kq_s ?_
    refine g_iret rfl (nle rfl) (nle rfl) ?_
    rw [if_neg q_85] at hQ
    exact hQ M' (hO'.up (by omega))
  · have q_85 := h_1
    refine g_bipush (v := 30) bk_30 ?_
    refine g_goto rfl L_L_act_94 ?_
    refine g_callS (as := [_, _]) mk_L_up ml_L_35 sm_L_up rfl rfl ⟨⟨nle rfl, nle rfl⟩, nle rfl, nle rfl⟩ rfl rfl (nle rfl) ?_
    refine ct_L_up (m := 30) (by omega) (by omega) ?_
    refine kq_s ?_
    refine g_iadd ?_
    refine g_callV (as := [_, _, _, _]) mk_X7_floor ml_L_40 im_X7_floor se_X7_floor rfl rfl ⟨⟨nle rfl, nle rfl⟩, nle rfl, nle rfl⟩ hx.1 rfl rfl rfl (nle rfl) ?_
    refine l_floor hx hI hO (bd_1up (m := 9) (by omega)) (bd_up (m := 5) (by omega)) (bd_up (m := 61) (by omega)) (bd_1up (m := 30) (by omega)) hn (fun M' hO' => ?_)
    refine kq_s ?_
    refine g_iret rfl (nle rfl) (nle rfl) ?_
    rw [if_pos q_85] at hQ
    exact hQ M' (hO'.up (by omega))
set_option maxRecDepth 100000 in
set_option maxHeartbeats 4000000 in
theorem ct_L_act {X : Xs} {κ : Kp} {M : Mem} {Q : Rs → Kp → Mem → Prop} {o B nf nt nc nd cnt : Nat} {s : Nat → Int32} {blk : Nat → Nat → Int32} {x y : Int32} (hx : IsDF κ.2.1 o) (hI : Inv B nf nt nc nd s) (hO : OB B M o s cnt blk) (hQ : ∀ M', OB (B + 9) M' o (actF nf nt nc nd s x y).2 (remC cnt) (remB cnt s blk) → Q (.inl (some (.int (actF nf nt nc nd s x y).1))) κ M') : Ct X m_L_act [.ref o, .int x, .int y] κ M Q := by
  refine ct_of B_L_act_0 pn_L rfl (nle rfl) L_L_act_0 ?_
  have bf := hI.lf
  have bt' := hI.lt
  have bc := hI.lc
  have bn := hI.ld
  have hS := hO.1
  have hw : upN x 20 < 20 := upN_lt _ (by omega)
  refine g_aload_n rfl ?_
  refine g_iconst (v := 0) ik_0 ?_
  refine g_callV (as := [_]) mk_X7_about ml_L_13 im_X7_about se_X7_about rfl rfl ⟨⟨nle rfl, nle rfl⟩, nle rfl, nle rfl⟩ hx.1 rfl rfl rfl (nle rfl) ?_
  refine l_about hx hS (w := 0) (v := nI nf) (by decide) hI.f ?_
  refine kq_s ?_
  refine g_istore_n (nle rfl) ?_
  refine g_aload_n rfl ?_
  refine g_iconst (v := 1) ik_1 ?_
  refine g_callV (as := [_]) mk_X7_about ml_L_13 im_X7_about se_X7_about rfl rfl ⟨⟨nle rfl, nle rfl⟩, nle rfl, nle rfl⟩ hx.1 rfl rfl rfl (nle rfl) ?_
  refine l_about hx hS (w := 1) (v := nI nt) (by decide) hI.t ?_
  refine kq_s ?_
  refine g_istore (nle rfl) ?_
  refine g_aload_n rfl ?_
  refine g_iconst (v := 2) ik_2 ?_
  refine g_callV (as := [_]) mk_X7_about ml_L_13 im_X7_about se_X7_about rfl rfl ⟨⟨nle rfl, nle rfl⟩, nle rfl, nle rfl⟩ hx.1 rfl rfl rfl (nle rfl) ?_
  refine l_about hx hS (w := 2) (v := nI nc) (by decide) hI.c ?_
  refine kq_s ?_
  refine g_istore (nle rfl) ?_
  refine g_aload_n rfl ?_
  refine g_iconst (v := 3) ik_3 ?_
  refine g_callV (as := [_]) mk_X7_about ml_L_13 im_X7_about se_X7_about rfl rfl ⟨⟨nle rfl, nle rfl⟩, nle rfl, nle rfl⟩ hx.1 rfl rfl rfl (nle rfl) ?_
  refine l_about hx hS (w := 3) (v := nI nd) (by decide) hI.d ?_
  refine kq_s ?_
  refine g_istore (nle rfl) ?_
  refine g_iload_n rfl ?_
  refine g_bipush (v := 20) bk_20 ?_
  refine g_callS (as := [_, _]) mk_L_up ml_L_35 sm_L_up rfl rfl ⟨⟨nle rfl, nle rfl⟩, nle rfl, nle rfl⟩ rfl rfl (nle rfl) ?_
  refine ct_L_up (m := 20) (by omega) (by omega) ?_
  refine kq_s ?_
  refine g_istore (nle rfl) ?_
  refine g_iload_n rfl ?_
  refine g_if_eq rfl L_L_act_49 (fun h_1 => ?_) (fun h_1 => ?_)
  · have q_1 : nf = 0 := (nI_eq (a := nf) (b := 0) (by omega) (by omega)).mp h_1
    unfold actF at hQ
    rw [if_pos (show nf = 0 ∨ upN x 20 = 0 ∧ nf < 4 by omega)] at hQ
    exact g_lo2 (act_49 hx hI hO (by omega) hQ) ⟨rfl, rfl, trivial⟩
  · have q_1 : ¬ nf = 0 := fun e => h_1 ((nI_eq (a := nf) (b := 0) (by omega) (by omega)).mpr e)
    refine g_iload rfl ?_
    refine g_if_ne rfl L_L_act_102 (fun h_2 => ?_) (fun h_2 => ?_)
    · have q_2 : ¬ (upN x 20) = 0 := fun e => h_2 ((nI_eq (a := (upN x 20)) (b := 0) (by omega) (by omega)).mpr e)
      unfold actF at hQ
      rw [if_neg (show ¬ (nf = 0 ∨ upN x 20 = 0 ∧ nf < 4) by omega)] at hQ
      exact g_lo2 (act_102 hx hI hO hw (by omega) hQ) ⟨rfl, rfl, rfl, rfl, rfl, rfl, rfl, trivial⟩
    · have q_2 : (upN x 20) = 0 := (nI_eq (a := (upN x 20)) (b := 0) (by omega) (by omega)).mp h_2
      refine g_iload_n rfl ?_
      refine g_iconst (v := 4) ik_4 ?_
      refine g_icmp_ge rfl L_L_act_102 (fun h_3 => ?_) (fun h_3 => ?_)
      · have q_3 : 4 ≤ nf := (nI_leI (a := 4) (b := nf) (by omega) (by omega)).mp h_3
        unfold actF at hQ
        rw [if_neg (show ¬ (nf = 0 ∨ upN x 20 = 0 ∧ nf < 4) by omega)] at hQ
        exact g_lo2 (act_102 hx hI hO hw (by omega) hQ) ⟨rfl, rfl, rfl, rfl, rfl, rfl, rfl, trivial⟩
      · have q_3 : nf < 4 := Nat.not_le.mp (fun e => h_3 ((nI_leI (a := 4) (b := nf) (by omega) (by omega)).mpr e))
        refine g_fall rfl L_L_act_49 ?_
        unfold actF at hQ
        rw [if_pos (show nf = 0 ∨ upN x 20 = 0 ∧ nf < 4 by omega)] at hQ
        exact g_lo2 (act_49 hx hI hO (by omega) hQ) ⟨rfl, rfl, trivial⟩
