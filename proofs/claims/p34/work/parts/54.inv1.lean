/-! ===== p34: what every action keeps ===== -/
def sumN : Nat → (Nat → Nat) → Nat
  | 0, _ => 0
  | n + 1, f => sumN n f + f n
theorem sumN_congr {f g : Nat → Nat} : ∀ {n : Nat}, (∀ k, k < n → f k = g k) → sumN n f = sumN n g
  | 0, _ => rfl
  | n + 1, h => by
    show sumN n f + f n = sumN n g + g n
    rw [sumN_congr (fun k hk => h k (by omega)), h n (by omega)]
theorem sumN_one {f g : Nat → Nat} {i : Nat} : ∀ {n : Nat}, i < n → (∀ k, k < n → k ≠ i → f k = g k) → sumN n f + g i = sumN n g + f i
  | 0, hi, _ => absurd hi (Nat.not_lt_zero i)
  | n + 1, hi, h => by
    show sumN n f + f n + g i = sumN n g + g n + f i
    by_cases e : i = n
    · subst e
      rw [sumN_congr (g := g) (fun k hk => h k (by omega) (by omega))]
      omega
    · have := sumN_one (i := i) (n := n) (by omega) (fun k hk hne => h k (by omega) hne)
      rw [h n (by omega) (by omega)]
      omega
theorem sumN_add {f : Nat → Nat} (a : Nat) : ∀ (b : Nat), sumN (a + b) f = sumN a f + sumN b (fun k => f (a + k))
  | 0 => rfl
  | b + 1 => by
    show sumN (a + b) f + f (a + b) = _ + (sumN b _ + f (a + b))
    rw [sumN_add a b]
    omega
theorem sumN_le {f g : Nat → Nat} : ∀ {n : Nat}, (∀ k, k < n → f k ≤ g k) → sumN n f ≤ sumN n g
  | 0, _ => Nat.le_refl _
  | n + 1, h => Nat.add_le_add (sumN_le fun k hk => h k (by omega)) (h n (by omega))
theorem sumN_c {c : Nat} : ∀ n, sumN n (fun _ => c) = c * n
  | 0 => rfl
  | n + 1 => by show sumN n _ + c = _; rw [sumN_c n]; exact rfl
theorem sumN_pl {f g : Nat → Nat} : ∀ m, sumN m f + sumN m g = sumN m (fun j => f j + g j)
  | 0 => rfl
  | m + 1 => by
    show (sumN m f + f m) + (sumN m g + g m) = sumN m _ + (f m + g m)
    rw [← sumN_pl m]
    omega
theorem sumN_sw {f : Nat → Nat → Nat} : ∀ (n m : Nat), sumN n (fun i => sumN m (fun j => f i j)) = sumN m (fun j => sumN n (fun i => f i j))
  | 0, m => by
    show 0 = sumN m (fun _ => 0)
    rw [sumN_c, Nat.zero_mul]
  | n + 1, m => by
    show sumN n _ + sumN m _ = _
    rw [sumN_sw n m]
    exact sumN_pl m
theorem sumI_N {f : Nat → Int32} {g : Nat → Nat} : ∀ {n : Nat}, (∀ k, k < n → f k = nI (g k)) → sumI n f = nI (sumN n g)
  | 0, _ => rfl
  | n + 1, h => by
    show sumI n f + f n = nI (sumN n g + g n)
    rw [sumI_N (fun k hk => h k (by omega)), h n (by omega), nI_add]
def sameT (s : Nat → Int32) (k e : Nat) : Prop := s (39 + 9 * e + 4) = s (39 + 9 * k + 4) ∧ s (39 + 9 * e + 5) = s (39 + 9 * k + 5)
/-- a class suits its floor and its teacher -/
def LqC (nf nt : Nat) (s : Nat → Int32) (k : Nat) : Prop := ∃ f t : Nat, f < nf ∧ t < nt ∧ s (39 + 9 * k + 2) = nI f ∧ s (39 + 9 * k + 3) = nI t ∧ bd 0 3 (s (39 + 9 * k + 0)) ∧ bd 1 5 (s (39 + 9 * k + 1)) ∧
  bitS (s (29 + 2 * t)) (s (39 + 9 * k + 0)) = true ∧ s (39 + 9 * k + 1) ≤ s (29 + 2 * t + 1) ∧ sprOK (s (13 + 4 * f)) (s (39 + 9 * k + 0)) (s (39 + 9 * k + 1)) = true ∧ barOK (s (13 + 4 * f + 2)) (s (39 + 9 * k + 0)) (s (39 + 9 * k + 1)) = true ∧ mirOK (s (13 + 4 * f + 1)) (s (39 + 9 * k + 0)) (s (39 + 9 * k + 1)) = true
/-- its seats: dancers that are there, at most the room -/
def LqS (nd : Nat) (s : Nat → Int32) (k : Nat) : Prop := (∀ i, nd ≤ i → i < 32 → bt (s (39 + 9 * k + 8)) i = false) ∧ bitsI (s (39 + 9 * k + 8)) ≤ tkV s k
def LqP (nc : Nat) (s : Nat → Int32) : Prop := ∀ k e, k < nc → e < k → sameT s k e → s (39 + 9 * e + 2) ≠ s (39 + 9 * k + 2) ∧ s (39 + 9 * e + 3) ≠ s (39 + 9 * k + 3)
def LqW (B nc : Nat) (s : Nat → Int32) : Prop := ∃ w : Nat, w ≤ B ∧ s 4 = nI w ∧ ∀ k, k < nc → ∃ h : Nat, h ≤ w ∧ s (39 + 9 * k + 6) = nI h
def LqU (B nc : Nat) (s : Nat → Int32) : Prop := ∃ (v : Nat) (u : Nat → Nat), s 10 = nI v ∧ (∀ k, k < nc → s (39 + 9 * k + 7) = nI (u k)) ∧ v + sumN nc u ≤ 120 * B
def LqD (nd : Nat) (s : Nat → Int32) : Prop := ∀ d, d < nd → bd 1 5 (s (129 + 5 * d))
def LqK (B nf nt nc nd : Nat) (s : Nat → Int32) : Prop := bd 1 50 (s 12) ∧ (∀ k, k < nc → LqC nf nt s k) ∧ (∀ k, k < nc → LqS nd s k) ∧ LqP nc s ∧ LqW B nc s ∧ LqU B nc s ∧ LqD nd s
theorem LqC.cg {nf nt nf' nt' k k' : Nat} {s s' : Nat → Int32} (h : LqC nf nt s k) (h1 : nf ≤ nf') (h2 : nt ≤ nt') (h0 : ∀ i, i < 4 → s' (39 + 9 * k' + i) = s (39 + 9 * k + i)) (hf : ∀ f i, f < nf → i < 4 → s' (13 + 4 * f + i) = s (13 + 4 * f + i)) (ht : ∀ t i, t < nt → i < 2 → s' (29 + 2 * t + i) = s (29 + 2 * t + i)) : LqC nf' nt' s' k' := by
  obtain ⟨f, t, a1, a2, a3⟩ := h
  have e0 : s' (39 + 9 * k' + 0) = s (39 + 9 * k + 0) := h0 0 (by omega)
  have e1 := h0 1 (by omega)
  have e2 := h0 2 (by omega)
  have e3 := h0 3 (by omega)
  have f0 : s' (13 + 4 * f) = s (13 + 4 * f) := hf f 0 a1 (by omega)
  have f1 := hf f 1 a1 (by omega)
  have f2 := hf f 2 a1 (by omega)
  have t0 : s' (29 + 2 * t) = s (29 + 2 * t) := ht t 0 a2 (by omega)
  have t1 := ht t 1 a2 (by omega)
  refine ⟨f, t, by omega, by omega, ?_⟩
  rw [e0, e1, e2, e3, f0, f1, f2, t0, t1]
  exact a3
theorem tkV_f {s : Nat → Int32} {k f : Nat} (hf : f < 1000) (e : s (39 + 9 * k + 2) = nI f) : tkV s k = tkI (s (13 + 4 * f + 3)) (s (13 + 4 * f + 2)) (s (39 + 9 * k + 0)) := by
  unfold tkV
  rw [e, tn_nI (by omega)]
theorem LqS.cg {nf nt nd nd' k k' : Nat} {s s' : Nat → Int32} (hC : LqC nf nt s k) (hn : nf ≤ 4) (h : LqS nd s k) (h1 : nd ≤ nd') (h0 : ∀ i, i < 4 → s' (39 + 9 * k' + i) = s (39 + 9 * k + i)) (h8 : s' (39 + 9 * k' + 8) = s (39 + 9 * k + 8)) (hf : ∀ f i, f < nf → i < 4 → s' (13 + 4 * f + i) = s (13 + 4 * f + i)) : LqS nd' s' k' := by
  obtain ⟨f, t, a1, a2, a3, -⟩ := hC
  have e0 : s' (39 + 9 * k' + 0) = s (39 + 9 * k + 0) := h0 0 (by omega)
  have e2 := h0 2 (by omega)
  refine ⟨fun i b1 b2 => by rw [h8]; exact h.1 i (by omega) b2, ?_⟩
  rw [h8, tkV_f (f := f) (by omega) (e2.trans a3), hf f 3 a1 (by omega), hf f 2 a1 (by omega), e0, ← tkV_f (by omega) a3]
  exact h.2
theorem LqP.cg {nc nc' : Nat} {s s' : Nat → Int32} (h : LqP nc s) (p : Nat → Nat) (h1 : ∀ k, k < nc' → p k < nc) (h2 : ∀ k e, e < k → p e < p k) (h0 : ∀ k i, k < nc' → 2 ≤ i → i < 6 → s' (39 + 9 * k + i) = s (39 + 9 * p k + i)) : LqP nc' s' := by
  intro k e hk he hT
  unfold sameT at hT
  rw [h0 e 4 (by omega) (by omega) (by omega), h0 e 5 (by omega) (by omega) (by omega), h0 k 4 hk (by omega) (by omega), h0 k 5 hk (by omega) (by omega)] at hT
  rw [h0 e 2 (by omega) (by omega) (by omega), h0 e 3 (by omega) (by omega) (by omega), h0 k 2 hk (by omega) (by omega), h0 k 3 hk (by omega) (by omega)]
  exact h (p k) (p e) (h1 k hk) (h2 k e he) hT
theorem LqW.cg {B nc nc' : Nat} {s s' : Nat → Int32} (h : LqW B nc s) (p : Nat → Nat) (h1 : ∀ k, k < nc' → p k < nc) (h4 : s' 4 = s 4) (h0 : ∀ k, k < nc' → s' (39 + 9 * k + 6) = s (39 + 9 * p k + 6)) : LqW B nc' s' := by
  obtain ⟨w, a1, a2, a3⟩ := h
  exact ⟨w, a1, h4.trans a2, fun k hk => by rw [h0 k hk]; exact a3 _ (h1 k hk)⟩
theorem LqU.cg {B nc : Nat} {s s' : Nat → Int32} (h : LqU B nc s) (h4 : s' 10 = s 10) (h0 : ∀ k, k < nc → s' (39 + 9 * k + 7) = s (39 + 9 * k + 7)) : LqU B nc s' := by
  obtain ⟨v, u, a1, a2, a3⟩ := h
  exact ⟨v, u, h4.trans a1, fun k hk => (h0 k hk).trans (a2 k hk), a3⟩
theorem LqK.up {B B' nf nt nc nd : Nat} {s : Nat → Int32} (h : LqK B nf nt nc nd s) (hB : B ≤ B') : LqK B' nf nt nc nd s := by
  obtain ⟨h1, h2, h3, h4, ⟨w, a1, a2⟩, ⟨v, u, b1, b2, b3⟩, h7⟩ := h
  exact ⟨h1, h2, h3, h4, ⟨w, by omega, a2⟩, ⟨v, u, b1, b2, by omega⟩, h7⟩
/-- what changes no class, no floor, no teacher, no week: all stays -/
theorem LqK.cg {B nf nt nc nd nf' nt' nd' : Nat} {s s' : Nat → Int32} (h : LqK B nf nt nc nd s) (hn : nf ≤ 4) (h1 : nf ≤ nf') (h2 : nt ≤ nt') (h3 : nd ≤ nd') (e12 : bd 1 50 (s' 12)) (e4 : s' 4 = s 4) (e10 : s' 10 = s 10) (hc : ∀ k i, k < nc → i < 9 → s' (39 + 9 * k + i) = s (39 + 9 * k + i)) (hf : ∀ f i, f < nf → i < 4 → s' (13 + 4 * f + i) = s (13 + 4 * f + i)) (ht : ∀ t i, t < nt → i < 2 → s' (29 + 2 * t + i) = s (29 + 2 * t + i)) (hd : LqD nd' s') : LqK B nf' nt' nc nd' s' := by
  obtain ⟨a1, a2, a3, a4, a5, a6, a7⟩ := h
  exact ⟨e12, fun k hk => (a2 k hk).cg h1 h2 (fun i hi => hc k i hk (by omega)) hf ht, fun k hk => (a3 k hk).cg (a2 k hk) hn h3 (fun i hi => hc k i hk (by omega)) (hc k 8 hk (by omega)) hf,
    a4.cg (fun k => k) (fun k hk => hk) (fun k e he => he) (fun k i hk _ hi => hc k i hk (by omega)), a5.cg (fun k => k) (fun k hk => hk) e4 (fun k hk => hc k 6 hk (by omega)), a6.cg e10 (fun k hk => hc k 7 hk (by omega)), hd⟩
theorem LqD.cg {nd : Nat} {s s' : Nat → Int32} (h : LqD nd s) (e : ∀ d, d < nd → s' (129 + 5 * d) = s (129 + 5 * d)) : LqD nd s' := fun d hd => by rw [e d hd]; exact h d hd
section LKA
variable {B nf nt nc nd : Nat} {s : Nat → Int32}
theorem lk_fl (hI : Inv B nf nt nc nd s) (h : LqK B nf nt nc nd s) (hn : nf < 4) {a b c d : Int32} : LqK B (nf + 1) nt nc nd (flS s nf a b c d) := by
  have bt := hI.lt
  have bc := hI.lc
  have bn := hI.ld
  refine h.cg (by omega) (by omega) (by omega) (by omega) ?_ ?_ ?_ (fun k i hk hi => ?_) (fun f i hf hi => ?_) (fun t i ht hi => ?_) (h.2.2.2.2.2.2.cg fun d hd => ?_) <;> unfold flS
  · simp (disch := omega) only [upd_ne]; exact h.1
  all_goals simp (disch := omega) only [upd_ne]
theorem lk_te (hI : Inv B nf nt nc nd s) (h : LqK B nf nt nc nd s) (hn : nt < 5) {a b : Int32} : LqK B nf (nt + 1) nc nd (teS s nt a b) := by
  have bf := hI.lf
  have bc := hI.lc
  have bn := hI.ld
  refine h.cg (by omega) (by omega) (by omega) (by omega) ?_ ?_ ?_ (fun k i hk hi => ?_) (fun f i hf hi => ?_) (fun t i ht hi => ?_) (h.2.2.2.2.2.2.cg fun d hd => ?_) <;> unfold teS
  · simp (disch := omega) only [upd_ne]; exact h.1
  all_goals simp (disch := omega) only [upd_ne]
theorem lk_da (hI : Inv B nf nt nc nd s) (h : LqK B nf nt nc nd s) (hn : nd < 12) : LqK B nf nt nc (nd + 1) (daS s nd) := by
  have bf := hI.lf
  have bt := hI.lt
  have bc := hI.lc
  have e : ∀ j, j < 129 + 5 * nd → j ≠ 3 → daS s nd j = s j := fun j hj h3 => by
    unfold daS
    rw [upd_ne h3, if_neg (by omega), if_neg (by omega)]
  refine h.cg (by omega) (by omega) (by omega) (by omega) ?_ (e _ (by omega) (by omega)) (e _ (by omega) (by omega)) (fun k i hk hi => e _ (by omega) (by omega)) (fun f i hf hi => e _ (by omega) (by omega)) (fun t i ht hi => e _ (by omega) (by omega)) (fun d hd => ?_)
  · rw [e _ (by omega) (by omega)]; exact h.1
  · by_cases q : d = nd
    · subst q
      unfold daS
      rw [upd_ne (by omega), if_pos rfl]
      exact ⟨1, by omega, by omega, rfl⟩
    · rw [e _ (by omega) (by omega)]; exact h.2.2.2.2.2.2 d (by omega)
theorem lk_pa (hI : Inv B nf nt nc nd s) (h : LqK B nf nt nc nd s) {d : Nat} (hd : d < nd) : LqK B nf nt nc nd (paS s d) := by
  have bf := hI.lf
  have bt := hI.lt
  have bc := hI.lc
  have e : ∀ j, j ≠ 5 → j ≠ 129 + 5 * d + 2 → j ≠ 129 + 5 * d + 4 → paS s d j = s j := fun j h1 h2 h3 => by
    unfold paS
    simp (disch := omega) only [upd_ne]
  refine h.cg (by omega) (by omega) (by omega) (by omega) ?_ (e _ (by omega) (by omega) (by omega)) (e _ (by omega) (by omega) (by omega)) (fun k i hk hi => e _ (by omega) (by omega) (by omega)) (fun f i hf hi => e _ (by omega) (by omega) (by omega)) (fun t i ht hi => e _ (by omega) (by omega) (by omega)) (h.2.2.2.2.2.2.cg fun d hd => e _ (by omega) (by omega) (by omega))
  rw [e _ (by omega) (by omega) (by omega)]; exact h.1
theorem lk_lo (hI : Inv B nf nt nc nd s) (h : LqK B nf nt nc nd s) {i : Nat} {x : Int32} (hi : i = 9 ∨ i = 11) : LqK B nf nt nc nd (upd s i x) := by
  have bf := hI.lf
  have bt := hI.lt
  have bc := hI.lc
  refine h.cg (by omega) (by omega) (by omega) (by omega) ?_ (upd_ne (by omega)) (upd_ne (by omega)) (fun k i hk hi => upd_ne (by omega)) (fun f i hf hi => upd_ne (by omega)) (fun t i ht hi => upd_ne (by omega)) (h.2.2.2.2.2.2.cg fun d hd => upd_ne (by omega))
  rw [upd_ne (by omega)]; exact h.1
theorem lk_12 (hI : Inv B nf nt nc nd s) (h : LqK B nf nt nc nd s) {x : Int32} (hx : bd 1 50 x) : LqK B nf nt nc nd (upd s 12 x) := by
  have bf := hI.lf
  have bt := hI.lt
  have bc := hI.lc
  refine h.cg (by omega) (by omega) (by omega) (by omega) ?_ (upd_ne (by omega)) (upd_ne (by omega)) (fun k i hk hi => upd_ne (by omega)) (fun f i hf hi => upd_ne (by omega)) (fun t i ht hi => upd_ne (by omega)) (h.2.2.2.2.2.2.cg fun d hd => upd_ne (by omega))
  rw [upd_same]; exact hx
theorem inv_12 (hI : Inv B nf nt nc nd s) {x : Int32} : Inv B nf nt nc nd (upd s 12 x) := by
  obtain ⟨⟨b1, b2, b3, b4⟩, h2, hf, hk, hd, hs⟩ := hI
  have bf := b1.2
  have bt := b2.2
  have bc := b3.2
  refine ⟨⟨?_, ?_, ?_, ?_⟩, ?_, fun f hf' => ?_, fun k hk' => ?_, fun d hd' => ?_, ?_⟩
  · simp (disch := omega) only [upd_ne]; exact b1
  · simp (disch := omega) only [upd_ne]; exact b2
  · simp (disch := omega) only [upd_ne]; exact b3
  · simp (disch := omega) only [upd_ne]; exact b4
  · simp (disch := omega) only [upd_ne]; exact h2
  · unfold FlOK; simp (disch := omega) only [upd_ne]; exact hf f hf'
  · unfold ClOK; simp (disch := omega) only [upd_ne]; exact hk k hk'
  · unfold DaOK; simp (disch := omega) only [upd_ne]; exact hd d hd'
  · unfold SmOK; simp (disch := omega) only [upd_ne]; exact hs
end LKA
