theorem frame_forget {s t : State} {o : Outcome} {L : List Loc} {k n : Nat} (h : FrameEnd s o t L k n) (hL : ∀ q ∈ L, s.heap.size ≤ q.base) : Framed s o t [] k n := by
  obtain ⟨h1, h2, a1, a2, a3, a4, a5, a6⟩ := h
  refine ⟨h1, h2, a1, a2, a3, a4, a5, fun a c hc => ?_⟩
  obtain ⟨c', b1, b2, b3, b4⟩ := a6 a c hc
  refine ⟨c', b1, b2, b3, fun i _ => b4 i fun hm => ?_⟩
  have g1 : s.heap.size ≤ a := hL _ hm
  have g2 := (Array.getElem?_eq_some_iff.mp hc).1
  exact absurd g2 (Nat.not_lt.mpr g1)
theorem wd_str {s : State} {b : Nat} {own tx : String} {k : Nat} (h1 : (Cond.stringRef own k tx).before #[Value.ref b] s = true) (h2 : (Cond.exactly (.string own k) "java/lang/String").before #[Value.ref b] s = true) : ∃ a : Nat, vk_R own k tx a s := by
  obtain ⟨a, c, cA, kA, q1, -⟩ := Cond.exactly_spec (args := #[Value.ref b]) (first := s) (o := none) (s := s) (idx := []) (t := .string own k) (cls := "java/lang/String") h2
  exact ⟨a, vk_R.of h1 q1⟩
set_option maxRecDepth 100000 in
set_option maxHeartbeats 4000000 in
theorem wd_start {s : State} {b L : Nat} {xs : Nat → Int32} (hts : ∀ w ∈ lw_tbl, w.before #[Value.ref b] s = true) (hX : va_X b L xs s s.heap) (hbl : b < s.heap.size) (hgv : (Jvm.Cond.and given_1 narrow_1).before #[Value.ref b] s = true) : ∃ D : va_G, Wd (L, xs) b s.heap.size D s := by
  have htg : ∀ w ∈ tblG, w.before #[Value.ref b] s = true := fun w hw => hts w (List.mem_filter.mp hw).1
  obtain ⟨c0, i0, k0⟩ := u_known (C := RX0) (T := TX0) (N := 4) (n := 4) htg uw_X0 (htg _ (tG1 (i := 158) (by decide +kernel) (by decide +kernel)))
  obtain ⟨c1, i1, k1⟩ := u_known (C := RX1) (T := TX1) (N := 4) (n := 4) htg uw_X1 (htg _ (tG1 (i := 60) (by decide +kernel) (by decide +kernel)))
  obtain ⟨c2, i2, k2⟩ := u_known (C := RX2) (T := TX2) (N := 3) (n := 3) htg uw_X2 (htg _ (tG2 (i := 5) (by decide +kernel) (by decide +kernel)))
  obtain ⟨c3, i3, k3⟩ := u_known (C := RX3) (T := TX3) (N := 9) (n := 9) htg uw_X3 (htg _ (tG1 (i := 106) (by decide +kernel) (by decide +kernel)))
  obtain ⟨c4, i4, k4⟩ := u_known (C := RX4) (T := TX4) (N := 14) (n := 14) htg uw_X4 (htg _ (tG1 (i := 53) (by decide +kernel) (by decide +kernel)))
  obtain ⟨c5, i5, k5⟩ := u_known (C := RX5) (T := TX5) (N := 2) (n := 2) htg uw_X5 (htg _ (tG1 (i := 88) (by decide +kernel) (by decide +kernel)))
  obtain ⟨c6, i6, k6⟩ := u_known (C := RX6) (T := TX6) (N := 6) (n := 6) htg uw_X6 (htg _ (tG1 (i := 26) (by decide +kernel) (by decide +kernel)))
  obtain ⟨c7, i7, k7⟩ := u_known (C := RX7) (T := TX7) (N := 6) (n := 6) htg uw_X7 (htg _ (tG1 (i := 18) (by decide +kernel) (by decide +kernel)))
  obtain ⟨dC, dI, hKc⟩ : ∃ (dC : Nat → ClassId) (dI : Nat → Nat → Nat), ∀ (k : Nat) (q : vw_C), vwCl[k]? = some q → u_Kn s q.1 q.2.1 q.2.2 (dC k) (dI k) := by
    refine ⟨fun k => match k with
      | 0 => c0
      | 1 => c1
      | 2 => c2
      | 3 => c3
      | 4 => c4
      | 5 => c5
      | 6 => c6
      | _ => c7, fun k => match k with
      | 0 => i0
      | 1 => i1
      | 2 => i2
      | 3 => i3
      | 4 => i4
      | 5 => i5
      | 6 => i6
      | _ => i7, ?_⟩
    intro k q hq
    match k, hq with
    | 0, hq => cases hq; exact k0
    | 1, hq => cases hq; exact k1
    | 2, hq => cases hq; exact k2
    | 3, hq => cases hq; exact k3
    | 4, hq => cases hq; exact k4
    | 5, hq => cases hq; exact k5
    | 6, hq => cases hq; exact k6
    | 7, hq => cases hq; exact k7
    | k + 8, hq => simp [vwCl] at hq
  have hA : ∀ a : Nat, a < s.heap.size → ¬ (fun q : Nat => s.heap.size ≤ q) a := fun a h => Nat.not_le.mpr h
  have hs := flat_of_before _ hgv
  have hini : (Cond.initialized "java/lang/Throwable").before #[Value.ref b] s = true := hts _ (tM1 (List.mem_of_getElem? (i := 10) (by decide +kernel)))
  have hU : vx_Zq Bundle.tN "UNASSIGNED_STACK" Bundle.steD (fun q => s.heap.size ≤ q) s s.heap := vx_Zqof (args := #[Value.ref b]) (hts (Cond.laysStatic "java/lang/Throwable" "UNASSIGNED_STACK" "[Ljava/lang/StackTraceElement;") (tM2 (List.mem_of_getElem? (i := 78) (by decide +kernel)))) hini (hs _ (by decide +kernel)) hA
  have hN : vx_Zq Bundle.tN "SUPPRESSED_SENTINEL" Bundle.listD (fun q => s.heap.size ≤ q) s s.heap := vx_Zqof (args := #[Value.ref b]) (hts (Cond.laysStatic "java/lang/Throwable" "SUPPRESSED_SENTINEL" "Ljava/util/List;") (tM2 (List.mem_of_getElem? (i := 80) (by decide +kernel)))) hini (hs _ (by decide +kernel)) hA
  refine ⟨(dC, dI), ⟨hKc, fun k q h => by simp at h⟩, hX, hbl, Nat.le_refl _, hU, hN, ?_, ?_, ?_, ?_, ?_, ?_⟩
  · exact List.forall_mem_cons.mpr ⟨va_Nw.of (A := #[Value.ref b]) rfl (hts _ (tM1 (List.mem_of_getElem? (i := 61) (by decide +kernel)))), List.forall_mem_cons.mpr ⟨va_Nw.of (A := #[Value.ref b]) rfl (hts _ (tM1 (List.mem_of_getElem? (i := 89) (by decide +kernel)))), List.forall_mem_cons.mpr ⟨va_Nw.of (A := #[Value.ref b]) rfl (hts _ (tM1 (List.mem_of_getElem? (i := 107) (by decide +kernel)))), List.forall_mem_cons.mpr ⟨va_Nw.of (A := #[Value.ref b]) rfl (hts _ (tM1 (List.mem_of_getElem? (i := 159) (by decide +kernel)))), List.forall_mem_cons.mpr ⟨va_Nw.of (A := #[Value.ref b]) rfl (hts _ (tM4 (List.mem_of_getElem? (i := 64) (by decide +kernel)))), List.forall_mem_nil _⟩⟩⟩⟩⟩
  · exact List.forall_mem_cons.mpr ⟨va_AO.of (A := #[Value.ref b]) (hts _ (tM1 (List.mem_of_getElem? (i := 157) (by decide +kernel)))), List.forall_mem_cons.mpr ⟨va_AO.of (A := #[Value.ref b]) (hts _ (tM1 (List.mem_of_getElem? (i := 59) (by decide +kernel)))), List.forall_mem_cons.mpr ⟨va_AO.of (A := #[Value.ref b]) (hts _ (tM1 (List.mem_of_getElem? (i := 105) (by decide +kernel)))), List.forall_mem_cons.mpr ⟨va_AO.of (A := #[Value.ref b]) (hts _ (tM2 (List.mem_of_getElem? (i := 11) (by decide +kernel)))), List.forall_mem_cons.mpr ⟨va_AO.of (A := #[Value.ref b]) (hts _ (tM1 (List.mem_of_getElem? (i := 87) (by decide +kernel)))), List.forall_mem_nil _⟩⟩⟩⟩⟩
  · exact List.forall_mem_nil _
  · exact List.forall_mem_cons.mpr ⟨wd_str (hts _ (tM2 (List.mem_of_getElem? (i := 234) (by decide +kernel)))) (hs (Cond.exactly (.string "DanceFloors" 130) "java/lang/String") (by decide +kernel)), List.forall_mem_cons.mpr ⟨wd_str (hts _ (tM2 (List.mem_of_getElem? (i := 166) (by decide +kernel)))) (hs (Cond.exactly (.string "DanceFloors" 346) "java/lang/String") (by decide +kernel)), List.forall_mem_cons.mpr ⟨wd_str (hts _ (tM3 (List.mem_of_getElem? (i := 74) (by decide +kernel)))) (hs (Cond.exactly (.string "DanceFloors" 349) "java/lang/String") (by decide +kernel)), List.forall_mem_cons.mpr ⟨wd_str (hts _ (tM2 (List.mem_of_getElem? (i := 92) (by decide +kernel)))) (hs (Cond.exactly (.string "DanceFloors" 353) "java/lang/String") (by decide +kernel)), List.forall_mem_nil _⟩⟩⟩⟩
  · exact List.forall_mem_cons.mpr ⟨va_Nw.of (A := #[Value.ref b]) rfl (hts _ (tM2 (List.mem_of_getElem? (i := 227) (by decide +kernel)))), List.forall_mem_cons.mpr ⟨va_Nw.of (A := #[Value.ref b]) rfl (hts _ (tM2 (List.mem_of_getElem? (i := 53) (by decide +kernel)))), List.forall_mem_cons.mpr ⟨va_Nw.of (A := #[Value.ref b]) rfl (hts _ (tM2 (List.mem_of_getElem? (i := 159) (by decide +kernel)))), List.forall_mem_nil _⟩⟩⟩
  · exact List.forall_mem_cons.mpr ⟨va_Nw.of (A := #[Value.ref b]) rfl (hts _ (tM2 (List.mem_of_getElem? (i := 55) (by decide +kernel)))), List.forall_mem_cons.mpr ⟨va_Nw.of (A := #[Value.ref b]) rfl (hts _ (tM2 (List.mem_of_getElem? (i := 57) (by decide +kernel)))), List.forall_mem_cons.mpr ⟨va_Nw.of (A := #[Value.ref b]) rfl (hts _ (tM2 (List.mem_of_getElem? (i := 59) (by decide +kernel)))), List.forall_mem_nil _⟩⟩⟩
