/-! ===== THE FRAME: a clean machine over numbered cells; G is the kit's W under it ===== -/
abbrev Sh : Type := Nat × Nat × List Nat
abbrev Mem : Type := Nat → Nat → Int32
abbrev Kp : Type := Nat × (Nat → Option Sh) × Bool
abbrev Rs : Type := Option Value ⊕ Nat
abbrev Xs : Type := Nat × (Nat → Int32)
abbrev Lo : Type := List (Nat × Option Value)
abbrev MI : Type := MethodName × ByteArray × Nat × Option FieldType × Option (List (Nat × Nat × Nat × Nat)) × Room
abbrev rmOf (y : MI) : Room := y.2.2.2.2.2
theorem nle {a b : Nat} (h : Nat.ble a b = true) : a ≤ b := Nat.le_of_ble_eq_true h
def tblG : List Cond := lw_tbl.filter goodWord
def cwOf (y : MI) : Cond := match y.2.2.2.2.1 with
  | none => .code y.1 y.2.1 y.2.2.1 y.2.2.2.1
  | some hh => .codeWith y.1 y.2.1 y.2.2.1 y.2.2.2.1 hh
def wsOf (y : MI) : List Cond := cwOf y :: tblG
theorem tblG_in {w : Cond} {i : Nat} (h : lw_tbl[i]? = some w) (hg : goodWord w = true) : w ∈ tblG := List.mem_filter.mpr ⟨List.mem_of_getElem? h, hg⟩
theorem tblG_good {w : Cond} (h : w ∈ tblG) : (w.onTables && w.keeps) = true ∨ ∃ ty, w = .arrayClass ty := good_of_word (List.mem_filter.mp h).2
theorem good_wsOf {y z : MI} (h : cwOf z ∈ tblG) : GoodIn (wsOf y) (wsOf z) := by
  intro w hw
  have hw' : w ∈ tblG := by
    rcases List.mem_cons.mp hw with e | e
    · rw [e]; exact h
    · exact e
  exact ⟨List.mem_cons_of_mem _ hw', tblG_good hw'⟩
/-- addresses: 0 is the script, k + 1 the k-th cell from Z on -/
def ad (b Z : Nat) (r : Nat) : Nat := match r with
  | 0 => b
  | k + 1 => Z + k
def tv (b Z : Nat) (v : Value) : Value := match v with
  | .ref r => .ref (ad b Z r)
  | v => v
theorem tv_cat (b Z : Nat) (v : Value) : (tv b Z v).category = v.category := by cases v <;> rfl
def fv (b Z : Nat) (M : Mem) (o : Nat) (cs : List Nat) (k : Nat) : Value := match cs.getD k 0 with
  | 0 => .int (M o k)
  | 1 => .null
  | c + 2 => .ref (ad b Z c)
def clN (c : Nat) : String := match vwCl[c]? with
  | some q => q.1
  | none => ""
def aty (t : Nat) : FieldType := if t = 16 then .int else if t = 17 then .char else if t = 18 then .boolean else if t = 19 then .long else .object (clN (t - 20))
def aev (b Z : Nat) (M : Mem) (o t : Nat) (cs : List Nat) (j : Nat) : Value := if t < 19 then .int (M o j) else if t = 19 then .long (M o j).toInt64 else fv b Z M o cs j
def cellOK (b Z : Nat) (D : va_G) (M : Mem) (U : State) (H : Heap) (r : Nat) (sh : Sh) : Prop :=
  if sh.1 < 16 then ∃ q : vw_C, vwCl[sh.1]? = some q ∧ q.2.2 = sh.2.1 ∧ sh.2.2.length = sh.2.1 ∧ t_OB (ad b Z r) (D.1 sh.1) q.2.2 (D.2 sh.1) H (fv b Z M r sh.2.2)
  else ∃ cA : ClassId, H[ad b Z r]? = some (arrV cA sh.2.1 (aev b Z M r sh.1 sh.2.2)) ∧ ArrOfT U cA (aty sh.1) ∧ va_RA U cA (aty sh.1)
/-- words that are no good words: they go with the state -/
def nestW : List (String × Nat × MethodName × String) := [(RX4, 17, yX1_init, RX7), (RX4, 24, yX5_init, RX7), (RX4, 31, yX3_init, RX7), (RX4, 38, yX0_init, RX7), (RX6, 78, yX7_isWithin, RX7)]
def overW : List String := [RX0, RX1, RX3, RX4, RX5]
def ncW : List (String × String) := []
def strW : List (String × Nat × String) := [(RX7, 130, "what is out of range"), (RX7, 346, "there is no such thing"), (RX7, 349, "an argument is out of range"), (RX7, 353, "this cannot be done now")]
def castW : List String := ["java/lang/IllegalArgumentException", "java/lang/IllegalStateException", "java/lang/IndexOutOfBoundsException"]
def declW : List MethodName := [⟨"java/lang/RuntimeException", "<init>", "(Ljava/lang/String;)V"⟩, ⟨"java/lang/Exception", "<init>", "(Ljava/lang/String;)V"⟩, ⟨"java/lang/Throwable", "<init>", "(Ljava/lang/String;)V"⟩]
def NW (U : State) : Prop := (∀ q ∈ nestW, va_Nw (.methodLinkNest q.1 q.2.1 q.2.2.1 q.2.2.2) U) ∧ (∀ q ∈ overW, va_AO q U) ∧ (∀ q ∈ ncW, va_Nc q.1 q.2 U) ∧ (∀ q ∈ strW, ∃ a : Nat, vk_R q.1 q.2.1 q.2.2 a U) ∧ (∀ q ∈ castW, va_Nw (.castable q q) U) ∧ (∀ q ∈ declW, va_Nw (.declares q) U)
def Wd (X : Xs) (b Z : Nat) (D : va_G) (U : State) : Prop :=
  va_K D vwCl [] U ∧ va_X b X.1 X.2 U U.heap ∧ b < Z ∧ Z ≤ U.heap.size ∧ vx_Zq Bundle.tN "UNASSIGNED_STACK" Bundle.steD (fun q => Z ≤ q) U U.heap ∧ vx_Zq Bundle.tN "SUPPRESSED_SENTINEL" Bundle.listD (fun q => Z ≤ q) U U.heap ∧ NW U
def Rel (b Z : Nat) (D : va_G) (κ : Kp) (M : Mem) (U : State) (H : Heap) : Prop :=
  (∀ (r : Nat) (sh : Sh), κ.2.1 r = some sh → (1 ≤ r ∧ r ≤ κ.1) ∧ cellOK b Z D M U H r sh) ∧ Z + κ.1 ≤ H.size ∧ (κ.2.2 = true → Z + κ.1 = H.size)
/-- locals: the newest row counts -/
def lg : Lo → Nat → Option Value
  | [], _ => none
  | q :: t, i => bif Nat.beq q.1 i then q.2 else lg t i
def lk (lo : Lo) (i : Nat) : Lo := match lg lo (i - 1) with
  | some w => bif Nat.beq w.category 2 then (i - 1, none) :: lo else lo
  | none => lo
def ls1 (lo : Lo) (i : Nat) (v : Value) : Lo := (i, some v) :: lk lo i
def ls2 (lo : Lo) (i : Nat) (v : Value) : Lo := (i, some v) :: (i + 1, none) :: lk lo i
def LoOk (b Z : Nat) (ls : Array Slot) (n : Nat) (lo : Lo) : Prop := ls.size = n ∧ lv_wf ls ∧ ∀ (i : Nat) (v : Value), lg lo i = some v → ls[i]? = some (.val (tv b Z v))
def subLo (lo : Lo) : Lo → Prop
  | [] => True
  | q :: t => lg lo q.1 = q.2 ∧ q.2 ≠ none ∧ subLo lo t
theorem lg_cons (q : Nat × Option Value) (t : Lo) (i : Nat) : lg (q :: t) i = if q.1 = i then q.2 else lg t i := by
  show (bif Nat.beq q.1 i then q.2 else lg t i) = _
  by_cases h : q.1 = i
  · have : Nat.beq q.1 i = true := Nat.beq_eq.mpr h
    rw [this, if_pos h]; rfl
  · have : Nat.beq q.1 i = false := by
      cases hb : Nat.beq q.1 i
      · rfl
      · exact absurd (Nat.beq_eq.mp hb) h
    rw [this, if_neg h]; rfl
theorem subLo_lg {lo : Lo} : ∀ {lo' : Lo}, subLo lo lo' → ∀ (i : Nat) (v : Value), lg lo' i = some v → lg lo i = some v
  | [], _, i, v, h => by cases h
  | q :: t, hs, i, v, h => by
    rw [lg_cons] at h
    by_cases hq : q.1 = i
    · rw [if_pos hq] at h
      rw [← hq, hs.1, h]
    · rw [if_neg hq] at h
      exact subLo_lg hs.2.2 i v h
theorem LoOk.sub {b Z : Nat} {ls : Array Slot} {n : Nat} {lo lo' : Lo} (h : LoOk b Z ls n lo) (hs : subLo lo lo') : LoOk b Z ls n lo' := ⟨h.1, h.2.1, fun i v hv => h.2.2 i v (subLo_lg hs i v hv)⟩
theorem lk_lg {lo : Lo} {i j : Nat} {v : Value} (h : lg (lk lo i) j = some v) : lg lo j = some v ∧ (j + 1 = i → v.category ≠ 2) := by
  unfold lk at h
  cases hg : lg lo (i - 1) with
  | none =>
    rw [hg] at h
    refine ⟨h, fun hj => ?_⟩
    have : j = i - 1 := by omega
    rw [this, hg] at h; cases h
  | some w =>
    rw [hg] at h
    dsimp only at h
    cases hc : Nat.beq w.category 2 with
    | true =>
      rw [hc] at h
      have h : lg ((i - 1, none) :: lo) j = some v := h
      rw [lg_cons] at h
      by_cases hj : i - 1 = j
      · rw [if_pos hj] at h; cases h
      · rw [if_neg hj] at h
        exact ⟨h, fun h2 => absurd (by omega) hj⟩
    | false =>
      rw [hc] at h
      have h : lg lo j = some v := h
      refine ⟨h, fun hj h2 => ?_⟩
      have : j = i - 1 := by omega
      rw [this, hg] at h
      cases h
      rw [h2] at hc
      cases hc
def lall (b Z n : Nat) (lo : Lo) : List (Nat × Value) := (List.range n).filterMap fun j => (lg lo j).map fun w => (j, tv b Z w)
theorem lall_mem {b Z n : Nat} {ls : Array Slot} {lo : Lo} (h : LoOk b Z ls n lo) {j : Nat} {v : Value} (hg : lg lo j = some v) : (j, tv b Z v) ∈ lall b Z n lo := by
  have hj : j < n := by rw [← h.1]; exact lv_lt (h.2.2 j v hg)
  exact List.mem_filterMap.mpr ⟨j, List.mem_range.mpr hj, by rw [hg]; rfl⟩
theorem lall_has {b Z n : Nat} {ls : Array Slot} {lo : Lo} (h : LoOk b Z ls n lo) : lv_has ls n (lall b Z n lo) := by
  refine ⟨h.1, h.2.1, fun q hq => ?_⟩
  obtain ⟨j, -, hj⟩ := List.mem_filterMap.mp hq
  cases hg : lg lo j with
  | none => rw [hg] at hj; cases hj
  | some v =>
    rw [hg] at hj
    cases hj
    exact h.2.2 j v hg
theorem LoOk.klo {b Z n : Nat} {ls : Array Slot} {lo : Lo} (h : LoOk b Z ls n lo) (i : Nat) : LoOk b Z ls n (lk lo i) := ⟨h.1, h.2.1, fun j v hv => h.2.2 j v (lk_lg hv).1⟩
theorem LoOk.st1 {b Z n i : Nat} {ls ls' : Array Slot} {lo : Lo} {x : Value} (h : LoOk b Z ls n lo) (h' : lv_has ls' n ((i, tv b Z x) :: (lall b Z n (lk lo i)).filter (fun q => !(q.1 == i) && !(q.1 + 1 == i && q.2.category == 2)))) : LoOk b Z ls' n (ls1 lo i x) := by
  refine ⟨h'.1, h'.2.1, fun j v hv => ?_⟩
  have hv : lg ((i, some x) :: lk lo i) j = some v := hv
  rw [lg_cons] at hv
  by_cases hj : i = j
  · rw [if_pos hj] at hv
    cases hv
    subst hj
    exact h'.2.2 (i, tv b Z x) List.mem_cons_self
  · rw [if_neg hj] at hv
    have hm := lall_mem (h.klo i) hv
    refine h'.2.2 (j, tv b Z v) (List.mem_cons_of_mem _ (List.mem_filter.mpr ⟨hm, ?_⟩))
    have h2 := (lk_lg hv).2
    simp only [tv_cat, Bool.and_eq_true, Bool.not_eq_true', beq_eq_false_iff_ne, ne_eq, Bool.and_eq_false_iff]
    refine ⟨Ne.symm hj, ?_⟩
    by_cases hi : j + 1 = i
    · exact Or.inr (h2 hi)
    · exact Or.inl hi
theorem LoOk.st2 {b Z n i : Nat} {ls ls' : Array Slot} {lo : Lo} {x : Value} (h : LoOk b Z ls n lo) (h' : lv_has ls' n ((i, tv b Z x) :: (lall b Z n (lk lo i)).filter (fun q => !(q.1 == i) && (!(q.1 == i + 1) && !(q.1 + 1 == i && q.2.category == 2))))) : LoOk b Z ls' n (ls2 lo i x) := by
  refine ⟨h'.1, h'.2.1, fun j v hv => ?_⟩
  have hv : lg ((i, some x) :: (i + 1, none) :: lk lo i) j = some v := hv
  rw [lg_cons] at hv
  by_cases hj : i = j
  · rw [if_pos hj] at hv
    cases hv
    subst hj
    exact h'.2.2 (i, tv b Z x) List.mem_cons_self
  · rw [if_neg hj, lg_cons] at hv
    by_cases hj1 : i + 1 = j
    · rw [if_pos hj1] at hv; cases hv
    · rw [if_neg hj1] at hv
      have hm := lall_mem (h.klo i) hv
      refine h'.2.2 (j, tv b Z v) (List.mem_cons_of_mem _ (List.mem_filter.mpr ⟨hm, ?_⟩))
      have h2 := (lk_lg hv).2
      simp only [tv_cat, Bool.and_eq_true, Bool.not_eq_true', beq_eq_false_iff_ne, ne_eq, Bool.and_eq_false_iff]
      refine ⟨Ne.symm hj, Ne.symm hj1, ?_⟩
      by_cases hi : j + 1 = i
      · exact Or.inr (h2 hi)
      · exact Or.inl hi
/-- the code from pc on -/
def CdAt (cc : ByteArray) : Nat → List (Instr × Nat) → Prop
  | _, [] => True
  | pc, q :: t => decode cc pc = .ok q ∧ CdAt cc (pc + q.2) t
def atB (cc : ByteArray) : Nat → List (Instr × Nat) → Bool
  | _, [] => true
  | pc, q :: t => decide (decode cc pc = .ok q) && atB cc (pc + q.2) t
theorem at_of {cc : ByteArray} : ∀ {l : List (Instr × Nat)} {pc : Nat}, atB cc pc l = true → CdAt cc pc l
  | [], _, _ => trivial
  | q :: t, pc, h => by
    have h : (decide (decode cc pc = .ok q) && atB cc (pc + q.2) t) = true := h
    rw [Bool.and_eq_true] at h
    exact ⟨of_decide_eq_true h.1, at_of h.2⟩
/-- what a method owes and gets -/
def zPc (X : Xs) (b Z : Nat) (D : va_G) (as : List Value) (κ : Kp) (M : Mem) : Array Value → State → Prop := fun v U => v = (as.map (tv b Z)).toArray ∧ Wd X b Z D U ∧ Rel b Z D κ M U U.heap
def zQc (b Z : Nat) (D : va_G) (Q : Rs → Kp → Mem → Prop) : Array Value → State → Outcome → State → Prop := fun _ st oc t => (∃ (r : Option Value) (κ : Kp) (M : Mem), oc = .returned (r.map (tv b Z)) ∧ Q (.inl r) κ M ∧ Rel b Z D κ M t t.heap) ∧ va_F (fun q => Z ≤ q) st t
def exN (e : Nat) : String := match e with
  | 0 => "java/lang/IllegalArgumentException"
  | 1 => "java/lang/IllegalStateException"
  | _ => "java/lang/IndexOutOfBoundsException"
def zXC (b Z : Nat) (D : va_G) (Q : Rs → Kp → Mem → Prop) : String → State → State → Prop := fun E st t => (∃ (e : Nat) (κ : Kp) (M : Mem), E = exN e ∧ Q (.inr e) κ M ∧ Rel b Z D κ M t t.heap) ∧ va_F (fun q => Z ≤ q) st t
def Ct (X : Xs) (y : MI) (as : List Value) (κ : Kp) (M : Mem) (Q : Rs → Kp → Mem → Prop) : Prop := ∀ l : Launch, l.stackTraces = false → ∀ (b Z : Nat) (D : va_G), vx_Met l y.1 (wsOf y) (rmOf y) (zPc X b Z D as κ M) (zQc b Z D Q) (zXC b Z D Q) (rmOf y).cells (rmOf y).slots (fun q => Z ≤ q)
def Cx (X : Xs) (y : MI) (l : Launch) (p : Program) (s : State) (m : MethodId) (args : Array Value) (meth : Method) (c : Code) (b Z : Nat) (D : va_G) : Prop :=
  l.stackTraces = false ∧ p.tables.exec = Jvm.exec ∧ c.code = y.2.1 ∧ c.maxLocals = y.2.2.1 ∧ meth.sig.returnType = y.2.2.2.1 ∧ meth.locks = false ∧ meth.name = y.1.name ∧
  c.exceptionTable.toList = tableOf (y.2.2.2.2.1.getD []) ∧ s.vm.findClass y.1.cls = some m.cls ∧ (∀ w ∈ wsOf y, w.before args s = true) ∧ Wd X b Z D s
def G (X : Xs) (y : MI) (is : List (Instr × Nat)) (pc : Nat) (lo : Lo) (st : List Value) (n k : Nat) (κ : Kp) (M : Mem) (Q : Rs → Kp → Mem → Prop) : Prop :=
  CdAt y.2.1 pc is → ∀ (l : Launch) (p : Program) (e : Env) (s : State) (m : MethodId) (args : Array Value) (below : List Frame) (meth : Method) (c : Code) (b Z : Nat) (D : va_G) (H : Heap) (locs : List Loc) (ls : Array Slot),
    Cx X y l p s m args meth c b Z D → Rel b Z D κ M s H → va_S (fun q => Z ≤ q) s.heap H locs → LoOk b Z ls y.2.2.1 lo →
    W p l e (rmOf y) s m args below meth c H locs n k (vx_MQ below (zQc b Z D Q) (zXC b Z D Q) args s (rmOf y).cells (rmOf y).slots (fun q => Z ≤ q)) (F0 m pc ls (st.map (tv b Z)))
theorem Cx.own {X : Xs} {y : MI} {l : Launch} {p : Program} {s : State} {m : MethodId} {args : Array Value} {meth : Method} {c : Code} {b Z : Nat} {D : va_G} (h : Cx X y l p s m args meth c b Z D) : s.vm.findClass y.1.cls = some m.cls := h.2.2.2.2.2.2.2.2.1
theorem Cx.words {X : Xs} {y : MI} {l : Launch} {p : Program} {s : State} {m : MethodId} {args : Array Value} {meth : Method} {c : Code} {b Z : Nat} {D : va_G} (h : Cx X y l p s m args meth c b Z D) : ∀ w ∈ wsOf y, w.before args s = true := h.2.2.2.2.2.2.2.2.2.1
theorem Cx.word {X : Xs} {y : MI} {l : Launch} {p : Program} {s : State} {m : MethodId} {args : Array Value} {meth : Method} {c : Code} {b Z : Nat} {D : va_G} (h : Cx X y l p s m args meth c b Z D) {w : Cond} (hw : w ∈ tblG) : w.before args s = true := h.words w (List.mem_cons_of_mem _ hw)
theorem Cx.wd {X : Xs} {y : MI} {l : Launch} {p : Program} {s : State} {m : MethodId} {args : Array Value} {meth : Method} {c : Code} {b Z : Nat} {D : va_G} (h : Cx X y l p s m args meth c b Z D) : Wd X b Z D s := h.2.2.2.2.2.2.2.2.2.2
theorem lv_has_cons {ls : Array Slot} {n : Nat} {l : List (Nat × Value)} {i : Nat} {v : Value} (h : lv_has ls n l) (hv : ls[i]? = some (.val v)) : lv_has ls n ((i, v) :: l) := ⟨h.1, h.2.1, fun q hq => by
  rcases List.mem_cons.mp hq with e | e
  · rw [e]; exact hv
  · exact h.2.2 q e⟩
section ROWS
theorem g_iconst {X : Xs} {y : MI} {is : List (Instr × Nat)} {pc : Nat} {lo : Lo} {st : List Value} {nc ks : Nat} {κ : Kp} {M : Mem} {Q : Rs → Kp → Mem → Prop} {i : Int} {v : Int32} (hv : Int32.ofInt i = v) (kk : G X y is (pc + 1) lo (.int v :: st) nc ks κ M Q) : G X y (((.iconst i), 1) :: is) pc lo st nc ks κ M Q := by
  intro hA l p e s m args below meth c b Z D H locs ls hC hR hS hL
  have hx := hC.2.1
  have hb := hC.2.2.1
  exact lv_iconst hx hb hA.1 hv (kk hA.2 l p e s m args below meth c b Z D H locs ls hC hR hS hL)
theorem g_bipush {X : Xs} {y : MI} {is : List (Instr × Nat)} {pc : Nat} {lo : Lo} {st : List Value} {nc ks : Nat} {κ : Kp} {M : Mem} {Q : Rs → Kp → Mem → Prop} {i : Int} {v : Int32} (hv : (Int8.ofInt i).toInt32 = v) (kk : G X y is (pc + 2) lo (.int v :: st) nc ks κ M Q) : G X y (((.bipush i), 2) :: is) pc lo st nc ks κ M Q := by
  intro hA l p e s m args below meth c b Z D H locs ls hC hR hS hL
  have hx := hC.2.1
  have hb := hC.2.2.1
  exact lv_bipush hx hb hA.1 hv (kk hA.2 l p e s m args below meth c b Z D H locs ls hC hR hS hL)
theorem g_sipush {X : Xs} {y : MI} {is : List (Instr × Nat)} {pc : Nat} {lo : Lo} {st : List Value} {nc ks : Nat} {κ : Kp} {M : Mem} {Q : Rs → Kp → Mem → Prop} {i : Int} {v : Int32} (hv : (Int16.ofInt i).toInt32 = v) (kk : G X y is (pc + 3) lo (.int v :: st) nc ks κ M Q) : G X y (((.sipush i), 3) :: is) pc lo st nc ks κ M Q := by
  intro hA l p e s m args below meth c b Z D H locs ls hC hR hS hL
  have hx := hC.2.1
  have hb := hC.2.2.1
  exact lv_sipush hx hb hA.1 hv (kk hA.2 l p e s m args below meth c b Z D H locs ls hC hR hS hL)
theorem g_lconst {X : Xs} {y : MI} {is : List (Instr × Nat)} {pc : Nat} {lo : Lo} {st : List Value} {nc ks : Nat} {κ : Kp} {M : Mem} {Q : Rs → Kp → Mem → Prop} {i : Fin 2} {v : Int64} (hv : Int64.ofNat (i : Nat) = v) (kk : G X y is (pc + 1) lo (.long v :: st) nc ks κ M Q) : G X y (((.lconst i), 1) :: is) pc lo st nc ks κ M Q := by
  intro hA l p e s m args below meth c b Z D H locs ls hC hR hS hL
  have hx := hC.2.1
  have hb := hC.2.2.1
  exact lv_lconst hx hb hA.1 hv (kk hA.2 l p e s m args below meth c b Z D H locs ls hC hR hS hL)
theorem g_iload_n {X : Xs} {y : MI} {is : List (Instr × Nat)} {pc : Nat} {lo : Lo} {st : List Value} {nc ks : Nat} {κ : Kp} {M : Mem} {Q : Rs → Kp → Mem → Prop} {j : Fin 4} {x : Int32} (h : lg lo (j : Nat) = some (.int x)) (kk : G X y is (pc + 1) lo (.int x :: st) nc ks κ M Q) : G X y (((.iload_n j), 1) :: is) pc lo st nc ks κ M Q := by
  intro hA l p e s m args below meth c b Z D H locs ls hC hR hS hL
  have hx := hC.2.1
  have hb := hC.2.2.1
  exact lv_iload_n hx hb hA.1 rfl (hL.2.2 _ _ h) (kk hA.2 l p e s m args below meth c b Z D H locs ls hC hR hS hL)
theorem g_iload {X : Xs} {y : MI} {is : List (Instr × Nat)} {pc : Nat} {lo : Lo} {st : List Value} {nc ks : Nat} {κ : Kp} {M : Mem} {Q : Rs → Kp → Mem → Prop} {i : Nat} {x : Int32} (h : lg lo i = some (.int x)) (kk : G X y is (pc + 2) lo (.int x :: st) nc ks κ M Q) : G X y (((.iload i), 2) :: is) pc lo st nc ks κ M Q := by
  intro hA l p e s m args below meth c b Z D H locs ls hC hR hS hL
  have hx := hC.2.1
  have hb := hC.2.2.1
  exact lv_iload hx hb hA.1 (hL.2.2 _ _ h) (kk hA.2 l p e s m args below meth c b Z D H locs ls hC hR hS hL)
theorem g_lload_n {X : Xs} {y : MI} {is : List (Instr × Nat)} {pc : Nat} {lo : Lo} {st : List Value} {nc ks : Nat} {κ : Kp} {M : Mem} {Q : Rs → Kp → Mem → Prop} {j : Fin 4} {x : Int64} (h : lg lo (j : Nat) = some (.long x)) (kk : G X y is (pc + 1) lo (.long x :: st) nc ks κ M Q) : G X y (((.lload_n j), 1) :: is) pc lo st nc ks κ M Q := by
  intro hA l p e s m args below meth c b Z D H locs ls hC hR hS hL
  have hx := hC.2.1
  have hb := hC.2.2.1
  exact lv_lload_n hx hb hA.1 rfl (hL.2.2 _ _ h) (kk hA.2 l p e s m args below meth c b Z D H locs ls hC hR hS hL)
theorem g_lload {X : Xs} {y : MI} {is : List (Instr × Nat)} {pc : Nat} {lo : Lo} {st : List Value} {nc ks : Nat} {κ : Kp} {M : Mem} {Q : Rs → Kp → Mem → Prop} {i : Nat} {x : Int64} (h : lg lo i = some (.long x)) (kk : G X y is (pc + 2) lo (.long x :: st) nc ks κ M Q) : G X y (((.lload i), 2) :: is) pc lo st nc ks κ M Q := by
  intro hA l p e s m args below meth c b Z D H locs ls hC hR hS hL
  have hx := hC.2.1
  have hb := hC.2.2.1
  exact lv_lload hx hb hA.1 (hL.2.2 _ _ h) (kk hA.2 l p e s m args below meth c b Z D H locs ls hC hR hS hL)
theorem g_aload_n {X : Xs} {y : MI} {is : List (Instr × Nat)} {pc : Nat} {lo : Lo} {st : List Value} {nc ks : Nat} {κ : Kp} {M : Mem} {Q : Rs → Kp → Mem → Prop} {j : Fin 4} {x : Nat} (h : lg lo (j : Nat) = some (.ref x)) (kk : G X y is (pc + 1) lo (.ref x :: st) nc ks κ M Q) : G X y (((.aload_n j), 1) :: is) pc lo st nc ks κ M Q := by
  intro hA l p e s m args below meth c b Z D H locs ls hC hR hS hL
  have hx := hC.2.1
  have hb := hC.2.2.1
  exact lv_aload_n hx hb hA.1 rfl (hL.2.2 _ _ h) (kk hA.2 l p e s m args below meth c b Z D H locs ls hC hR hS hL)
theorem g_aload {X : Xs} {y : MI} {is : List (Instr × Nat)} {pc : Nat} {lo : Lo} {st : List Value} {nc ks : Nat} {κ : Kp} {M : Mem} {Q : Rs → Kp → Mem → Prop} {i : Nat} {x : Nat} (h : lg lo i = some (.ref x)) (kk : G X y is (pc + 2) lo (.ref x :: st) nc ks κ M Q) : G X y (((.aload i), 2) :: is) pc lo st nc ks κ M Q := by
  intro hA l p e s m args below meth c b Z D H locs ls hC hR hS hL
  have hx := hC.2.1
  have hb := hC.2.2.1
  exact lv_aload hx hb hA.1 (hL.2.2 _ _ h) (kk hA.2 l p e s m args below meth c b Z D H locs ls hC hR hS hL)
theorem g_istore {X : Xs} {y : MI} {is : List (Instr × Nat)} {pc : Nat} {lo : Lo} {st : List Value} {nc ks : Nat} {κ : Kp} {M : Mem} {Q : Rs → Kp → Mem → Prop} {i : Nat} {x : Int32} (hi : i < y.2.2.1) (kk : G X y is (pc + 2) (ls1 lo i (.int x)) st nc ks κ M Q) : G X y (((.istore i), 2) :: is) pc lo (.int x :: st) nc ks κ M Q := by
  intro hA l p e s m args below meth c b Z D H locs ls hC hR hS hL
  have hx := hC.2.1
  have hb := hC.2.2.1
  exact lv_istore hx hb hA.1 (lall_has (hL.klo i)) hi rfl fun ls' h' => kk hA.2 l p e s m args below meth c b Z D H locs ls' hC hR hS (hL.st1 (x := .int x) h')
theorem g_istore_n {X : Xs} {y : MI} {is : List (Instr × Nat)} {pc : Nat} {lo : Lo} {st : List Value} {nc ks : Nat} {κ : Kp} {M : Mem} {Q : Rs → Kp → Mem → Prop} {j : Fin 4} {x : Int32} (hi : (j : Nat) < y.2.2.1) (kk : G X y is (pc + 1) (ls1 lo (j : Nat) (.int x)) st nc ks κ M Q) : G X y (((.istore_n j), 1) :: is) pc lo (.int x :: st) nc ks κ M Q := by
  intro hA l p e s m args below meth c b Z D H locs ls hC hR hS hL
  have hx := hC.2.1
  have hb := hC.2.2.1
  exact lv_istore_n hx hb hA.1 rfl (lall_has (hL.klo (j : Nat))) hi rfl fun ls' h' => kk hA.2 l p e s m args below meth c b Z D H locs ls' hC hR hS (hL.st1 (x := .int x) h')
theorem g_lstore {X : Xs} {y : MI} {is : List (Instr × Nat)} {pc : Nat} {lo : Lo} {st : List Value} {nc ks : Nat} {κ : Kp} {M : Mem} {Q : Rs → Kp → Mem → Prop} {i : Nat} {x : Int64} (hi : i + 1 < y.2.2.1) (kk : G X y is (pc + 2) (ls2 lo i (.long x)) st nc ks κ M Q) : G X y (((.lstore i), 2) :: is) pc lo (.long x :: st) nc ks κ M Q := by
  intro hA l p e s m args below meth c b Z D H locs ls hC hR hS hL
  have hx := hC.2.1
  have hb := hC.2.2.1
  exact lv_lstore hx hb hA.1 (lall_has (hL.klo i)) hi rfl fun ls' h' => kk hA.2 l p e s m args below meth c b Z D H locs ls' hC hR hS (hL.st2 (x := .long x) h')
theorem g_lstore_n {X : Xs} {y : MI} {is : List (Instr × Nat)} {pc : Nat} {lo : Lo} {st : List Value} {nc ks : Nat} {κ : Kp} {M : Mem} {Q : Rs → Kp → Mem → Prop} {j : Fin 4} {x : Int64} (hi : (j : Nat) + 1 < y.2.2.1) (kk : G X y is (pc + 1) (ls2 lo (j : Nat) (.long x)) st nc ks κ M Q) : G X y (((.lstore_n j), 1) :: is) pc lo (.long x :: st) nc ks κ M Q := by
  intro hA l p e s m args below meth c b Z D H locs ls hC hR hS hL
  have hx := hC.2.1
  have hb := hC.2.2.1
  exact lv_lstore_n hx hb hA.1 rfl (lall_has (hL.klo (j : Nat))) hi rfl fun ls' h' => kk hA.2 l p e s m args below meth c b Z D H locs ls' hC hR hS (hL.st2 (x := .long x) h')
theorem g_astore {X : Xs} {y : MI} {is : List (Instr × Nat)} {pc : Nat} {lo : Lo} {st : List Value} {nc ks : Nat} {κ : Kp} {M : Mem} {Q : Rs → Kp → Mem → Prop} {i : Nat} {x : Nat} (hi : i < y.2.2.1) (kk : G X y is (pc + 2) (ls1 lo i (.ref x)) st nc ks κ M Q) : G X y (((.astore i), 2) :: is) pc lo (.ref x :: st) nc ks κ M Q := by
  intro hA l p e s m args below meth c b Z D H locs ls hC hR hS hL
  have hx := hC.2.1
  have hb := hC.2.2.1
  exact lv_astore hx hb hA.1 (lall_has (hL.klo i)) hi rfl fun ls' h' => kk hA.2 l p e s m args below meth c b Z D H locs ls' hC hR hS (hL.st1 (x := .ref x) h')
theorem g_astore_n {X : Xs} {y : MI} {is : List (Instr × Nat)} {pc : Nat} {lo : Lo} {st : List Value} {nc ks : Nat} {κ : Kp} {M : Mem} {Q : Rs → Kp → Mem → Prop} {j : Fin 4} {x : Nat} (hi : (j : Nat) < y.2.2.1) (kk : G X y is (pc + 1) (ls1 lo (j : Nat) (.ref x)) st nc ks κ M Q) : G X y (((.astore_n j), 1) :: is) pc lo (.ref x :: st) nc ks κ M Q := by
  intro hA l p e s m args below meth c b Z D H locs ls hC hR hS hL
  have hx := hC.2.1
  have hb := hC.2.2.1
  exact lv_astore_n hx hb hA.1 rfl (lall_has (hL.klo (j : Nat))) hi rfl fun ls' h' => kk hA.2 l p e s m args below meth c b Z D H locs ls' hC hR hS (hL.st1 (x := .ref x) h')
theorem g_iinc {X : Xs} {y : MI} {is : List (Instr × Nat)} {pc : Nat} {lo : Lo} {st : List Value} {nc ks : Nat} {κ : Kp} {M : Mem} {Q : Rs → Kp → Mem → Prop} {i : Nat} {d : Int} {x v : Int32} (h : lg lo i = some (.int x)) (hv : x + Int32.ofInt d = v) (hi : i < y.2.2.1) (kk : G X y is (pc + 3) (ls1 lo i (.int v)) st nc ks κ M Q) : G X y (((.iinc i d), 3) :: is) pc lo st nc ks κ M Q := by
  intro hA l p e s m args below meth c b Z D H locs ls hC hR hS hL
  have hx := hC.2.1
  have hb := hC.2.2.1
  have hj : ls[i]? = some (.val (.int x)) := hL.2.2 i (.int x) h
  have hm := lv_has_cons (lall_has (hL.klo i)) hj
  refine lv_iinc hx hb hA.1 hm (k := 0) rfl hv hi rfl fun ls' h' => kk hA.2 l p e s m args below meth c b Z D H locs ls' hC hR hS (hL.st1 (x := .int v) ?_)
  simpa [tv] using h'
theorem g_iadd {X : Xs} {y : MI} {is : List (Instr × Nat)} {pc : Nat} {lo : Lo} {st : List Value} {nc ks : Nat} {κ : Kp} {M : Mem} {Q : Rs → Kp → Mem → Prop} {x z : Int32} (kk : G X y is (pc + 1) lo (.int (x + z) :: st) nc ks κ M Q) : G X y (((.iadd), 1) :: is) pc lo (.int z :: .int x :: st) nc ks κ M Q := by
  intro hA l p e s m args below meth c b Z D H locs ls hC hR hS hL
  have hx := hC.2.1
  have hb := hC.2.2.1
  exact lv_iadd hx hb hA.1 (kk hA.2 l p e s m args below meth c b Z D H locs ls hC hR hS hL)
theorem g_isub {X : Xs} {y : MI} {is : List (Instr × Nat)} {pc : Nat} {lo : Lo} {st : List Value} {nc ks : Nat} {κ : Kp} {M : Mem} {Q : Rs → Kp → Mem → Prop} {x z : Int32} (kk : G X y is (pc + 1) lo (.int (x - z) :: st) nc ks κ M Q) : G X y (((.isub), 1) :: is) pc lo (.int z :: .int x :: st) nc ks κ M Q := by
  intro hA l p e s m args below meth c b Z D H locs ls hC hR hS hL
  have hx := hC.2.1
  have hb := hC.2.2.1
  exact lv_isub hx hb hA.1 (kk hA.2 l p e s m args below meth c b Z D H locs ls hC hR hS hL)
theorem g_imul {X : Xs} {y : MI} {is : List (Instr × Nat)} {pc : Nat} {lo : Lo} {st : List Value} {nc ks : Nat} {κ : Kp} {M : Mem} {Q : Rs → Kp → Mem → Prop} {x z : Int32} (kk : G X y is (pc + 1) lo (.int (x * z) :: st) nc ks κ M Q) : G X y (((.imul), 1) :: is) pc lo (.int z :: .int x :: st) nc ks κ M Q := by
  intro hA l p e s m args below meth c b Z D H locs ls hC hR hS hL
  have hx := hC.2.1
  have hb := hC.2.2.1
  exact lv_imul hx hb hA.1 (kk hA.2 l p e s m args below meth c b Z D H locs ls hC hR hS hL)
theorem g_iand {X : Xs} {y : MI} {is : List (Instr × Nat)} {pc : Nat} {lo : Lo} {st : List Value} {nc ks : Nat} {κ : Kp} {M : Mem} {Q : Rs → Kp → Mem → Prop} {x z : Int32} (kk : G X y is (pc + 1) lo (.int (x &&& z) :: st) nc ks κ M Q) : G X y (((.iand), 1) :: is) pc lo (.int z :: .int x :: st) nc ks κ M Q := by
  intro hA l p e s m args below meth c b Z D H locs ls hC hR hS hL
  have hx := hC.2.1
  have hb := hC.2.2.1
  exact lv_iand hx hb hA.1 (kk hA.2 l p e s m args below meth c b Z D H locs ls hC hR hS hL)
theorem g_ior {X : Xs} {y : MI} {is : List (Instr × Nat)} {pc : Nat} {lo : Lo} {st : List Value} {nc ks : Nat} {κ : Kp} {M : Mem} {Q : Rs → Kp → Mem → Prop} {x z : Int32} (kk : G X y is (pc + 1) lo (.int (x ||| z) :: st) nc ks κ M Q) : G X y (((.ior), 1) :: is) pc lo (.int z :: .int x :: st) nc ks κ M Q := by
  intro hA l p e s m args below meth c b Z D H locs ls hC hR hS hL
  have hx := hC.2.1
  have hb := hC.2.2.1
  exact lv_ior hx hb hA.1 (kk hA.2 l p e s m args below meth c b Z D H locs ls hC hR hS hL)
theorem g_ixor {X : Xs} {y : MI} {is : List (Instr × Nat)} {pc : Nat} {lo : Lo} {st : List Value} {nc ks : Nat} {κ : Kp} {M : Mem} {Q : Rs → Kp → Mem → Prop} {x z : Int32} (kk : G X y is (pc + 1) lo (.int (x ^^^ z) :: st) nc ks κ M Q) : G X y (((.ixor), 1) :: is) pc lo (.int z :: .int x :: st) nc ks κ M Q := by
  intro hA l p e s m args below meth c b Z D H locs ls hC hR hS hL
  have hx := hC.2.1
  have hb := hC.2.2.1
  exact lv_ixor hx hb hA.1 (kk hA.2 l p e s m args below meth c b Z D H locs ls hC hR hS hL)
theorem g_ladd {X : Xs} {y : MI} {is : List (Instr × Nat)} {pc : Nat} {lo : Lo} {st : List Value} {nc ks : Nat} {κ : Kp} {M : Mem} {Q : Rs → Kp → Mem → Prop} {x z : Int64} (kk : G X y is (pc + 1) lo (.long (x + z) :: st) nc ks κ M Q) : G X y (((.ladd), 1) :: is) pc lo (.long z :: .long x :: st) nc ks κ M Q := by
  intro hA l p e s m args below meth c b Z D H locs ls hC hR hS hL
  have hx := hC.2.1
  have hb := hC.2.2.1
  exact lv_ladd hx hb hA.1 (kk hA.2 l p e s m args below meth c b Z D H locs ls hC hR hS hL)
theorem g_lmul {X : Xs} {y : MI} {is : List (Instr × Nat)} {pc : Nat} {lo : Lo} {st : List Value} {nc ks : Nat} {κ : Kp} {M : Mem} {Q : Rs → Kp → Mem → Prop} {x z : Int64} (kk : G X y is (pc + 1) lo (.long (x * z) :: st) nc ks κ M Q) : G X y (((.lmul), 1) :: is) pc lo (.long z :: .long x :: st) nc ks κ M Q := by
  intro hA l p e s m args below meth c b Z D H locs ls hC hR hS hL
  have hx := hC.2.1
  have hb := hC.2.2.1
  exact lv_lmul hx hb hA.1 (kk hA.2 l p e s m args below meth c b Z D H locs ls hC hR hS hL)
theorem g_land {X : Xs} {y : MI} {is : List (Instr × Nat)} {pc : Nat} {lo : Lo} {st : List Value} {nc ks : Nat} {κ : Kp} {M : Mem} {Q : Rs → Kp → Mem → Prop} {x z : Int64} (kk : G X y is (pc + 1) lo (.long (x &&& z) :: st) nc ks κ M Q) : G X y (((.land), 1) :: is) pc lo (.long z :: .long x :: st) nc ks κ M Q := by
  intro hA l p e s m args below meth c b Z D H locs ls hC hR hS hL
  have hx := hC.2.1
  have hb := hC.2.2.1
  exact lv_land hx hb hA.1 (kk hA.2 l p e s m args below meth c b Z D H locs ls hC hR hS hL)
theorem g_lor {X : Xs} {y : MI} {is : List (Instr × Nat)} {pc : Nat} {lo : Lo} {st : List Value} {nc ks : Nat} {κ : Kp} {M : Mem} {Q : Rs → Kp → Mem → Prop} {x z : Int64} (kk : G X y is (pc + 1) lo (.long (x ||| z) :: st) nc ks κ M Q) : G X y (((.lor), 1) :: is) pc lo (.long z :: .long x :: st) nc ks κ M Q := by
  intro hA l p e s m args below meth c b Z D H locs ls hC hR hS hL
  have hx := hC.2.1
  have hb := hC.2.2.1
  exact lv_lor hx hb hA.1 (kk hA.2 l p e s m args below meth c b Z D H locs ls hC hR hS hL)
theorem g_idiv {X : Xs} {y : MI} {is : List (Instr × Nat)} {pc : Nat} {lo : Lo} {st : List Value} {nc ks : Nat} {κ : Kp} {M : Mem} {Q : Rs → Kp → Mem → Prop} {x z : Int32} (hz : ¬ z = 0) (kk : G X y is (pc + 1) lo (.int (x / z) :: st) nc ks κ M Q) : G X y (((.idiv), 1) :: is) pc lo (.int z :: .int x :: st) nc ks κ M Q := by
  intro hA l p e s m args below meth c b Z D H locs ls hC hR hS hL
  have hx := hC.2.1
  have hb := hC.2.2.1
  exact lv_idiv hx hb hA.1 hz (kk hA.2 l p e s m args below meth c b Z D H locs ls hC hR hS hL)
theorem g_irem {X : Xs} {y : MI} {is : List (Instr × Nat)} {pc : Nat} {lo : Lo} {st : List Value} {nc ks : Nat} {κ : Kp} {M : Mem} {Q : Rs → Kp → Mem → Prop} {x z : Int32} (hz : ¬ z = 0) (kk : G X y is (pc + 1) lo (.int (x - x / z * z) :: st) nc ks κ M Q) : G X y (((.irem), 1) :: is) pc lo (.int z :: .int x :: st) nc ks κ M Q := by
  intro hA l p e s m args below meth c b Z D H locs ls hC hR hS hL
  have hx := hC.2.1
  have hb := hC.2.2.1
  exact lv_irem hx hb hA.1 hz (kk hA.2 l p e s m args below meth c b Z D H locs ls hC hR hS hL)
theorem g_ldiv {X : Xs} {y : MI} {is : List (Instr × Nat)} {pc : Nat} {lo : Lo} {st : List Value} {nc ks : Nat} {κ : Kp} {M : Mem} {Q : Rs → Kp → Mem → Prop} {x z : Int64} (hz : ¬ z = 0) (kk : G X y is (pc + 1) lo (.long (x / z) :: st) nc ks κ M Q) : G X y (((.ldiv), 1) :: is) pc lo (.long z :: .long x :: st) nc ks κ M Q := by
  intro hA l p e s m args below meth c b Z D H locs ls hC hR hS hL
  have hx := hC.2.1
  have hb := hC.2.2.1
  exact lv_ldiv hx hb hA.1 hz (kk hA.2 l p e s m args below meth c b Z D H locs ls hC hR hS hL)
theorem g_lrem {X : Xs} {y : MI} {is : List (Instr × Nat)} {pc : Nat} {lo : Lo} {st : List Value} {nc ks : Nat} {κ : Kp} {M : Mem} {Q : Rs → Kp → Mem → Prop} {x z : Int64} (hz : ¬ z = 0) (kk : G X y is (pc + 1) lo (.long (x - x / z * z) :: st) nc ks κ M Q) : G X y (((.lrem), 1) :: is) pc lo (.long z :: .long x :: st) nc ks κ M Q := by
  intro hA l p e s m args below meth c b Z D H locs ls hC hR hS hL
  have hx := hC.2.1
  have hb := hC.2.2.1
  exact lv_lrem hx hb hA.1 hz (kk hA.2 l p e s m args below meth c b Z D H locs ls hC hR hS hL)
theorem g_ineg {X : Xs} {y : MI} {is : List (Instr × Nat)} {pc : Nat} {lo : Lo} {st : List Value} {nc ks : Nat} {κ : Kp} {M : Mem} {Q : Rs → Kp → Mem → Prop} {x : Int32} (kk : G X y is (pc + 1) lo (.int (-x) :: st) nc ks κ M Q) : G X y (((.ineg), 1) :: is) pc lo (.int x :: st) nc ks κ M Q := by
  intro hA l p e s m args below meth c b Z D H locs ls hC hR hS hL
  have hx := hC.2.1
  have hb := hC.2.2.1
  exact lv_ineg hx hb hA.1 (kk hA.2 l p e s m args below meth c b Z D H locs ls hC hR hS hL)
theorem g_ishl {X : Xs} {y : MI} {is : List (Instr × Nat)} {pc : Nat} {lo : Lo} {st : List Value} {nc ks : Nat} {κ : Kp} {M : Mem} {Q : Rs → Kp → Mem → Prop} {x z : Int32} (kk : G X y is (pc + 1) lo (.int (x <<< (z &&& 31)) :: st) nc ks κ M Q) : G X y (((.ishl), 1) :: is) pc lo (.int z :: .int x :: st) nc ks κ M Q := by
  intro hA l p e s m args below meth c b Z D H locs ls hC hR hS hL
  have hx := hC.2.1
  have hb := hC.2.2.1
  exact lv_ishl hx hb hA.1 (kk hA.2 l p e s m args below meth c b Z D H locs ls hC hR hS hL)
theorem g_ishr {X : Xs} {y : MI} {is : List (Instr × Nat)} {pc : Nat} {lo : Lo} {st : List Value} {nc ks : Nat} {κ : Kp} {M : Mem} {Q : Rs → Kp → Mem → Prop} {x z : Int32} (kk : G X y is (pc + 1) lo (.int (x >>> (z &&& 31)) :: st) nc ks κ M Q) : G X y (((.ishr), 1) :: is) pc lo (.int z :: .int x :: st) nc ks κ M Q := by
  intro hA l p e s m args below meth c b Z D H locs ls hC hR hS hL
  have hx := hC.2.1
  have hb := hC.2.2.1
  exact lv_ishr hx hb hA.1 (kk hA.2 l p e s m args below meth c b Z D H locs ls hC hR hS hL)
theorem g_iushr {X : Xs} {y : MI} {is : List (Instr × Nat)} {pc : Nat} {lo : Lo} {st : List Value} {nc ks : Nat} {κ : Kp} {M : Mem} {Q : Rs → Kp → Mem → Prop} {x z : Int32} (kk : G X y is (pc + 1) lo (.int ((x.toUInt32 >>> (z.toUInt32 &&& Int32.toUInt32 31)).toInt32) :: st) nc ks κ M Q) : G X y (((.iushr), 1) :: is) pc lo (.int z :: .int x :: st) nc ks κ M Q := by
  intro hA l p e s m args below meth c b Z D H locs ls hC hR hS hL
  have hx := hC.2.1
  have hb := hC.2.2.1
  exact lv_iushr hx hb hA.1 rfl (kk hA.2 l p e s m args below meth c b Z D H locs ls hC hR hS hL)
theorem g_lushr {X : Xs} {y : MI} {is : List (Instr × Nat)} {pc : Nat} {lo : Lo} {st : List Value} {nc ks : Nat} {κ : Kp} {M : Mem} {Q : Rs → Kp → Mem → Prop} {x : Int64} {z : Int32} (kk : G X y is (pc + 1) lo (.long ((x.toUInt64 >>> (z.toInt64.toUInt64 &&& Int64.toUInt64 63)).toInt64) :: st) nc ks κ M Q) : G X y (((.lushr), 1) :: is) pc lo (.int z :: .long x :: st) nc ks κ M Q := by
  intro hA l p e s m args below meth c b Z D H locs ls hC hR hS hL
  have hx := hC.2.1
  have hb := hC.2.2.1
  exact lv_lushr hx hb hA.1 rfl (kk hA.2 l p e s m args below meth c b Z D H locs ls hC hR hS hL)
theorem g_lshl {X : Xs} {y : MI} {is : List (Instr × Nat)} {pc : Nat} {lo : Lo} {st : List Value} {nc ks : Nat} {κ : Kp} {M : Mem} {Q : Rs → Kp → Mem → Prop} {x : Int64} {z : Int32} (kk : G X y is (pc + 1) lo (.long (x <<< (z.toInt64 &&& 63)) :: st) nc ks κ M Q) : G X y (((.lshl), 1) :: is) pc lo (.int z :: .long x :: st) nc ks κ M Q := by
  intro hA l p e s m args below meth c b Z D H locs ls hC hR hS hL
  have hx := hC.2.1
  have hb := hC.2.2.1
  exact lv_lshl hx hb hA.1 rfl (kk hA.2 l p e s m args below meth c b Z D H locs ls hC hR hS hL)
theorem g_i2l {X : Xs} {y : MI} {is : List (Instr × Nat)} {pc : Nat} {lo : Lo} {st : List Value} {nc ks : Nat} {κ : Kp} {M : Mem} {Q : Rs → Kp → Mem → Prop} {x : Int32} (kk : G X y is (pc + 1) lo (.long x.toInt64 :: st) nc ks κ M Q) : G X y (((.i2l), 1) :: is) pc lo (.int x :: st) nc ks κ M Q := by
  intro hA l p e s m args below meth c b Z D H locs ls hC hR hS hL
  have hx := hC.2.1
  have hb := hC.2.2.1
  exact lv_i2l hx hb hA.1 rfl (kk hA.2 l p e s m args below meth c b Z D H locs ls hC hR hS hL)
theorem g_l2i {X : Xs} {y : MI} {is : List (Instr × Nat)} {pc : Nat} {lo : Lo} {st : List Value} {nc ks : Nat} {κ : Kp} {M : Mem} {Q : Rs → Kp → Mem → Prop} {x : Int64} (kk : G X y is (pc + 1) lo (.int x.toInt32 :: st) nc ks κ M Q) : G X y (((.l2i), 1) :: is) pc lo (.long x :: st) nc ks κ M Q := by
  intro hA l p e s m args below meth c b Z D H locs ls hC hR hS hL
  have hx := hC.2.1
  have hb := hC.2.2.1
  exact lv_l2i hx hb hA.1 rfl (kk hA.2 l p e s m args below meth c b Z D H locs ls hC hR hS hL)
theorem g_i2c {X : Xs} {y : MI} {is : List (Instr × Nat)} {pc : Nat} {lo : Lo} {st : List Value} {nc ks : Nat} {κ : Kp} {M : Mem} {Q : Rs → Kp → Mem → Prop} {x : Int32} (kk : G X y is (pc + 1) lo (.int (x.toUInt32 % 65536).toInt32 :: st) nc ks κ M Q) : G X y (((.i2c), 1) :: is) pc lo (.int x :: st) nc ks κ M Q := by
  intro hA l p e s m args below meth c b Z D H locs ls hC hR hS hL
  have hx := hC.2.1
  have hb := hC.2.2.1
  exact lv_i2c hx hb hA.1 rfl (kk hA.2 l p e s m args below meth c b Z D H locs ls hC hR hS hL)
theorem g_lcmp {X : Xs} {y : MI} {is : List (Instr × Nat)} {pc : Nat} {lo : Lo} {st : List Value} {nc ks : Nat} {κ : Kp} {M : Mem} {Q : Rs → Kp → Mem → Prop} {x z : Int64} (kk : G X y is (pc + 1) lo (.int (lg_cmp x z) :: st) nc ks κ M Q) : G X y (((.lcmp), 1) :: is) pc lo (.long z :: .long x :: st) nc ks κ M Q := by
  intro hA l p e s m args below meth c b Z D H locs ls hC hR hS hL
  have hx := hC.2.1
  have hb := hC.2.2.1
  exact W.lcmp hx hb hA.1 (kk hA.2 l p e s m args below meth c b Z D H locs ls hC hR hS hL)
theorem g_dup {X : Xs} {y : MI} {is : List (Instr × Nat)} {pc : Nat} {lo : Lo} {st : List Value} {nc ks : Nat} {κ : Kp} {M : Mem} {Q : Rs → Kp → Mem → Prop} {v : Value} (hv : v.category = 1) (kk : G X y is (pc + 1) lo (v :: v :: st) nc ks κ M Q) : G X y (((.dup), 1) :: is) pc lo (v :: st) nc ks κ M Q := by
  intro hA l p e s m args below meth c b Z D H locs ls hC hR hS hL
  have hx := hC.2.1
  have hb := hC.2.2.1
  exact lv_dup hx hb hA.1 ((tv_cat _ _ v).trans hv) (kk hA.2 l p e s m args below meth c b Z D H locs ls hC hR hS hL)
theorem g_pop {X : Xs} {y : MI} {is : List (Instr × Nat)} {pc : Nat} {lo : Lo} {st : List Value} {nc ks : Nat} {κ : Kp} {M : Mem} {Q : Rs → Kp → Mem → Prop} {v : Value} (hv : v.category = 1) (kk : G X y is (pc + 1) lo st nc ks κ M Q) : G X y (((.pop), 1) :: is) pc lo (v :: st) nc ks κ M Q := by
  intro hA l p e s m args below meth c b Z D H locs ls hC hR hS hL
  have hx := hC.2.1
  have hb := hC.2.2.1
  exact lv_pop hx hb hA.1 ((tv_cat _ _ v).trans hv) (kk hA.2 l p e s m args below meth c b Z D H locs ls hC hR hS hL)
theorem g_dup2 {X : Xs} {y : MI} {is : List (Instr × Nat)} {pc : Nat} {lo : Lo} {st : List Value} {nc ks : Nat} {κ : Kp} {M : Mem} {Q : Rs → Kp → Mem → Prop} {v w : Value} (hv : v.category = 1) (hw : w.category = 1) (kk : G X y is (pc + 1) lo (v :: w :: v :: w :: st) nc ks κ M Q) : G X y (((.dup2), 1) :: is) pc lo (v :: w :: st) nc ks κ M Q := by
  intro hA l p e s m args below meth c b Z D H locs ls hC hR hS hL
  have hx := hC.2.1
  have hb := hC.2.2.1
  exact lv_dup2_11 hx hb hA.1 ((tv_cat _ _ v).trans hv) ((tv_cat _ _ w).trans hw) (kk hA.2 l p e s m args below meth c b Z D H locs ls hC hR hS hL)
theorem g_goto {X : Xs} {y : MI} {is : List (Instr × Nat)} {pc : Nat} {lo : Lo} {st : List Value} {nc ks : Nat} {κ : Kp} {M : Mem} {Q : Rs → Kp → Mem → Prop} {off : Int} {tgt : Nat} {is' : List (Instr × Nat)} (ht : (pc : Int) + off = (tgt : Int)) (hA' : CdAt y.2.1 tgt is') (kk : G X y is' tgt lo st nc ks κ M Q) : G X y (((.goto off), 3) :: is) pc lo st nc ks κ M Q := by
  intro hA l p e s m args below meth c b Z D H locs ls hC hR hS hL
  exact lv_goto hC.2.1 hC.2.2.1 hA.1 ht (kk hA' l p e s m args below meth c b Z D H locs ls hC hR hS hL)
theorem g_if_eq {X : Xs} {y : MI} {is : List (Instr × Nat)} {pc : Nat} {lo : Lo} {st : List Value} {nc ks : Nat} {κ : Kp} {M : Mem} {Q : Rs → Kp → Mem → Prop} {x : Int32} {off : Int} {tgt : Nat} {is' : List (Instr × Nat)} (ht : (pc : Int) + off = (tgt : Int)) (hA' : CdAt y.2.1 tgt is') (kt : x = 0 → G X y is' tgt lo st nc ks κ M Q) (kf : ¬ (x = 0) → G X y is (pc + 3) lo st nc ks κ M Q) : G X y (((.ifCond .eq off), 3) :: is) pc lo (.int x :: st) nc ks κ M Q := by
  intro hA l p e s m args below meth c b Z D H locs ls hC hR hS hL
  exact lv_if_eq hC.2.1 hC.2.2.1 hA.1 ht (fun h => kt h hA' l p e s m args below meth c b Z D H locs ls hC hR hS hL) (fun h => kf h hA.2 l p e s m args below meth c b Z D H locs ls hC hR hS hL)
theorem g_icmp_eq {X : Xs} {y : MI} {is : List (Instr × Nat)} {pc : Nat} {lo : Lo} {st : List Value} {nc ks : Nat} {κ : Kp} {M : Mem} {Q : Rs → Kp → Mem → Prop} {x z : Int32} {off : Int} {tgt : Nat} {is' : List (Instr × Nat)} (ht : (pc : Int) + off = (tgt : Int)) (hA' : CdAt y.2.1 tgt is') (kt : x = z → G X y is' tgt lo st nc ks κ M Q) (kf : ¬ (x = z) → G X y is (pc + 3) lo st nc ks κ M Q) : G X y (((.if_icmp .eq off), 3) :: is) pc lo (.int z :: .int x :: st) nc ks κ M Q := by
  intro hA l p e s m args below meth c b Z D H locs ls hC hR hS hL
  exact lv_icmp_eq hC.2.1 hC.2.2.1 hA.1 ht (fun h => kt h hA' l p e s m args below meth c b Z D H locs ls hC hR hS hL) (fun h => kf h hA.2 l p e s m args below meth c b Z D H locs ls hC hR hS hL)
theorem g_if_ne {X : Xs} {y : MI} {is : List (Instr × Nat)} {pc : Nat} {lo : Lo} {st : List Value} {nc ks : Nat} {κ : Kp} {M : Mem} {Q : Rs → Kp → Mem → Prop} {x : Int32} {off : Int} {tgt : Nat} {is' : List (Instr × Nat)} (ht : (pc : Int) + off = (tgt : Int)) (hA' : CdAt y.2.1 tgt is') (kt : ¬ x = 0 → G X y is' tgt lo st nc ks κ M Q) (kf : x = 0 → G X y is (pc + 3) lo st nc ks κ M Q) : G X y (((.ifCond .ne off), 3) :: is) pc lo (.int x :: st) nc ks κ M Q := by
  intro hA l p e s m args below meth c b Z D H locs ls hC hR hS hL
  exact lv_if_ne hC.2.1 hC.2.2.1 hA.1 ht (fun h => kt h hA' l p e s m args below meth c b Z D H locs ls hC hR hS hL) (fun h => kf h hA.2 l p e s m args below meth c b Z D H locs ls hC hR hS hL)
theorem g_icmp_ne {X : Xs} {y : MI} {is : List (Instr × Nat)} {pc : Nat} {lo : Lo} {st : List Value} {nc ks : Nat} {κ : Kp} {M : Mem} {Q : Rs → Kp → Mem → Prop} {x z : Int32} {off : Int} {tgt : Nat} {is' : List (Instr × Nat)} (ht : (pc : Int) + off = (tgt : Int)) (hA' : CdAt y.2.1 tgt is') (kt : ¬ x = z → G X y is' tgt lo st nc ks κ M Q) (kf : x = z → G X y is (pc + 3) lo st nc ks κ M Q) : G X y (((.if_icmp .ne off), 3) :: is) pc lo (.int z :: .int x :: st) nc ks κ M Q := by
  intro hA l p e s m args below meth c b Z D H locs ls hC hR hS hL
  exact lv_icmp_ne hC.2.1 hC.2.2.1 hA.1 ht (fun h => kt h hA' l p e s m args below meth c b Z D H locs ls hC hR hS hL) (fun h => kf h hA.2 l p e s m args below meth c b Z D H locs ls hC hR hS hL)
theorem g_if_lt {X : Xs} {y : MI} {is : List (Instr × Nat)} {pc : Nat} {lo : Lo} {st : List Value} {nc ks : Nat} {κ : Kp} {M : Mem} {Q : Rs → Kp → Mem → Prop} {x : Int32} {off : Int} {tgt : Nat} {is' : List (Instr × Nat)} (ht : (pc : Int) + off = (tgt : Int)) (hA' : CdAt y.2.1 tgt is') (kt : x < 0 → G X y is' tgt lo st nc ks κ M Q) (kf : ¬ (x < 0) → G X y is (pc + 3) lo st nc ks κ M Q) : G X y (((.ifCond .lt off), 3) :: is) pc lo (.int x :: st) nc ks κ M Q := by
  intro hA l p e s m args below meth c b Z D H locs ls hC hR hS hL
  exact lv_if_lt hC.2.1 hC.2.2.1 hA.1 ht (fun h => kt h hA' l p e s m args below meth c b Z D H locs ls hC hR hS hL) (fun h => kf h hA.2 l p e s m args below meth c b Z D H locs ls hC hR hS hL)
theorem g_icmp_lt {X : Xs} {y : MI} {is : List (Instr × Nat)} {pc : Nat} {lo : Lo} {st : List Value} {nc ks : Nat} {κ : Kp} {M : Mem} {Q : Rs → Kp → Mem → Prop} {x z : Int32} {off : Int} {tgt : Nat} {is' : List (Instr × Nat)} (ht : (pc : Int) + off = (tgt : Int)) (hA' : CdAt y.2.1 tgt is') (kt : x < z → G X y is' tgt lo st nc ks κ M Q) (kf : ¬ (x < z) → G X y is (pc + 3) lo st nc ks κ M Q) : G X y (((.if_icmp .lt off), 3) :: is) pc lo (.int z :: .int x :: st) nc ks κ M Q := by
  intro hA l p e s m args below meth c b Z D H locs ls hC hR hS hL
  exact lv_icmp_lt hC.2.1 hC.2.2.1 hA.1 ht (fun h => kt h hA' l p e s m args below meth c b Z D H locs ls hC hR hS hL) (fun h => kf h hA.2 l p e s m args below meth c b Z D H locs ls hC hR hS hL)
theorem g_if_ge {X : Xs} {y : MI} {is : List (Instr × Nat)} {pc : Nat} {lo : Lo} {st : List Value} {nc ks : Nat} {κ : Kp} {M : Mem} {Q : Rs → Kp → Mem → Prop} {x : Int32} {off : Int} {tgt : Nat} {is' : List (Instr × Nat)} (ht : (pc : Int) + off = (tgt : Int)) (hA' : CdAt y.2.1 tgt is') (kt : 0 ≤ x → G X y is' tgt lo st nc ks κ M Q) (kf : ¬ (0 ≤ x) → G X y is (pc + 3) lo st nc ks κ M Q) : G X y (((.ifCond .ge off), 3) :: is) pc lo (.int x :: st) nc ks κ M Q := by
  intro hA l p e s m args below meth c b Z D H locs ls hC hR hS hL
  exact lv_if_ge hC.2.1 hC.2.2.1 hA.1 ht (fun h => kt h hA' l p e s m args below meth c b Z D H locs ls hC hR hS hL) (fun h => kf h hA.2 l p e s m args below meth c b Z D H locs ls hC hR hS hL)
theorem g_icmp_ge {X : Xs} {y : MI} {is : List (Instr × Nat)} {pc : Nat} {lo : Lo} {st : List Value} {nc ks : Nat} {κ : Kp} {M : Mem} {Q : Rs → Kp → Mem → Prop} {x z : Int32} {off : Int} {tgt : Nat} {is' : List (Instr × Nat)} (ht : (pc : Int) + off = (tgt : Int)) (hA' : CdAt y.2.1 tgt is') (kt : z ≤ x → G X y is' tgt lo st nc ks κ M Q) (kf : ¬ (z ≤ x) → G X y is (pc + 3) lo st nc ks κ M Q) : G X y (((.if_icmp .ge off), 3) :: is) pc lo (.int z :: .int x :: st) nc ks κ M Q := by
  intro hA l p e s m args below meth c b Z D H locs ls hC hR hS hL
  exact lv_icmp_ge hC.2.1 hC.2.2.1 hA.1 ht (fun h => kt h hA' l p e s m args below meth c b Z D H locs ls hC hR hS hL) (fun h => kf h hA.2 l p e s m args below meth c b Z D H locs ls hC hR hS hL)
theorem g_if_gt {X : Xs} {y : MI} {is : List (Instr × Nat)} {pc : Nat} {lo : Lo} {st : List Value} {nc ks : Nat} {κ : Kp} {M : Mem} {Q : Rs → Kp → Mem → Prop} {x : Int32} {off : Int} {tgt : Nat} {is' : List (Instr × Nat)} (ht : (pc : Int) + off = (tgt : Int)) (hA' : CdAt y.2.1 tgt is') (kt : 0 < x → G X y is' tgt lo st nc ks κ M Q) (kf : ¬ (0 < x) → G X y is (pc + 3) lo st nc ks κ M Q) : G X y (((.ifCond .gt off), 3) :: is) pc lo (.int x :: st) nc ks κ M Q := by
  intro hA l p e s m args below meth c b Z D H locs ls hC hR hS hL
  exact lv_if_gt hC.2.1 hC.2.2.1 hA.1 ht (fun h => kt h hA' l p e s m args below meth c b Z D H locs ls hC hR hS hL) (fun h => kf h hA.2 l p e s m args below meth c b Z D H locs ls hC hR hS hL)
theorem g_icmp_gt {X : Xs} {y : MI} {is : List (Instr × Nat)} {pc : Nat} {lo : Lo} {st : List Value} {nc ks : Nat} {κ : Kp} {M : Mem} {Q : Rs → Kp → Mem → Prop} {x z : Int32} {off : Int} {tgt : Nat} {is' : List (Instr × Nat)} (ht : (pc : Int) + off = (tgt : Int)) (hA' : CdAt y.2.1 tgt is') (kt : z < x → G X y is' tgt lo st nc ks κ M Q) (kf : ¬ (z < x) → G X y is (pc + 3) lo st nc ks κ M Q) : G X y (((.if_icmp .gt off), 3) :: is) pc lo (.int z :: .int x :: st) nc ks κ M Q := by
  intro hA l p e s m args below meth c b Z D H locs ls hC hR hS hL
  exact lv_icmp_gt hC.2.1 hC.2.2.1 hA.1 ht (fun h => kt h hA' l p e s m args below meth c b Z D H locs ls hC hR hS hL) (fun h => kf h hA.2 l p e s m args below meth c b Z D H locs ls hC hR hS hL)
theorem g_if_le {X : Xs} {y : MI} {is : List (Instr × Nat)} {pc : Nat} {lo : Lo} {st : List Value} {nc ks : Nat} {κ : Kp} {M : Mem} {Q : Rs → Kp → Mem → Prop} {x : Int32} {off : Int} {tgt : Nat} {is' : List (Instr × Nat)} (ht : (pc : Int) + off = (tgt : Int)) (hA' : CdAt y.2.1 tgt is') (kt : x ≤ 0 → G X y is' tgt lo st nc ks κ M Q) (kf : ¬ (x ≤ 0) → G X y is (pc + 3) lo st nc ks κ M Q) : G X y (((.ifCond .le off), 3) :: is) pc lo (.int x :: st) nc ks κ M Q := by
  intro hA l p e s m args below meth c b Z D H locs ls hC hR hS hL
  exact lv_if_le hC.2.1 hC.2.2.1 hA.1 ht (fun h => kt h hA' l p e s m args below meth c b Z D H locs ls hC hR hS hL) (fun h => kf h hA.2 l p e s m args below meth c b Z D H locs ls hC hR hS hL)
theorem g_icmp_le {X : Xs} {y : MI} {is : List (Instr × Nat)} {pc : Nat} {lo : Lo} {st : List Value} {nc ks : Nat} {κ : Kp} {M : Mem} {Q : Rs → Kp → Mem → Prop} {x z : Int32} {off : Int} {tgt : Nat} {is' : List (Instr × Nat)} (ht : (pc : Int) + off = (tgt : Int)) (hA' : CdAt y.2.1 tgt is') (kt : x ≤ z → G X y is' tgt lo st nc ks κ M Q) (kf : ¬ (x ≤ z) → G X y is (pc + 3) lo st nc ks κ M Q) : G X y (((.if_icmp .le off), 3) :: is) pc lo (.int z :: .int x :: st) nc ks κ M Q := by
  intro hA l p e s m args below meth c b Z D H locs ls hC hR hS hL
  exact lv_icmp_le hC.2.1 hC.2.2.1 hA.1 ht (fun h => kt h hA' l p e s m args below meth c b Z D H locs ls hC hR hS hL) (fun h => kf h hA.2 l p e s m args below meth c b Z D H locs ls hC hR hS hL)
theorem g_tabIn {X : Xs} {y : MI} {is : List (Instr × Nat)} {pc : Nat} {lo : Lo} {st : List Value} {nc ks : Nat} {κ : Kp} {M : Mem} {Q : Rs → Kp → Mem → Prop} {dflt l0 h0 : Int} {offs : Array Int} {len : Nat} {x : Int32} {off : Int} {tgt : Nat} {is' : List (Instr × Nat)} (h1 : ¬ x.toInt < l0) (h2 : ¬ h0 < x.toInt) (ho : offs[(x.toInt - l0).toNat]? = some off) (ht : (pc : Int) + off = (tgt : Int)) (hA' : CdAt y.2.1 tgt is') (kk : G X y is' tgt lo st nc ks κ M Q) : G X y (((.tableswitch dflt l0 h0 offs), len) :: is) pc lo (.int x :: st) nc ks κ M Q := by
  intro hA l p e s m args below meth c b Z D H locs ls hC hR hS hL
  exact lv_tableIn hC.2.1 hC.2.2.1 hA.1 h1 h2 ho ht (kk hA' l p e s m args below meth c b Z D H locs ls hC hR hS hL)
theorem g_tabOut {X : Xs} {y : MI} {is : List (Instr × Nat)} {pc : Nat} {lo : Lo} {st : List Value} {nc ks : Nat} {κ : Kp} {M : Mem} {Q : Rs → Kp → Mem → Prop} {dflt l0 h0 : Int} {offs : Array Int} {len : Nat} {x : Int32} {tgt : Nat} {is' : List (Instr × Nat)} (h1 : x.toInt < l0 ∨ h0 < x.toInt) (ht : (pc : Int) + dflt = (tgt : Int)) (hA' : CdAt y.2.1 tgt is') (kk : G X y is' tgt lo st nc ks κ M Q) : G X y (((.tableswitch dflt l0 h0 offs), len) :: is) pc lo (.int x :: st) nc ks κ M Q := by
  intro hA l p e s m args below meth c b Z D H locs ls hC hR hS hL
  exact lv_tableOut hC.2.1 hC.2.2.1 hA.1 h1 ht (kk hA' l p e s m args below meth c b Z D H locs ls hC hR hS hL)
theorem g_lookup {X : Xs} {y : MI} {is : List (Instr × Nat)} {pc : Nat} {lo : Lo} {st : List Value} {nc ks : Nat} {κ : Kp} {M : Mem} {Q : Rs → Kp → Mem → Prop} {dflt : Int} {ps : Array (Int × Int)} {len : Nat} {x : Int32} {off : Int} {tgt : Nat} {is' : List (Instr × Nat)} (hp : (ps.toList.zip (ps.toList.drop 1)).all (fun (a, next) => a.1 < next.1) = true) (ho : Op.lookupswitch.offset ps.toList dflt x.toInt = off) (ht : (pc : Int) + off = (tgt : Int)) (hA' : CdAt y.2.1 tgt is') (kk : G X y is' tgt lo st nc ks κ M Q) : G X y (((.lookupswitch dflt ps), len) :: is) pc lo (.int x :: st) nc ks κ M Q := by
  intro hA l p e s m args below meth c b Z D H locs ls hC hR hS hL
  exact lv_lookup hC.2.1 hC.2.2.1 hA.1 hp ho ht (kk hA' l p e s m args below meth c b Z D H locs ls hC hR hS hL)
theorem g_ldc {X : Xs} {y : MI} {is : List (Instr × Nat)} {pc : Nat} {lo : Lo} {st : List Value} {nc ks : Nat} {κ : Kp} {M : Mem} {Q : Rs → Kp → Mem → Prop} {own : String} {idx : Nat} {v : Int32} (ho : y.1.cls = own) (hw : Cond.constant own idx v ∈ tblG) (kk : G X y is (pc + 2) lo (.int v :: st) nc ks κ M Q) : G X y (((.ldc idx), 2) :: is) pc lo st nc ks κ M Q := by
  intro hA l p e s m args below meth c b Z D H locs ls hC hR hS hL
  have hx := hC.2.1
  have hb := hC.2.2.1
  subst ho
  exact lv_ldc hx hb hC.own (hC.word hw) hA.1 (kk hA.2 l p e s m args below meth c b Z D H locs ls hC hR hS hL)
theorem g_ldcw {X : Xs} {y : MI} {is : List (Instr × Nat)} {pc : Nat} {lo : Lo} {st : List Value} {nc ks : Nat} {κ : Kp} {M : Mem} {Q : Rs → Kp → Mem → Prop} {own : String} {idx : Nat} {v : Int32} (ho : y.1.cls = own) (hw : Cond.constant own idx v ∈ tblG) (kk : G X y is (pc + 3) lo (.int v :: st) nc ks κ M Q) : G X y (((.ldc_w idx), 3) :: is) pc lo st nc ks κ M Q := by
  intro hA l p e s m args below meth c b Z D H locs ls hC hR hS hL
  have hx := hC.2.1
  have hb := hC.2.2.1
  subst ho
  exact lv_ldcw hx hb hC.own (hC.word hw) hA.1 (kk hA.2 l p e s m args below meth c b Z D H locs ls hC hR hS hL)
theorem g_ldc2 {X : Xs} {y : MI} {is : List (Instr × Nat)} {pc : Nat} {lo : Lo} {st : List Value} {nc ks : Nat} {κ : Kp} {M : Mem} {Q : Rs → Kp → Mem → Prop} {own : String} {idx : Nat} {v : Int64} (ho : y.1.cls = own) (hw : Cond.constantLong own idx v ∈ tblG) (kk : G X y is (pc + 3) lo (.long v :: st) nc ks κ M Q) : G X y (((.ldc2_w idx), 3) :: is) pc lo st nc ks κ M Q := by
  intro hA l p e s m args below meth c b Z D H locs ls hC hR hS hL
  have hx := hC.2.1
  have hb := hC.2.2.1
  subst ho
  exact lv_ldc2 hx hb hC.own (hC.word hw) hA.1 (kk hA.2 l p e s m args below meth c b Z D H locs ls hC hR hS hL)
theorem g_lab {X : Xs} {y : MI} {is : List (Instr × Nat)} {pc : Nat} {lo : Lo} {st : List Value} {nc ks : Nat} {κ : Kp} {M : Mem} {Q : Rs → Kp → Mem → Prop} {is' : List (Instr × Nat)} (hA' : CdAt y.2.1 pc is') (kk : G X y is' pc lo st nc ks κ M Q) : G X y is pc lo st nc ks κ M Q := fun _ => kk hA'
theorem g_lo {X : Xs} {y : MI} {is : List (Instr × Nat)} {pc : Nat} {lo : Lo} {st : List Value} {nc ks : Nat} {κ : Kp} {M : Mem} {Q : Rs → Kp → Mem → Prop} (lo' : Lo) (h : subLo lo lo') (kk : G X y is pc lo' st nc ks κ M Q) : G X y is pc lo st nc ks κ M Q := fun hA l p e s m args below meth c b Z D H locs ls hC hR hS hL => kk hA l p e s m args below meth c b Z D H locs ls hC hR hS (hL.sub h)
theorem g_wide {X : Xs} {y : MI} {is : List (Instr × Nat)} {pc : Nat} {lo : Lo} {st : List Value} {nc ks : Nat} {κ : Kp} {M : Mem} {Q : Rs → Kp → Mem → Prop} {n2 k2 : Nat} (h1 : nc ≤ n2) (h2 : ks ≤ k2) (kk : G X y is pc lo st n2 k2 κ M Q) : G X y is pc lo st nc ks κ M Q := fun hA l p e s m args below meth c b Z D H locs ls hC hR hS hL => W.widen h1 h2 (kk hA l p e s m args below meth c b Z D H locs ls hC hR hS hL)
end ROWS
