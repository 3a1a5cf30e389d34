/-! the walks' own layer: memory as one function of address and place, methods as relations between memories; V: from this place of a method's code the run ends as the method's contract says -/
abbrev MR : Type := MethodName × ByteArray × Nat × Option FieldType
def TW : List Cond := lw_tbl.filter goodWord
theorem TW_mem {w : Cond} (i : Nat) (h : lw_tbl[i]? = some w) (g : goodWord w = true) : w ∈ TW := List.mem_filter.mpr ⟨List.mem_of_getElem? h, g⟩
theorem TW_good {cd : Cond} (h : cd ∈ TW) : GoodIn TW (cd :: TW) := fun w hw => by
  have h1 : w ∈ TW := (List.mem_cons.mp hw).elim (fun e => by rw [e]; exact h) id
  exact ⟨h1, good_of_word (List.mem_filter.mp h1).2⟩
theorem TW_self : GoodIn TW TW := fun w h1 => ⟨h1, good_of_word (List.mem_filter.mp h1).2⟩
abbrev cls7 : List vw_C := [(RX0, TX0, 13), (RX1, TX1, 5), (RX2, TX2, 3), (RX3, TX3, 7), (RX4, TX4, 4), (RX5, TX5, 10), (RX6, TX6, 36)]
/-- launch, classes and slots, array classes, the first address that is ours -/
abbrev K0 : Type := Launch × va_G × (FieldType → ClassId) × Nat
def kA (κ : K0) : Nat → Prop := fun q => κ.2.2.2 ≤ q
abbrev kT (κ : K0) : List (ClassId × FieldType) := [(κ.2.2.1 .int, .int), (κ.2.2.1 .char, .char), (κ.2.2.1 .long, .long), (κ.2.2.1 (.object RX1), .object RX1), (κ.2.2.1 (.array .int), .array .int)]
/-- what a cell is, but for its numbers: an array (its elements' type, its length, the references of one of references), an object (its class's number, slots, its references) -/
abbrev Kd : Type := (FieldType × Nat × (Nat → Option Nat)) ⊕ (Nat × Nat × (Nat → Option Value))
abbrev Mem : Type := (Nat → Option Kd) × (Nat → Nat → Int32) × (Nat → Nat → Int64) × Option Nat
def slV (sl : Nat → Option Value) (fi : Nat → Int32) (k : Nat) : Value := (sl k).getD (.int (fi k))
def cellK (dA : FieldType → ClassId) (k : Kd) (fi : Nat → Int32) (fl : Nat → Int64) : va_E := match k with
  | .inl (.int, n, _) => .inl (dA .int, n, .inl fi)
  | .inl (.char, n, _) => .inl (dA .char, n, .inl fi)
  | .inl (.long, n, _) => .inl (dA .long, n, .inr (.inl fl))
  | .inl (ty, n, r) => .inl (dA ty, n, .inr (.inr (.inr (.inr r))))
  | .inr (ci, N, sl) => .inr (ci, (List.range N).map (slV sl fi))
def cellM (κ : K0) (μ : Mem) (a : Nat) : va_E := match μ.1 a with
  | some k => cellK κ.2.2.1 k (μ.2.1 a) (μ.2.2.1 a)
  | none => .inr (0, [])
def Rep (κ : K0) (μ : Mem) (H : Heap) : Prop := ∃ L : List Nat, (∀ a, a ∈ L ↔ (μ.1 a).isSome = true) ∧ va_P κ.2.1 cls7 (va_pl L (cellM κ μ)) H ∧ va_D (kA κ) (va_pl L (cellM κ μ)) ∧ ∀ n, μ.2.2.2 = some n → H.size = n
/-- words that a warm-up keeps, but not as good words do -/
def nwL : List Cond := [.methodLinkNest "SsaRepair" 9 ⟨"SsaRepair$Flow", "<init>", "()V"⟩ "SsaRepair", .methodLinkNest "SsaRepair$Flow" 11 ⟨"SsaRepair$Graph", "<init>", "()V"⟩ "SsaRepair", .methodLinkNest "SsaRepair" 29 ⟨"SsaRepair$Graph", "<init>", "()V"⟩ "SsaRepair", .methodLinkNest "SsaRepair$History" 24 ⟨"SsaRepair$Graph", "<init>", "()V"⟩ "SsaRepair", .methodLinkNest "SsaRepair" 46 ⟨"SsaRepair$Line", "<init>", "()V"⟩ "SsaRepair", .methodLinkNest "SsaRepair" 57 ⟨"SsaRepair$Walk", "<init>", "()V"⟩ "SsaRepair", .methodLinkNest "SsaRepair$Flow" 85 ⟨"SsaRepair", "has", "(II)Z"⟩ "SsaRepair", .methodLinkNest "SsaRepair$Flow" 146 ⟨"SsaRepair", "isUse", "(I)Z"⟩ "SsaRepair", .declares ⟨"java/lang/RuntimeException", "<init>", "()V"⟩, .declares ⟨"java/lang/RuntimeException", "<init>", "(Ljava/lang/String;)V"⟩, .declares ⟨"java/lang/Exception", "<init>", "()V"⟩, .declares ⟨"java/lang/Exception", "<init>", "(Ljava/lang/String;)V"⟩, .declares ⟨"java/lang/Throwable", "<init>", "()V"⟩, .declares ⟨"java/lang/Throwable", "<init>", "(Ljava/lang/String;)V"⟩, .castable "java/lang/IllegalArgumentException" "java/lang/IllegalArgumentException", .castable "java/lang/IllegalStateException" "java/lang/IllegalStateException", .castable "java/lang/IndexOutOfBoundsException" "java/lang/IndexOutOfBoundsException", .castable "java/util/NoSuchElementException" "java/util/NoSuchElementException"]
def strL : List (Nat × String) := [(67, "the number of blocks is not 1 to 14"), (85, "the character's code is not 32 to 126"), (92, "the input is full"), (103, "the input is not a line"), (118, "no error position was kept"), (329, "no such block or action"), (324, "no such block"), (139, "the target is block 0, or the edge exists"), (144, "the source has 3 edges"), (149, "no such edge"), (154, "no edge to the block, or none behind it"), (156, "there are 14 blocks"), (174, "no such block or edge"), (333, "the block is not reachable"), (195, "block 0 has no parent"), (331, "no such variable"), (229, "the action is not a use"), (335, "the block is not a merge of the variable"), (240, "no such predecessor"), (262, "no such reaching definition"), (281, "no change is remembered"), (289, "the walk has 30 choices"), (294, "no such edge where the walk has come to"), (304, "the number of choices is not 0 to 30"), (322, "nothing was saved")]
def ncL : List (String × String) := [("java/lang/IllegalArgumentException", "java/lang/IllegalStateException"), ("java/lang/IllegalArgumentException", "java/lang/IndexOutOfBoundsException"), ("java/lang/IllegalArgumentException", "java/util/NoSuchElementException"), ("java/lang/IllegalStateException", "java/lang/IllegalArgumentException"), ("java/lang/IllegalStateException", "java/lang/IndexOutOfBoundsException"), ("java/lang/IllegalStateException", "java/util/NoSuchElementException"), ("java/lang/IndexOutOfBoundsException", "java/lang/IllegalArgumentException"), ("java/lang/IndexOutOfBoundsException", "java/lang/IllegalStateException"), ("java/lang/IndexOutOfBoundsException", "java/util/NoSuchElementException"), ("java/util/NoSuchElementException", "java/lang/IllegalArgumentException"), ("java/util/NoSuchElementException", "java/lang/IllegalStateException"), ("java/util/NoSuchElementException", "java/lang/IndexOutOfBoundsException")]
/-- what holds of the tables and of what lies below our first address -/
def Ev (κ : K0) (U : State) (H : Heap) : Prop :=
  κ.1.stackTraces = false ∧ va_K κ.2.1 cls7 (kT κ) U ∧ (∀ w ∈ nwL, va_Nw w U) ∧ (∀ q ∈ strL, ∃ a, vk_R RX5 q.1 q.2 a U) ∧ (∀ q ∈ ncL, va_Nc q.1 q.2 U) ∧ va_AO RX1 U ∧ va_AOA .int U ∧
  vx_Zq Bundle.tN "UNASSIGNED_STACK" Bundle.steD (kA κ) U H ∧ vx_Zq Bundle.tN "SUPPRESSED_SENTINEL" Bundle.listD (kA κ) U H
theorem nw_cast {C T : String} {s U : State} (hW : s.WarmedH U.vm) (h : va_Nw (.castable C T) s) : va_Nw (.castable C T) U := by
  obtain ⟨c, t, h1, h2, h3⟩ := Cond.castable_spec (show (Cond.castable C T).holds #[] s none s [] = true from h)
  have f1 : U.vm.findClass C = some c := by rw [hW.alike.findClass]; exact h1
  have f2 : U.vm.findClass T = some t := by rw [hW.alike.findClass]; exact h2
  have f3 : U.vm.assignable c t = true := by rw [hW.alike.assignable]; exact h3
  show (Cond.castable C T).holds #[] U none U [] = true
  simp [Cond.holds, Cond.value, f1, f2, f3]
theorem nw_warm {w : Cond} (hw : (∃ a i x h, w = .methodLinkNest a i x h) ∨ (∃ x, w = .declares x) ∨ ∃ C T, w = .castable C T) {s U : State} (hW : s.WarmedH U.vm) (h : va_Nw w s) : va_Nw w U := by
  rcases hw with ⟨a, i, x, q, rfl⟩ | ⟨x, rfl⟩ | ⟨C, T, rfl⟩
  · exact va_Nw.warmM hW h
  · exact va_Nw.warmD hW h
  · exact nw_cast hW h
theorem nw_tab {w : Cond} (hw : (∃ a i x h, w = .methodLinkNest a i x h) ∨ (∃ x, w = .declares x) ∨ ∃ C T, w = .castable C T) : w.onTables = true := by
  rcases hw with ⟨a, i, x, q, rfl⟩ | ⟨x, rfl⟩ | ⟨C, T, rfl⟩ <;> rfl
theorem nwL_form : ∀ w ∈ nwL, (∃ a i x h, w = .methodLinkNest a i x h) ∨ (∃ x, w = .declares x) ∨ ∃ C T, w = .castable C T := by
  intro w hw
  simp only [nwL, List.mem_cons, List.not_mem_nil, or_false] at hw
  rcases hw with rfl | rfl | rfl | rfl | rfl | rfl | rfl | rfl | rfl | rfl | rfl | rfl | rfl | rfl | rfl | rfl | rfl | rfl
  · exact Or.inl ⟨_, _, _, _, rfl⟩
  · exact Or.inl ⟨_, _, _, _, rfl⟩
  · exact Or.inl ⟨_, _, _, _, rfl⟩
  · exact Or.inl ⟨_, _, _, _, rfl⟩
  · exact Or.inl ⟨_, _, _, _, rfl⟩
  · exact Or.inl ⟨_, _, _, _, rfl⟩
  · exact Or.inl ⟨_, _, _, _, rfl⟩
  · exact Or.inl ⟨_, _, _, _, rfl⟩
  · exact Or.inr (Or.inl ⟨_, rfl⟩)
  · exact Or.inr (Or.inl ⟨_, rfl⟩)
  · exact Or.inr (Or.inl ⟨_, rfl⟩)
  · exact Or.inr (Or.inl ⟨_, rfl⟩)
  · exact Or.inr (Or.inl ⟨_, rfl⟩)
  · exact Or.inr (Or.inl ⟨_, rfl⟩)
  · exact Or.inr (Or.inr ⟨_, _, rfl⟩)
  · exact Or.inr (Or.inr ⟨_, _, rfl⟩)
  · exact Or.inr (Or.inr ⟨_, _, rfl⟩)
  · exact Or.inr (Or.inr ⟨_, _, rfl⟩)
theorem Ev.go {κ : K0} {s U : State} {H : Heap} (hW : s.WarmedH U.vm) (hq : ∀ a : Nat, a < s.heap.size → ¬ kA κ a → H[a]? = s.heap[a]?) (h : Ev κ s s.heap) : Ev κ U H := by
  obtain ⟨h0, h1, h2, h3, h4, h5, h6, h7, h8⟩ := h
  exact ⟨h0, va_K.moved hW.alike h1, fun w hw => nw_warm (nwL_form w hw) hW (h2 w hw), fun q hq => by
      obtain ⟨a, ha⟩ := h3 q hq
      exact ⟨a, vk_R.warm hW ha⟩, fun q hq => va_Nc.moved hW.alike (h4 q hq), va_AO.moved hW.alike h5, va_AOA.moved hW.alike h6, vx_Zq.moved hW.alike (h7.kept hq), vx_Zq.moved hW.alike (h8.kept hq)⟩
theorem Ev.same {κ : K0} {s U : State} {H : Heap} (hv : U.vm = s.vm) (h : Ev κ s H) : Ev κ U H := by
  obtain ⟨h0, h1, h2, h3, h4, h5, h6, h7, h8⟩ := h
  have hA : s.vm.Alike U.vm := by rw [hv]; exact Vm.Alike.refl _
  exact ⟨h0, va_K.moved hA h1, fun w hw => va_Nw.same (nw_tab (nwL_form w hw)) hv.symm (h2 w hw), fun q hq => by
      obtain ⟨a, ha⟩ := h3 q hq
      exact ⟨a, vk_R.same hv ha⟩, fun q hq => va_Nc.moved hA (h4 q hq), va_AO.moved hA h5, va_AOA.moved hA h6, vx_Zq.moved hA h7, vx_Zq.moved hA h8⟩
/-- how a method ends: with an answer, or with an exception of a class -/
abbrev Oc : Type := Option Value ⊕ String
def rmOf (d mc ms : Nat) : Room := { frames := d, cells := mc, slots := ms, locals := 64 * d }
def PcOf (κ : K0) (as : List Value) (μ : Mem) : Array Value → State → Prop := va_Pc as (fun U => Rep κ μ U.heap ∧ Ev κ U U.heap ∧ κ.2.2.2 ≤ U.heap.size)
def QcOf (κ : K0) (o : Oc) (μ' : Mem) : Array Value → State → Outcome → State → Prop := fun _ st oc t => (∃ v, o = .inl v ∧ oc = .returned v ∧ Rep κ μ' t.heap) ∧ va_F (kA κ) st t
def XcOf (κ : K0) (o : Oc) (μ' : Mem) : String → State → State → Prop := fun E st t => (o = .inr E ∧ Rep κ μ' t.heap) ∧ va_F (kA κ) st t
def mCode (mr : MR) : Cond := .code mr.1 mr.2.1 mr.2.2.1 mr.2.2.2
/-- **the contract**: called with 'as' over the memory μ the method ends with o over μ' -/
def Ct (κ : K0) (mc ms d : Nat) (mr : MR) (as : List Value) (μ : Mem) (o : Oc) (μ' : Mem) : Prop :=
  vx_Met κ.1 mr.1 (mCode mr :: TW) (rmOf d mc ms) (PcOf κ as μ) (QcOf κ o μ') (XcOf κ o μ') mc ms (kA κ)
abbrev Fr : Type := MR × Room × (List Frame → Array Value → State → State → Prop) × (State → Array Value → Prop) × List (Nat × Nat × Nat × Nat)
def Bd (κ : K0) (φ : Fr) (p : Program) (s : State) (m : MethodId) (args : Array Value) (meth : Method) (c : Code) : Prop :=
  p.tables.exec = Jvm.exec ∧ c.code = φ.1.2.1 ∧ c.maxLocals = φ.1.2.2.1 ∧ s.vm.findClass φ.1.1.cls = some m.cls ∧ (∀ w ∈ TW, w.before args s = true) ∧ meth.sig.returnType = φ.1.2.2.2 ∧ meth.locks = false ∧ Ev κ s s.heap ∧ κ.2.2.2 ≤ s.heap.size ∧ c.exceptionTable.toList = tableOf φ.2.2.2.2 ∧ meth.name = φ.1.1.name ∧ φ.2.2.2.1 s args
def lOK (ls : Array Slot) (nL : Nat) (L : List (Option Value)) : Prop := ls.size = nL ∧ lv_wf ls ∧ ∀ (k : Nat) (v : Value), L[k]? = some (some v) → ls[k]? = some (.val v)
/-- **from this place on**: the run ends as φ says -/
def V (κ : K0) (φ : Fr) (cells slots pc : Nat) (L : List (Option Value)) (st : List Value) (μ : Mem) : Prop :=
  ∀ (p : Program) (e : Env) (s : State) (m : MethodId) (args : Array Value) (below : List Frame) (meth : Method) (c : Code), Bd κ φ p s m args meth c →
  ∀ (H : Heap) (locs : List Loc) (ls : Array Slot), lOK ls φ.1.2.2.1 L → Rep κ μ H → va_S (kA κ) s.heap H locs →
    W p κ.1 e φ.2.1 s m args below meth c H locs cells slots (φ.2.2.1 below args s) (F0 m pc ls st)
/-- an exception of class E at this place -/
def VX (κ : K0) (φ : Fr) (cells slots pc : Nat) (L : List (Option Value)) (E : String) (μ : Mem) : Prop :=
  ∀ (p : Program) (e : Env) (s : State) (m : MethodId) (args : Array Value) (below : List Frame) (meth : Method) (c : Code), Bd κ φ p s m args meth c →
  ∀ (H : Heap) (locs : List Loc) (ls : Array Slot) (ce : Cell) (q : Addr) (rest : List Value), lOK ls φ.1.2.2.1 L → Rep κ μ H → va_S (kA κ) s.heap H locs → H[q]? = some ce → ce.vm = .none → s.vm.findClass E = some ce.cls →
    vx_W p κ.1 e φ.2.1 s m args below meth c H locs cells slots (φ.2.2.1 below args s) (F0 m pc ls rest) q
abbrev phi (κ : K0) (mr : MR) (d mc ms : Nat) (o : Oc) (μ' : Mem) : Fr := (mr, rmOf d mc ms, fun below args s => vx_MQ below (QcOf κ o μ') (XcOf κ o μ') args s mc ms (kA κ), fun _ _ => True, [])
abbrev phiH (κ : K0) (mr : MR) (d mc ms : Nat) (o : Oc) (μ' : Mem) (hh : List (Nat × Nat × Nat × Nat)) : Fr := (mr, rmOf d mc ms, fun below args s => vx_MQ below (QcOf κ o μ') (XcOf κ o μ') args s mc ms (kA κ), fun _ _ => True, hh)
/-! locals -/
def stL : Nat → Value → List (Option Value) → List (Option Value)
  | _, _, [] => []
  | 0, v, _ :: t => some v :: t
  | i + 1, v, o :: t => (if i = 0 then (match o with | some w => if w.category = 2 then none else some w | none => none) else o) :: stL i v t
def asc (L : List (Option Value)) : List (Nat × Value) := (List.range L.length).filterMap (fun k => (L.getD k none).map (fun v => (k, v)))
theorem asc_mem {L : List (Option Value)} {k : Nat} {v : Value} : (k, v) ∈ asc L ↔ L[k]? = some (some v) := by
  unfold asc
  rw [List.mem_filterMap]
  constructor
  · rintro ⟨i, hi, h⟩
    rw [List.mem_range] at hi
    rw [List.getD_eq_getElem?_getD, List.getElem?_eq_getElem hi] at h
    simp only [Option.getD_some] at h
    cases hL : L[i] with
    | none => rw [hL] at h; cases h
    | some w =>
      rw [hL] at h
      simp only [Option.map_some, Option.some.injEq, Prod.mk.injEq] at h
      obtain ⟨rfl, rfl⟩ := h
      rw [List.getElem?_eq_getElem hi, hL]
  · intro h
    have hk : k < L.length := (List.getElem?_eq_some_iff.mp h).1
    refine ⟨k, List.mem_range.mpr hk, ?_⟩
    rw [List.getD_eq_getElem?_getD, h]
    rfl
theorem lOK.has {ls : Array Slot} {nL : Nat} {L : List (Option Value)} (h : lOK ls nL L) : lv_has ls nL (asc L) := ⟨h.1, h.2.1, fun q hq => h.2.2 q.1 q.2 (asc_mem.mp hq)⟩
theorem stL_get : ∀ (L : List (Option Value)) (i : Nat) (v : Value) (k : Nat) (w : Value), (stL i v L)[k]? = some (some w) → (k = i ∧ w = v) ∨ (k ≠ i ∧ L[k]? = some (some w) ∧ ¬ (k + 1 = i ∧ w.category = 2))
  | [], i, v, k, w, h => by simp [stL] at h
  | o :: t, 0, v, k, w, h => by
    cases k with
    | zero => simp [stL] at h; exact Or.inl ⟨rfl, h.symm⟩
    | succ k => simp only [stL, List.getElem?_cons_succ] at h; exact Or.inr ⟨by omega, by simpa using h, by omega⟩
  | o :: t, i + 1, v, k, w, h => by
    cases k with
    | zero =>
      simp only [stL, List.getElem?_cons_zero, Option.some.injEq] at h
      refine Or.inr ⟨by omega, ?_, ?_⟩
      · by_cases hi : i = 0
        · rw [if_pos hi] at h
          cases o with
          | none => cases h
          | some u =>
            simp only at h
            by_cases hc : u.category = 2
            · rw [if_pos hc] at h; cases h
            · rw [if_neg hc] at h; simpa using h
        · rw [if_neg hi] at h; simpa using h
      · rintro ⟨h1, h2⟩
        have hi : i = 0 := by omega
        rw [if_pos hi] at h
        cases o with
        | none => cases h
        | some u =>
          simp only at h
          by_cases hc : u.category = 2
          · rw [if_pos hc] at h; cases h
          · rw [if_neg hc] at h
            cases h
            exact hc h2
    | succ k =>
      simp only [stL, List.getElem?_cons_succ] at h
      rcases stL_get t i v k w h with ⟨rfl, rfl⟩ | ⟨h1, h2, h3⟩
      · exact Or.inl ⟨rfl, rfl⟩
      · exact Or.inr ⟨by omega, by simpa using h2, fun ⟨a, b⟩ => h3 ⟨by omega, b⟩⟩
theorem lOK.st {ls' : Array Slot} {nL i : Nat} {v : Value} {L : List (Option Value)} (h : lv_has ls' nL ((i, v) :: (asc L).filter (fun q => !(q.1 == i) && !(q.1 + 1 == i && q.2.category == 2)))) : lOK ls' nL (stL i v L) := by
  refine ⟨h.1, h.2.1, fun k w hk => ?_⟩
  rcases stL_get L i v k w hk with ⟨rfl, rfl⟩ | ⟨h1, h2, h3⟩
  · exact h.2.2 _ List.mem_cons_self
  · refine h.2.2 (k, w) (List.mem_cons_of_mem _ (List.mem_filter.mpr ⟨asc_mem.mpr h2, ?_⟩))
    simp only [Bool.and_eq_true, Bool.not_eq_true', beq_eq_false_iff_ne, ne_eq, Bool.and_eq_false_imp, beq_iff_eq]
    exact ⟨h1, fun e => by simpa using fun z => h3 ⟨e, z⟩⟩
def noL : Nat → List (Option Value) → List (Option Value)
  | _, [] => []
  | 0, _ :: t => none :: t
  | i + 1, o :: t => o :: noL i t
theorem noL_get : ∀ (L : List (Option Value)) (i k : Nat) (w : Value), (noL i L)[k]? = some (some w) → k ≠ i ∧ L[k]? = some (some w)
  | [], i, k, w, h => by simp [noL] at h
  | o :: t, 0, k, w, h => by
    cases k with
    | zero => simp [noL] at h
    | succ k => simp only [noL, List.getElem?_cons_succ] at h; exact ⟨by omega, by simpa using h⟩
  | o :: t, i + 1, k, w, h => by
    cases k with
    | zero => simp only [noL, List.getElem?_cons_zero] at h; exact ⟨by omega, by simpa using h⟩
    | succ k =>
      simp only [noL, List.getElem?_cons_succ] at h
      obtain ⟨h1, h2⟩ := noL_get t i k w h
      exact ⟨by omega, by simpa using h2⟩
theorem lOK.st2 {ls' : Array Slot} {nL i : Nat} {v : Value} {L : List (Option Value)} (h : lv_has ls' nL ((i, v) :: (asc L).filter (fun q => !(q.1 == i) && (!(q.1 == i + 1) && !(q.1 + 1 == i && q.2.category == 2))))) : lOK ls' nL (stL i v (noL (i + 1) L)) := by
  refine ⟨h.1, h.2.1, fun k w hk => ?_⟩
  rcases stL_get (noL (i + 1) L) i v k w hk with ⟨rfl, rfl⟩ | ⟨h1, h2, h3⟩
  · exact h.2.2 _ List.mem_cons_self
  · obtain ⟨h4, h5⟩ := noL_get L (i + 1) k w h2
    refine h.2.2 (k, w) (List.mem_cons_of_mem _ (List.mem_filter.mpr ⟨asc_mem.mpr h5, ?_⟩))
    simp only [Bool.and_eq_true, Bool.not_eq_true', beq_eq_false_iff_ne, ne_eq, Bool.and_eq_false_imp, beq_iff_eq]
    exact ⟨h1, h4, fun e => by simpa using fun z => h3 ⟨e, z⟩⟩
