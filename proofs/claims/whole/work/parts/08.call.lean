/-! calls, ends, exceptions, contracts -/
def MRv (mr : MR) (n : Nat) : Prop := mCode mr ∈ TW ∧ Cond.instanceMethod mr.1 ∈ TW ∧ Cond.selects mr.1.cls mr.1 mr.1 ∈ TW ∧ Cond.initialized mr.1.cls ∈ TW ∧ (mr.1.cls ≠ "java/lang/invoke/MethodHandle" ∧ mr.1.cls ≠ "java/lang/invoke/VarHandle") ∧ (parseMethodDescriptor mr.1.desc).map (fun d => d.parameters.length) = some n ∧ plainName mr.1.cls = true
def MRs (mr : MR) (n : Nat) : Prop := mCode mr ∈ TW ∧ Cond.static mr.1 ∈ TW ∧ Cond.initialized mr.1.cls ∈ TW ∧ (mr.1.cls ≠ "java/lang/invoke/MethodHandle" ∧ mr.1.cls ≠ "java/lang/invoke/VarHandle") ∧ (parseMethodDescriptor mr.1.desc).map (fun d => d.parameters.length) = some n ∧ plainName mr.1.cls = true
def MRi (mr : MR) (n : Nat) : Prop := mCode mr ∈ TW ∧ Cond.instanceMethod mr.1 ∈ TW ∧ Cond.initialized mr.1.cls ∈ TW ∧ (mr.1.cls ≠ "java/lang/invoke/MethodHandle" ∧ mr.1.cls ≠ "java/lang/invoke/VarHandle") ∧ (parseMethodDescriptor mr.1.desc).map (fun d => d.parameters.length) = some n ∧ plainName mr.1.cls = true ∧ mr.1.name = "<init>" ∧ mr.2.2.2 = none
theorem GoodIn.cons {w : Cond} {ws : List Cond} (h : w ∈ TW) (h2 : GoodIn TW ws) : GoodIn TW (w :: ws) := fun x hx => (List.mem_cons.mp hx).elim (fun e => by rw [e]; exact TW_self w h) (h2 x)
theorem PcOf.blind (κ : K0) (as : List Value) (μ : Mem) : FrameBlind (PcOf κ as μ) := fun a U g mk q => ⟨q.1, q.2.1, Ev.same (s := U) (U := U.calling g mk a) rfl q.2.2.1, q.2.2.2⟩
theorem PcOf.go {κ : K0} {as : List Value} {μ : Mem} {s U : State} {H : Heap} {locs : List Loc} (hE : Ev κ s s.heap) (hB : κ.2.2.2 ≤ s.heap.size) (hR : Rep κ μ H) (hS : va_S (kA κ) s.heap H locs) (hU : U.heap = H) (hW : s.WarmedH U.vm) : PcOf κ as μ as.toArray U :=
  ⟨rfl, by rw [hU]; exact hR, by rw [hU]; exact Ev.go hW hS.2.1 hE, by rw [hU]; exact Nat.le_trans hB hS.1⟩
section Calls8
variable {p : Program} {e : Env} {R : Room} {s : State} {m : MethodId} {args : Array Value} {below : List Frame} {meth : Method} {c : Code} {H : Heap} {locs : List Loc} {Q : State → Prop}
variable {κ : K0} {cells slots pc : Nat} {μ μ' : Mem} {o : Oc} {mc ms : Nat} {ls : Array Slot} {st0 rest : List Value} {a : Array Value}
theorem run_go (hr : vx_Run p κ.1 e R s m args below meth c H locs cells slots mc ms (F0 m pc ls st0) rest (QcOf κ o μ' a) (XcOf κ o μ') (kA κ)) (hS : va_S (kA κ) s.heap H locs)
    (kk : ∀ (v : Option Value) (H1 : Heap) (locs1 : List Loc), o = .inl v → Rep κ μ' H1 → va_S (kA κ) s.heap H1 locs1 → W p κ.1 e R s m args below meth c H1 locs1 (cells + mc) (slots + ms) Q (F0 m (pc + 3) ls (v.toList ++ rest)))
    (kx : ∀ (E : String) (ce : Cell) (q : Addr) (H1 : Heap) (locs1 : List Loc), o = .inr E → Rep κ μ' H1 → va_S (kA κ) s.heap H1 locs1 → H1[q]? = some ce → ce.vm = .none → s.vm.findClass E = some ce.cls → vx_W p κ.1 e R s m args below meth c H1 locs1 (cells + mc) (slots + ms) Q (F0 m pc ls rest) q) :
    W p κ.1 e R s m args below meth c H locs cells slots Q (F0 m pc ls st0) := by
  intro T hT X
  rcases hr T hT X with ⟨v, st₀, t, T', Lo, h0, X', hL, e1, e2, ⟨⟨v', ho, hv, hRep⟩, hF⟩, st⟩ | ⟨q, st₀, t, T', Lo, E, ce, h0, X', hL, e1, e2, ⟨⟨ho, hRep⟩, hF⟩, hce, hcv, hcl, st⟩
  · cases hv
    obtain ⟨k1, k2, k3⟩ := vx_keep (A0 := kA κ) (A1 := kA κ) h0 e1 hS (fun _ _ h => h) (fun _ h => h) hL hF
    obtain ⟨t2, a1, b1⟩ := kk v T'.heap (locs ++ Lo) ho (by rw [e1]; exact hRep) k3 T' rfl X'
    exact ⟨t2, st t2 a1, b1⟩
  · obtain ⟨k1, k2, k3⟩ := vx_keep (A0 := kA κ) (A1 := kA κ) h0 e1 hS (fun _ _ h => h) (fun _ h => h) hL hF
    obtain ⟨t2, a1, b1⟩ := kx E ce q T'.heap (locs ++ Lo) ho (by rw [e1]; exact hRep) k3 (by rw [e1]; exact hce) hcv hcl T' rfl X'
    exact ⟨t2, st.trans a1, b1⟩
end Calls8
section Rows4
variable {κ : K0} {φ : Fr} {cells slots pc : Nat} {L : List (Option Value)} {st rest : List Value} {μ μ' : Mem} {mr : MR} {mc ms d' n idx : Nat} {as : List Value} {o : Oc}
/-- there is room for a call -/
abbrev rmOK (φ : Fr) (mr : MR) (cells slots mc ms d' : Nat) : Prop := (d' + 1 ≤ φ.2.1.frames ∧ 8 + (mr.2.2.1 + 11) + 64 * d' ≤ φ.2.1.locals) ∧ cells + mc ≤ φ.2.1.cells ∧ slots + ms ≤ φ.2.1.slots
theorem V_callV_any {b ci N : Nat} {T : u_T} {sl : Nat → Option Value} (hc : Ct κ mc ms d' mr (.ref b :: as) μ o μ') (hm : MRv mr n) (hlink : Cond.methodLink φ.1.1.cls idx mr.1 ∈ TW) (hσ : μ.1 b = some (.inr (ci, N, sl))) (hci : cls7[ci]? = some (mr.1.cls, T, N)) (hn : as.length = n) (hst : st = as.reverse ++ .ref b :: rest) (hw : (rest.map fun v => v.category).sum ≤ 8) (hR8 : rmOK φ mr cells slots mc ms d') (d : decode φ.1.2.1 pc = .ok (.invokevirtual idx, 3))
    (k : ∀ v, o = .inl v → V κ φ (cells + mc) (slots + ms) (pc + 3) L (v.toList ++ rest) μ') (kx : ∀ E, o = .inr E → VX κ φ (cells + mc) (slots + ms) pc L E μ') : V κ φ cells slots pc L st μ := by
  intro p e s m args below meth c B H locs ls hl hR hS
  obtain ⟨m1, m2, m3, m4, m5, m6, m7⟩ := hm
  obtain ⟨Ld, q, ha, g1, g2, g3, hq, -⟩ := hR.at hσ
  have hts := B.2.2.2.2.1
  refine run_go (vx_runV (y := mr.1) (bytes := mr.2.1) (maxL := mr.2.2.1) (ret := mr.2.2.2) (As := as) (rest := rest) (b := b) (C := mr.1.cls) ⟨B.1, B.2.1, B.2.2.1, B.2.2.2.1, hts⟩ hc (cwV n hts (GoodIn.cons hlink (GoodIn.cons m2 (GoodIn.cons m3 (GoodIn.cons m4 (TW_good m1))))) rfl rfl rfl ⟨rfl, m5.1, m5.2, m6⟩ ⟨hR8.1.1, hR8.1.2⟩) ⟨PcOf.blind _ _ _, va_recv B.2.2.2.2.2.2.2.1.2.1 g2 hci hq, fun U hU hW => PcOf.go B.2.2.2.2.2.2.2.1 B.2.2.2.2.2.2.2.2.1 hR hS hU hW⟩ rfl hn hl.1 hst (lv_room hw) d hR8.2) hS (fun v H1 locs1 ho hR1 hS1 => k v ho p e s m args below meth c B H1 locs1 ls hl hR1 hS1) (fun E ce q H1 locs1 ho hR1 hS1 h1 h2 h3 => kx E ho p e s m args below meth c B H1 locs1 ls ce q rest hl hR1 hS1 h1 h2 h3)
theorem V_callS_any (hc : Ct κ mc ms d' mr as μ o μ') (hm : MRs mr n) (hlink : Cond.methodLink φ.1.1.cls idx mr.1 ∈ TW) (hn : as.length = n) (hst : st = as.reverse ++ rest) (hw : (rest.map fun v => v.category).sum ≤ 8) (hR8 : rmOK φ mr cells slots mc ms d') (d : decode φ.1.2.1 pc = .ok (.invokestatic idx, 3))
    (k : ∀ v, o = .inl v → V κ φ (cells + mc) (slots + ms) (pc + 3) L (v.toList ++ rest) μ') (kx : ∀ E, o = .inr E → VX κ φ (cells + mc) (slots + ms) pc L E μ') : V κ φ cells slots pc L st μ := by
  intro p e s m args below meth c B H locs ls hl hR hS
  obtain ⟨m1, m2, m4, m5, m6, m7⟩ := hm
  have hts := B.2.2.2.2.1
  refine run_go (vx_runS (y := mr.1) (bytes := mr.2.1) (maxL := mr.2.2.1) (ret := mr.2.2.2) (As := as) (rest := rest) ⟨B.1, B.2.1, B.2.2.1, B.2.2.2.1, hts⟩ hc ⟨callB_of n hts (TW_good m1) rfl rfl rfl (hts _ m4) (hts _ hlink) ⟨m5.1, m5.2, m6⟩ ⟨hR8.1.1, hR8.1.2⟩, hts _ m2⟩ ⟨PcOf.blind _ _ _, fun U hU hW => PcOf.go B.2.2.2.2.2.2.2.1 B.2.2.2.2.2.2.2.2.1 hR hS hU hW⟩ rfl hn hl.1 hst (lv_room hw) d hR8.2) hS (fun v H1 locs1 ho hR1 hS1 => k v ho p e s m args below meth c B H1 locs1 ls hl hR1 hS1) (fun E ce q H1 locs1 ho hR1 hS1 h1 h2 h3 => kx E ho p e s m args below meth c B H1 locs1 ls ce q rest hl hR1 hS1 h1 h2 h3)
theorem V_callSN_any {host : String} (hc : Ct κ mc ms d' mr as μ o μ') (hm : MRs mr n) (hlink : Cond.methodLinkNest φ.1.1.cls idx mr.1 host ∈ nwL) (hn : as.length = n) (hst : st = as.reverse ++ rest) (hw : (rest.map fun v => v.category).sum ≤ 8) (hR8 : rmOK φ mr cells slots mc ms d') (d : decode φ.1.2.1 pc = .ok (.invokestatic idx, 3))
    (k : ∀ v, o = .inl v → V κ φ (cells + mc) (slots + ms) (pc + 3) L (v.toList ++ rest) μ') (kx : ∀ E, o = .inr E → VX κ φ (cells + mc) (slots + ms) pc L E μ') : V κ φ cells slots pc L st μ := by
  intro p e s m args below meth c B H locs ls hl hR hS
  obtain ⟨m1, m2, m4, m5, m6, m7⟩ := hm
  have hts := B.2.2.2.2.1
  refine run_go (vx_runSN (y := mr.1) (bytes := mr.2.1) (maxL := mr.2.2.1) (ret := mr.2.2.2) (As := as) (rest := rest) (host := host) ⟨B.1, B.2.1, B.2.2.1, B.2.2.2.1, hts⟩ hc ⟨va_cnB n hts (TW_good m1) rfl rfl rfl (B.2.2.2.2.2.2.2.1.2.2.1 _ hlink) (hts _ m4) ⟨m5.1, m5.2, m6⟩ ⟨hR8.1.1, hR8.1.2⟩, hts _ m2, trivial⟩ ⟨PcOf.blind _ _ _, fun U hU hW => PcOf.go B.2.2.2.2.2.2.2.1 B.2.2.2.2.2.2.2.2.1 hR hS hU hW⟩ rfl hn hl.1 hst (lv_room hw) d hR8.2) hS (fun v H1 locs1 ho hR1 hS1 => k v ho p e s m args below meth c B H1 locs1 ls hl hR1 hS1) (fun E ce q H1 locs1 ho hR1 hS1 h1 h2 h3 => kx E ho p e s m args below meth c B H1 locs1 ls ce q rest hl hR1 hS1 h1 h2 h3)
theorem V_callI {b : Nat} (hc : Ct κ mc ms d' mr (.ref b :: as) μ (.inl none) μ') (hm : MRi mr n) (hlink : Cond.methodLink φ.1.1.cls idx mr.1 ∈ TW) (hn : as.length = n) (hst : st = as.reverse ++ .ref b :: rest) (hw : (rest.map fun v => v.category).sum ≤ 8) (hR8 : rmOK φ mr cells slots mc ms d') (d : decode φ.1.2.1 pc = .ok (.invokespecial idx, 3))
    (k : V κ φ (cells + mc) (slots + ms) (pc + 3) L rest μ') : V κ φ cells slots pc L st μ := by
  intro p e s m args below meth c B H locs ls hl hR hS
  obtain ⟨m1, m2, m4, m5, m6, m7, m8, m9⟩ := hm
  have hts := B.2.2.2.2.1
  obtain ⟨y, cc, mL, rt⟩ := mr
  cases (show rt = none from m9)
  refine run_go (vx_runI (y := y) (bytes := cc) (maxL := mL) (As := as) (rest := rest) (b := b) ⟨B.1, B.2.1, B.2.2.1, B.2.2.2.1, hts⟩ hc ⟨callB_of n hts (TW_good m1) rfl rfl rfl (hts _ m4) (hts _ hlink) ⟨m5.1, m5.2, m6⟩ ⟨hR8.1.1, hR8.1.2⟩, m8, hts _ m2⟩ ⟨PcOf.blind _ _ _, fun U hU hW => PcOf.go B.2.2.2.2.2.2.2.1 B.2.2.2.2.2.2.2.2.1 hR hS hU hW⟩ rfl hn hl.1 hst (lv_room hw) d hR8.2) hS (fun v H1 locs1 ho hR1 hS1 => by cases ho; exact k p e s m args below meth c B H1 locs1 ls hl hR1 hS1) (fun E ce q H1 locs1 ho hR1 hS1 h1 h2 h3 => by cases ho)
theorem V_callIN {b : Nat} {host : String} (hc : Ct κ mc ms d' mr (.ref b :: as) μ (.inl none) μ') (hm : MRi mr n) (hlink : Cond.methodLinkNest φ.1.1.cls idx mr.1 host ∈ nwL) (hn : as.length = n) (hst : st = as.reverse ++ .ref b :: rest) (hw : (rest.map fun v => v.category).sum ≤ 8) (hR8 : rmOK φ mr cells slots mc ms d') (d : decode φ.1.2.1 pc = .ok (.invokespecial idx, 3))
    (k : V κ φ (cells + mc) (slots + ms) (pc + 3) L rest μ') : V κ φ cells slots pc L st μ := by
  intro p e s m args below meth c B H locs ls hl hR hS
  obtain ⟨m1, m2, m4, m5, m6, m7, m8, m9⟩ := hm
  have hts := B.2.2.2.2.1
  obtain ⟨y, cc, mL, rt⟩ := mr
  cases (show rt = none from m9)
  refine run_go (vx_runIN (y := y) (bytes := cc) (maxL := mL) (As := as) (rest := rest) (b := b) (host := host) ⟨B.1, B.2.1, B.2.2.1, B.2.2.2.1, hts⟩ hc ⟨va_cnB n hts (TW_good m1) rfl rfl rfl (B.2.2.2.2.2.2.2.1.2.2.1 _ hlink) (hts _ m4) ⟨m5.1, m5.2, m6⟩ ⟨hR8.1.1, hR8.1.2⟩, m8, hts _ m2⟩ ⟨PcOf.blind _ _ _, fun U hU hW => PcOf.go B.2.2.2.2.2.2.2.1 B.2.2.2.2.2.2.2.2.1 hR hS hU hW⟩ rfl hn hl.1 hst (lv_room hw) d hR8.2) hS (fun v H1 locs1 ho hR1 hS1 => by cases ho; exact k p e s m args below meth c B H1 locs1 ls hl hR1 hS1) (fun E ce q H1 locs1 ho hR1 hS1 h1 h2 h3 => by cases ho)
theorem V_objInit {b : Nat} (hlink : Cond.methodLink φ.1.1.cls idx Lib.objectInit ∈ TW) (h2 : Cond.instanceMethod Lib.objectInit ∈ TW) (h3 : Cond.code Lib.objectInit ⟨#[0xb1]⟩ 1 none ∈ TW) (hw : (st.map fun v => v.category).sum ≤ 8) (hf : 1 ≤ φ.2.1.frames ∧ 20 ≤ φ.2.1.locals) (d : decode φ.1.2.1 pc = .ok (.invokespecial idx, 3)) (k : V κ φ cells slots (pc + 3) L st μ) : V κ φ cells slots pc L (.ref b :: st) μ := by
  intro p e s m args below meth c B H locs ls hl hR hS
  have hts := B.2.2.2.2.1
  have h8 := lv_room (m := m) (pc := pc) (ls := ls) (rest := .ref b :: st) hw
  exact W.objInit B.1 B.2.1 B.2.2.2.1 (hts _ hlink) (hts _ h2) (hts _ h3) rfl (hl.1.trans B.2.2.1.symm) rfl d hf.1 (by have := hf.2; omega) (k p e s m args below meth c B H locs ls hl hR hS)
/-- calls whose callee returns -/
theorem V_callV {b ci N : Nat} {T : u_T} {sl : Nat → Option Value} {v : Option Value} (hc : Ct κ mc ms d' mr (.ref b :: as) μ (.inl v) μ') (hm : MRv mr n) (hlink : Cond.methodLink φ.1.1.cls idx mr.1 ∈ TW) (hσ : μ.1 b = some (.inr (ci, N, sl))) (hci : cls7[ci]? = some (mr.1.cls, T, N)) (hn : as.length = n) (hst : st = as.reverse ++ .ref b :: rest) (hw : (rest.map fun v => v.category).sum ≤ 8) (hR8 : rmOK φ mr cells slots mc ms d') (d : decode φ.1.2.1 pc = .ok (.invokevirtual idx, 3))
    (k : V κ φ (cells + mc) (slots + ms) (pc + 3) L (v.toList ++ rest) μ') : V κ φ cells slots pc L st μ :=
  V_callV_any hc hm hlink hσ hci hn hst hw hR8 d (fun v ho => by cases ho; exact k) (fun E ho => by cases ho)
theorem V_callVX {b ci N : Nat} {T : u_T} {sl : Nat → Option Value} {E : String} (hc : Ct κ mc ms d' mr (.ref b :: as) μ (.inr E) μ') (hm : MRv mr n) (hlink : Cond.methodLink φ.1.1.cls idx mr.1 ∈ TW) (hσ : μ.1 b = some (.inr (ci, N, sl))) (hci : cls7[ci]? = some (mr.1.cls, T, N)) (hn : as.length = n) (hst : st = as.reverse ++ .ref b :: rest) (hw : (rest.map fun v => v.category).sum ≤ 8) (hR8 : rmOK φ mr cells slots mc ms d') (d : decode φ.1.2.1 pc = .ok (.invokevirtual idx, 3))
    (k : VX κ φ (cells + mc) (slots + ms) pc L E μ') : V κ φ cells slots pc L st μ :=
  V_callV_any hc hm hlink hσ hci hn hst hw hR8 d (fun v ho => by cases ho) (fun E ho => by cases ho; exact k)
theorem V_callS {v : Option Value} (hc : Ct κ mc ms d' mr as μ (.inl v) μ') (hm : MRs mr n) (hlink : Cond.methodLink φ.1.1.cls idx mr.1 ∈ TW) (hn : as.length = n) (hst : st = as.reverse ++ rest) (hw : (rest.map fun v => v.category).sum ≤ 8) (hR8 : rmOK φ mr cells slots mc ms d') (d : decode φ.1.2.1 pc = .ok (.invokestatic idx, 3))
    (k : V κ φ (cells + mc) (slots + ms) (pc + 3) L (v.toList ++ rest) μ') : V κ φ cells slots pc L st μ :=
  V_callS_any hc hm hlink hn hst hw hR8 d (fun v ho => by cases ho; exact k) (fun E ho => by cases ho)
theorem V_callSN {host : String} {v : Option Value} (hc : Ct κ mc ms d' mr as μ (.inl v) μ') (hm : MRs mr n) (hlink : Cond.methodLinkNest φ.1.1.cls idx mr.1 host ∈ nwL) (hn : as.length = n) (hst : st = as.reverse ++ rest) (hw : (rest.map fun v => v.category).sum ≤ 8) (hR8 : rmOK φ mr cells slots mc ms d') (d : decode φ.1.2.1 pc = .ok (.invokestatic idx, 3))
    (k : V κ φ (cells + mc) (slots + ms) (pc + 3) L (v.toList ++ rest) μ') : V κ φ cells slots pc L st μ :=
  V_callSN_any hc hm hlink hn hst hw hR8 d (fun v ho => by cases ho; exact k) (fun E ho => by cases ho)
end Rows4
section Ends8
variable {κ : K0} {cells slots pc : Nat} {L : List (Option Value)} {st rest : List Value} {μ μ' : Mem} {mr : MR} {mc ms dd : Nat} {as : List Value} {o : Oc} {hh : List (Nat × Nat × Nat × Nat)}
theorem QcOf.end {s t : State} {H : Heap} {locs : List Loc} {v : Option Value} (ho : o = .inl v) (hR : Rep κ μ H) (hm : μ' = μ) (hS : va_S (kA κ) s.heap H locs) (ht : t.heap = H) (a : Array Value) : QcOf κ o μ' a s (.returned v) t :=
  ⟨⟨v, ho, rfl, by rw [ht, hm]; exact hR⟩, hS.F ht⟩
theorem V_iret {x : Int32} (hr : mr.2.2.2 = some .int) (ho : o = .inl (some (.int x))) (hm : μ' = μ) (hc : cells ≤ mc ∧ slots ≤ ms) (d : decode mr.2.1 pc = .ok (.ireturn, 1)) : V κ (phiH κ mr dd mc ms o μ' hh) cells slots pc L [.int x] μ := by
  intro p e s m args below meth c B H locs ls hl hR hS
  exact vx_ret (W.widen hc.1 hc.2 (W.iret B.1 B.2.1 (B.2.2.2.2.2.1.trans hr) (fun t ht hW => QcOf.end ho hR hm hS ht args) hS.2.2 d B.2.2.2.2.2.2.1))
theorem V_zret {x : Int32} {ty : FieldType} (hr : mr.2.2.2 = some ty) (hn : narrow ty (.int x) = .int x) (ho : o = .inl (some (.int x))) (hm : μ' = μ) (hc : cells ≤ mc ∧ slots ≤ ms) (d : decode mr.2.1 pc = .ok (.ireturn, 1)) : V κ (phiH κ mr dd mc ms o μ' hh) cells slots pc L [.int x] μ := by
  intro p e s m args below meth c B H locs ls hl hR hS
  exact vx_ret (W.widen hc.1 hc.2 (W.zret B.1 B.2.1 (B.2.2.2.2.2.1.trans hr) hn (fun t ht hW => QcOf.end ho hR hm hS ht args) hS.2.2 d B.2.2.2.2.2.2.1))
theorem V_vret (hr : mr.2.2.2 = none) (ho : o = .inl none) (hm : μ' = μ) (hc : cells ≤ mc ∧ slots ≤ ms) (d : decode mr.2.1 pc = .ok (.return_, 1)) : V κ (phiH κ mr dd mc ms o μ' hh) cells slots pc L [] μ := by
  intro p e s m args below meth c B H locs ls hl hR hS
  exact vx_ret (W.widen hc.1 hc.2 (W.vret B.1 B.2.1 (B.2.2.2.2.2.1.trans hr) (fun t ht hW => QcOf.end ho hR hm hS ht args) hS.2.2 d B.2.2.2.2.2.2.1))
theorem V_lret {x : Int64} (hr : mr.2.2.2 = some .long) (ho : o = .inl (some (.long x))) (hm : μ' = μ) (hc : cells ≤ mc ∧ slots ≤ ms) (d : decode mr.2.1 pc = .ok (.lreturn, 1)) : V κ (phiH κ mr dd mc ms o μ' hh) cells slots pc L [.long x] μ := by
  intro p e s m args below meth c B H locs ls hl hR hS
  exact vx_ret (W.widen hc.1 hc.2 (W.lret B.1 B.2.1 (B.2.2.2.2.2.1.trans hr) (fun t ht hW => QcOf.end ho hR hm hS ht args) hS.2.2 d B.2.2.2.2.2.2.1))
theorem V_dret {x : UInt64} (hr : mr.2.2.2 = some .double) (ho : o = .inl (some (.double x))) (hm : μ' = μ) (hc : cells ≤ mc ∧ slots ≤ ms) (d : decode mr.2.1 pc = .ok (.dreturn, 1)) : V κ (phiH κ mr dd mc ms o μ' hh) cells slots pc L [.double x] μ := by
  intro p e s m args below meth c B H locs ls hl hR hS
  exact vx_ret (W.widen hc.1 hc.2 (W.dret B.1 B.2.1 (B.2.2.2.2.2.1.trans hr) (fun t ht hW => QcOf.end ho hR hm hS ht args) hS.2.2 d B.2.2.2.2.2.2.1))
/-- an exception leaves a method without handlers -/
theorem VX_out {E : String} (ho : o = .inr E) (hm : μ' = μ) (hc : cells ≤ mc ∧ slots ≤ ms) : VX κ (phi κ mr dd mc ms o μ') cells slots pc L E μ := by
  intro p e s m args below meth c B H locs ls ce q rest hl hR hS h1 h2 h3
  refine vx_out (fun x hx => ?_) B.2.2.2.2.2.2.1 h1 h2 h3 (fun t ht hA => ⟨⟨ho, by rw [ht, hm]; exact hR⟩, hS.F ht⟩) hS.2.2 hc.1 hc.2
  rw [B.2.2.2.2.2.2.2.2.2.1] at hx
  cases hx
/-- the contract out of a walk -/
theorem lv_args_mem : ∀ (as : List Value) (i : Nat), (∀ v ∈ as, v.category = 1) → ∀ (k : Nat) (v : Value), as[k]? = some v → (i + k, v) ∈ lv_args i as
  | [], i, h, k, v, hk => by simp at hk
  | a :: t, i, h, 0, v, hk => by
    simp only [List.getElem?_cons_zero, Option.some.injEq] at hk
    subst hk
    simp [lv_args]
  | a :: t, i, h, k + 1, v, hk => by
    simp only [List.getElem?_cons_succ] at hk
    have h1 := lv_args_mem t (i + 1) (fun v hv => h v (List.mem_cons_of_mem _ hv)) k v hk
    have h2 := h a List.mem_cons_self
    simp only [lv_args, h2, List.mem_cons]
    refine Or.inr ?_
    rw [show i + (k + 1) = i + 1 + k by omega]
    exact h1
theorem lg_sl_len : ∀ (as : List Value), (∀ v ∈ as, v.category = 1) → (lg_sl as).length = as.length
  | [], _ => rfl
  | a :: t, h => by
    have h1 := lg_sl_len t (fun v hv => h v (List.mem_cons_of_mem _ hv))
    have h2 := h a List.mem_cons_self
    cases a <;> simp_all [lg_sl, Value.category]
abbrev entL (as : List Value) (n : Nat) : List (Option Value) := as.map some ++ List.replicate (n - as.length) none
theorem lOK.entry {as : List Value} {n : Nat} (h : ∀ v ∈ as, v.category = 1) (hn : as.length ≤ n) : lOK ((lg_sl as ++ List.replicate (n - (lg_sl as).length) Slot.unset).toArray) n (entL as n) := by
  have h0 := lv_entry as (n := n) (by rw [lg_sl_len as h]; exact hn)
  refine ⟨h0.1, h0.2.1, fun k v hk => ?_⟩
  have hk2 : as[k]? = some v := by
    by_cases hl : k < as.length
    · rw [List.getElem?_append_left (by simpa using hl), List.getElem?_map] at hk
      cases ha : as[k]? with
      | none => rw [ha] at hk; cases hk
      | some w => rw [ha] at hk; simpa using hk
    · rw [List.getElem?_append_right (by simpa using hl), List.getElem?_replicate] at hk
      split at hk <;> cases hk
  have := lv_args_mem as 0 h k v hk2
  rw [Nat.zero_add] at this
  exact h0.2.2 _ this
theorem Ct.of (hy : plainName mr.1.cls = true) (hcat : ∀ v ∈ as, v.category = 1) (hlen : as.length ≤ mr.2.2.1) (k : V κ (phi κ mr dd mc ms o μ') 0 0 0 (entL as mr.2.2.1) [] μ) : Ct κ mc ms dd mr as μ o μ' := by
  refine vx_ofW (cc := mr.2.1) (maxL := mr.2.2.1) (ret := mr.2.2.2) hy rfl ?_
  intro p e s m args below meth c s₁ B hml hto hv
  obtain ⟨rfl, hR, hE, hB⟩ := hv
  have hts := atoms_spec (ws := mCode mr :: TW) B.pre
  rw [lg_entry_eq]
  exact k p e s m _ below meth c ⟨B.exec, B.bytes, hml, findClass_of_methodNamed B.named, fun w hw => hts w (List.mem_cons_of_mem _ hw), B.returns, B.notSynchronized, hE, hB, by
      cases hx : c.exceptionTable.toList with
      | nil => rfl
      | cons a t => exact (hto a (by rw [hx]; exact List.mem_cons_self)).elim, (name_of_methodNamed B.named B.method).1, trivial⟩ s.heap [] _ (lOK.entry hcat hlen) hR va_S.rf
end Ends8
