/-! throws, catches, copies, least and greatest -/
abbrev nmsE : List String := ["java/lang/RuntimeException", "java/lang/Exception"]
section Rows5
variable {κ : K0} {φ : Fr} {cells slots pc : Nat} {L : List (Option Value)} {st rest : List Value} {μ μ' : Mem} {mr : MR} {mc ms dd n idx : Nat} {as : List Value} {o : Oc} {hh : List (Nat × Nat × Nat × Nat)}
def thrOK (ik ic : Nat) (E : String) : Prop := Bundle.fit E = true ∧ Cond.classLink RX5 ik E ∈ TW ∧ Cond.initialized E ∈ TW ∧ (∀ w ∈ vx_atS RX5 ic E nmsE, w ∈ TW ∨ w ∈ nwL) ∧ ∀ w ∈ vx_atS RX5 ic E nmsE, vx_ot w = true
theorem V_throwS {E text : String} {ik is ic : Nat} (hT : thrOK ik ic E) (hown : mr.1.cls = RX5) (hstr : (is, text) ∈ strL) (hz : μ.2.2.2 = none) (ho : o = .inr E) (hm : μ' = μ) (hc : cells + 1 ≤ mc ∧ slots + 6 ≤ ms) (hr : 5 < dd) (hw : (st.map fun v => v.category).sum ≤ 8)
    (d0 : decode mr.2.1 pc = .ok (.new ik, 3)) (d3 : decode mr.2.1 (pc + 3) = .ok (.dup, 1)) (d4 : decode mr.2.1 (pc + 4) = .ok (.ldc is, 2)) (d6 : decode mr.2.1 (pc + 6) = .ok (.invokespecial ic, 3)) (d9 : decode mr.2.1 (pc + 9) = .ok (.athrow, 1)) : V κ (phi κ mr dd mc ms o μ') cells slots pc L st μ := by
  intro p e s m args below meth c B H locs ls hl hR hS
  obtain ⟨t1, t2, t3, t4, t5⟩ := hT
  have hts := B.2.2.2.2.1
  have hE := B.2.2.2.2.2.2.2.1
  obtain ⟨sa, hsa⟩ := hE.2.2.2.1 _ hstr
  refine vx_throwS (A := kA κ) (names := nmsE) (own := RX5) (text := text) (sa := sa) B.1 B.2.1 hE.1 (by rw [← hown]; exact B.2.2.2.1) t1 (by decide +kernel) (hts _ t2) (hts _ t3) hsa (fun w hw => (t4 w hw).elim (fun h => hts w h) (fun h => va_Nw.use (nw_tab (nwL_form w h)) (hE.2.2.1 w h))) (fun w hw => ?_) hE.2.2.2.2.2.2.2.1 hE.2.2.2.2.2.2.2.2 hS (hl.1.trans B.2.2.1.symm) d0 d3 d4 d6 d9 (fun x hx => ?_) (by show 2 + 3 < dd; omega) (by show _ + (13 * (2 + 1) + 43) ≤ 64 * dd; omega) (by show cells + 1 ≤ mc; exact hc.1) (by show slots + 6 ≤ ms; exact hc.2) B.2.2.2.2.2.2.1 (fun t hA h1 h2 => ⟨⟨ho, by rw [hm]; exact hR.grow hz h2⟩, ⟨Nat.le_trans hS.1 h1, fun q g1 g2 => (h2 q (Nat.lt_of_lt_of_le g1 hS.1)).trans (hS.2.1 q g1 g2)⟩⟩) hS.2.2 hc.1 hc.2
  · rcases List.mem_cons.mp hw with h | h
    · rw [h]; rfl
    · rcases List.mem_cons.mp h with h | h
      · rw [h]; rfl
      · exact t5 w h
  · rw [B.2.2.2.2.2.2.2.2.2.1] at hx
    cases hx
theorem V_throwSW {E text : String} {ik is ic : Nat} (hT : thrOK ik ic E) (hown : mr.1.cls = RX5) (hstr : (is, text) ∈ strL) (hz : μ.2.2.2 = none) (ho : o = .inr E) (hm : μ' = μ) (hc : cells + 1 ≤ mc ∧ slots + 6 ≤ ms) (hr : 5 < dd) (hw : (st.map fun v => v.category).sum ≤ 8)
    (d0 : decode mr.2.1 pc = .ok (.new ik, 3)) (d3 : decode mr.2.1 (pc + 3) = .ok (.dup, 1)) (d4 : decode mr.2.1 (pc + 4) = .ok (.ldc_w is, 3)) (d7 : decode mr.2.1 (pc + 7) = .ok (.invokespecial ic, 3)) (d10 : decode mr.2.1 (pc + 10) = .ok (.athrow, 1)) : V κ (phi κ mr dd mc ms o μ') cells slots pc L st μ := by
  intro p e s m args below meth c B H locs ls hl hR hS
  obtain ⟨t1, t2, t3, t4, t5⟩ := hT
  have hts := B.2.2.2.2.1
  have hE := B.2.2.2.2.2.2.2.1
  obtain ⟨sa, hsa⟩ := hE.2.2.2.1 _ hstr
  refine vx_throwSW (A := kA κ) (names := nmsE) (own := RX5) (text := text) (sa := sa) B.1 B.2.1 hE.1 (by rw [← hown]; exact B.2.2.2.1) t1 (by decide +kernel) (hts _ t2) (hts _ t3) hsa (fun w hw => (t4 w hw).elim (fun h => hts w h) (fun h => va_Nw.use (nw_tab (nwL_form w h)) (hE.2.2.1 w h))) (fun w hw => ?_) hE.2.2.2.2.2.2.2.1 hE.2.2.2.2.2.2.2.2 hS (hl.1.trans B.2.2.1.symm) d0 d3 d4 d7 d10 (fun x hx => ?_) (by show 2 + 3 < dd; omega) (by show _ + (13 * (2 + 1) + 43) ≤ 64 * dd; omega) (by show cells + 1 ≤ mc; exact hc.1) (by show slots + 6 ≤ ms; exact hc.2) B.2.2.2.2.2.2.1 (fun t hA h1 h2 => ⟨⟨ho, by rw [hm]; exact hR.grow hz h2⟩, ⟨Nat.le_trans hS.1 h1, fun q g1 g2 => (h2 q (Nat.lt_of_lt_of_le g1 hS.1)).trans (hS.2.1 q g1 g2)⟩⟩) hS.2.2 hc.1 hc.2
  · rcases List.mem_cons.mp hw with h | h
    · rw [h]; rfl
    · rcases List.mem_cons.mp h with h | h
      · rw [h]; rfl
      · exact t5 w h
  · rw [B.2.2.2.2.2.2.2.2.2.1] at hx
    cases hx
abbrev hEnt (q : Nat × Nat × Nat × Nat) : ExceptionTableEntry := ⟨q.1, q.2.1, q.2.2.1, q.2.2.2⟩
theorem VX_catch {E name : String} (pre : List (Nat × Nat × Nat × Nat)) (x : Nat × Nat × Nat × Nat) (suf : List (Nat × Nat × Nat × Nat)) (hsp : φ.2.2.2.2 = pre ++ x :: suf) (hpass : ∀ z ∈ pre, z.2.2.2 ≠ 0 ∧ ∃ nm : String, Cond.classLink φ.1.1.cls z.2.2.2 nm ∈ TW ∧ (E, nm) ∈ ncL) (hx : covers (hEnt x) pc = true) (h0 : x.2.2.2 ≠ 0) (hlink : Cond.classLink φ.1.1.cls x.2.2.2 name ∈ TW) (hcast : Cond.castable E name ∈ nwL) (k : ∀ q, V κ φ cells slots x.2.2.1 L [.ref q] μ) : VX κ φ cells slots pc L E μ := by
  intro p e s m args below meth c B H locs ls ce q rest hl hR hS h1 h2 h3
  have hts := B.2.2.2.2.1
  refine vx_catch B.2.2.2.1 (pre.map hEnt) (hEnt x) (suf.map hEnt) (by rw [B.2.2.2.2.2.2.2.2.2.1, hsp]; simp [tableOf]) (fun z hz => ?_) hx h0 (hts _ hlink) (va_Nw.use (nw_tab (nwL_form _ hcast)) (B.2.2.2.2.2.2.2.1.2.2.1 _ hcast)) h1 h2 h3 (k q p e s m args below meth c B H locs ls hl hR hS)
  obtain ⟨z0, hz0, rfl⟩ := List.mem_map.mp hz
  obtain ⟨g1, nm, g2, g3⟩ := hpass z0 hz0
  exact Or.inr ⟨g1, nm, hts _ g2, B.2.2.2.2.2.2.2.1.2.2.2.2.1 _ g3⟩
def mCodeH (mr : MR) (hh : List (Nat × Nat × Nat × Nat)) : Cond := .codeWith mr.1 mr.2.1 mr.2.2.1 mr.2.2.2 hh
/-- a contract of a method with handlers -/
def CtH (κ : K0) (mc ms d : Nat) (mr : MR) (hh : List (Nat × Nat × Nat × Nat)) (as : List Value) (μ : Mem) (o : Oc) (μ' : Mem) : Prop :=
  vx_Met κ.1 mr.1 (mCodeH mr hh :: TW) (rmOf d mc ms) (PcOf κ as μ) (QcOf κ o μ') (XcOf κ o μ') mc ms (kA κ)
theorem CtH.of (hy : plainName mr.1.cls = true) (hcat : ∀ v ∈ as, v.category = 1) (hlen : as.length ≤ mr.2.2.1) (k : V κ (phiH κ mr dd mc ms o μ' hh) 0 0 0 (entL as mr.2.2.1) [] μ) : CtH κ mc ms dd mr hh as μ o μ' := by
  refine vx_ofWH (cc := mr.2.1) (maxL := mr.2.2.1) (ret := mr.2.2.2) (hh := hh) hy rfl ?_
  intro p e s m args below meth c s₁ B hml hv
  obtain ⟨rfl, hR, hE, hB⟩ := hv
  have hts := atoms_spec (ws := mCodeH mr hh :: TW) B.pre
  rw [lg_entry_eq]
  exact k p e s m _ below meth c ⟨B.exec, B.bytes, hml, findClass_of_methodNamed B.named, fun w hw => hts w (List.mem_cons_of_mem _ hw), B.returns, B.notSynchronized, hE, hB, vx_table (x := mr.1) B (hts (mCodeH mr hh) List.mem_cons_self), (name_of_methodNamed B.named B.method).1, trivial⟩ s.heap [] _ (lOK.entry hcat hlen) hR va_S.rf
def MRh (mr : MR) (hh : List (Nat × Nat × Nat × Nat)) (n : Nat) : Prop := mCodeH mr hh ∈ TW ∧ Cond.static mr.1 ∈ TW ∧ Cond.initialized mr.1.cls ∈ TW ∧ (mr.1.cls ≠ "java/lang/invoke/MethodHandle" ∧ mr.1.cls ≠ "java/lang/invoke/VarHandle") ∧ (parseMethodDescriptor mr.1.desc).map (fun d => d.parameters.length) = some n ∧ plainName mr.1.cls = true
theorem V_callH {d' : Nat} {v : Option Value} (hc : CtH κ mc ms d' mr hh as μ (.inl v) μ') (hm : MRh mr hh n) (hlink : Cond.methodLink φ.1.1.cls idx mr.1 ∈ TW) (hn : as.length = n) (hst : st = as.reverse ++ rest) (hw : (rest.map fun v => v.category).sum ≤ 8) (hR8 : rmOK φ mr cells slots mc ms d') (d : decode φ.1.2.1 pc = .ok (.invokestatic idx, 3))
    (k : V κ φ (cells + mc) (slots + ms) (pc + 3) L (v.toList ++ rest) μ') : V κ φ cells slots pc L st μ := by
  intro p e s m args below meth c B H locs ls hl hR hS
  obtain ⟨m1, m2, m4, m5, m6, m7⟩ := hm
  have hts := B.2.2.2.2.1
  refine run_go (vx_runSX (y := mr.1) (bytes := mr.2.1) (maxL := mr.2.2.1) (ret := mr.2.2.2) (hh := hh) (As := as) (rest := rest) ⟨B.1, B.2.1, B.2.2.1, B.2.2.2.1, hts⟩ hc (vx_cwSW n hts (GoodIn.cons hlink (GoodIn.cons m2 (GoodIn.cons m4 (TW_good m1)))) rfl rfl rfl ⟨m5.1, m5.2, m6⟩ ⟨hR8.1.1, hR8.1.2⟩) ⟨PcOf.blind _ _ _, fun U hU hW => PcOf.go B.2.2.2.2.2.2.2.1 B.2.2.2.2.2.2.2.2.1 hR hS hU hW⟩ rfl hn hl.1 hst (lv_room hw) d hR8.2) hS (fun v H1 locs1 ho hR1 hS1 => by cases ho; exact k p e s m args below meth c B H1 locs1 ls hl hR1 hS1) (fun E ce q H1 locs1 ho hR1 hS1 h1 h2 h3 => by cases ho)
/-! System.arraycopy -/
def cpyW (own : String) (idx : Nat) : Prop := Cond.methodLink own idx arraycopyName ∈ TW ∧ Cond.native arraycopyName ∈ TW ∧ Cond.static arraycopyName ∈ TW ∧ Cond.initialized "java/lang/System" ∈ TW
theorem V_copyI {a0 a n0 n1 : Nat} {r0 r1 : Nat → Option Nat} {sp dp nn : Int32} (hw : cpyW φ.1.1.cls idx) (hz : μ.2.2.2 = none) (h0 : μ.1 a0 = some (.inl (.int, n0, r0))) (h1 : μ.1 a = some (.inl (.int, n1, r1))) (g1 : ¬ sp < 0) (g2 : ¬ dp < 0) (g3 : ¬ nn < 0) (g4 : sp.toNatClampNeg + nn.toNatClampNeg ≤ n0) (g5 : dp.toNatClampNeg + nn.toNatClampNeg ≤ n1)
    (hf : 1 ≤ φ.2.1.frames) (hlo : (st.map fun v => v.category).sum + (nativeFrameWords "java/lang/System" "arraycopy" 5 + 11) ≤ φ.2.1.locals) (d : decode φ.1.2.1 pc = .ok (.invokestatic idx, 3))
    (k : V κ φ cells slots (pc + 3) L st (μ.1, va_up μ.2.1 a (va_cpy (μ.2.1 a0) (μ.2.1 a) sp.toNatClampNeg dp.toNatClampNeg nn.toNatClampNeg), μ.2.2)) : V κ φ cells slots pc L (.int nn :: .int dp :: .ref a :: .int sp :: .ref a0 :: st) μ := by
  intro p e s m args below meth c B H locs ls hl hR hS
  have hts := B.2.2.2.2.1
  obtain ⟨w1, w2, w3, w4⟩ := hw
  obtain ⟨Ld, h1L, hP, hD, h4⟩ := hR
  have m0 : a0 ∈ Ld := (h1L a0).mpr (by rw [h0]; rfl)
  have m1 : a ∈ Ld := (h1L a).mpr (by rw [h1]; rfl)
  obtain ⟨q0, hq0⟩ := va_pl_get (X := []) (f := cellM κ μ) m0
  obtain ⟨q1, hq1⟩ := va_pl_get (X := []) (f := cellM κ μ) m1
  have e0 : cellM κ μ a0 = .inl (κ.2.2.1 .int, n0, .inl (μ.2.1 a0)) := by unfold cellM; rw [h0]; rfl
  have e1 : cellM κ μ a = .inl (κ.2.2.1 .int, n1, .inl (μ.2.1 a)) := by unfold cellM; rw [h1]; rfl
  rw [e0, List.nil_append] at hq0
  rw [e1, List.nil_append] at hq1
  refine va_copyi B.1 B.2.1 (B.2.2.1.trans hl.1.symm) B.2.2.2.1 (hts _ w1) (hts _ w2) (hts _ w3) (hts _ w4) B.2.2.2.2.2.2.2.1.2.1 hP hD hS q0 q1 0 0 hq0 hq1 rfl rfl rfl g1 g2 g3 g4 g5 (fun i _ => rfl) hf hlo d (fun H1 locs1 hP1 hD1 hS1 => k p e s m args below meth c B H1 locs1 ls hl ?_ hS1)
  refine Rep.put (μ := μ) m1 hD hq1 e1 h1L (e1 := .inl (κ.2.2.1 .int, n1, .inl (va_cpy (μ.2.1 a0) (μ.2.1 a) sp.toNatClampNeg dp.toNatClampNeg nn.toNatClampNeg))) ?_ (fun b hb => cellM_off rfl (va_up_ne _ _ hb) rfl) (fun n hn => by rw [show μ.2.2.2 = none from hz] at hn; cases hn) hP1 hD1
  unfold cellM
  show (match μ.1 a with | some k => _ | none => _) = _
  rw [h1]
  simp only [va_up_self, cellK]
theorem V_copyL {a0 a n0 n1 : Nat} {r0 r1 : Nat → Option Nat} {sp dp nn : Int32} (hw : cpyW φ.1.1.cls idx) (hz : μ.2.2.2 = none) (h0 : μ.1 a0 = some (.inl (.long, n0, r0))) (h1 : μ.1 a = some (.inl (.long, n1, r1))) (g1 : ¬ sp < 0) (g2 : ¬ dp < 0) (g3 : ¬ nn < 0) (g4 : sp.toNatClampNeg + nn.toNatClampNeg ≤ n0) (g5 : dp.toNatClampNeg + nn.toNatClampNeg ≤ n1)
    (hf : 1 ≤ φ.2.1.frames) (hlo : (st.map fun v => v.category).sum + (nativeFrameWords "java/lang/System" "arraycopy" 5 + 11) ≤ φ.2.1.locals) (d : decode φ.1.2.1 pc = .ok (.invokestatic idx, 3))
    (k : V κ φ cells slots (pc + 3) L st (μ.1, μ.2.1, va_up μ.2.2.1 a (va_cpy (μ.2.2.1 a0) (μ.2.2.1 a) sp.toNatClampNeg dp.toNatClampNeg nn.toNatClampNeg), μ.2.2.2)) : V κ φ cells slots pc L (.int nn :: .int dp :: .ref a :: .int sp :: .ref a0 :: st) μ := by
  intro p e s m args below meth c B H locs ls hl hR hS
  have hts := B.2.2.2.2.1
  obtain ⟨w1, w2, w3, w4⟩ := hw
  obtain ⟨Ld, h1L, hP, hD, h4⟩ := hR
  have m0 : a0 ∈ Ld := (h1L a0).mpr (by rw [h0]; rfl)
  have m1 : a ∈ Ld := (h1L a).mpr (by rw [h1]; rfl)
  obtain ⟨q0, hq0⟩ := va_pl_get (X := []) (f := cellM κ μ) m0
  obtain ⟨q1, hq1⟩ := va_pl_get (X := []) (f := cellM κ μ) m1
  have e0 : cellM κ μ a0 = .inl (κ.2.2.1 .long, n0, .inr (.inl (μ.2.2.1 a0))) := by unfold cellM; rw [h0]; rfl
  have e1 : cellM κ μ a = .inl (κ.2.2.1 .long, n1, .inr (.inl (μ.2.2.1 a))) := by unfold cellM; rw [h1]; rfl
  rw [e0, List.nil_append] at hq0
  rw [e1, List.nil_append] at hq1
  refine va_copyl B.1 B.2.1 (B.2.2.1.trans hl.1.symm) B.2.2.2.1 (hts _ w1) (hts _ w2) (hts _ w3) (hts _ w4) B.2.2.2.2.2.2.2.1.2.1 hP hD hS q0 q1 2 2 hq0 hq1 rfl rfl rfl g1 g2 g3 g4 g5 (fun i _ => rfl) hf hlo d (fun H1 locs1 hP1 hD1 hS1 => k p e s m args below meth c B H1 locs1 ls hl ?_ hS1)
  refine Rep.put (μ := μ) m1 hD hq1 e1 h1L (e1 := .inl (κ.2.2.1 .long, n1, .inr (.inl (va_cpy (μ.2.2.1 a0) (μ.2.2.1 a) sp.toNatClampNeg dp.toNatClampNeg nn.toNatClampNeg)))) ?_ (fun b hb => cellM_off rfl rfl (va_up_ne _ _ hb)) (fun n hn => by rw [show μ.2.2.2 = none from hz] at hn; cases hn) hP1 hD1
  unfold cellM
  show (match μ.1 a with | some k => _ | none => _) = _
  rw [h1]
  simp only [va_up_self, cellK]
def minW (own : String) (idx : Nat) : Prop := Cond.methodLink own idx Lib.Math.min.name ∈ TW ∧ Cond.static Lib.Math.min.name ∈ TW ∧ Cond.initialized "java/lang/Math" ∈ TW ∧ Cond.code Lib.Math.min.name Lib.Math.min.code 2 (some .int) ∈ TW
def maxW (own : String) (idx : Nat) : Prop := Cond.methodLink own idx Lib.Math.max.name ∈ TW ∧ Cond.static Lib.Math.max.name ∈ TW ∧ Cond.initialized "java/lang/Math" ∈ TW ∧ Cond.code Lib.Math.max.name Lib.Math.max.code 2 (some .int) ∈ TW
theorem V_min {x y : Int32} (hw : minW φ.1.1.cls idx) (hf : 1 ≤ φ.2.1.frames) (hlo : (st.map fun v => v.category).sum + 13 ≤ φ.2.1.locals) (hc : cells ≤ φ.2.1.cells ∧ slots ≤ φ.2.1.slots) (d : decode φ.1.2.1 pc = .ok (.invokestatic idx, 3)) (k : V κ φ cells slots (pc + 3) L (.int (if y < x then y else x) :: st) μ) : V κ φ cells slots pc L (.int y :: .int x :: st) μ :=
  fun p e s m args below meth c B H locs ls hl hR hS => va_mmin B.1 B.2.1 (B.2.2.1.trans hl.1.symm) B.2.2.2.1 (B.2.2.2.2.1 _ hw.1) (B.2.2.2.2.1 _ hw.2.1) (B.2.2.2.2.1 _ hw.2.2.1) (B.2.2.2.2.1 _ hw.2.2.2) hf hlo hc.1 hc.2 d (k p e s m args below meth c B H locs ls hl hR hS)
theorem V_max {x y : Int32} (hw : maxW φ.1.1.cls idx) (hf : 1 ≤ φ.2.1.frames) (hlo : (st.map fun v => v.category).sum + 13 ≤ φ.2.1.locals) (hc : cells ≤ φ.2.1.cells ∧ slots ≤ φ.2.1.slots) (d : decode φ.1.2.1 pc = .ok (.invokestatic idx, 3)) (k : V κ φ cells slots (pc + 3) L (.int (if x < y then y else x) :: st) μ) : V κ φ cells slots pc L (.int y :: .int x :: st) μ :=
  fun p e s m args below meth c B H locs ls hl hR hS => va_mmax B.1 B.2.1 (B.2.2.1.trans hl.1.symm) B.2.2.2.1 (B.2.2.2.2.1 _ hw.1) (B.2.2.2.2.1 _ hw.2.1) (B.2.2.2.2.1 _ hw.2.2.1) (B.2.2.2.2.1 _ hw.2.2.2) hf hlo hc.1 hc.2 d (k p e s m args below meth c B H locs ls hl hR hS)
end Rows5
