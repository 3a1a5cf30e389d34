/-! contracts that say of the memory behind the method what holds of it -/
def QcP (κ : K0) (Ψ : Oc → Mem → Prop) : Array Value → State → Outcome → State → Prop := fun _ st oc t => (∃ v μ', Ψ (.inl v) μ' ∧ oc = .returned v ∧ Rep κ μ' t.heap) ∧ va_F (kA κ) st t
def XcP (κ : K0) (Ψ : Oc → Mem → Prop) : String → State → State → Prop := fun E st t => (∃ μ', Ψ (.inr E) μ' ∧ Rep κ μ' t.heap) ∧ va_F (kA κ) st t
def CtP (κ : K0) (mc ms d : Nat) (mr : MR) (as : List Value) (μ : Mem) (Ψ : Oc → Mem → Prop) : Prop :=
  vx_Met κ.1 mr.1 (mCode mr :: TW) (rmOf d mc ms) (PcOf κ as μ) (QcP κ Ψ) (XcP κ Ψ) mc ms (kA κ)
abbrev phiP (κ : K0) (mr : MR) (d mc ms : Nat) (Ψ : Oc → Mem → Prop) : Fr := (mr, rmOf d mc ms, fun below args s => vx_MQ below (QcP κ Ψ) (XcP κ Ψ) args s mc ms (kA κ), fun _ _ => True, [])
section Rel
variable {p : Program} {e : Env} {R : Room} {s : State} {m : MethodId} {args : Array Value} {below : List Frame} {meth : Method} {c : Code} {H : Heap} {locs : List Loc} {Q : State → Prop}
variable {κ : K0} {cells slots pc : Nat} {μ : Mem} {Ψ : Oc → Mem → Prop} {mc ms : Nat} {ls : Array Slot} {st0 rest : List Value} {a : Array Value}
theorem run_goP (hr : vx_Run p κ.1 e R s m args below meth c H locs cells slots mc ms (F0 m pc ls st0) rest (QcP κ Ψ a) (XcP κ Ψ) (kA κ)) (hS : va_S (kA κ) s.heap H locs)
    (kk : ∀ (v : Option Value) (μ' : Mem) (H1 : Heap) (locs1 : List Loc), Ψ (.inl v) μ' → Rep κ μ' H1 → va_S (kA κ) s.heap H1 locs1 → W p κ.1 e R s m args below meth c H1 locs1 (cells + mc) (slots + ms) Q (F0 m (pc + 3) ls (v.toList ++ rest)))
    (kx : ∀ (E : String) (μ' : Mem) (ce : Cell) (q : Addr) (H1 : Heap) (locs1 : List Loc), Ψ (.inr E) μ' → Rep κ μ' H1 → va_S (kA κ) s.heap H1 locs1 → H1[q]? = some ce → ce.vm = .none → s.vm.findClass E = some ce.cls → vx_W p κ.1 e R s m args below meth c H1 locs1 (cells + mc) (slots + ms) Q (F0 m pc ls rest) q) :
    W p κ.1 e R s m args below meth c H locs cells slots Q (F0 m pc ls st0) := by
  intro T hT X
  rcases hr T hT X with ⟨v, st₀, t, T', Lo, h0, X', hL, e1, e2, ⟨⟨v', μ', ho, hv, hRep⟩, hF⟩, st⟩ | ⟨q, st₀, t, T', Lo, E, ce, h0, X', hL, e1, e2, ⟨⟨μ', ho, hRep⟩, hF⟩, hce, hcv, hcl, st⟩
  · cases hv
    obtain ⟨k1, k2, k3⟩ := vx_keep (A0 := kA κ) (A1 := kA κ) h0 e1 hS (fun _ _ h => h) (fun _ h => h) hL hF
    obtain ⟨t2, a1, b1⟩ := kk v μ' T'.heap (locs ++ Lo) ho (by rw [e1]; exact hRep) k3 T' rfl X'
    exact ⟨t2, st t2 a1, b1⟩
  · obtain ⟨k1, k2, k3⟩ := vx_keep (A0 := kA κ) (A1 := kA κ) h0 e1 hS (fun _ _ h => h) (fun _ h => h) hL hF
    obtain ⟨t2, a1, b1⟩ := kx E μ' ce q T'.heap (locs ++ Lo) ho (by rw [e1]; exact hRep) k3 (by rw [e1]; exact hce) hcv hcl T' rfl X'
    exact ⟨t2, st.trans a1, b1⟩
end Rel
section Rel2
variable {κ : K0} {φ : Fr} {cells slots pc : Nat} {L : List (Option Value)} {st rest : List Value} {μ : Mem} {mr : MR} {mc ms d' dd n idx : Nat} {as : List Value} {Ψ : Oc → Mem → Prop}
theorem V_callVP_any {b ci N : Nat} {T : u_T} {sl : Nat → Option Value} (hc : CtP κ mc ms d' mr (.ref b :: as) μ Ψ) (hm : MRv mr n) (hlink : Cond.methodLink φ.1.1.cls idx mr.1 ∈ TW) (hσ : μ.1 b = some (.inr (ci, N, sl))) (hci : cls7[ci]? = some (mr.1.cls, T, N)) (hn : as.length = n) (hst : st = as.reverse ++ .ref b :: rest) (hw : (rest.map fun v => v.category).sum ≤ 8) (hR8 : rmOK φ mr cells slots mc ms d') (d : decode φ.1.2.1 pc = .ok (.invokevirtual idx, 3))
    (k : ∀ v μ', Ψ (.inl v) μ' → V κ φ (cells + mc) (slots + ms) (pc + 3) L (v.toList ++ rest) μ') (kx : ∀ E μ', Ψ (.inr E) μ' → VX κ φ (cells + mc) (slots + ms) pc L E μ') : V κ φ cells slots pc L st μ := by
  intro p e s m args below meth c B H locs ls hl hR hS
  obtain ⟨m1, m2, m3, m4, m5, m6, m7⟩ := hm
  obtain ⟨Ld, q, ha, g1, g2, g3, hq, -⟩ := hR.at hσ
  have hts := B.2.2.2.2.1
  refine run_goP (vx_runV (y := mr.1) (bytes := mr.2.1) (maxL := mr.2.2.1) (ret := mr.2.2.2) (As := as) (rest := rest) (b := b) (C := mr.1.cls) ⟨B.1, B.2.1, B.2.2.1, B.2.2.2.1, hts⟩ hc (cwV n hts (GoodIn.cons hlink (GoodIn.cons m2 (GoodIn.cons m3 (GoodIn.cons m4 (TW_good m1))))) rfl rfl rfl ⟨rfl, m5.1, m5.2, m6⟩ ⟨hR8.1.1, hR8.1.2⟩) ⟨PcOf.blind _ _ _, va_recv B.2.2.2.2.2.2.2.1.2.1 g2 hci hq, fun U hU hW => PcOf.go B.2.2.2.2.2.2.2.1 B.2.2.2.2.2.2.2.2.1 hR hS hU hW⟩ rfl hn hl.1 hst (lv_room hw) d hR8.2) hS (fun v μ' H1 locs1 ho hR1 hS1 => k v μ' ho p e s m args below meth c B H1 locs1 ls hl hR1 hS1) (fun E μ' ce q H1 locs1 ho hR1 hS1 h1 h2 h3 => kx E μ' ho p e s m args below meth c B H1 locs1 ls ce q rest hl hR1 hS1 h1 h2 h3)
/-- a callee that returns nothing, over a memory of which Φ holds -/
theorem V_cp0 {b ci N : Nat} {T : u_T} {sl : Nat → Option Value} {Φ : Mem → Prop} (hc : CtP κ 0 0 d' mr (.ref b :: as) μ (fun o μ' => o = .inl none ∧ Φ μ')) (hm : MRv mr n) (hlink : Cond.methodLink φ.1.1.cls idx mr.1 ∈ TW) (hσ : μ.1 b = some (.inr (ci, N, sl))) (hci : cls7[ci]? = some (mr.1.cls, T, N)) (hn : as.length = n) (hst : st = as.reverse ++ .ref b :: rest) (hw : (rest.map fun v => v.category).sum ≤ 8) (hR8 : rmOK φ mr cells slots 0 0 d') (d : decode φ.1.2.1 pc = .ok (.invokevirtual idx, 3))
    (k : ∀ μ', Φ μ' → V κ φ cells slots (pc + 3) L rest μ') : V κ φ cells slots pc L st μ :=
  V_callVP_any hc hm hlink hσ hci hn hst hw hR8 d (fun v μ' h => by cases h.1; exact k μ' h.2) (fun E μ' h => by cases h.1)
/-- a callee that returns a number -/
theorem V_cp1 {b ci N : Nat} {T : u_T} {sl : Nat → Option Value} {Φ : Int32 → Mem → Prop} (hc : CtP κ 0 0 d' mr (.ref b :: as) μ (fun o μ' => ∃ x, o = .inl (some (.int x)) ∧ Φ x μ')) (hm : MRv mr n) (hlink : Cond.methodLink φ.1.1.cls idx mr.1 ∈ TW) (hσ : μ.1 b = some (.inr (ci, N, sl))) (hci : cls7[ci]? = some (mr.1.cls, T, N)) (hn : as.length = n) (hst : st = as.reverse ++ .ref b :: rest) (hw : (rest.map fun v => v.category).sum ≤ 8) (hR8 : rmOK φ mr cells slots 0 0 d') (d : decode φ.1.2.1 pc = .ok (.invokevirtual idx, 3))
    (k : ∀ x μ', Φ x μ' → V κ φ cells slots (pc + 3) L (.int x :: rest) μ') : V κ φ cells slots pc L st μ :=
  V_callVP_any hc hm hlink hσ hci hn hst hw hR8 d (fun v μ' h => by obtain ⟨x, h1, h2⟩ := h; cases h1; exact k x μ' h2) (fun E μ' h => by obtain ⟨x, h1, h2⟩ := h; cases h1)
theorem V_vretP (hr : mr.2.2.2 = none) (h : Ψ (.inl none) μ) (hc : cells ≤ mc ∧ slots ≤ ms) (d : decode mr.2.1 pc = .ok (.return_, 1)) : V κ (phiP κ mr dd mc ms Ψ) cells slots pc L [] μ := by
  intro p e s m args below meth c B H locs ls hl hR hS
  exact vx_ret (W.widen hc.1 hc.2 (W.vret B.1 B.2.1 (B.2.2.2.2.2.1.trans hr) (fun t ht hW => ⟨⟨none, μ, h, rfl, by rw [ht]; exact hR⟩, hS.F ht⟩) hS.2.2 d B.2.2.2.2.2.2.1))
theorem V_iretP {x : Int32} (hr : mr.2.2.2 = some .int) (h : Ψ (.inl (some (.int x))) μ) (hc : cells ≤ mc ∧ slots ≤ ms) (d : decode mr.2.1 pc = .ok (.ireturn, 1)) : V κ (phiP κ mr dd mc ms Ψ) cells slots pc L [.int x] μ := by
  intro p e s m args below meth c B H locs ls hl hR hS
  exact vx_ret (W.widen hc.1 hc.2 (W.iret B.1 B.2.1 (B.2.2.2.2.2.1.trans hr) (fun t ht hW => ⟨⟨_, μ, h, rfl, by rw [ht]; exact hR⟩, hS.F ht⟩) hS.2.2 d B.2.2.2.2.2.2.1))
theorem V_zretP {x : Int32} {ty : FieldType} (hr : mr.2.2.2 = some ty) (hn : narrow ty (.int x) = .int x) (h : Ψ (.inl (some (.int x))) μ) (hc : cells ≤ mc ∧ slots ≤ ms) (d : decode mr.2.1 pc = .ok (.ireturn, 1)) : V κ (phiP κ mr dd mc ms Ψ) cells slots pc L [.int x] μ := by
  intro p e s m args below meth c B H locs ls hl hR hS
  exact vx_ret (W.widen hc.1 hc.2 (W.zret B.1 B.2.1 (B.2.2.2.2.2.1.trans hr) hn (fun t ht hW => ⟨⟨_, μ, h, rfl, by rw [ht]; exact hR⟩, hS.F ht⟩) hS.2.2 d B.2.2.2.2.2.2.1))
theorem V_lretP {x : Int64} (hr : mr.2.2.2 = some .long) (h : Ψ (.inl (some (.long x))) μ) (hc : cells ≤ mc ∧ slots ≤ ms) (d : decode mr.2.1 pc = .ok (.lreturn, 1)) : V κ (phiP κ mr dd mc ms Ψ) cells slots pc L [.long x] μ := by
  intro p e s m args below meth c B H locs ls hl hR hS
  exact vx_ret (W.widen hc.1 hc.2 (W.lret B.1 B.2.1 (B.2.2.2.2.2.1.trans hr) (fun t ht hW => ⟨⟨_, μ, h, rfl, by rw [ht]; exact hR⟩, hS.F ht⟩) hS.2.2 d B.2.2.2.2.2.2.1))
theorem VX_outP {E : String} (h : Ψ (.inr E) μ) (hc : cells ≤ mc ∧ slots ≤ ms) : VX κ (phiP κ mr dd mc ms Ψ) cells slots pc L E μ := by
  intro p e s m args below meth c B H locs ls ce q rest hl hR hS h1 h2 h3
  refine vx_out (fun x hx => ?_) B.2.2.2.2.2.2.1 h1 h2 h3 (fun t ht hA => ⟨⟨μ, h, by rw [ht]; exact hR⟩, hS.F ht⟩) hS.2.2 hc.1 hc.2
  rw [B.2.2.2.2.2.2.2.2.2.1] at hx
  cases hx
theorem CtP.of (hy : plainName mr.1.cls = true) (hcat : ∀ v ∈ as, v.category = 1) (hlen : as.length ≤ mr.2.2.1) (k : V κ (phiP κ mr dd mc ms Ψ) 0 0 0 (entL as mr.2.2.1) [] μ) : CtP κ mc ms dd mr as μ Ψ := by
  refine vx_ofW (cc := mr.2.1) (maxL := mr.2.2.1) (ret := mr.2.2.2) hy rfl ?_
  intro p e s m args below meth c s₁ B hml hto hv
  obtain ⟨rfl, hR, hE, hB⟩ := hv
  have hts := atoms_spec (ws := mCode mr :: TW) B.pre
  rw [lg_entry_eq]
  exact k p e s m _ below meth c ⟨B.exec, B.bytes, hml, findClass_of_methodNamed B.named, fun w hw => hts w (List.mem_cons_of_mem _ hw), B.returns, B.notSynchronized, hE, hB, by
      cases hx : c.exceptionTable.toList with
      | nil => rfl
      | cons a t => exact (hto a (by rw [hx]; exact List.mem_cons_self)).elim, (name_of_methodNamed B.named B.method).1, trivial⟩ s.heap [] _ (lOK.entry hcat hlen) hR va_S.rf
/-- an exact contract says so too -/
theorem Ct.rel {o : Oc} {μ' : Mem} (h : Ct κ mc ms dd mr as μ o μ') : CtP κ mc ms dd mr as μ (fun o2 μ2 => o2 = o ∧ μ2 = μ') := by
  unfold Ct at h
  unfold CtP
  have e1 : QcOf κ o μ' = QcP κ (fun o2 μ2 => o2 = o ∧ μ2 = μ') := by
    funext a st oc t
    apply propext
    constructor
    · rintro ⟨⟨v, h1, h2, h3⟩, hF⟩
      exact ⟨⟨v, μ', ⟨h1.symm, rfl⟩, h2, h3⟩, hF⟩
    · rintro ⟨⟨v, μ2, ⟨h1, rfl⟩, h2, h3⟩, hF⟩
      exact ⟨⟨v, h1.symm, h2, h3⟩, hF⟩
  have e2 : XcOf κ o μ' = XcP κ (fun o2 μ2 => o2 = o ∧ μ2 = μ') := by
    funext E st t
    apply propext
    constructor
    · rintro ⟨⟨h1, h2⟩, hF⟩
      exact ⟨⟨μ', ⟨h1.symm, rfl⟩, h2⟩, hF⟩
    · rintro ⟨⟨μ2, ⟨h1, rfl⟩, h2⟩, hF⟩
      exact ⟨⟨h1.symm, h2⟩, hF⟩
  rw [← e1, ← e2]
  exact h
end Rel2
