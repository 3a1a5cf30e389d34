/-! the law's helpers: contracts of methods with handlers that say of the memory what holds of it; calls in the law -/
def CtHP (κ : K0) (mc ms d : Nat) (mr : MR) (hh : List (Nat × Nat × Nat × Nat)) (as : List Value) (μ : Mem) (Ψ : Oc → Mem → Prop) : Prop :=
  vx_Met κ.1 mr.1 (mCodeH mr hh :: TW) (rmOf d mc ms) (PcOf κ as μ) (QcP κ Ψ) (XcP κ Ψ) mc ms (kA κ)
abbrev phiPH (κ : K0) (mr : MR) (d mc ms : Nat) (Ψ : Oc → Mem → Prop) (hh : List (Nat × Nat × Nat × Nat)) : Fr := (mr, rmOf d mc ms, fun below args s => vx_MQ below (QcP κ Ψ) (XcP κ Ψ) args s mc ms (kA κ), fun _ _ => True, hh)
section Law0
variable {κ : K0} {φ : Fr} {cells slots pc : Nat} {L : List (Option Value)} {st rest : List Value} {μ : Mem} {mr : MR} {mc ms d' dd n idx : Nat} {as : List Value} {Ψ : Oc → Mem → Prop} {hh : List (Nat × Nat × Nat × Nat)}
theorem V_iretPH {x : Int32} (hr : mr.2.2.2 = some .int) (h : Ψ (.inl (some (.int x))) μ) (hc : cells ≤ mc ∧ slots ≤ ms) (d : decode mr.2.1 pc = .ok (.ireturn, 1)) : V κ (phiPH κ mr dd mc ms Ψ hh) cells slots pc L [.int x] μ := by
  intro p e s m args below meth c B H locs ls hl hR hS
  exact vx_ret (W.widen hc.1 hc.2 (W.iret B.1 B.2.1 (B.2.2.2.2.2.1.trans hr) (fun t ht hW => ⟨⟨_, μ, h, rfl, by rw [ht]; exact hR⟩, hS.F ht⟩) hS.2.2 d B.2.2.2.2.2.2.1))
theorem CtHP.of (hy : plainName mr.1.cls = true) (hcat : ∀ v ∈ as, v.category = 1) (hlen : as.length ≤ mr.2.2.1) (k : V κ (phiPH κ mr dd mc ms Ψ hh) 0 0 0 (entL as mr.2.2.1) [] μ) : CtHP κ mc ms dd mr hh as μ Ψ := by
  refine vx_ofWH (cc := mr.2.1) (maxL := mr.2.2.1) (ret := mr.2.2.2) (hh := hh) hy rfl ?_
  intro p e s m args below meth c s₁ B hml hv
  obtain ⟨rfl, hR, hE, hB⟩ := hv
  have hts := atoms_spec (ws := mCodeH mr hh :: TW) B.pre
  rw [lg_entry_eq]
  exact k p e s m _ below meth c ⟨B.exec, B.bytes, hml, findClass_of_methodNamed B.named, fun w hw => hts w (List.mem_cons_of_mem _ hw), B.returns, B.notSynchronized, hE, hB, vx_table (x := mr.1) B (hts (mCodeH mr hh) List.mem_cons_self), (name_of_methodNamed B.named B.method).1, trivial⟩ s.heap [] _ (lOK.entry hcat hlen) hR va_S.rf
theorem V_callHP (hc : CtHP κ mc ms d' mr hh as μ Ψ) (hm : MRh mr hh n) (hlink : Cond.methodLink φ.1.1.cls idx mr.1 ∈ TW) (hn : as.length = n) (hst : st = as.reverse ++ rest) (hw : (rest.map fun v => v.category).sum ≤ 8) (hR8 : rmOK φ mr cells slots mc ms d') (d : decode φ.1.2.1 pc = .ok (.invokestatic idx, 3)) (hΨ : ∀ E μ', ¬ Ψ (.inr E) μ')
    (k : ∀ v μ', Ψ (.inl v) μ' → V κ φ (cells + mc) (slots + ms) (pc + 3) L (v.toList ++ rest) μ') : V κ φ cells slots pc L st μ := by
  intro p e s m args below meth c B H locs ls hl hR hS
  obtain ⟨m1, m2, m4, m5, m6, m7⟩ := hm
  have hts := B.2.2.2.2.1
  refine run_goP (vx_runSX (y := mr.1) (bytes := mr.2.1) (maxL := mr.2.2.1) (ret := mr.2.2.2) (hh := hh) (As := as) (rest := rest) ⟨B.1, B.2.1, B.2.2.1, B.2.2.2.1, hts⟩ hc (vx_cwSW n hts (GoodIn.cons hlink (GoodIn.cons m2 (GoodIn.cons m4 (TW_good m1)))) rfl rfl rfl ⟨m5.1, m5.2, m6⟩ ⟨hR8.1.1, hR8.1.2⟩) ⟨PcOf.blind _ _ _, fun U hU hW => PcOf.go B.2.2.2.2.2.2.2.1 B.2.2.2.2.2.2.2.2.1 hR hS hU hW⟩ rfl hn hl.1 hst (lv_room hw) d hR8.2) hS (fun v μ' H1 locs1 ho hR1 hS1 => k v μ' ho p e s m args below meth c B H1 locs1 ls hl hR1 hS1) (fun E μ' ce q H1 locs1 ho hR1 hS1 h1 h2 h3 => absurd ho (hΨ E μ'))
end Law0
/-- what is stored of an answer: a number, a truth -/
def vI (x : Int32) : Int64 := x.toInt64
def vB (x : Int32) : Int64 := if x = 0 then 0 else 1
/-- what a helper of the law answers and leaves -/
def HR (σ : Nat → Option Kd) (mi : Nat → Nat → Int32) (x o : Nat) (k : Nat) (v : Int64) (S' : SS) : Oc → Mem → Prop := fun oc μ' => oc = .inl (some (.int (nI k))) ∧ ∃ m' l', μ' = MM σ m' l' ∧ XA m' x S' ∧ (k = 0 → l' o 0 = v) ∧ ∀ a i, (a < x ∨ x + 90 ≤ a) → m' a i = mi a i
section Law1
variable {κ : K0} {φ : Fr} {cells slots pc : Nat} {L : List (Option Value)} {st rest : List Value} {σ : Nat → Option Kd} {mi : Nat → Nat → Int32} {ml : Nat → Nat → Int64} {mr : MR} {n idx x o m : Nat} {as : List Value} {hh : List (Nat × Nat × Nat × Nat)} {S : SS}
theorem V_hcall {r : Rs} {Es : List String} {T : u_T} {sl : Nat → Option Value} (hc : CtP κ 1 6 12 mr (.ref x :: as) (MM σ mi ml) (XR σ mi ml x Es r)) (hm : MRv mr n) (hlink : Cond.methodLink φ.1.1.cls idx mr.1 ∈ TW) (hσ : σ x = some (.inr (5, 10, sl))) (hci : cls7[5]? = some (mr.1.cls, T, 10)) (hn : as.length = n) (hst : st = as.reverse ++ .ref x :: rest) (hw : (rest.map fun v => v.category).sum ≤ 8) (hR8 : rmOK φ mr cells slots 1 6 12) (d : decode φ.1.2.1 pc = .ok (.invokevirtual idx, 3))
    (k : r.1 = 0 → ∀ m' l', XA m' x r.2.2 → (∀ a i, (a < x ∨ x + 90 ≤ a) → m' a i = mi a i) → V κ φ (cells + 1) (slots + 6) (pc + 3) L (.int r.2.1 :: rest) (MM σ m' l'))
    (kx : ∀ j, r.1 = j + 1 → ∀ m' l', XA m' x r.2.2 → (∀ a i, (a < x ∨ x + 90 ≤ a) → m' a i = mi a i) → VX κ φ (cells + 1) (slots + 6) pc L (Es.getD j "") (MM σ m' l')) : V κ φ cells slots pc L st (MM σ mi ml) := by
  refine V_callVP_any hc hm hlink hσ hci hn hst hw hR8 d (fun v μ' h => ?_) (fun E μ' h => ?_)
  · obtain ⟨h1, m', l', rfl, h2, h3⟩ := h
    unfold oc at h1
    by_cases h0 : r.1 = 0
    · rw [if_pos h0] at h1
      cases h1
      exact k h0 m' l' h2 (fun a i q => (h3 a i q).1)
    · rw [if_neg h0] at h1
      cases h1
  · obtain ⟨h1, m', l', rfl, h2, h3⟩ := h
    unfold oc at h1
    by_cases h0 : r.1 = 0
    · rw [if_pos h0] at h1
      cases h1
    · rw [if_neg h0] at h1
      cases h1
      exact kx (r.1 - 1) (by omega) m' l' h2 (fun a i q => (h3 a i q).1)
theorem V_hcallW {K : Nat} {v : Int64} {Es : List String} {T : u_T} {sl : Nat → Option Value} (hc : CtP κ 1 6 12 mr (.ref x :: as) (MM σ mi ml) (fun o μ' => o = (if K = 0 then .inl (some (.long v)) else .inr (Es.getD (K - 1) "")) ∧ XM σ mi ml x S μ')) (hm : MRv mr n) (hlink : Cond.methodLink φ.1.1.cls idx mr.1 ∈ TW) (hσ : σ x = some (.inr (5, 10, sl))) (hci : cls7[5]? = some (mr.1.cls, T, 10)) (hn : as.length = n) (hst : st = as.reverse ++ .ref x :: rest) (hw : (rest.map fun v => v.category).sum ≤ 8) (hR8 : rmOK φ mr cells slots 1 6 12) (d : decode φ.1.2.1 pc = .ok (.invokevirtual idx, 3))
    (k : K = 0 → ∀ m' l', XA m' x S → (∀ a i, (a < x ∨ x + 90 ≤ a) → m' a i = mi a i) → V κ φ (cells + 1) (slots + 6) (pc + 3) L (.long v :: rest) (MM σ m' l'))
    (kx : ∀ j, K = j + 1 → ∀ m' l', XA m' x S → (∀ a i, (a < x ∨ x + 90 ≤ a) → m' a i = mi a i) → VX κ φ (cells + 1) (slots + 6) pc L (Es.getD j "") (MM σ m' l')) : V κ φ cells slots pc L st (MM σ mi ml) := by
  refine V_callVP_any hc hm hlink hσ hci hn hst hw hR8 d (fun v μ' h => ?_) (fun E μ' h => ?_)
  · obtain ⟨h1, m', l', rfl, h2, h3⟩ := h
    by_cases h0 : K = 0
    · rw [if_pos h0] at h1
      cases h1
      exact k h0 m' l' h2 (fun a i q => (h3 a i q).1)
    · rw [if_neg h0] at h1
      cases h1
  · obtain ⟨h1, m', l', rfl, h2, h3⟩ := h
    by_cases h0 : K = 0
    · rw [if_pos h0] at h1
      cases h1
    · rw [if_neg h0] at h1
      cases h1
      exact kx (K - 1) (by omega) m' l' h2 (fun a i q => (h3 a i q).1)
/-- the law calls a helper -/
theorem V_chR {K : Nat} {v : Int64} {S' : SS} (hc : CtHP κ 1 6 13 mr hh as (MM σ mi ml) (HR σ mi x o K v S')) (hm : MRh mr hh n) (hlink : Cond.methodLink φ.1.1.cls idx mr.1 ∈ TW) (hn : as.length = n) (hst : st = as.reverse ++ rest) (hw : (rest.map fun v => v.category).sum ≤ 8) (hR8 : rmOK φ mr cells slots 1 6 13) (d : decode φ.1.2.1 pc = .ok (.invokestatic idx, 3))
    (k : ∀ m' l', XA m' x S' → (K = 0 → l' o 0 = v) → (∀ a i, (a < x ∨ x + 90 ≤ a) → m' a i = mi a i) → V κ φ (cells + 1) (slots + 6) (pc + 3) L (.int (nI K) :: rest) (MM σ m' l')) : V κ φ cells slots pc L st (MM σ mi ml) := by
  refine V_callHP hc hm hlink hn hst hw hR8 d (fun E μ' h => by cases h.1) (fun v μ' h => ?_)
  obtain ⟨h1, m', l', rfl, h2, h3, h4⟩ := h
  cases h1
  exact k m' l' h2 h3 h4
/-- the law calls the reference -/
theorem V_cmR {r : Rs} {T : u_T} {sl : Nat → Option Value} (hc : CtP κ 0 0 24 mr (.ref m :: as) (MM σ mi ml) (MRz σ mi ml m r)) (hm : MRv mr n) (hlink : Cond.methodLink φ.1.1.cls idx mr.1 ∈ TW) (hσ : σ m = some (.inr (6, 36, sl))) (hci : cls7[6]? = some (mr.1.cls, T, 36)) (hn : as.length = n) (hst : st = as.reverse ++ .ref m :: rest) (hw : (rest.map fun v => v.category).sum ≤ 8) (hR8 : rmOK φ mr cells slots 0 0 24) (d : decode φ.1.2.1 pc = .ok (.invokevirtual idx, 3))
    (k : ∀ m', MA m' m r.2.2 → m' m 0 = nI r.1 → (∀ a i, (a < m ∨ m + 101 ≤ a) → m' a i = mi a i) → V κ φ cells slots (pc + 3) L (.int r.2.1 :: rest) (MM σ m' ml)) : V κ φ cells slots pc L st (MM σ mi ml) := by
  refine V_callVP_any hc hm hlink hσ hci hn hst hw hR8 d (fun v μ' h => ?_) (fun E μ' h => by cases h.1)
  obtain ⟨h1, m', rfl, h2, h3, h4⟩ := h
  cases h1
  exact k m' h2 h3 h4
theorem XA.fr {m1 : Nat → Nat → Int32} (h : XA mi x S) (hk : ∀ a i, x ≤ a → a < x + 90 → m1 a i = mi a i) : XA m1 x S := by
  obtain ⟨h1, h2, ⟨ℓ, h3⟩, ⟨h4, h5⟩, h6, h7, h8⟩ := h
  exact ⟨h1.keep (fun a i q1 q2 => hk a i (by omega) (by omega)), h2.keep (fun a i q => hk a i (by omega) (by omega)), ⟨ℓ, h3.keep (fun a i q1 q2 => hk a i (by omega) (by omega))⟩, ⟨(hk _ _ (by omega) (by omega)).trans h4, fun g hg => (h5 g hg).keep (fun a i q1 q2 => hk a i (by omega) (by omega))⟩, h6.keep (fun a i q => hk a i (by omega) (by omega)), (hk _ _ (by omega) (by omega)).trans h7, h8.keep (fun a i q1 q2 => hk a i (by omega) (by omega))⟩
theorem MA.fr {m1 : Nat → Nat → Int32} (h : MA mi m S) (hS : SOK S) (hk : ∀ a i, m ≤ a → a < m + 101 → m1 a i = mi a i) : MA m1 m S := by
  obtain ⟨h1, ⟨h2, h3⟩, ⟨h4, h5⟩, ⟨h6, h7⟩, h8, h9, h10⟩ := h
  have h8' := hS.2.1.1
  exact ⟨h1.keep (fun a i q => hk a i (by omega) (by omega)), ⟨(hk _ _ (by omega) (by omega)).trans h2, fun i hi => (h3 i hi).keep (fun j => hk _ _ (by omega) (by omega))⟩, ⟨(hk _ _ (by omega) (by omega)).trans h4, fun g hg => (h5 g hg).keep (fun j => hk _ _ (by omega) (by omega))⟩, ⟨(hk _ _ (by omega) (by omega)).trans h6, fun i hi => (hk _ _ (by omega) (by omega)).trans (h7 i hi)⟩, (hk _ _ (by omega) (by omega)).trans h8, (hk _ _ (by omega) (by omega)).trans h9, fun i hi1 hi2 => (hk _ _ (by omega) (by omega)).trans (h10 i hi1 hi2)⟩
end Law1
theorem nc_IAE_ISE : (EIAE, EISE) ∈ ncL := by decide +kernel
theorem nc_IAE_IOB : (EIAE, EIOB) ∈ ncL := by decide +kernel
theorem nc_IAE_NSE : (EIAE, ENSE) ∈ ncL := by decide +kernel
theorem nc_ISE_IAE : (EISE, EIAE) ∈ ncL := by decide +kernel
theorem nc_ISE_IOB : (EISE, EIOB) ∈ ncL := by decide +kernel
theorem nc_ISE_NSE : (EISE, ENSE) ∈ ncL := by decide +kernel
theorem nc_IOB_IAE : (EIOB, EIAE) ∈ ncL := by decide +kernel
theorem nc_IOB_ISE : (EIOB, EISE) ∈ ncL := by decide +kernel
theorem nc_IOB_NSE : (EIOB, ENSE) ∈ ncL := by decide +kernel
theorem nc_NSE_IAE : (ENSE, EIAE) ∈ ncL := by decide +kernel
theorem nc_NSE_ISE : (ENSE, EISE) ∈ ncL := by decide +kernel
theorem nc_NSE_IOB : (ENSE, EIOB) ∈ ncL := by decide +kernel
