/-! SsaRepair: its cells, and the calls that only ask -/
def slX (x : Nat) : Nat → Option Value := fun k => match k with
  | 0 => some (.ref (x + 1))
  | 1 => some (.ref (x + 1 + 1))
  | 2 => some (.ref (x + 18))
  | 3 => some (.ref (x + 18 + 1))
  | 4 => some (.ref (x + 35))
  | 6 => some (.ref (x + 40))
  | 7 => some (.ref (x + 82))
  | 9 => some (.ref (x + 86))
  | _ => none
def XL (σ : Nat → Option Kd) (x : Nat) : Prop := σ x = some (.inr (5, 10, slX x)) ∧ FlowL σ (x + 1) ∧ FlowL σ (x + 18) ∧ GraphL σ (x + 35) ∧ HistL σ (x + 40) ∧ LineL σ (x + 82) ∧ WalkL σ (x + 86)
def XA (mi : Nat → Nat → Int32) (x : Nat) (S : SS) : Prop := GA mi (x + 1 + 1) S.1 ∧ FA mi (x + 1) S.1 ∧ (∃ ℓ, HA mi (x + 40) S.2.1.1 S.2.1.2 ℓ) ∧ (mi x 5 = nI (if S.2.2.1.isSome = true then 1 else 0) ∧ ∀ g, S.2.2.1 = some g → GA mi (x + 35) g) ∧ LC mi (x + 82) S.2.2.2.1 ∧ mi x 8 = S.2.2.2.2.1 ∧ WA mi (x + 86) S.2.2.2.2.2.1 S.2.2.2.2.2.2
def oc (Es : List String) (k : Nat) (v : Int32) : Oc := if k = 0 then .inl (some (.int v)) else .inr (Es.getD (k - 1) "")
/-- what a call leaves: the state S', and all other cells as they were -/
def XM (σ : Nat → Option Kd) (mi : Nat → Nat → Int32) (ml : Nat → Nat → Int64) (x : Nat) (S' : SS) (μ' : Mem) : Prop := ∃ m' l', μ' = MM σ m' l' ∧ XA m' x S' ∧ ∀ a i, (a < x ∨ x + 90 ≤ a) → m' a i = mi a i ∧ l' a i = ml a i
def XR (σ : Nat → Option Kd) (mi : Nat → Nat → Int32) (ml : Nat → Nat → Int64) (x : Nat) (Es : List String) (r : Rs) : Oc → Mem → Prop := fun o μ' => o = oc Es r.1 r.2.1 ∧ XM σ mi ml x r.2.2 μ'
theorem str_67 : (67, "the number of blocks is not 1 to 14") ∈ strL := by decide +kernel
theorem str_85 : (85, "the character's code is not 32 to 126") ∈ strL := by decide +kernel
theorem str_92 : (92, "the input is full") ∈ strL := by decide +kernel
theorem str_103 : (103, "the input is not a line") ∈ strL := by decide +kernel
theorem str_118 : (118, "no error position was kept") ∈ strL := by decide +kernel
theorem str_329 : (329, "no such block or action") ∈ strL := by decide +kernel
theorem str_324 : (324, "no such block") ∈ strL := by decide +kernel
theorem str_139 : (139, "the target is block 0, or the edge exists") ∈ strL := by decide +kernel
theorem str_144 : (144, "the source has 3 edges") ∈ strL := by decide +kernel
theorem str_149 : (149, "no such edge") ∈ strL := by decide +kernel
theorem str_154 : (154, "no edge to the block, or none behind it") ∈ strL := by decide +kernel
theorem str_156 : (156, "there are 14 blocks") ∈ strL := by decide +kernel
theorem str_174 : (174, "no such block or edge") ∈ strL := by decide +kernel
theorem str_333 : (333, "the block is not reachable") ∈ strL := by decide +kernel
theorem str_195 : (195, "block 0 has no parent") ∈ strL := by decide +kernel
theorem str_331 : (331, "no such variable") ∈ strL := by decide +kernel
theorem str_229 : (229, "the action is not a use") ∈ strL := by decide +kernel
theorem str_335 : (335, "the block is not a merge of the variable") ∈ strL := by decide +kernel
theorem str_240 : (240, "no such predecessor") ∈ strL := by decide +kernel
theorem str_262 : (262, "no such reaching definition") ∈ strL := by decide +kernel
theorem str_281 : (281, "no change is remembered") ∈ strL := by decide +kernel
theorem str_289 : (289, "the walk has 30 choices") ∈ strL := by decide +kernel
theorem str_294 : (294, "no such edge where the walk has come to") ∈ strL := by decide +kernel
theorem str_304 : (304, "the number of choices is not 0 to 30") ∈ strL := by decide +kernel
theorem str_322 : (322, "nothing was saved") ∈ strL := by decide +kernel
section Cls1
variable {κ : K0} {σ : Nat → Option Kd} {mi : Nat → Nat → Int32} {ml : Nat → Nat → Int64} {x : Nat} {S : SS}
theorem hasAct_t {G : Gr} (hw : Wf G) {b k : Int32} (h : hasAct G b k = true) : ∃ j i, j < G.1 ∧ i < (G.2.1 j).length ∧ b = nI j ∧ k = nI i := by
  unfold hasAct at h
  rw [Bool.and_eq_true] at h
  have h14 := hw.2.1
  obtain ⟨j, hj, rfl⟩ := inR_t (by omega) h.1
  have h2 := h.2
  rw [nI_clamp (by omega)] at h2
  have h6 := (hw.2.2.1 j).1
  obtain ⟨i, hi, rfl⟩ := inR_t (by omega) h2
  exact ⟨j, i, hj, hi, rfl, rfl⟩
theorem hasEdg_t {G : Gr} (hw : Wf G) {b k : Int32} (h : hasEdg G b k = true) : ∃ j i, j < G.1 ∧ i < (G.2.2 j).length ∧ b = nI j ∧ k = nI i := by
  unfold hasEdg at h
  rw [Bool.and_eq_true] at h
  have h14 := hw.2.1
  obtain ⟨j, hj, rfl⟩ := inR_t (by omega) h.1
  have h2 := h.2
  rw [nI_clamp (by omega)] at h2
  have h6 := (hw.2.2.2.1 j).1
  obtain ⟨i, hi, rfl⟩ := inR_t (by omega) h2
  exact ⟨j, i, hj, hi, rfl, rfl⟩
theorem XQ (hX : XA mi x S) : XM σ mi ml x S (MM σ mi ml) := ⟨mi, ml, rfl, hX, fun _ _ _ => ⟨rfl, rfl⟩⟩
/-- cells that the state doesn't show -/
theorem XA.hid {m : Nat → Nat → Int32} (hX : XA mi x S) (h : ∀ a i, (a < x + 17 ∨ x + 35 ≤ a) → m a i = mi a i) : XA m x S := by
  obtain ⟨h1, h2, ⟨ℓ, h3⟩, ⟨h4, h5⟩, h6, h7, h8⟩ := hX
  exact ⟨h1.keep (fun a i q1 q2 => h a i (by omega)), h2.keep (fun a i q => h a i (by omega)), ⟨ℓ, h3.keep (fun a i q1 q2 => h a i (by omega))⟩, ⟨(h _ _ (by omega)).trans h4, fun g hg => (h5 g hg).keep (fun a i q1 q2 => h a i (by omega))⟩, h6.keep (fun a i q => h a i (by omega)), (h _ _ (by omega)).trans h7, h8.keep (fun a i q1 q2 => h a i (by omega))⟩
theorem XQ.hid {m : Nat → Nat → Int32} {l : Nat → Nat → Int64} (hX : XA mi x S) (h : ∀ a i, (a < x + 17 ∨ x + 35 ≤ a) → m a i = mi a i) (hl : ∀ a i, (a < x ∨ x + 90 ≤ a) → l a i = ml a i) : XM σ mi ml x S (MM σ m l) := ⟨m, l, rfl, hX.hid h, fun a i q => ⟨h a i (by omega), hl a i q⟩⟩
theorem ctX5_requireBlock_f (hL : XL σ x) (hX : XA mi x S) (hS : SOK S) {b : Int32} (hb : inR b S.1.1 = false) : Ct κ 1 6 7 mrX5_requireBlock [.ref x, .int b] (MM σ mi ml) (.inr EIOB) (MM σ mi ml) := by
  refine Ct.of rfl (by simp [Value.category]) (Nat.le_of_ble_eq_true rfl) ?_
  refine V_aload_n dX5_requireBlock_0 rfl rfl ?_
  refine V_getR frX5_20 hL.1 rfl dX5_requireBlock_1 ?_
  refine V_iload_n dX5_requireBlock_4 rfl rfl ?_
  refine V_cv1 (ctX1_hasBlock hL.2.1.2.1 hX.1.1) mvX1_hasBlock lkX5_237 hL.2.1.2.1.1 rfl rfl rfl (Nat.le_of_ble_eq_true rfl) ⟨⟨Nat.le_of_ble_eq_true rfl, Nat.le_of_ble_eq_true rfl⟩, Nat.le_of_ble_eq_true rfl, Nat.le_of_ble_eq_true rfl⟩ dX5_requireBlock_5 ?_
  refine V_ifneB 22 dX5_requireBlock_8 (by decide) (fun h8 => absurd (h8.symm.trans hb) (by decide)) (fun h8 => ?_)
  exact V_throwSW thrIOB rfl str_324 rfl rfl rfl ⟨Nat.le_of_ble_eq_true rfl, Nat.le_of_ble_eq_true rfl⟩ (Nat.le_of_ble_eq_true rfl) (Nat.le_of_ble_eq_true rfl) dX5_requireBlock_11 dX5_requireBlock_14 dX5_requireBlock_15 dX5_requireBlock_18 dX5_requireBlock_21

theorem ctX5_requireBlock_t (hL : XL σ x) (hX : XA mi x S) (hS : SOK S) {b : Int32} (hb : inR b S.1.1 = true) : Ct κ 0 0 2 mrX5_requireBlock [.ref x, .int b] (MM σ mi ml) (.inl none) (MM σ mi ml) := by
  refine Ct.of rfl (by simp [Value.category]) (Nat.le_of_ble_eq_true rfl) ?_
  refine V_aload_n dX5_requireBlock_0 rfl rfl ?_
  refine V_getR frX5_20 hL.1 rfl dX5_requireBlock_1 ?_
  refine V_iload_n dX5_requireBlock_4 rfl rfl ?_
  refine V_cv1 (ctX1_hasBlock hL.2.1.2.1 hX.1.1) mvX1_hasBlock lkX5_237 hL.2.1.2.1.1 rfl rfl rfl (Nat.le_of_ble_eq_true rfl) ⟨⟨Nat.le_of_ble_eq_true rfl, Nat.le_of_ble_eq_true rfl⟩, Nat.le_of_ble_eq_true rfl, Nat.le_of_ble_eq_true rfl⟩ dX5_requireBlock_5 ?_
  refine V_ifneB 22 dX5_requireBlock_8 (by decide) (fun h8 => ?_) (fun h8 => absurd (h8.symm.trans hb) (by decide))
  exact V_vret rfl rfl rfl ⟨Nat.le_of_ble_eq_true rfl, Nat.le_of_ble_eq_true rfl⟩ dX5_requireBlock_22

theorem ctX5_requireAction_f (hL : XL σ x) (hX : XA mi x S) (hS : SOK S) {b k : Int32} (hb : hasAct S.1 b k = false) : Ct κ 1 6 7 mrX5_requireAction [.ref x, .int b, .int k] (MM σ mi ml) (.inr EIOB) (MM σ mi ml) := by
  refine Ct.of rfl (by simp [Value.category]) (Nat.le_of_ble_eq_true rfl) ?_
  refine V_aload_n dX5_requireAction_0 rfl rfl ?_
  refine V_getR frX5_20 hL.1 rfl dX5_requireAction_1 ?_
  refine V_iload_n dX5_requireAction_4 rfl rfl ?_
  refine V_iload_n dX5_requireAction_5 rfl rfl ?_
  refine V_cv1 (ctX1_hasAction hL.2.1.2.1 hX.1 hS.1) mvX1_hasAction lkX5_326 hL.2.1.2.1.1 rfl rfl rfl (Nat.le_of_ble_eq_true rfl) ⟨⟨Nat.le_of_ble_eq_true rfl, Nat.le_of_ble_eq_true rfl⟩, Nat.le_of_ble_eq_true rfl, Nat.le_of_ble_eq_true rfl⟩ dX5_requireAction_6 ?_
  refine V_ifneB 23 dX5_requireAction_9 (by decide) (fun h9 => absurd (h9.symm.trans hb) (by decide)) (fun h9 => ?_)
  exact V_throwSW thrIOB rfl str_329 rfl rfl rfl ⟨Nat.le_of_ble_eq_true rfl, Nat.le_of_ble_eq_true rfl⟩ (Nat.le_of_ble_eq_true rfl) (Nat.le_of_ble_eq_true rfl) dX5_requireAction_12 dX5_requireAction_15 dX5_requireAction_16 dX5_requireAction_19 dX5_requireAction_22

theorem ctX5_requireAction_t (hL : XL σ x) (hX : XA mi x S) (hS : SOK S) {b k : Int32} (hb : hasAct S.1 b k = true) : Ct κ 0 0 3 mrX5_requireAction [.ref x, .int b, .int k] (MM σ mi ml) (.inl none) (MM σ mi ml) := by
  refine Ct.of rfl (by simp [Value.category]) (Nat.le_of_ble_eq_true rfl) ?_
  refine V_aload_n dX5_requireAction_0 rfl rfl ?_
  refine V_getR frX5_20 hL.1 rfl dX5_requireAction_1 ?_
  refine V_iload_n dX5_requireAction_4 rfl rfl ?_
  refine V_iload_n dX5_requireAction_5 rfl rfl ?_
  refine V_cv1 (ctX1_hasAction hL.2.1.2.1 hX.1 hS.1) mvX1_hasAction lkX5_326 hL.2.1.2.1.1 rfl rfl rfl (Nat.le_of_ble_eq_true rfl) ⟨⟨Nat.le_of_ble_eq_true rfl, Nat.le_of_ble_eq_true rfl⟩, Nat.le_of_ble_eq_true rfl, Nat.le_of_ble_eq_true rfl⟩ dX5_requireAction_6 ?_
  refine V_ifneB 23 dX5_requireAction_9 (by decide) (fun h9 => ?_) (fun h9 => absurd (h9.symm.trans hb) (by decide))
  exact V_vret rfl rfl rfl ⟨Nat.le_of_ble_eq_true rfl, Nat.le_of_ble_eq_true rfl⟩ dX5_requireAction_23

theorem ctX5_requireVariable_f (hL : XL σ x) (hX : XA mi x S) (hS : SOK S) {v : Int32} (hv : inR v 4 = false) : Ct κ 1 6 7 mrX5_requireVariable [.ref x, .int v] (MM σ mi ml) (.inr EIOB) (MM σ mi ml) := by
  refine Ct.of rfl (by simp [Value.category]) (Nat.le_of_ble_eq_true rfl) ?_
  refine V_iload_n dX5_requireVariable_0 rfl rfl ?_
  refine V_if_lt 9 dX5_requireVariable_1 (by decide) (fun h1 => ?_) (fun h1 => ?_)
  · exact V_throwSW thrIOB rfl str_331 rfl rfl rfl ⟨Nat.le_of_ble_eq_true rfl, Nat.le_of_ble_eq_true rfl⟩ (Nat.le_of_ble_eq_true rfl) (Nat.le_of_ble_eq_true rfl) dX5_requireVariable_9 dX5_requireVariable_12 dX5_requireVariable_13 dX5_requireVariable_16 dX5_requireVariable_19
  · refine V_iload_n dX5_requireVariable_4 rfl rfl ?_
    refine V_iconst (v := nI 4) dX5_requireVariable_5 (by decide) ?_
    refine V_icmp_lt 20 dX5_requireVariable_6 (by decide) (fun h6 => absurd h6 (fun q => by rw [inR_in h1 (Int32.not_le.mpr q)] at hv; cases hv)) (fun h6 => ?_)
    exact V_throwSW thrIOB rfl str_331 rfl rfl rfl ⟨Nat.le_of_ble_eq_true rfl, Nat.le_of_ble_eq_true rfl⟩ (Nat.le_of_ble_eq_true rfl) (Nat.le_of_ble_eq_true rfl) dX5_requireVariable_9 dX5_requireVariable_12 dX5_requireVariable_13 dX5_requireVariable_16 dX5_requireVariable_19

theorem ctX5_requireVariable_t (hL : XL σ x) (hX : XA mi x S) (hS : SOK S) {v : Int32} (hv : inR v 4 = true) : Ct κ 0 0 2 mrX5_requireVariable [.ref x, .int v] (MM σ mi ml) (.inl none) (MM σ mi ml) := by
  refine Ct.of rfl (by simp [Value.category]) (Nat.le_of_ble_eq_true rfl) ?_
  refine V_iload_n dX5_requireVariable_0 rfl rfl ?_
  refine V_if_lt 9 dX5_requireVariable_1 (by decide) (fun h1 => absurd h1 (fun q => by rw [inR_lt0 q] at hv; cases hv)) (fun h1 => ?_)
  refine V_iload_n dX5_requireVariable_4 rfl rfl ?_
  refine V_iconst (v := nI 4) dX5_requireVariable_5 (by decide) ?_
  refine V_icmp_lt 20 dX5_requireVariable_6 (by decide) (fun h6 => ?_) (fun h6 => absurd (Int32.not_le.mp (fun q => by rw [inR_ge q] at hv; cases hv)) h6)
  exact V_vret rfl rfl rfl ⟨Nat.le_of_ble_eq_true rfl, Nat.le_of_ble_eq_true rfl⟩ dX5_requireVariable_20

theorem ctX5_requireReachable_f (hL : XL σ x) (hX : XA mi x S) (hS : SOK S) {b : Int32} (hb : inR b S.1.1 = false) : Ct κ 1 6 8 mrX5_requireReachable [.ref x, .int b] (MM σ mi ml) (.inr EIOB) (MM σ mi ml) := by
  refine Ct.of rfl (by simp [Value.category]) (Nat.le_of_ble_eq_true rfl) ?_
  refine V_aload_n dX5_requireReachable_0 rfl rfl ?_
  refine V_iload_n dX5_requireReachable_1 rfl rfl ?_
  refine V_callVX (ctX5_requireBlock_f hL hX hS hb) mvX5_requireBlock lkX5_132 hL.1 rfl rfl rfl (Nat.le_of_ble_eq_true rfl) ⟨⟨Nat.le_of_ble_eq_true rfl, Nat.le_of_ble_eq_true rfl⟩, Nat.le_of_ble_eq_true rfl, Nat.le_of_ble_eq_true rfl⟩ dX5_requireReachable_2 ?_
  exact VX_out rfl rfl ⟨Nat.le_of_ble_eq_true rfl, Nat.le_of_ble_eq_true rfl⟩

theorem ctX5_requireReachable_u (hL : XL σ x) (hX : XA mi x S) (hS : SOK S) {j : Nat} (hj : j < S.1.1) (hr : bp (Rc S.1 j) = false) : Ct κ 1 6 8 mrX5_requireReachable [.ref x, .int (nI j)] (MM σ mi ml) (.inr EISE) (MM σ mi ml) := by
  refine Ct.of rfl (by simp [Value.category]) (Nat.le_of_ble_eq_true rfl) ?_
  have h14 := hS.1.2.1
  have hb := inR_nI hj (by omega)
  refine V_aload_n dX5_requireReachable_0 rfl rfl ?_
  refine V_iload_n dX5_requireReachable_1 rfl rfl ?_
  refine V_cv0 (ctX5_requireBlock_t hL hX hS hb) mvX5_requireBlock lkX5_132 hL.1 rfl rfl rfl (Nat.le_of_ble_eq_true rfl) ⟨⟨Nat.le_of_ble_eq_true rfl, Nat.le_of_ble_eq_true rfl⟩, Nat.le_of_ble_eq_true rfl, Nat.le_of_ble_eq_true rfl⟩ dX5_requireReachable_2 ?_
  refine V_aload_n dX5_requireReachable_5 rfl rfl ?_
  refine V_getR frX5_10 hL.1 rfl dX5_requireReachable_6 ?_
  refine V_getE frX5_180 hL.2.1.1 rfl hX.2.1.1.2.1 dX5_requireReachable_9 ?_
  refine V_iload_n dX5_requireReachable_12 rfl rfl ?_
  refine V_cs1 (ctX5_hasM (by omega)) msX5_has lkX5_183 rfl rfl (Nat.le_of_ble_eq_true rfl) ⟨⟨Nat.le_of_ble_eq_true rfl, Nat.le_of_ble_eq_true rfl⟩, Nat.le_of_ble_eq_true rfl, Nat.le_of_ble_eq_true rfl⟩ dX5_requireReachable_13 ?_
  refine V_ifneB 30 dX5_requireReachable_16 (by decide) (fun h16 => absurd (h16.symm.trans hr) (by decide)) (fun h16 => ?_)
  exact V_throwSW thrISE rfl str_333 rfl rfl rfl ⟨Nat.le_of_ble_eq_true rfl, Nat.le_of_ble_eq_true rfl⟩ (Nat.le_of_ble_eq_true rfl) (Nat.le_of_ble_eq_true rfl) dX5_requireReachable_19 dX5_requireReachable_22 dX5_requireReachable_23 dX5_requireReachable_26 dX5_requireReachable_29

theorem ctX5_requireReachable_t (hL : XL σ x) (hX : XA mi x S) (hS : SOK S) {j : Nat} (hr : Rc S.1 j) : Ct κ 0 0 3 mrX5_requireReachable [.ref x, .int (nI j)] (MM σ mi ml) (.inl none) (MM σ mi ml) := by
  refine Ct.of rfl (by simp [Value.category]) (Nat.le_of_ble_eq_true rfl) ?_
  have h14 := hS.1.2.1
  have hb := inR_nI (hr.lt hS.1) (by omega)
  refine V_aload_n dX5_requireReachable_0 rfl rfl ?_
  refine V_iload_n dX5_requireReachable_1 rfl rfl ?_
  refine V_cv0 (ctX5_requireBlock_t hL hX hS hb) mvX5_requireBlock lkX5_132 hL.1 rfl rfl rfl (Nat.le_of_ble_eq_true rfl) ⟨⟨Nat.le_of_ble_eq_true rfl, Nat.le_of_ble_eq_true rfl⟩, Nat.le_of_ble_eq_true rfl, Nat.le_of_ble_eq_true rfl⟩ dX5_requireReachable_2 ?_
  refine V_aload_n dX5_requireReachable_5 rfl rfl ?_
  refine V_getR frX5_10 hL.1 rfl dX5_requireReachable_6 ?_
  refine V_getE frX5_180 hL.2.1.1 rfl hX.2.1.1.2.1 dX5_requireReachable_9 ?_
  refine V_iload_n dX5_requireReachable_12 rfl rfl ?_
  refine V_cs1 (ctX5_hasM (hr.lt14 hS.1)) msX5_has lkX5_183 rfl rfl (Nat.le_of_ble_eq_true rfl) ⟨⟨Nat.le_of_ble_eq_true rfl, Nat.le_of_ble_eq_true rfl⟩, Nat.le_of_ble_eq_true rfl, Nat.le_of_ble_eq_true rfl⟩ dX5_requireReachable_13 ?_
  refine V_ifneB 30 dX5_requireReachable_16 (by decide) (fun h16 => ?_) (fun h16 => absurd (h16.symm.trans (bp_pos hr)) (by decide))
  exact V_vret rfl rfl rfl ⟨Nat.le_of_ble_eq_true rfl, Nat.le_of_ble_eq_true rfl⟩ dX5_requireReachable_30

theorem ctX5_requireMerge_v (hL : XL σ x) (hX : XA mi x S) (hS : SOK S) {b v : Int32} (hv : inR v 4 = false) : Ct κ 1 6 9 mrX5_requireMerge [.ref x, .int b, .int v] (MM σ mi ml) (.inr EIOB) (MM σ mi ml) := by
  refine Ct.of rfl (by simp [Value.category]) (Nat.le_of_ble_eq_true rfl) ?_
  refine V_aload_n dX5_requireMerge_0 rfl rfl ?_
  refine V_iload_n dX5_requireMerge_1 rfl rfl ?_
  refine V_callVX (ctX5_requireVariable_f hL hX hS hv) mvX5_requireVariable lkX5_203 hL.1 rfl rfl rfl (Nat.le_of_ble_eq_true rfl) ⟨⟨Nat.le_of_ble_eq_true rfl, Nat.le_of_ble_eq_true rfl⟩, Nat.le_of_ble_eq_true rfl, Nat.le_of_ble_eq_true rfl⟩ dX5_requireMerge_2 ?_
  exact VX_out rfl rfl ⟨Nat.le_of_ble_eq_true rfl, Nat.le_of_ble_eq_true rfl⟩

theorem ctX5_requireMerge_b (hL : XL σ x) (hX : XA mi x S) (hS : SOK S) {b v : Int32} (hv : inR v 4 = true) (hb : inR b S.1.1 = false) : Ct κ 1 6 9 mrX5_requireMerge [.ref x, .int b, .int v] (MM σ mi ml) (.inr EIOB) (MM σ mi ml) := by
  refine Ct.of rfl (by simp [Value.category]) (Nat.le_of_ble_eq_true rfl) ?_
  refine V_aload_n dX5_requireMerge_0 rfl rfl ?_
  refine V_iload_n dX5_requireMerge_1 rfl rfl ?_
  refine V_cv0 (ctX5_requireVariable_t hL hX hS hv) mvX5_requireVariable lkX5_203 hL.1 rfl rfl rfl (Nat.le_of_ble_eq_true rfl) ⟨⟨Nat.le_of_ble_eq_true rfl, Nat.le_of_ble_eq_true rfl⟩, Nat.le_of_ble_eq_true rfl, Nat.le_of_ble_eq_true rfl⟩ dX5_requireMerge_2 ?_
  refine V_aload_n dX5_requireMerge_5 rfl rfl ?_
  refine V_iload_n dX5_requireMerge_6 rfl rfl ?_
  refine V_callVX (ctX5_requireReachable_f hL hX hS hb) mvX5_requireReachable lkX5_186 hL.1 rfl rfl rfl (Nat.le_of_ble_eq_true rfl) ⟨⟨Nat.le_of_ble_eq_true rfl, Nat.le_of_ble_eq_true rfl⟩, Nat.le_of_ble_eq_true rfl, Nat.le_of_ble_eq_true rfl⟩ dX5_requireMerge_7 ?_
  exact VX_out rfl rfl ⟨Nat.le_of_ble_eq_true rfl, Nat.le_of_ble_eq_true rfl⟩

theorem ctX5_requireMerge_u (hL : XL σ x) (hX : XA mi x S) (hS : SOK S) {j : Nat} {v : Int32} (hv : inR v 4 = true) (hj : j < S.1.1) (hr : bp (Rc S.1 j) = false) : Ct κ 1 6 9 mrX5_requireMerge [.ref x, .int (nI j), .int v] (MM σ mi ml) (.inr EISE) (MM σ mi ml) := by
  refine Ct.of rfl (by simp [Value.category]) (Nat.le_of_ble_eq_true rfl) ?_
  refine V_aload_n dX5_requireMerge_0 rfl rfl ?_
  refine V_iload_n dX5_requireMerge_1 rfl rfl ?_
  refine V_cv0 (ctX5_requireVariable_t hL hX hS hv) mvX5_requireVariable lkX5_203 hL.1 rfl rfl rfl (Nat.le_of_ble_eq_true rfl) ⟨⟨Nat.le_of_ble_eq_true rfl, Nat.le_of_ble_eq_true rfl⟩, Nat.le_of_ble_eq_true rfl, Nat.le_of_ble_eq_true rfl⟩ dX5_requireMerge_2 ?_
  refine V_aload_n dX5_requireMerge_5 rfl rfl ?_
  refine V_iload_n dX5_requireMerge_6 rfl rfl ?_
  refine V_callVX (ctX5_requireReachable_u hL hX hS hj hr) mvX5_requireReachable lkX5_186 hL.1 rfl rfl rfl (Nat.le_of_ble_eq_true rfl) ⟨⟨Nat.le_of_ble_eq_true rfl, Nat.le_of_ble_eq_true rfl⟩, Nat.le_of_ble_eq_true rfl, Nat.le_of_ble_eq_true rfl⟩ dX5_requireMerge_7 ?_
  exact VX_out rfl rfl ⟨Nat.le_of_ble_eq_true rfl, Nat.le_of_ble_eq_true rfl⟩

theorem ctX5_requireMerge_n (hL : XL σ x) (hX : XA mi x S) (hS : SOK S) {j i : Nat} (hi : i < 4) (hr : Rc S.1 j) (hm : bp (PM S.1 i j) = false) : Ct κ 1 6 9 mrX5_requireMerge [.ref x, .int (nI j), .int (nI i)] (MM σ mi ml) (.inr ENSE) (MM σ mi ml) := by
  refine Ct.of rfl (by simp [Value.category]) (Nat.le_of_ble_eq_true rfl) ?_
  have hv := inR_nI hi (by omega)
  have h14 := hr.lt14 hS.1
  refine V_aload_n dX5_requireMerge_0 rfl rfl ?_
  refine V_iload_n dX5_requireMerge_1 rfl rfl ?_
  refine V_cv0 (ctX5_requireVariable_t hL hX hS hv) mvX5_requireVariable lkX5_203 hL.1 rfl rfl rfl (Nat.le_of_ble_eq_true rfl) ⟨⟨Nat.le_of_ble_eq_true rfl, Nat.le_of_ble_eq_true rfl⟩, Nat.le_of_ble_eq_true rfl, Nat.le_of_ble_eq_true rfl⟩ dX5_requireMerge_2 ?_
  refine V_aload_n dX5_requireMerge_5 rfl rfl ?_
  refine V_iload_n dX5_requireMerge_6 rfl rfl ?_
  refine V_cv0 (ctX5_requireReachable_t hL hX hS hr) mvX5_requireReachable lkX5_186 hL.1 rfl rfl rfl (Nat.le_of_ble_eq_true rfl) ⟨⟨Nat.le_of_ble_eq_true rfl, Nat.le_of_ble_eq_true rfl⟩, Nat.le_of_ble_eq_true rfl, Nat.le_of_ble_eq_true rfl⟩ dX5_requireMerge_7 ?_
  refine V_aload_n dX5_requireMerge_10 rfl rfl ?_
  refine V_getR frX5_10 hL.1 rfl dX5_requireMerge_11 ?_
  refine V_getR frX5_212 hL.2.1.1 rfl dX5_requireMerge_14 ?_
  refine V_iload_n dX5_requireMerge_17 rfl rfl ?_
  refine V_ialdE hL.2.1.2.2.2.2.2.2.2.2.2.2.2.1 i rfl hi (by decide) ((hX.2.1.2.2 i hi).2.2.2) dX5_requireMerge_18 ?_
  refine V_iload_n dX5_requireMerge_19 rfl rfl ?_
  refine V_cs1 (ctX5_hasM h14) msX5_has lkX5_183 rfl rfl (Nat.le_of_ble_eq_true rfl) ⟨⟨Nat.le_of_ble_eq_true rfl, Nat.le_of_ble_eq_true rfl⟩, Nat.le_of_ble_eq_true rfl, Nat.le_of_ble_eq_true rfl⟩ dX5_requireMerge_20 ?_
  refine V_ifneB 37 dX5_requireMerge_23 (by decide) (fun h23 => absurd (h23.symm.trans hm) (by decide)) (fun h23 => ?_)
  exact V_throwXW nse0 nse1 nse2 nse5 thrNSE rfl str_335 rfl rfl rfl ⟨Nat.le_of_ble_eq_true rfl, Nat.le_of_ble_eq_true rfl⟩ (Nat.le_of_ble_eq_true rfl) (Nat.le_of_ble_eq_true rfl) dX5_requireMerge_26 dX5_requireMerge_29 dX5_requireMerge_30 dX5_requireMerge_33 dX5_requireMerge_36

theorem ctX5_requireMerge_t (hL : XL σ x) (hX : XA mi x S) (hS : SOK S) {j i : Nat} (hi : i < 4) (hr : Rc S.1 j) (hm : bp (PM S.1 i j) = true) : Ct κ 0 0 4 mrX5_requireMerge [.ref x, .int (nI j), .int (nI i)] (MM σ mi ml) (.inl none) (MM σ mi ml) := by
  refine Ct.of rfl (by simp [Value.category]) (Nat.le_of_ble_eq_true rfl) ?_
  have hv := inR_nI hi (by omega)
  have h14 := hr.lt14 hS.1
  refine V_aload_n dX5_requireMerge_0 rfl rfl ?_
  refine V_iload_n dX5_requireMerge_1 rfl rfl ?_
  refine V_cv0 (ctX5_requireVariable_t hL hX hS hv) mvX5_requireVariable lkX5_203 hL.1 rfl rfl rfl (Nat.le_of_ble_eq_true rfl) ⟨⟨Nat.le_of_ble_eq_true rfl, Nat.le_of_ble_eq_true rfl⟩, Nat.le_of_ble_eq_true rfl, Nat.le_of_ble_eq_true rfl⟩ dX5_requireMerge_2 ?_
  refine V_aload_n dX5_requireMerge_5 rfl rfl ?_
  refine V_iload_n dX5_requireMerge_6 rfl rfl ?_
  refine V_cv0 (ctX5_requireReachable_t hL hX hS hr) mvX5_requireReachable lkX5_186 hL.1 rfl rfl rfl (Nat.le_of_ble_eq_true rfl) ⟨⟨Nat.le_of_ble_eq_true rfl, Nat.le_of_ble_eq_true rfl⟩, Nat.le_of_ble_eq_true rfl, Nat.le_of_ble_eq_true rfl⟩ dX5_requireMerge_7 ?_
  refine V_aload_n dX5_requireMerge_10 rfl rfl ?_
  refine V_getR frX5_10 hL.1 rfl dX5_requireMerge_11 ?_
  refine V_getR frX5_212 hL.2.1.1 rfl dX5_requireMerge_14 ?_
  refine V_iload_n dX5_requireMerge_17 rfl rfl ?_
  refine V_ialdE hL.2.1.2.2.2.2.2.2.2.2.2.2.2.1 i rfl hi (by decide) ((hX.2.1.2.2 i hi).2.2.2) dX5_requireMerge_18 ?_
  refine V_iload_n dX5_requireMerge_19 rfl rfl ?_
  refine V_cs1 (ctX5_hasM h14) msX5_has lkX5_183 rfl rfl (Nat.le_of_ble_eq_true rfl) ⟨⟨Nat.le_of_ble_eq_true rfl, Nat.le_of_ble_eq_true rfl⟩, Nat.le_of_ble_eq_true rfl, Nat.le_of_ble_eq_true rfl⟩ dX5_requireMerge_20 ?_
  refine V_ifneB 37 dX5_requireMerge_23 (by decide) (fun h23 => ?_) (fun h23 => absurd (h23.symm.trans hm) (by decide))
  exact V_vret rfl rfl rfl ⟨Nat.le_of_ble_eq_true rfl, Nat.le_of_ble_eq_true rfl⟩ dX5_requireMerge_37

theorem ctX5_actionCount (hL : XL σ x) (hX : XA mi x S) (hS : SOK S) {b : Int32} : CtP κ 1 6 12 mrX5_actionCount [.ref x, .int b] (MM σ mi ml) (XR σ mi ml x [EIOB] (rs_actionCount S b)) := by
  have hq := XQ (ml := ml) (σ := σ) hX
  have hw := hS.1
  have h14 := hw.2.1
  cases hb : inR b S.1.1 with
  | false =>
    rw [show rs_actionCount S b = (1, 0, S) from by unfold rs_actionCount; rw [if_pos hb]]
    refine CtP.of rfl (by simp [Value.category]) (Nat.le_of_ble_eq_true rfl) ?_
    refine V_aload_n dX5_actionCount_0 rfl rfl ?_
    refine V_iload_n dX5_actionCount_1 rfl rfl ?_
    refine V_callVX (ctX5_requireBlock_f hL hX hS hb) mvX5_requireBlock lkX5_132 hL.1 rfl rfl rfl (Nat.le_of_ble_eq_true rfl) ⟨⟨Nat.le_of_ble_eq_true rfl, Nat.le_of_ble_eq_true rfl⟩, Nat.le_of_ble_eq_true rfl, Nat.le_of_ble_eq_true rfl⟩ dX5_actionCount_2 ?_
    exact VX_outP ⟨rfl, hq⟩ ⟨Nat.le_of_ble_eq_true rfl, Nat.le_of_ble_eq_true rfl⟩

  | true =>
    obtain ⟨j, hj, rfl⟩ := inR_t (by omega) hb
    have tj := tn_nI (show j < 2 ^ 31 by omega)
    rw [show rs_actionCount S (nI j) = (0, nI (S.1.2.1 j).length, S) from by unfold rs_actionCount; rw [tj, if_neg (by rw [hb]; decide)]]
    refine CtP.of rfl (by simp [Value.category]) (Nat.le_of_ble_eq_true rfl) ?_
    refine V_aload_n dX5_actionCount_0 rfl rfl ?_
    refine V_iload_n dX5_actionCount_1 rfl rfl ?_
    refine V_cv0 (ctX5_requireBlock_t hL hX hS hb) mvX5_requireBlock lkX5_132 hL.1 rfl rfl rfl (Nat.le_of_ble_eq_true rfl) ⟨⟨Nat.le_of_ble_eq_true rfl, Nat.le_of_ble_eq_true rfl⟩, Nat.le_of_ble_eq_true rfl, Nat.le_of_ble_eq_true rfl⟩ dX5_actionCount_2 ?_
    refine V_aload_n dX5_actionCount_5 rfl rfl ?_
    refine V_getR frX5_20 hL.1 rfl dX5_actionCount_6 ?_
    refine V_getR frX5_128 hL.2.1.2.1.1 rfl dX5_actionCount_9 ?_
    refine V_iload_n dX5_actionCount_12 rfl rfl ?_
    refine V_ialdE hL.2.1.2.1.2.1 j rfl (by omega) (by decide) ((hX.1.2 j (by omega)).1) dX5_actionCount_13 ?_
    exact V_iretP rfl ⟨rfl, hq⟩ ⟨Nat.le_of_ble_eq_true rfl, Nat.le_of_ble_eq_true rfl⟩ dX5_actionCount_14

theorem ctX5_edgeCount (hL : XL σ x) (hX : XA mi x S) (hS : SOK S) {b : Int32} : CtP κ 1 6 12 mrX5_edgeCount [.ref x, .int b] (MM σ mi ml) (XR σ mi ml x [EIOB] (rs_edgeCount S b)) := by
  have hq := XQ (ml := ml) (σ := σ) hX
  have hw := hS.1
  have h14 := hw.2.1
  cases hb : inR b S.1.1 with
  | false =>
    rw [show rs_edgeCount S b = (1, 0, S) from by unfold rs_edgeCount; rw [if_pos hb]]
    refine CtP.of rfl (by simp [Value.category]) (Nat.le_of_ble_eq_true rfl) ?_
    refine V_aload_n dX5_edgeCount_0 rfl rfl ?_
    refine V_iload_n dX5_edgeCount_1 rfl rfl ?_
    refine V_callVX (ctX5_requireBlock_f hL hX hS hb) mvX5_requireBlock lkX5_132 hL.1 rfl rfl rfl (Nat.le_of_ble_eq_true rfl) ⟨⟨Nat.le_of_ble_eq_true rfl, Nat.le_of_ble_eq_true rfl⟩, Nat.le_of_ble_eq_true rfl, Nat.le_of_ble_eq_true rfl⟩ dX5_edgeCount_2 ?_
    exact VX_outP ⟨rfl, hq⟩ ⟨Nat.le_of_ble_eq_true rfl, Nat.le_of_ble_eq_true rfl⟩

  | true =>
    obtain ⟨j, hj, rfl⟩ := inR_t (by omega) hb
    have tj := tn_nI (show j < 2 ^ 31 by omega)
    rw [show rs_edgeCount S (nI j) = (0, nI (S.1.2.2 j).length, S) from by unfold rs_edgeCount; rw [tj, if_neg (by rw [hb]; decide)]]
    refine CtP.of rfl (by simp [Value.category]) (Nat.le_of_ble_eq_true rfl) ?_
    refine V_aload_n dX5_edgeCount_0 rfl rfl ?_
    refine V_iload_n dX5_edgeCount_1 rfl rfl ?_
    refine V_cv0 (ctX5_requireBlock_t hL hX hS hb) mvX5_requireBlock lkX5_132 hL.1 rfl rfl rfl (Nat.le_of_ble_eq_true rfl) ⟨⟨Nat.le_of_ble_eq_true rfl, Nat.le_of_ble_eq_true rfl⟩, Nat.le_of_ble_eq_true rfl, Nat.le_of_ble_eq_true rfl⟩ dX5_edgeCount_2 ?_
    refine V_aload_n dX5_edgeCount_5 rfl rfl ?_
    refine V_getR frX5_20 hL.1 rfl dX5_edgeCount_6 ?_
    refine V_getR frX5_141 hL.2.1.2.1.1 rfl dX5_edgeCount_9 ?_
    refine V_iload_n dX5_edgeCount_12 rfl rfl ?_
    refine V_ialdE hL.2.1.2.1.2.2.1 j rfl (by omega) (by decide) ((hX.1.2 j (by omega)).2.1) dX5_edgeCount_13 ?_
    exact V_iretP rfl ⟨rfl, hq⟩ ⟨Nat.le_of_ble_eq_true rfl, Nat.le_of_ble_eq_true rfl⟩ dX5_edgeCount_14

theorem ctX5_isReachable (hL : XL σ x) (hX : XA mi x S) (hS : SOK S) {b : Int32} : CtP κ 1 6 12 mrX5_isReachable [.ref x, .int b] (MM σ mi ml) (XR σ mi ml x [EIOB] (rs_isReachable S b)) := by
  have hq := XQ (ml := ml) (σ := σ) hX
  have hw := hS.1
  have h14 := hw.2.1
  cases hb : inR b S.1.1 with
  | false =>
    rw [show rs_isReachable S b = (1, 0, S) from by unfold rs_isReachable; rw [if_pos hb]]
    refine CtP.of rfl (by simp [Value.category]) (Nat.le_of_ble_eq_true rfl) ?_
    refine V_aload_n dX5_isReachable_0 rfl rfl ?_
    refine V_iload_n dX5_isReachable_1 rfl rfl ?_
    refine V_callVX (ctX5_requireBlock_f hL hX hS hb) mvX5_requireBlock lkX5_132 hL.1 rfl rfl rfl (Nat.le_of_ble_eq_true rfl) ⟨⟨Nat.le_of_ble_eq_true rfl, Nat.le_of_ble_eq_true rfl⟩, Nat.le_of_ble_eq_true rfl, Nat.le_of_ble_eq_true rfl⟩ dX5_isReachable_2 ?_
    exact VX_outP ⟨rfl, hq⟩ ⟨Nat.le_of_ble_eq_true rfl, Nat.le_of_ble_eq_true rfl⟩

  | true =>
    obtain ⟨j, hj, rfl⟩ := inR_t (by omega) hb
    have tj := tn_nI (show j < 2 ^ 31 by omega)
    rw [show rs_isReachable S (nI j) = (0, bI (bp (Rc S.1 j)), S) from by unfold rs_isReachable; rw [tj, if_neg (by rw [hb]; decide)]]
    refine CtP.of rfl (by simp [Value.category]) (Nat.le_of_ble_eq_true rfl) ?_
    refine V_aload_n dX5_isReachable_0 rfl rfl ?_
    refine V_iload_n dX5_isReachable_1 rfl rfl ?_
    refine V_cv0 (ctX5_requireBlock_t hL hX hS hb) mvX5_requireBlock lkX5_132 hL.1 rfl rfl rfl (Nat.le_of_ble_eq_true rfl) ⟨⟨Nat.le_of_ble_eq_true rfl, Nat.le_of_ble_eq_true rfl⟩, Nat.le_of_ble_eq_true rfl, Nat.le_of_ble_eq_true rfl⟩ dX5_isReachable_2 ?_
    refine V_aload_n dX5_isReachable_5 rfl rfl ?_
    refine V_getR frX5_10 hL.1 rfl dX5_isReachable_6 ?_
    refine V_getE frX5_180 hL.2.1.1 rfl hX.2.1.1.2.1 dX5_isReachable_9 ?_
    refine V_iload_n dX5_isReachable_12 rfl rfl ?_
    refine V_cs1 (ctX5_hasM (by omega)) msX5_has lkX5_183 rfl rfl (Nat.le_of_ble_eq_true rfl) ⟨⟨Nat.le_of_ble_eq_true rfl, Nat.le_of_ble_eq_true rfl⟩, Nat.le_of_ble_eq_true rfl, Nat.le_of_ble_eq_true rfl⟩ dX5_isReachable_13 ?_
    exact V_zretP rfl (bI_nar _) ⟨rfl, hq⟩ ⟨Nat.le_of_ble_eq_true rfl, Nat.le_of_ble_eq_true rfl⟩ dX5_isReachable_16

theorem ctX5_action (hL : XL σ x) (hX : XA mi x S) (hS : SOK S) {b k : Int32} : CtP κ 1 6 12 mrX5_action [.ref x, .int b, .int k] (MM σ mi ml) (XR σ mi ml x [EIOB] (rs_action S b k)) := by
  have hq := XQ (ml := ml) (σ := σ) hX
  have hw := hS.1
  have h14 := hw.2.1
  cases hb : hasAct S.1 b k with
  | false =>
    rw [show rs_action S b k = (1, 0, S) from by unfold rs_action; rw [if_pos hb]]
    refine CtP.of rfl (by simp [Value.category]) (Nat.le_of_ble_eq_true rfl) ?_
    refine V_aload_n dX5_action_0 rfl rfl ?_
    refine V_iload_n dX5_action_1 rfl rfl ?_
    refine V_iload_n dX5_action_2 rfl rfl ?_
    refine V_callVX (ctX5_requireAction_f hL hX hS hb) mvX5_requireAction lkX5_121 hL.1 rfl rfl rfl (Nat.le_of_ble_eq_true rfl) ⟨⟨Nat.le_of_ble_eq_true rfl, Nat.le_of_ble_eq_true rfl⟩, Nat.le_of_ble_eq_true rfl, Nat.le_of_ble_eq_true rfl⟩ dX5_action_3 ?_
    exact VX_outP ⟨rfl, hq⟩ ⟨Nat.le_of_ble_eq_true rfl, Nat.le_of_ble_eq_true rfl⟩

  | true =>
    obtain ⟨j, i, hj, hi, rfl, rfl⟩ := hasAct_t hw hb
    have h6 := (hw.2.2.1 j).1
    have tj := tn_nI (show j < 2 ^ 31 by omega)
    have ti := tn_nI (show i < 2 ^ 31 by omega)
    rw [show rs_action S (nI j) (nI i) = (0, nI ((S.1.2.1 j).getD i 0), S) from by unfold rs_action; rw [tj, ti, if_neg (by rw [hb]; decide)]]
    refine CtP.of rfl (by simp [Value.category]) (Nat.le_of_ble_eq_true rfl) ?_
    refine V_aload_n dX5_action_0 rfl rfl ?_
    refine V_iload_n dX5_action_1 rfl rfl ?_
    refine V_iload_n dX5_action_2 rfl rfl ?_
    refine V_cv0 (ctX5_requireAction_t hL hX hS hb) mvX5_requireAction lkX5_121 hL.1 rfl rfl rfl (Nat.le_of_ble_eq_true rfl) ⟨⟨Nat.le_of_ble_eq_true rfl, Nat.le_of_ble_eq_true rfl⟩, Nat.le_of_ble_eq_true rfl, Nat.le_of_ble_eq_true rfl⟩ dX5_action_3 ?_
    refine V_aload_n dX5_action_6 rfl rfl ?_
    refine V_getR frX5_20 hL.1 rfl dX5_action_7 ?_
    refine V_iload_n dX5_action_10 rfl rfl ?_
    refine V_iload_n dX5_action_11 rfl rfl ?_
    refine V_cv1 (ctX1_actionAt hL.2.1.2.1 (by omega) (by omega)) mvX1_actionAt lkX5_165 hL.2.1.2.1.1 rfl rfl rfl (Nat.le_of_ble_eq_true rfl) ⟨⟨Nat.le_of_ble_eq_true rfl, Nat.le_of_ble_eq_true rfl⟩, Nat.le_of_ble_eq_true rfl, Nat.le_of_ble_eq_true rfl⟩ dX5_action_12 ?_
    refine V_top ((hX.1.2 j (by omega)).2.2.1 i hi) ?_
    exact V_iretP rfl ⟨rfl, hq⟩ ⟨Nat.le_of_ble_eq_true rfl, Nat.le_of_ble_eq_true rfl⟩ dX5_action_15

theorem ctX5_target (hL : XL σ x) (hX : XA mi x S) (hS : SOK S) {b k : Int32} : CtP κ 1 6 12 mrX5_target [.ref x, .int b, .int k] (MM σ mi ml) (XR σ mi ml x [EIOB] (rs_target S b k)) := by
  have hq := XQ (ml := ml) (σ := σ) hX
  have hw := hS.1
  have h14 := hw.2.1
  cases hb : hasEdg S.1 b k with
  | false =>
    rw [show rs_target S b k = (1, 0, S) from by unfold rs_target; rw [if_pos hb]]
    refine CtP.of rfl (by simp [Value.category]) (Nat.le_of_ble_eq_true rfl) ?_
    refine V_aload_n dX5_target_0 rfl rfl ?_
    refine V_getR frX5_20 hL.1 rfl dX5_target_1 ?_
    refine V_iload_n dX5_target_4 rfl rfl ?_
    refine V_iload_n dX5_target_5 rfl rfl ?_
    refine V_cv1 (ctX1_hasEdge hL.2.1.2.1 hX.1 hS.1) mvX1_hasEdge lkX5_168 hL.2.1.2.1.1 rfl rfl rfl (Nat.le_of_ble_eq_true rfl) ⟨⟨Nat.le_of_ble_eq_true rfl, Nat.le_of_ble_eq_true rfl⟩, Nat.le_of_ble_eq_true rfl, Nat.le_of_ble_eq_true rfl⟩ dX5_target_6 ?_
    refine V_ifneB 22 dX5_target_9 (by decide) (fun h9 => absurd (h9.symm.trans hb) (by decide)) (fun h9 => ?_)
    refine V_thrP ⟨rfl, hq⟩ ?_
    exact V_throwS thrIOB rfl str_174 rfl rfl rfl ⟨Nat.le_of_ble_eq_true rfl, Nat.le_of_ble_eq_true rfl⟩ (Nat.le_of_ble_eq_true rfl) (Nat.le_of_ble_eq_true rfl) dX5_target_12 dX5_target_15 dX5_target_16 dX5_target_18 dX5_target_21

  | true =>
    obtain ⟨j, i, hj, hi, rfl, rfl⟩ := hasEdg_t hw hb
    have h6 := (hw.2.2.2.1 j).1
    have tj := tn_nI (show j < 2 ^ 31 by omega)
    have ti := tn_nI (show i < 2 ^ 31 by omega)
    rw [show rs_target S (nI j) (nI i) = (0, nI ((S.1.2.2 j).getD i 0), S) from by unfold rs_target; rw [tj, ti, if_neg (by rw [hb]; decide)]]
    refine CtP.of rfl (by simp [Value.category]) (Nat.le_of_ble_eq_true rfl) ?_
    refine V_aload_n dX5_target_0 rfl rfl ?_
    refine V_getR frX5_20 hL.1 rfl dX5_target_1 ?_
    refine V_iload_n dX5_target_4 rfl rfl ?_
    refine V_iload_n dX5_target_5 rfl rfl ?_
    refine V_cv1 (ctX1_hasEdge hL.2.1.2.1 hX.1 hS.1) mvX1_hasEdge lkX5_168 hL.2.1.2.1.1 rfl rfl rfl (Nat.le_of_ble_eq_true rfl) ⟨⟨Nat.le_of_ble_eq_true rfl, Nat.le_of_ble_eq_true rfl⟩, Nat.le_of_ble_eq_true rfl, Nat.le_of_ble_eq_true rfl⟩ dX5_target_6 ?_
    refine V_ifneB 22 dX5_target_9 (by decide) (fun h9 => ?_) (fun h9 => absurd (h9.symm.trans hb) (by decide))
    refine V_aload_n dX5_target_22 rfl rfl ?_
    refine V_getR frX5_20 hL.1 rfl dX5_target_23 ?_
    refine V_iload_n dX5_target_26 rfl rfl ?_
    refine V_iload_n dX5_target_27 rfl rfl ?_
    refine V_cv1 (ctX1_targetAt hL.2.1.2.1 (by omega) (by omega)) mvX1_targetAt lkX5_177 hL.2.1.2.1.1 rfl rfl rfl (Nat.le_of_ble_eq_true rfl) ⟨⟨Nat.le_of_ble_eq_true rfl, Nat.le_of_ble_eq_true rfl⟩, Nat.le_of_ble_eq_true rfl, Nat.le_of_ble_eq_true rfl⟩ dX5_target_28 ?_
    refine V_top ((hX.1.2 j (by omega)).2.2.2 i hi) ?_
    exact V_iretP rfl ⟨rfl, hq⟩ ⟨Nat.le_of_ble_eq_true rfl, Nat.le_of_ble_eq_true rfl⟩ dX5_target_31

theorem ctX5_predecessors (hL : XL σ x) (hX : XA mi x S) (hS : SOK S) {b : Int32} : CtP κ 1 6 12 mrX5_predecessors [.ref x, .int b] (MM σ mi ml) (XR σ mi ml x [EIOB, EISE] (rs_predecessors S b)) := by
  have hq := XQ (ml := ml) (σ := σ) hX
  have hw := hS.1
  have h14 := hw.2.1
  cases hb : inR b S.1.1 with
  | false =>
    rw [show rs_predecessors S b = (1, 0, S) from by unfold rs_predecessors; rw [if_pos hb]]
    refine CtP.of rfl (by simp [Value.category]) (Nat.le_of_ble_eq_true rfl) ?_
    refine V_aload_n dX5_predecessors_0 rfl rfl ?_
    refine V_iload_n dX5_predecessors_1 rfl rfl ?_
    refine V_callVX (ctX5_requireReachable_f hL hX hS hb) mvX5_requireReachable lkX5_186 hL.1 rfl rfl rfl (Nat.le_of_ble_eq_true rfl) ⟨⟨Nat.le_of_ble_eq_true rfl, Nat.le_of_ble_eq_true rfl⟩, Nat.le_of_ble_eq_true rfl, Nat.le_of_ble_eq_true rfl⟩ dX5_predecessors_2 ?_
    exact VX_outP ⟨rfl, hq⟩ ⟨Nat.le_of_ble_eq_true rfl, Nat.le_of_ble_eq_true rfl⟩

  | true =>
    obtain ⟨j, hj, rfl⟩ := inR_t (by omega) hb
    have tj := tn_nI (show j < 2 ^ 31 by omega)
    cases hr : bp (Rc S.1 j) with
    | false =>
      rw [show rs_predecessors S (nI j) = (2, 0, S) from by unfold rs_predecessors; rw [tj, if_neg (by rw [hb]; decide), if_pos hr]]
      refine CtP.of rfl (by simp [Value.category]) (Nat.le_of_ble_eq_true rfl) ?_
      refine V_aload_n dX5_predecessors_0 rfl rfl ?_
      refine V_iload_n dX5_predecessors_1 rfl rfl ?_
      refine V_callVX (ctX5_requireReachable_u hL hX hS hj hr) mvX5_requireReachable lkX5_186 hL.1 rfl rfl rfl (Nat.le_of_ble_eq_true rfl) ⟨⟨Nat.le_of_ble_eq_true rfl, Nat.le_of_ble_eq_true rfl⟩, Nat.le_of_ble_eq_true rfl, Nat.le_of_ble_eq_true rfl⟩ dX5_predecessors_2 ?_
      exact VX_outP ⟨rfl, hq⟩ ⟨Nat.le_of_ble_eq_true rfl, Nat.le_of_ble_eq_true rfl⟩

    | true =>
      have hR := bp_t.mp hr
      rw [show rs_predecessors S (nI j) = (0, msk (fun p => bp (Pd S.1 p j)), S) from by unfold rs_predecessors; rw [tj, if_neg (by rw [hb]; decide), if_neg (by rw [hr]; decide)]]
      refine CtP.of rfl (by simp [Value.category]) (Nat.le_of_ble_eq_true rfl) ?_
      refine V_aload_n dX5_predecessors_0 rfl rfl ?_
      refine V_iload_n dX5_predecessors_1 rfl rfl ?_
      refine V_cv0 (ctX5_requireReachable_t hL hX hS hR) mvX5_requireReachable lkX5_186 hL.1 rfl rfl rfl (Nat.le_of_ble_eq_true rfl) ⟨⟨Nat.le_of_ble_eq_true rfl, Nat.le_of_ble_eq_true rfl⟩, Nat.le_of_ble_eq_true rfl, Nat.le_of_ble_eq_true rfl⟩ dX5_predecessors_2 ?_
      refine V_aload_n dX5_predecessors_5 rfl rfl ?_
      refine V_getR frX5_10 hL.1 rfl dX5_predecessors_6 ?_
      refine V_getR frX5_189 hL.2.1.1 rfl dX5_predecessors_9 ?_
      refine V_iload_n dX5_predecessors_12 rfl rfl ?_
      refine V_ialdE hL.2.1.2.2.2.1 j rfl (by omega) (by decide) (hX.2.1.1.2.2 j (by omega)) dX5_predecessors_13 ?_
      exact V_iretP rfl ⟨rfl, hq⟩ ⟨Nat.le_of_ble_eq_true rfl, Nat.le_of_ble_eq_true rfl⟩ dX5_predecessors_14

theorem ctX5_frontier (hL : XL σ x) (hX : XA mi x S) (hS : SOK S) {b : Int32} : CtP κ 1 6 12 mrX5_frontier [.ref x, .int b] (MM σ mi ml) (XR σ mi ml x [EIOB, EISE] (rs_frontier S b)) := by
  have hq := XQ (ml := ml) (σ := σ) hX
  have hw := hS.1
  have h14 := hw.2.1
  cases hb : inR b S.1.1 with
  | false =>
    rw [show rs_frontier S b = (1, 0, S) from by unfold rs_frontier; rw [if_pos hb]]
    refine CtP.of rfl (by simp [Value.category]) (Nat.le_of_ble_eq_true rfl) ?_
    refine V_aload_n dX5_frontier_0 rfl rfl ?_
    refine V_iload_n dX5_frontier_1 rfl rfl ?_
    refine V_callVX (ctX5_requireReachable_f hL hX hS hb) mvX5_requireReachable lkX5_186 hL.1 rfl rfl rfl (Nat.le_of_ble_eq_true rfl) ⟨⟨Nat.le_of_ble_eq_true rfl, Nat.le_of_ble_eq_true rfl⟩, Nat.le_of_ble_eq_true rfl, Nat.le_of_ble_eq_true rfl⟩ dX5_frontier_2 ?_
    exact VX_outP ⟨rfl, hq⟩ ⟨Nat.le_of_ble_eq_true rfl, Nat.le_of_ble_eq_true rfl⟩

  | true =>
    obtain ⟨j, hj, rfl⟩ := inR_t (by omega) hb
    have tj := tn_nI (show j < 2 ^ 31 by omega)
    cases hr : bp (Rc S.1 j) with
    | false =>
      rw [show rs_frontier S (nI j) = (2, 0, S) from by unfold rs_frontier; rw [tj, if_neg (by rw [hb]; decide), if_pos hr]]
      refine CtP.of rfl (by simp [Value.category]) (Nat.le_of_ble_eq_true rfl) ?_
      refine V_aload_n dX5_frontier_0 rfl rfl ?_
      refine V_iload_n dX5_frontier_1 rfl rfl ?_
      refine V_callVX (ctX5_requireReachable_u hL hX hS hj hr) mvX5_requireReachable lkX5_186 hL.1 rfl rfl rfl (Nat.le_of_ble_eq_true rfl) ⟨⟨Nat.le_of_ble_eq_true rfl, Nat.le_of_ble_eq_true rfl⟩, Nat.le_of_ble_eq_true rfl, Nat.le_of_ble_eq_true rfl⟩ dX5_frontier_2 ?_
      exact VX_outP ⟨rfl, hq⟩ ⟨Nat.le_of_ble_eq_true rfl, Nat.le_of_ble_eq_true rfl⟩

    | true =>
      have hR := bp_t.mp hr
      rw [show rs_frontier S (nI j) = (0, msk (fun y => bp (Fr' S.1 j y)), S) from by unfold rs_frontier; rw [tj, if_neg (by rw [hb]; decide), if_neg (by rw [hr]; decide)]]
      refine CtP.of rfl (by simp [Value.category]) (Nat.le_of_ble_eq_true rfl) ?_
      refine V_aload_n dX5_frontier_0 rfl rfl ?_
      refine V_iload_n dX5_frontier_1 rfl rfl ?_
      refine V_cv0 (ctX5_requireReachable_t hL hX hS hR) mvX5_requireReachable lkX5_186 hL.1 rfl rfl rfl (Nat.le_of_ble_eq_true rfl) ⟨⟨Nat.le_of_ble_eq_true rfl, Nat.le_of_ble_eq_true rfl⟩, Nat.le_of_ble_eq_true rfl, Nat.le_of_ble_eq_true rfl⟩ dX5_frontier_2 ?_
      refine V_aload_n dX5_frontier_5 rfl rfl ?_
      refine V_getR frX5_10 hL.1 rfl dX5_frontier_6 ?_
      refine V_getR frX5_200 hL.2.1.1 rfl dX5_frontier_9 ?_
      refine V_iload_n dX5_frontier_12 rfl rfl ?_
      refine V_ialdE hL.2.1.2.2.2.2.2.2.1 j rfl (by omega) (by decide) (hX.2.1.2.1.2.2 j (by omega)) dX5_frontier_13 ?_
      exact V_iretP rfl ⟨rfl, hq⟩ ⟨Nat.le_of_ble_eq_true rfl, Nat.le_of_ble_eq_true rfl⟩ dX5_frontier_14

theorem ctX5_parent (hL : XL σ x) (hX : XA mi x S) (hS : SOK S) {b : Int32} : CtP κ 1 6 12 mrX5_parent [.ref x, .int b] (MM σ mi ml) (XR σ mi ml x [EIOB, EISE, ENSE] (rs_parent S b)) := by
  have hq := XQ (ml := ml) (σ := σ) hX
  have hw := hS.1
  have h14 := hw.2.1
  cases hb : inR b S.1.1 with
  | false =>
    rw [show rs_parent S b = (1, 0, S) from by unfold rs_parent; rw [if_pos hb]]
    refine CtP.of rfl (by simp [Value.category]) (Nat.le_of_ble_eq_true rfl) ?_
    refine V_aload_n dX5_parent_0 rfl rfl ?_
    refine V_iload_n dX5_parent_1 rfl rfl ?_
    refine V_callVX (ctX5_requireReachable_f hL hX hS hb) mvX5_requireReachable lkX5_186 hL.1 rfl rfl rfl (Nat.le_of_ble_eq_true rfl) ⟨⟨Nat.le_of_ble_eq_true rfl, Nat.le_of_ble_eq_true rfl⟩, Nat.le_of_ble_eq_true rfl, Nat.le_of_ble_eq_true rfl⟩ dX5_parent_2 ?_
    exact VX_outP ⟨rfl, hq⟩ ⟨Nat.le_of_ble_eq_true rfl, Nat.le_of_ble_eq_true rfl⟩

  | true =>
    obtain ⟨j, hj, rfl⟩ := inR_t (by omega) hb
    have tj := tn_nI (show j < 2 ^ 31 by omega)
    cases hr : bp (Rc S.1 j) with
    | false =>
      rw [show rs_parent S (nI j) = (2, 0, S) from by unfold rs_parent; rw [tj, if_neg (by rw [hb]; decide), if_pos hr]]
      refine CtP.of rfl (by simp [Value.category]) (Nat.le_of_ble_eq_true rfl) ?_
      refine V_aload_n dX5_parent_0 rfl rfl ?_
      refine V_iload_n dX5_parent_1 rfl rfl ?_
      refine V_callVX (ctX5_requireReachable_u hL hX hS hj hr) mvX5_requireReachable lkX5_186 hL.1 rfl rfl rfl (Nat.le_of_ble_eq_true rfl) ⟨⟨Nat.le_of_ble_eq_true rfl, Nat.le_of_ble_eq_true rfl⟩, Nat.le_of_ble_eq_true rfl, Nat.le_of_ble_eq_true rfl⟩ dX5_parent_2 ?_
      exact VX_outP ⟨rfl, hq⟩ ⟨Nat.le_of_ble_eq_true rfl, Nat.le_of_ble_eq_true rfl⟩

    | true =>
      have hR := bp_t.mp hr
      by_cases h0 : j = 0
      · subst h0
        rw [show rs_parent S (nI 0) = (3, 0, S) from by unfold rs_parent; rw [tj, if_neg (by rw [hb]; decide), if_neg (by rw [hr]; decide), if_pos rfl]]
        refine CtP.of rfl (by simp [Value.category]) (Nat.le_of_ble_eq_true rfl) ?_
        refine V_aload_n dX5_parent_0 rfl rfl ?_
        refine V_iload_n dX5_parent_1 rfl rfl ?_
        refine V_cv0 (ctX5_requireReachable_t hL hX hS hR) mvX5_requireReachable lkX5_186 hL.1 rfl rfl rfl (Nat.le_of_ble_eq_true rfl) ⟨⟨Nat.le_of_ble_eq_true rfl, Nat.le_of_ble_eq_true rfl⟩, Nat.le_of_ble_eq_true rfl, Nat.le_of_ble_eq_true rfl⟩ dX5_parent_2 ?_
        refine V_iload_n dX5_parent_5 rfl rfl ?_
        refine V_Z_ne (by omega) 19 dX5_parent_6 (by decide) (fun h6 => absurd h6 (fun q => q rfl)) (fun h6 => ?_)
        refine V_thrP ⟨rfl, hq⟩ ?_
        exact V_throwX nse0 nse1 nse2 nse5 thrNSE rfl str_195 rfl rfl rfl ⟨Nat.le_of_ble_eq_true rfl, Nat.le_of_ble_eq_true rfl⟩ (Nat.le_of_ble_eq_true rfl) (Nat.le_of_ble_eq_true rfl) dX5_parent_9 dX5_parent_12 dX5_parent_13 dX5_parent_15 dX5_parent_18

      · rw [show rs_parent S (nI j) = (0, nI (par S.1 j), S) from by unfold rs_parent; rw [tj, if_neg (by rw [hb]; decide), if_neg (by rw [hr]; decide), if_neg h0]]
        refine CtP.of rfl (by simp [Value.category]) (Nat.le_of_ble_eq_true rfl) ?_
        refine V_aload_n dX5_parent_0 rfl rfl ?_
        refine V_iload_n dX5_parent_1 rfl rfl ?_
        refine V_cv0 (ctX5_requireReachable_t hL hX hS hR) mvX5_requireReachable lkX5_186 hL.1 rfl rfl rfl (Nat.le_of_ble_eq_true rfl) ⟨⟨Nat.le_of_ble_eq_true rfl, Nat.le_of_ble_eq_true rfl⟩, Nat.le_of_ble_eq_true rfl, Nat.le_of_ble_eq_true rfl⟩ dX5_parent_2 ?_
        refine V_iload_n dX5_parent_5 rfl rfl ?_
        refine V_Z_ne (by omega) 19 dX5_parent_6 (by decide) (fun h6 => ?_) (fun h6 => absurd h6 h0)
        refine V_aload_n dX5_parent_19 rfl rfl ?_
        refine V_getR frX5_10 hL.1 rfl dX5_parent_20 ?_
        refine V_getR frX5_197 hL.2.1.1 rfl dX5_parent_23 ?_
        refine V_iload_n dX5_parent_26 rfl rfl ?_
        refine V_ialdE hL.2.1.2.2.2.2.2.1 j rfl (by omega) (by decide) (hX.2.1.2.1.2.1 j (by omega) hR h0) dX5_parent_27 ?_
        exact V_iretP rfl ⟨rfl, hq⟩ ⟨Nat.le_of_ble_eq_true rfl, Nat.le_of_ble_eq_true rfl⟩ dX5_parent_28

theorem ctX5_minimalMerges (hL : XL σ x) (hX : XA mi x S) (hS : SOK S) {v : Int32} : CtP κ 1 6 12 mrX5_minimalMerges [.ref x, .int v] (MM σ mi ml) (XR σ mi ml x [EIOB] (rs_minimalMerges S v)) := by
  have hq := XQ (ml := ml) (σ := σ) hX
  have hw := hS.1
  have h14 := hw.2.1
  cases hv : inR v 4 with
  | false =>
    rw [show rs_minimalMerges S v = (1, 0, S) from by unfold rs_minimalMerges; rw [if_pos hv]]
    refine CtP.of rfl (by simp [Value.category]) (Nat.le_of_ble_eq_true rfl) ?_
    refine V_aload_n dX5_minimalMerges_0 rfl rfl ?_
    refine V_iload_n dX5_minimalMerges_1 rfl rfl ?_
    refine V_callVX (ctX5_requireVariable_f hL hX hS hv) mvX5_requireVariable lkX5_203 hL.1 rfl rfl rfl (Nat.le_of_ble_eq_true rfl) ⟨⟨Nat.le_of_ble_eq_true rfl, Nat.le_of_ble_eq_true rfl⟩, Nat.le_of_ble_eq_true rfl, Nat.le_of_ble_eq_true rfl⟩ dX5_minimalMerges_2 ?_
    exact VX_outP ⟨rfl, hq⟩ ⟨Nat.le_of_ble_eq_true rfl, Nat.le_of_ble_eq_true rfl⟩

  | true =>
    obtain ⟨i, hi, rfl⟩ := inR_t (by omega) hv
    have ti := tn_nI (show i < 2 ^ 31 by omega)
    rw [show rs_minimalMerges S (nI i) = (0, msk (fun b => bp (MN S.1 i b)), S) from by unfold rs_minimalMerges; rw [ti, if_neg (by rw [hv]; decide)]]
    refine CtP.of rfl (by simp [Value.category]) (Nat.le_of_ble_eq_true rfl) ?_
    refine V_aload_n dX5_minimalMerges_0 rfl rfl ?_
    refine V_iload_n dX5_minimalMerges_1 rfl rfl ?_
    refine V_cv0 (ctX5_requireVariable_t hL hX hS hv) mvX5_requireVariable lkX5_203 hL.1 rfl rfl rfl (Nat.le_of_ble_eq_true rfl) ⟨⟨Nat.le_of_ble_eq_true rfl, Nat.le_of_ble_eq_true rfl⟩, Nat.le_of_ble_eq_true rfl, Nat.le_of_ble_eq_true rfl⟩ dX5_minimalMerges_2 ?_
    refine V_aload_n dX5_minimalMerges_5 rfl rfl ?_
    refine V_getR frX5_10 hL.1 rfl dX5_minimalMerges_6 ?_
    refine V_getR frX5_209 hL.2.1.1 rfl dX5_minimalMerges_9 ?_
    refine V_iload_n dX5_minimalMerges_12 rfl rfl ?_
    refine V_ialdE hL.2.1.2.2.2.2.2.2.2.2.2.2.1 i rfl hi (by decide) ((hX.2.1.2.2 i hi).2.2.1) dX5_minimalMerges_13 ?_
    exact V_iretP rfl ⟨rfl, hq⟩ ⟨Nat.le_of_ble_eq_true rfl, Nat.le_of_ble_eq_true rfl⟩ dX5_minimalMerges_14

theorem ctX5_merges (hL : XL σ x) (hX : XA mi x S) (hS : SOK S) {v : Int32} : CtP κ 1 6 12 mrX5_merges [.ref x, .int v] (MM σ mi ml) (XR σ mi ml x [EIOB] (rs_merges S v)) := by
  have hq := XQ (ml := ml) (σ := σ) hX
  have hw := hS.1
  have h14 := hw.2.1
  cases hv : inR v 4 with
  | false =>
    rw [show rs_merges S v = (1, 0, S) from by unfold rs_merges; rw [if_pos hv]]
    refine CtP.of rfl (by simp [Value.category]) (Nat.le_of_ble_eq_true rfl) ?_
    refine V_aload_n dX5_merges_0 rfl rfl ?_
    refine V_iload_n dX5_merges_1 rfl rfl ?_
    refine V_callVX (ctX5_requireVariable_f hL hX hS hv) mvX5_requireVariable lkX5_203 hL.1 rfl rfl rfl (Nat.le_of_ble_eq_true rfl) ⟨⟨Nat.le_of_ble_eq_true rfl, Nat.le_of_ble_eq_true rfl⟩, Nat.le_of_ble_eq_true rfl, Nat.le_of_ble_eq_true rfl⟩ dX5_merges_2 ?_
    exact VX_outP ⟨rfl, hq⟩ ⟨Nat.le_of_ble_eq_true rfl, Nat.le_of_ble_eq_true rfl⟩

  | true =>
    obtain ⟨i, hi, rfl⟩ := inR_t (by omega) hv
    have ti := tn_nI (show i < 2 ^ 31 by omega)
    rw [show rs_merges S (nI i) = (0, msk (fun b => bp (PM S.1 i b)), S) from by unfold rs_merges; rw [ti, if_neg (by rw [hv]; decide)]]
    refine CtP.of rfl (by simp [Value.category]) (Nat.le_of_ble_eq_true rfl) ?_
    refine V_aload_n dX5_merges_0 rfl rfl ?_
    refine V_iload_n dX5_merges_1 rfl rfl ?_
    refine V_cv0 (ctX5_requireVariable_t hL hX hS hv) mvX5_requireVariable lkX5_203 hL.1 rfl rfl rfl (Nat.le_of_ble_eq_true rfl) ⟨⟨Nat.le_of_ble_eq_true rfl, Nat.le_of_ble_eq_true rfl⟩, Nat.le_of_ble_eq_true rfl, Nat.le_of_ble_eq_true rfl⟩ dX5_merges_2 ?_
    refine V_aload_n dX5_merges_5 rfl rfl ?_
    refine V_getR frX5_10 hL.1 rfl dX5_merges_6 ?_
    refine V_getR frX5_212 hL.2.1.1 rfl dX5_merges_9 ?_
    refine V_iload_n dX5_merges_12 rfl rfl ?_
    refine V_ialdE hL.2.1.2.2.2.2.2.2.2.2.2.2.2.1 i rfl hi (by decide) ((hX.2.1.2.2 i hi).2.2.2) dX5_merges_13 ?_
    exact V_iretP rfl ⟨rfl, hq⟩ ⟨Nat.le_of_ble_eq_true rfl, Nat.le_of_ble_eq_true rfl⟩ dX5_merges_14

theorem ctX5_usesOf (hL : XL σ x) (hX : XA mi x S) (hS : SOK S) {v s : Int32} : CtP κ 1 6 12 mrX5_usesOf [.ref x, .int v, .int s] (MM σ mi ml) (XR σ mi ml x [EIOB] (rs_usesOf S v s)) := by
  have hq := XQ (ml := ml) (σ := σ) hX
  have hw := hS.1
  have h14 := hw.2.1
  cases hv : inR v 4 with
  | false =>
    rw [show rs_usesOf S v s = (1, 0, S) from by unfold rs_usesOf; rw [if_pos hv]]
    refine CtP.of rfl (by simp [Value.category]) (Nat.le_of_ble_eq_true rfl) ?_
    refine V_aload_n dX5_usesOf_0 rfl rfl ?_
    refine V_iload_n dX5_usesOf_1 rfl rfl ?_
    refine V_callVX (ctX5_requireVariable_f hL hX hS hv) mvX5_requireVariable lkX5_203 hL.1 rfl rfl rfl (Nat.le_of_ble_eq_true rfl) ⟨⟨Nat.le_of_ble_eq_true rfl, Nat.le_of_ble_eq_true rfl⟩, Nat.le_of_ble_eq_true rfl, Nat.le_of_ble_eq_true rfl⟩ dX5_usesOf_2 ?_
    exact VX_outP ⟨rfl, hq⟩ ⟨Nat.le_of_ble_eq_true rfl, Nat.le_of_ble_eq_true rfl⟩

  | true =>
    obtain ⟨i, hi, rfl⟩ := inR_t (by omega) hv
    have ti := tn_nI (show i < 2 ^ 31 by omega)
    rw [show rs_usesOf S (nI i) s = (0, nI (usA S.1 i s), S) from by unfold rs_usesOf; rw [ti, if_neg (by rw [hv]; decide)]]
    refine CtP.of rfl (by simp [Value.category]) (Nat.le_of_ble_eq_true rfl) ?_
    refine V_aload_n dX5_usesOf_0 rfl rfl ?_
    refine V_iload_n dX5_usesOf_1 rfl rfl ?_
    refine V_cv0 (ctX5_requireVariable_t hL hX hS hv) mvX5_requireVariable lkX5_203 hL.1 rfl rfl rfl (Nat.le_of_ble_eq_true rfl) ⟨⟨Nat.le_of_ble_eq_true rfl, Nat.le_of_ble_eq_true rfl⟩, Nat.le_of_ble_eq_true rfl, Nat.le_of_ble_eq_true rfl⟩ dX5_usesOf_2 ?_
    refine V_aload_n dX5_usesOf_5 rfl rfl ?_
    refine V_getR frX5_10 hL.1 rfl dX5_usesOf_6 ?_
    refine V_iload_n dX5_usesOf_9 rfl rfl ?_
    refine V_iload_n dX5_usesOf_10 rfl rfl ?_
    refine V_cv1 (ctX0_countUses hL.2.1 hX.1 hS.1 hX.2.1 hi) mvX0_countUses lkX5_245 hL.2.1.1 rfl rfl rfl (Nat.le_of_ble_eq_true rfl) ⟨⟨Nat.le_of_ble_eq_true rfl, Nat.le_of_ble_eq_true rfl⟩, Nat.le_of_ble_eq_true rfl, Nat.le_of_ble_eq_true rfl⟩ dX5_usesOf_11 ?_
    exact V_iretP rfl ⟨rfl, hq⟩ ⟨Nat.le_of_ble_eq_true rfl, Nat.le_of_ble_eq_true rfl⟩ dX5_usesOf_14

theorem ctX5_blockCount (hL : XL σ x) (hX : XA mi x S) (hS : SOK S)  : CtP κ 1 6 12 mrX5_blockCount [.ref x] (MM σ mi ml) (XR σ mi ml x [] (rs_blockCount S)) := by
  have hq := XQ (ml := ml) (σ := σ) hX
  have hw := hS.1
  have h14 := hw.2.1
  rw [show rs_blockCount S = (0, nI S.1.1, S) from by unfold rs_blockCount; rfl]
  refine CtP.of rfl (by simp [Value.category]) (Nat.le_of_ble_eq_true rfl) ?_
  refine V_aload_n dX5_blockCount_0 rfl rfl ?_
  refine V_getR frX5_20 hL.1 rfl dX5_blockCount_1 ?_
  refine V_getE frX5_72 hL.2.1.2.1.1 rfl hX.1.1 dX5_blockCount_4 ?_
  exact V_iretP rfl ⟨rfl, hq⟩ ⟨Nat.le_of_ble_eq_true rfl, Nat.le_of_ble_eq_true rfl⟩ dX5_blockCount_7

theorem ctX5_mergeCount (hL : XL σ x) (hX : XA mi x S) (hS : SOK S)  : CtP κ 1 6 12 mrX5_mergeCount [.ref x] (MM σ mi ml) (XR σ mi ml x [] (rs_mergeCount S)) := by
  have hq := XQ (ml := ml) (σ := σ) hX
  have hw := hS.1
  have h14 := hw.2.1
  rw [show rs_mergeCount S = (0, nI (mcN S.1), S) from by unfold rs_mergeCount; rfl]
  refine CtP.of rfl (by simp [Value.category]) (Nat.le_of_ble_eq_true rfl) ?_
  refine V_aload_n dX5_mergeCount_0 rfl rfl ?_
  refine V_getR frX5_10 hL.1 rfl dX5_mergeCount_1 ?_
  refine V_cv1 (ctX0_countMerges hL.2.1 hX.1 hS.1 hX.2.1) mvX0_countMerges lkX5_215 hL.2.1.1 rfl rfl rfl (Nat.le_of_ble_eq_true rfl) ⟨⟨Nat.le_of_ble_eq_true rfl, Nat.le_of_ble_eq_true rfl⟩, Nat.le_of_ble_eq_true rfl, Nat.le_of_ble_eq_true rfl⟩ dX5_mergeCount_4 ?_
  exact V_iretP rfl ⟨rfl, hq⟩ ⟨Nat.le_of_ble_eq_true rfl, Nat.le_of_ble_eq_true rfl⟩ dX5_mergeCount_7

theorem ctX5_errorPosition (hL : XL σ x) (hX : XA mi x S) (hS : SOK S)  : CtP κ 1 6 12 mrX5_errorPosition [.ref x] (MM σ mi ml) (XR σ mi ml x [ENSE] (rs_errorPosition S)) := by
  have hq := XQ (ml := ml) (σ := σ) hX
  have hw := hS.1
  have h14 := hw.2.1
  by_cases h0 : S.2.2.2.2.1 = -1
  · rw [show rs_errorPosition S = (1, 0, S) from by unfold rs_errorPosition; rw [if_pos h0]]
    refine CtP.of rfl (by simp [Value.category]) (Nat.le_of_ble_eq_true rfl) ?_
    refine V_aload_n dX5_errorPosition_0 rfl rfl ?_
    refine V_getE frX5_51 hL.1 rfl hX.2.2.2.2.2.1 dX5_errorPosition_1 ?_
    refine V_iconst (v := (-1)) dX5_errorPosition_4 (by decide) ?_
    refine V_icmp_ne 18 dX5_errorPosition_5 (by decide) (fun h5 => absurd h5 (fun q => q h0)) (fun h5 => ?_)
    refine V_thrP ⟨rfl, hq⟩ ?_
    exact V_throwX nse0 nse1 nse2 nse5 thrNSE rfl str_118 rfl rfl rfl ⟨Nat.le_of_ble_eq_true rfl, Nat.le_of_ble_eq_true rfl⟩ (Nat.le_of_ble_eq_true rfl) (Nat.le_of_ble_eq_true rfl) dX5_errorPosition_8 dX5_errorPosition_11 dX5_errorPosition_12 dX5_errorPosition_14 dX5_errorPosition_17

  · rw [show rs_errorPosition S = (0, S.2.2.2.2.1, S) from by unfold rs_errorPosition; rw [if_neg h0]]
    refine CtP.of rfl (by simp [Value.category]) (Nat.le_of_ble_eq_true rfl) ?_
    refine V_aload_n dX5_errorPosition_0 rfl rfl ?_
    refine V_getE frX5_51 hL.1 rfl hX.2.2.2.2.2.1 dX5_errorPosition_1 ?_
    refine V_iconst (v := (-1)) dX5_errorPosition_4 (by decide) ?_
    refine V_icmp_ne 18 dX5_errorPosition_5 (by decide) (fun h5 => ?_) (fun h5 => absurd h5 h0)
    refine V_aload_n dX5_errorPosition_18 rfl rfl ?_
    refine V_getE frX5_51 hL.1 rfl hX.2.2.2.2.2.1 dX5_errorPosition_19 ?_
    exact V_iretP rfl ⟨rfl, hq⟩ ⟨Nat.le_of_ble_eq_true rfl, Nat.le_of_ble_eq_true rfl⟩ dX5_errorPosition_22

theorem ctX5_walkEnd (hL : XL σ x) (hX : XA mi x S) (hS : SOK S)  : CtP κ 1 6 12 mrX5_walkEnd [.ref x] (MM σ mi ml) (XR σ mi ml x [] (rs_walkEnd S)) := by
  have hq := XQ (ml := ml) (σ := σ) hX
  have hw := hS.1
  have h14 := hw.2.1
  rw [show rs_walkEnd S = (0, nI (S.2.2.2.2.2.2 S.2.2.2.2.2.1), S) from by unfold rs_walkEnd; rfl]
  refine CtP.of rfl (by simp [Value.category]) (Nat.le_of_ble_eq_true rfl) ?_
  refine V_aload_n dX5_walkEnd_0 rfl rfl ?_
  refine V_getR frX5_58 hL.1 rfl dX5_walkEnd_1 ?_
  refine V_cv1 (ctX4_end hL.2.2.2.2.2.2 hX.2.2.2.2.2.2 hS.2.2.2.2.2.1) mvX4_end lkX5_291 hL.2.2.2.2.2.2.1 rfl rfl rfl (Nat.le_of_ble_eq_true rfl) ⟨⟨Nat.le_of_ble_eq_true rfl, Nat.le_of_ble_eq_true rfl⟩, Nat.le_of_ble_eq_true rfl, Nat.le_of_ble_eq_true rfl⟩ dX5_walkEnd_4 ?_
  exact V_iretP rfl ⟨rfl, hq⟩ ⟨Nat.le_of_ble_eq_true rfl, Nat.le_of_ble_eq_true rfl⟩ dX5_walkEnd_7

theorem ctX5_unneeded (hL : XL σ x) (hX : XA mi x S) (hS : SOK S)  : CtP κ 1 6 12 mrX5_unneeded [.ref x] (MM σ mi ml) (XR σ mi ml x [] (rs_unneeded S)) := by
  have hq := XQ (ml := ml) (σ := σ) hX
  have hw := hS.1
  have h14 := hw.2.1
  rw [show rs_unneeded S = (0, nI (unN S.1), S) from by unfold rs_unneeded; rfl]
  refine CtP.of rfl (by simp [Value.category]) (Nat.le_of_ble_eq_true rfl) ?_
  refine V_aload_n dX5_unneeded_0 rfl rfl ?_
  refine V_getR frX5_10 hL.1 rfl dX5_unneeded_1 ?_
  refine V_cp1 (ctX0_countUnneeded hL.2.1 hX.1 hS.1 hX.2.1) mvX0_countUnneeded lkX5_248 hL.2.1.1 rfl rfl rfl (Nat.le_of_ble_eq_true rfl) ⟨⟨Nat.le_of_ble_eq_true rfl, Nat.le_of_ble_eq_true rfl⟩, Nat.le_of_ble_eq_true rfl, Nat.le_of_ble_eq_true rfl⟩ dX5_unneeded_4 (fun y μ1 hx => ?_)
  obtain ⟨rfl, m1, rfl, ho⟩ := hx
  exact V_iretP rfl ⟨rfl, XQ.hid hX (fun a i q => ho a i (by omega)) (fun _ _ _ => rfl)⟩ ⟨Nat.le_of_ble_eq_true rfl, Nat.le_of_ble_eq_true rfl⟩ dX5_unneeded_7

theorem ctX5_isLive (hL : XL σ x) (hX : XA mi x S) (hS : SOK S) {b v : Int32} : CtP κ 1 6 12 mrX5_isLive [.ref x, .int b, .int v] (MM σ mi ml) (XR σ mi ml x [EIOB, EISE] (rs_isLive S b v)) := by
  have hq := XQ (ml := ml) (σ := σ) hX
  have hw := hS.1
  have h14 := hw.2.1
  cases hv : inR v 4 with
  | false =>
    rw [show rs_isLive S b v = (1, 0, S) from by unfold rs_isLive; rw [if_pos (by rw [hv]; rfl)]]
    refine CtP.of rfl (by simp [Value.category]) (Nat.le_of_ble_eq_true rfl) ?_
    refine V_aload_n dX5_isLive_0 rfl rfl ?_
    refine V_iload_n dX5_isLive_1 rfl rfl ?_
    refine V_callVX (ctX5_requireVariable_f hL hX hS hv) mvX5_requireVariable lkX5_203 hL.1 rfl rfl rfl (Nat.le_of_ble_eq_true rfl) ⟨⟨Nat.le_of_ble_eq_true rfl, Nat.le_of_ble_eq_true rfl⟩, Nat.le_of_ble_eq_true rfl, Nat.le_of_ble_eq_true rfl⟩ dX5_isLive_2 ?_
    exact VX_outP ⟨rfl, hq⟩ ⟨Nat.le_of_ble_eq_true rfl, Nat.le_of_ble_eq_true rfl⟩

  | true =>
    obtain ⟨i, hi, rfl⟩ := inR_t (by omega) hv
    have ti := tn_nI (show i < 2 ^ 31 by omega)
    cases hb : inR b S.1.1 with
    | false =>
      rw [show rs_isLive S b (nI i) = (1, 0, S) from by unfold rs_isLive; rw [if_pos (by rw [hb, Bool.and_false])]]
      refine CtP.of rfl (by simp [Value.category]) (Nat.le_of_ble_eq_true rfl) ?_
      refine V_aload_n dX5_isLive_0 rfl rfl ?_
      refine V_iload_n dX5_isLive_1 rfl rfl ?_
      refine V_cv0 (ctX5_requireVariable_t hL hX hS hv) mvX5_requireVariable lkX5_203 hL.1 rfl rfl rfl (Nat.le_of_ble_eq_true rfl) ⟨⟨Nat.le_of_ble_eq_true rfl, Nat.le_of_ble_eq_true rfl⟩, Nat.le_of_ble_eq_true rfl, Nat.le_of_ble_eq_true rfl⟩ dX5_isLive_2 ?_
      refine V_aload_n dX5_isLive_5 rfl rfl ?_
      refine V_iload_n dX5_isLive_6 rfl rfl ?_
      refine V_callVX (ctX5_requireReachable_f hL hX hS hb) mvX5_requireReachable lkX5_186 hL.1 rfl rfl rfl (Nat.le_of_ble_eq_true rfl) ⟨⟨Nat.le_of_ble_eq_true rfl, Nat.le_of_ble_eq_true rfl⟩, Nat.le_of_ble_eq_true rfl, Nat.le_of_ble_eq_true rfl⟩ dX5_isLive_7 ?_
      exact VX_outP ⟨rfl, hq⟩ ⟨Nat.le_of_ble_eq_true rfl, Nat.le_of_ble_eq_true rfl⟩

    | true =>
      obtain ⟨j, hj, rfl⟩ := inR_t (by omega) hb
      have tj := tn_nI (show j < 2 ^ 31 by omega)
      have h1 : ¬ (inR (nI i) 4 && inR (nI j) S.1.1) = false := by rw [hb, hv]; decide
      cases hr : bp (Rc S.1 j) with
      | false =>
        rw [show rs_isLive S (nI j) (nI i) = (2, 0, S) from by unfold rs_isLive; rw [tj, if_neg h1, if_pos hr]]
        refine CtP.of rfl (by simp [Value.category]) (Nat.le_of_ble_eq_true rfl) ?_
        refine V_aload_n dX5_isLive_0 rfl rfl ?_
        refine V_iload_n dX5_isLive_1 rfl rfl ?_
        refine V_cv0 (ctX5_requireVariable_t hL hX hS hv) mvX5_requireVariable lkX5_203 hL.1 rfl rfl rfl (Nat.le_of_ble_eq_true rfl) ⟨⟨Nat.le_of_ble_eq_true rfl, Nat.le_of_ble_eq_true rfl⟩, Nat.le_of_ble_eq_true rfl, Nat.le_of_ble_eq_true rfl⟩ dX5_isLive_2 ?_
        refine V_aload_n dX5_isLive_5 rfl rfl ?_
        refine V_iload_n dX5_isLive_6 rfl rfl ?_
        refine V_callVX (ctX5_requireReachable_u hL hX hS hj hr) mvX5_requireReachable lkX5_186 hL.1 rfl rfl rfl (Nat.le_of_ble_eq_true rfl) ⟨⟨Nat.le_of_ble_eq_true rfl, Nat.le_of_ble_eq_true rfl⟩, Nat.le_of_ble_eq_true rfl, Nat.le_of_ble_eq_true rfl⟩ dX5_isLive_7 ?_
        exact VX_outP ⟨rfl, hq⟩ ⟨Nat.le_of_ble_eq_true rfl, Nat.le_of_ble_eq_true rfl⟩

      | true =>
        have hR := bp_t.mp hr
        have h2 : ¬ bp (Rc S.1 j) = false := by rw [hr]; decide
        rw [show rs_isLive S (nI j) (nI i) = (0, bI (bp (LV S.1 i j)), S) from by unfold rs_isLive; rw [tj, ti, if_neg h1, if_neg h2]]
        refine CtP.of rfl (by simp [Value.category]) (Nat.le_of_ble_eq_true rfl) ?_
        refine V_aload_n dX5_isLive_0 rfl rfl ?_
        refine V_iload_n dX5_isLive_1 rfl rfl ?_
        refine V_cv0 (ctX5_requireVariable_t hL hX hS hv) mvX5_requireVariable lkX5_203 hL.1 rfl rfl rfl (Nat.le_of_ble_eq_true rfl) ⟨⟨Nat.le_of_ble_eq_true rfl, Nat.le_of_ble_eq_true rfl⟩, Nat.le_of_ble_eq_true rfl, Nat.le_of_ble_eq_true rfl⟩ dX5_isLive_2 ?_
        refine V_aload_n dX5_isLive_5 rfl rfl ?_
        refine V_iload_n dX5_isLive_6 rfl rfl ?_
        refine V_cv0 (ctX5_requireReachable_t hL hX hS hR) mvX5_requireReachable lkX5_186 hL.1 rfl rfl rfl (Nat.le_of_ble_eq_true rfl) ⟨⟨Nat.le_of_ble_eq_true rfl, Nat.le_of_ble_eq_true rfl⟩, Nat.le_of_ble_eq_true rfl, Nat.le_of_ble_eq_true rfl⟩ dX5_isLive_7 ?_
        refine V_aload_n dX5_isLive_10 rfl rfl ?_
        refine V_getR frX5_10 hL.1 rfl dX5_isLive_11 ?_
        refine V_getR frX5_206 hL.2.1.1 rfl dX5_isLive_14 ?_
        refine V_iload_n dX5_isLive_17 rfl rfl ?_
        refine V_ialdE hL.2.1.2.2.2.2.2.2.2.2.2.1 i rfl hi (by decide) ((hX.2.1.2.2 i hi).2.1) dX5_isLive_18 ?_
        refine V_iload_n dX5_isLive_19 rfl rfl ?_
        refine V_cs1 (ctX5_hasM (by omega)) msX5_has lkX5_183 rfl rfl (Nat.le_of_ble_eq_true rfl) ⟨⟨Nat.le_of_ble_eq_true rfl, Nat.le_of_ble_eq_true rfl⟩, Nat.le_of_ble_eq_true rfl, Nat.le_of_ble_eq_true rfl⟩ dX5_isLive_20 ?_
        exact V_zretP rfl (bI_nar _) ⟨rfl, hq⟩ ⟨Nat.le_of_ble_eq_true rfl, Nat.le_of_ble_eq_true rfl⟩ dX5_isLive_23

theorem ctX5_source (hL : XL σ x) (hX : XA mi x S) (hS : SOK S) {b v : Int32} {z : Bool} : CtP κ 1 6 12 mrX5_source [.ref x, .int b, .int v, .int (bI z)] (MM σ mi ml) (XR σ mi ml x [EIOB, EISE] (rs_source S b v z)) := by
  have hq := XQ (ml := ml) (σ := σ) hX
  have hw := hS.1
  have h14 := hw.2.1
  cases hv : inR v 4 with
  | false =>
    rw [show rs_source S b v z = (1, 0, S) from by unfold rs_source; rw [if_pos (by rw [hv]; rfl)]]
    refine CtP.of rfl (by simp [Value.category]) (Nat.le_of_ble_eq_true rfl) ?_
    refine V_aload_n dX5_source_0 rfl rfl ?_
    refine V_iload_n dX5_source_1 rfl rfl ?_
    refine V_callVX (ctX5_requireVariable_f hL hX hS hv) mvX5_requireVariable lkX5_203 hL.1 rfl rfl rfl (Nat.le_of_ble_eq_true rfl) ⟨⟨Nat.le_of_ble_eq_true rfl, Nat.le_of_ble_eq_true rfl⟩, Nat.le_of_ble_eq_true rfl, Nat.le_of_ble_eq_true rfl⟩ dX5_source_2 ?_
    exact VX_outP ⟨rfl, hq⟩ ⟨Nat.le_of_ble_eq_true rfl, Nat.le_of_ble_eq_true rfl⟩

  | true =>
    obtain ⟨i, hi, rfl⟩ := inR_t (by omega) hv
    have ti := tn_nI (show i < 2 ^ 31 by omega)
    cases hb : inR b S.1.1 with
    | false =>
      rw [show rs_source S b (nI i) z = (1, 0, S) from by unfold rs_source; rw [if_pos (by rw [hb, Bool.and_false])]]
      refine CtP.of rfl (by simp [Value.category]) (Nat.le_of_ble_eq_true rfl) ?_
      refine V_aload_n dX5_source_0 rfl rfl ?_
      refine V_iload_n dX5_source_1 rfl rfl ?_
      refine V_cv0 (ctX5_requireVariable_t hL hX hS hv) mvX5_requireVariable lkX5_203 hL.1 rfl rfl rfl (Nat.le_of_ble_eq_true rfl) ⟨⟨Nat.le_of_ble_eq_true rfl, Nat.le_of_ble_eq_true rfl⟩, Nat.le_of_ble_eq_true rfl, Nat.le_of_ble_eq_true rfl⟩ dX5_source_2 ?_
      refine V_aload_n dX5_source_5 rfl rfl ?_
      refine V_iload_n dX5_source_6 rfl rfl ?_
      refine V_callVX (ctX5_requireReachable_f hL hX hS hb) mvX5_requireReachable lkX5_186 hL.1 rfl rfl rfl (Nat.le_of_ble_eq_true rfl) ⟨⟨Nat.le_of_ble_eq_true rfl, Nat.le_of_ble_eq_true rfl⟩, Nat.le_of_ble_eq_true rfl, Nat.le_of_ble_eq_true rfl⟩ dX5_source_7 ?_
      exact VX_outP ⟨rfl, hq⟩ ⟨Nat.le_of_ble_eq_true rfl, Nat.le_of_ble_eq_true rfl⟩

    | true =>
      obtain ⟨j, hj, rfl⟩ := inR_t (by omega) hb
      have tj := tn_nI (show j < 2 ^ 31 by omega)
      have h1 : ¬ (inR (nI i) 4 && inR (nI j) S.1.1) = false := by rw [hb, hv]; decide
      cases hr : bp (Rc S.1 j) with
      | false =>
        rw [show rs_source S (nI j) (nI i) z = (2, 0, S) from by unfold rs_source; rw [tj, if_neg h1, if_pos hr]]
        refine CtP.of rfl (by simp [Value.category]) (Nat.le_of_ble_eq_true rfl) ?_
        refine V_aload_n dX5_source_0 rfl rfl ?_
        refine V_iload_n dX5_source_1 rfl rfl ?_
        refine V_cv0 (ctX5_requireVariable_t hL hX hS hv) mvX5_requireVariable lkX5_203 hL.1 rfl rfl rfl (Nat.le_of_ble_eq_true rfl) ⟨⟨Nat.le_of_ble_eq_true rfl, Nat.le_of_ble_eq_true rfl⟩, Nat.le_of_ble_eq_true rfl, Nat.le_of_ble_eq_true rfl⟩ dX5_source_2 ?_
        refine V_aload_n dX5_source_5 rfl rfl ?_
        refine V_iload_n dX5_source_6 rfl rfl ?_
        refine V_callVX (ctX5_requireReachable_u hL hX hS hj hr) mvX5_requireReachable lkX5_186 hL.1 rfl rfl rfl (Nat.le_of_ble_eq_true rfl) ⟨⟨Nat.le_of_ble_eq_true rfl, Nat.le_of_ble_eq_true rfl⟩, Nat.le_of_ble_eq_true rfl, Nat.le_of_ble_eq_true rfl⟩ dX5_source_7 ?_
        exact VX_outP ⟨rfl, hq⟩ ⟨Nat.le_of_ble_eq_true rfl, Nat.le_of_ble_eq_true rfl⟩

      | true =>
        have hR := bp_t.mp hr
        have h2 : ¬ bp (Rc S.1 j) = false := by rw [hr]; decide
        cases z with
        | false =>
          rw [show rs_source S (nI j) (nI i) false = (0, nI (srcB S.1 i j), S) from by unfold rs_source; rw [tj, ti, if_neg h1, if_neg h2]; rfl]
          refine CtP.of rfl (by simp [Value.category]) (Nat.le_of_ble_eq_true rfl) ?_
          refine V_aload_n dX5_source_0 rfl rfl ?_
          refine V_iload_n dX5_source_1 rfl rfl ?_
          refine V_cv0 (ctX5_requireVariable_t hL hX hS hv) mvX5_requireVariable lkX5_203 hL.1 rfl rfl rfl (Nat.le_of_ble_eq_true rfl) ⟨⟨Nat.le_of_ble_eq_true rfl, Nat.le_of_ble_eq_true rfl⟩, Nat.le_of_ble_eq_true rfl, Nat.le_of_ble_eq_true rfl⟩ dX5_source_2 ?_
          refine V_aload_n dX5_source_5 rfl rfl ?_
          refine V_iload_n dX5_source_6 rfl rfl ?_
          refine V_cv0 (ctX5_requireReachable_t hL hX hS hR) mvX5_requireReachable lkX5_186 hL.1 rfl rfl rfl (Nat.le_of_ble_eq_true rfl) ⟨⟨Nat.le_of_ble_eq_true rfl, Nat.le_of_ble_eq_true rfl⟩, Nat.le_of_ble_eq_true rfl, Nat.le_of_ble_eq_true rfl⟩ dX5_source_7 ?_
          refine V_iload_n dX5_source_10 rfl rfl ?_
          refine V_ifeqB 26 dX5_source_11 (by decide) (fun h11 => ?_) (fun h11 => absurd (h11.symm.trans rfl) (by decide))
          refine V_aload_n dX5_source_26 rfl rfl ?_
          refine V_getR frX5_10 hL.1 rfl dX5_source_27 ?_
          refine V_iload_n dX5_source_30 rfl rfl ?_
          refine V_iload_n dX5_source_31 rfl rfl ?_
          refine V_cv1 (ctX0_sourceAtBeginning hL.2.1 hX.1 hS.1 hX.2.1 hR hi) mvX0_sourceAtBeginning lkX5_222 hL.2.1.1 rfl rfl rfl (Nat.le_of_ble_eq_true rfl) ⟨⟨Nat.le_of_ble_eq_true rfl, Nat.le_of_ble_eq_true rfl⟩, Nat.le_of_ble_eq_true rfl, Nat.le_of_ble_eq_true rfl⟩ dX5_source_32 ?_
          exact V_iretP rfl ⟨rfl, hq⟩ ⟨Nat.le_of_ble_eq_true rfl, Nat.le_of_ble_eq_true rfl⟩ dX5_source_35

        | true =>
          rw [show rs_source S (nI j) (nI i) true = (0, nI (srcE S.1 i j), S) from by unfold rs_source; rw [tj, ti, if_neg h1, if_neg h2]; rfl]
          refine CtP.of rfl (by simp [Value.category]) (Nat.le_of_ble_eq_true rfl) ?_
          refine V_aload_n dX5_source_0 rfl rfl ?_
          refine V_iload_n dX5_source_1 rfl rfl ?_
          refine V_cv0 (ctX5_requireVariable_t hL hX hS hv) mvX5_requireVariable lkX5_203 hL.1 rfl rfl rfl (Nat.le_of_ble_eq_true rfl) ⟨⟨Nat.le_of_ble_eq_true rfl, Nat.le_of_ble_eq_true rfl⟩, Nat.le_of_ble_eq_true rfl, Nat.le_of_ble_eq_true rfl⟩ dX5_source_2 ?_
          refine V_aload_n dX5_source_5 rfl rfl ?_
          refine V_iload_n dX5_source_6 rfl rfl ?_
          refine V_cv0 (ctX5_requireReachable_t hL hX hS hR) mvX5_requireReachable lkX5_186 hL.1 rfl rfl rfl (Nat.le_of_ble_eq_true rfl) ⟨⟨Nat.le_of_ble_eq_true rfl, Nat.le_of_ble_eq_true rfl⟩, Nat.le_of_ble_eq_true rfl, Nat.le_of_ble_eq_true rfl⟩ dX5_source_7 ?_
          refine V_iload_n dX5_source_10 rfl rfl ?_
          refine V_ifeqB 26 dX5_source_11 (by decide) (fun h11 => absurd (h11.symm.trans rfl) (by decide)) (fun h11 => ?_)
          refine V_aload_n dX5_source_14 rfl rfl ?_
          refine V_getR frX5_10 hL.1 rfl dX5_source_15 ?_
          refine V_iload_n dX5_source_18 rfl rfl ?_
          refine V_iload_n dX5_source_19 rfl rfl ?_
          refine V_cv1 (ctX0_sourceAtEnd hL.2.1 hX.1 hS.1 hX.2.1 hR hi) mvX0_sourceAtEnd lkX5_219 hL.2.1.1 rfl rfl rfl (Nat.le_of_ble_eq_true rfl) ⟨⟨Nat.le_of_ble_eq_true rfl, Nat.le_of_ble_eq_true rfl⟩, Nat.le_of_ble_eq_true rfl, Nat.le_of_ble_eq_true rfl⟩ dX5_source_20 ?_
          refine V_goto 35 dX5_source_23 (by decide) ?_
          exact V_iretP rfl ⟨rfl, hq⟩ ⟨Nat.le_of_ble_eq_true rfl, Nat.le_of_ble_eq_true rfl⟩ dX5_source_35

theorem ctX5_reachingCount (hL : XL σ x) (hX : XA mi x S) (hS : SOK S) {b v : Int32} : CtP κ 1 6 12 mrX5_reachingCount [.ref x, .int b, .int v] (MM σ mi ml) (XR σ mi ml x [EIOB, EISE] (rs_reachingCount S b v)) := by
  have hq := XQ (ml := ml) (σ := σ) hX
  have hw := hS.1
  have h14 := hw.2.1
  cases hv : inR v 4 with
  | false =>
    rw [show rs_reachingCount S b v = (1, 0, S) from by unfold rs_reachingCount; rw [if_pos (by rw [hv]; rfl)]]
    refine CtP.of rfl (by simp [Value.category]) (Nat.le_of_ble_eq_true rfl) ?_
    refine V_aload_n dX5_reachingCount_0 rfl rfl ?_
    refine V_iload_n dX5_reachingCount_1 rfl rfl ?_
    refine V_callVX (ctX5_requireVariable_f hL hX hS hv) mvX5_requireVariable lkX5_203 hL.1 rfl rfl rfl (Nat.le_of_ble_eq_true rfl) ⟨⟨Nat.le_of_ble_eq_true rfl, Nat.le_of_ble_eq_true rfl⟩, Nat.le_of_ble_eq_true rfl, Nat.le_of_ble_eq_true rfl⟩ dX5_reachingCount_2 ?_
    exact VX_outP ⟨rfl, hq⟩ ⟨Nat.le_of_ble_eq_true rfl, Nat.le_of_ble_eq_true rfl⟩

  | true =>
    obtain ⟨i, hi, rfl⟩ := inR_t (by omega) hv
    have ti := tn_nI (show i < 2 ^ 31 by omega)
    cases hb : inR b S.1.1 with
    | false =>
      rw [show rs_reachingCount S b (nI i) = (1, 0, S) from by unfold rs_reachingCount; rw [if_pos (by rw [hb, Bool.and_false])]]
      refine CtP.of rfl (by simp [Value.category]) (Nat.le_of_ble_eq_true rfl) ?_
      refine V_aload_n dX5_reachingCount_0 rfl rfl ?_
      refine V_iload_n dX5_reachingCount_1 rfl rfl ?_
      refine V_cv0 (ctX5_requireVariable_t hL hX hS hv) mvX5_requireVariable lkX5_203 hL.1 rfl rfl rfl (Nat.le_of_ble_eq_true rfl) ⟨⟨Nat.le_of_ble_eq_true rfl, Nat.le_of_ble_eq_true rfl⟩, Nat.le_of_ble_eq_true rfl, Nat.le_of_ble_eq_true rfl⟩ dX5_reachingCount_2 ?_
      refine V_aload_n dX5_reachingCount_5 rfl rfl ?_
      refine V_iload_n dX5_reachingCount_6 rfl rfl ?_
      refine V_callVX (ctX5_requireReachable_f hL hX hS hb) mvX5_requireReachable lkX5_186 hL.1 rfl rfl rfl (Nat.le_of_ble_eq_true rfl) ⟨⟨Nat.le_of_ble_eq_true rfl, Nat.le_of_ble_eq_true rfl⟩, Nat.le_of_ble_eq_true rfl, Nat.le_of_ble_eq_true rfl⟩ dX5_reachingCount_7 ?_
      exact VX_outP ⟨rfl, hq⟩ ⟨Nat.le_of_ble_eq_true rfl, Nat.le_of_ble_eq_true rfl⟩

    | true =>
      obtain ⟨j, hj, rfl⟩ := inR_t (by omega) hb
      have tj := tn_nI (show j < 2 ^ 31 by omega)
      have h1 : ¬ (inR (nI i) 4 && inR (nI j) S.1.1) = false := by rw [hb, hv]; decide
      cases hr : bp (Rc S.1 j) with
      | false =>
        rw [show rs_reachingCount S (nI j) (nI i) = (2, 0, S) from by unfold rs_reachingCount; rw [tj, if_neg h1, if_pos hr]]
        refine CtP.of rfl (by simp [Value.category]) (Nat.le_of_ble_eq_true rfl) ?_
        refine V_aload_n dX5_reachingCount_0 rfl rfl ?_
        refine V_iload_n dX5_reachingCount_1 rfl rfl ?_
        refine V_cv0 (ctX5_requireVariable_t hL hX hS hv) mvX5_requireVariable lkX5_203 hL.1 rfl rfl rfl (Nat.le_of_ble_eq_true rfl) ⟨⟨Nat.le_of_ble_eq_true rfl, Nat.le_of_ble_eq_true rfl⟩, Nat.le_of_ble_eq_true rfl, Nat.le_of_ble_eq_true rfl⟩ dX5_reachingCount_2 ?_
        refine V_aload_n dX5_reachingCount_5 rfl rfl ?_
        refine V_iload_n dX5_reachingCount_6 rfl rfl ?_
        refine V_callVX (ctX5_requireReachable_u hL hX hS hj hr) mvX5_requireReachable lkX5_186 hL.1 rfl rfl rfl (Nat.le_of_ble_eq_true rfl) ⟨⟨Nat.le_of_ble_eq_true rfl, Nat.le_of_ble_eq_true rfl⟩, Nat.le_of_ble_eq_true rfl, Nat.le_of_ble_eq_true rfl⟩ dX5_reachingCount_7 ?_
        exact VX_outP ⟨rfl, hq⟩ ⟨Nat.le_of_ble_eq_true rfl, Nat.le_of_ble_eq_true rfl⟩

      | true =>
        have hR := bp_t.mp hr
        have h2 : ¬ bp (Rc S.1 j) = false := by rw [hr]; decide
        rw [show rs_reachingCount S (nI j) (nI i) = (0, nI (cnt (fun p => bp (RB S.1 i j p)) 14), S) from by unfold rs_reachingCount; rw [tj, ti, if_neg h1, if_neg h2]]
        refine CtP.of rfl (by simp [Value.category]) (Nat.le_of_ble_eq_true rfl) ?_
        refine V_aload_n dX5_reachingCount_0 rfl rfl ?_
        refine V_iload_n dX5_reachingCount_1 rfl rfl ?_
        refine V_cv0 (ctX5_requireVariable_t hL hX hS hv) mvX5_requireVariable lkX5_203 hL.1 rfl rfl rfl (Nat.le_of_ble_eq_true rfl) ⟨⟨Nat.le_of_ble_eq_true rfl, Nat.le_of_ble_eq_true rfl⟩, Nat.le_of_ble_eq_true rfl, Nat.le_of_ble_eq_true rfl⟩ dX5_reachingCount_2 ?_
        refine V_aload_n dX5_reachingCount_5 rfl rfl ?_
        refine V_iload_n dX5_reachingCount_6 rfl rfl ?_
        refine V_cv0 (ctX5_requireReachable_t hL hX hS hR) mvX5_requireReachable lkX5_186 hL.1 rfl rfl rfl (Nat.le_of_ble_eq_true rfl) ⟨⟨Nat.le_of_ble_eq_true rfl, Nat.le_of_ble_eq_true rfl⟩, Nat.le_of_ble_eq_true rfl, Nat.le_of_ble_eq_true rfl⟩ dX5_reachingCount_7 ?_
        refine V_aload_n dX5_reachingCount_10 rfl rfl ?_
        refine V_getR frX5_10 hL.1 rfl dX5_reachingCount_11 ?_
        refine V_iload_n dX5_reachingCount_14 rfl rfl ?_
        refine V_iload_n dX5_reachingCount_15 rfl rfl ?_
        refine V_cv1 (ctX0_reachingBlocks hL.2.1 hX.1 hS.1 hX.2.1 (by omega) hi) mvX0_reachingBlocks lkX5_251 hL.2.1.1 rfl rfl rfl (Nat.le_of_ble_eq_true rfl) ⟨⟨Nat.le_of_ble_eq_true rfl, Nat.le_of_ble_eq_true rfl⟩, Nat.le_of_ble_eq_true rfl, Nat.le_of_ble_eq_true rfl⟩ dX5_reachingCount_16 ?_
        refine V_cs1 (ctJ6_M) msJ6_bitCount_0f7a4 lkX5_254 rfl rfl (Nat.le_of_ble_eq_true rfl) ⟨⟨Nat.le_of_ble_eq_true rfl, Nat.le_of_ble_eq_true rfl⟩, Nat.le_of_ble_eq_true rfl, Nat.le_of_ble_eq_true rfl⟩ dX5_reachingCount_19 ?_
        exact V_iretP rfl ⟨rfl, hq⟩ ⟨Nat.le_of_ble_eq_true rfl, Nat.le_of_ble_eq_true rfl⟩ dX5_reachingCount_22

theorem ctX5_isInitialReaching (hL : XL σ x) (hX : XA mi x S) (hS : SOK S) {b v : Int32} : CtP κ 1 6 12 mrX5_isInitialReaching [.ref x, .int b, .int v] (MM σ mi ml) (XR σ mi ml x [EIOB, EISE] (rs_isInitialReaching S b v)) := by
  have hq := XQ (ml := ml) (σ := σ) hX
  have hw := hS.1
  have h14 := hw.2.1
  cases hv : inR v 4 with
  | false =>
    rw [show rs_isInitialReaching S b v = (1, 0, S) from by unfold rs_isInitialReaching; rw [if_pos (by rw [hv]; rfl)]]
    refine CtP.of rfl (by simp [Value.category]) (Nat.le_of_ble_eq_true rfl) ?_
    refine V_aload_n dX5_isInitialReaching_0 rfl rfl ?_
    refine V_iload_n dX5_isInitialReaching_1 rfl rfl ?_
    refine V_callVX (ctX5_requireVariable_f hL hX hS hv) mvX5_requireVariable lkX5_203 hL.1 rfl rfl rfl (Nat.le_of_ble_eq_true rfl) ⟨⟨Nat.le_of_ble_eq_true rfl, Nat.le_of_ble_eq_true rfl⟩, Nat.le_of_ble_eq_true rfl, Nat.le_of_ble_eq_true rfl⟩ dX5_isInitialReaching_2 ?_
    exact VX_outP ⟨rfl, hq⟩ ⟨Nat.le_of_ble_eq_true rfl, Nat.le_of_ble_eq_true rfl⟩

  | true =>
    obtain ⟨i, hi, rfl⟩ := inR_t (by omega) hv
    have ti := tn_nI (show i < 2 ^ 31 by omega)
    cases hb : inR b S.1.1 with
    | false =>
      rw [show rs_isInitialReaching S b (nI i) = (1, 0, S) from by unfold rs_isInitialReaching; rw [if_pos (by rw [hb, Bool.and_false])]]
      refine CtP.of rfl (by simp [Value.category]) (Nat.le_of_ble_eq_true rfl) ?_
      refine V_aload_n dX5_isInitialReaching_0 rfl rfl ?_
      refine V_iload_n dX5_isInitialReaching_1 rfl rfl ?_
      refine V_cv0 (ctX5_requireVariable_t hL hX hS hv) mvX5_requireVariable lkX5_203 hL.1 rfl rfl rfl (Nat.le_of_ble_eq_true rfl) ⟨⟨Nat.le_of_ble_eq_true rfl, Nat.le_of_ble_eq_true rfl⟩, Nat.le_of_ble_eq_true rfl, Nat.le_of_ble_eq_true rfl⟩ dX5_isInitialReaching_2 ?_
      refine V_aload_n dX5_isInitialReaching_5 rfl rfl ?_
      refine V_iload_n dX5_isInitialReaching_6 rfl rfl ?_
      refine V_callVX (ctX5_requireReachable_f hL hX hS hb) mvX5_requireReachable lkX5_186 hL.1 rfl rfl rfl (Nat.le_of_ble_eq_true rfl) ⟨⟨Nat.le_of_ble_eq_true rfl, Nat.le_of_ble_eq_true rfl⟩, Nat.le_of_ble_eq_true rfl, Nat.le_of_ble_eq_true rfl⟩ dX5_isInitialReaching_7 ?_
      exact VX_outP ⟨rfl, hq⟩ ⟨Nat.le_of_ble_eq_true rfl, Nat.le_of_ble_eq_true rfl⟩

    | true =>
      obtain ⟨j, hj, rfl⟩ := inR_t (by omega) hb
      have tj := tn_nI (show j < 2 ^ 31 by omega)
      have h1 : ¬ (inR (nI i) 4 && inR (nI j) S.1.1) = false := by rw [hb, hv]; decide
      cases hr : bp (Rc S.1 j) with
      | false =>
        rw [show rs_isInitialReaching S (nI j) (nI i) = (2, 0, S) from by unfold rs_isInitialReaching; rw [tj, if_neg h1, if_pos hr]]
        refine CtP.of rfl (by simp [Value.category]) (Nat.le_of_ble_eq_true rfl) ?_
        refine V_aload_n dX5_isInitialReaching_0 rfl rfl ?_
        refine V_iload_n dX5_isInitialReaching_1 rfl rfl ?_
        refine V_cv0 (ctX5_requireVariable_t hL hX hS hv) mvX5_requireVariable lkX5_203 hL.1 rfl rfl rfl (Nat.le_of_ble_eq_true rfl) ⟨⟨Nat.le_of_ble_eq_true rfl, Nat.le_of_ble_eq_true rfl⟩, Nat.le_of_ble_eq_true rfl, Nat.le_of_ble_eq_true rfl⟩ dX5_isInitialReaching_2 ?_
        refine V_aload_n dX5_isInitialReaching_5 rfl rfl ?_
        refine V_iload_n dX5_isInitialReaching_6 rfl rfl ?_
        refine V_callVX (ctX5_requireReachable_u hL hX hS hj hr) mvX5_requireReachable lkX5_186 hL.1 rfl rfl rfl (Nat.le_of_ble_eq_true rfl) ⟨⟨Nat.le_of_ble_eq_true rfl, Nat.le_of_ble_eq_true rfl⟩, Nat.le_of_ble_eq_true rfl, Nat.le_of_ble_eq_true rfl⟩ dX5_isInitialReaching_7 ?_
        exact VX_outP ⟨rfl, hq⟩ ⟨Nat.le_of_ble_eq_true rfl, Nat.le_of_ble_eq_true rfl⟩

      | true =>
        have hR := bp_t.mp hr
        have h2 : ¬ bp (Rc S.1 j) = false := by rw [hr]; decide
        rw [show rs_isInitialReaching S (nI j) (nI i) = (0, bI (bp (OP S.1 i j 0)), S) from by unfold rs_isInitialReaching; rw [tj, ti, if_neg h1, if_neg h2]]
        refine CtP.of rfl (by simp [Value.category]) (Nat.le_of_ble_eq_true rfl) ?_
        refine V_aload_n dX5_isInitialReaching_0 rfl rfl ?_
        refine V_iload_n dX5_isInitialReaching_1 rfl rfl ?_
        refine V_cv0 (ctX5_requireVariable_t hL hX hS hv) mvX5_requireVariable lkX5_203 hL.1 rfl rfl rfl (Nat.le_of_ble_eq_true rfl) ⟨⟨Nat.le_of_ble_eq_true rfl, Nat.le_of_ble_eq_true rfl⟩, Nat.le_of_ble_eq_true rfl, Nat.le_of_ble_eq_true rfl⟩ dX5_isInitialReaching_2 ?_
        refine V_aload_n dX5_isInitialReaching_5 rfl rfl ?_
        refine V_iload_n dX5_isInitialReaching_6 rfl rfl ?_
        refine V_cv0 (ctX5_requireReachable_t hL hX hS hR) mvX5_requireReachable lkX5_186 hL.1 rfl rfl rfl (Nat.le_of_ble_eq_true rfl) ⟨⟨Nat.le_of_ble_eq_true rfl, Nat.le_of_ble_eq_true rfl⟩, Nat.le_of_ble_eq_true rfl, Nat.le_of_ble_eq_true rfl⟩ dX5_isInitialReaching_7 ?_
        refine V_aload_n dX5_isInitialReaching_10 rfl rfl ?_
        refine V_getR frX5_10 hL.1 rfl dX5_isInitialReaching_11 ?_
        refine V_iload_n dX5_isInitialReaching_14 rfl rfl ?_
        refine V_iload_n dX5_isInitialReaching_15 rfl rfl ?_
        refine V_cv1 (ctX0_openBefore hL.2.1 hX.1 hS.1 hX.2.1 (by omega) hi) mvX0_openBefore lkX5_264 hL.2.1.1 rfl rfl rfl (Nat.le_of_ble_eq_true rfl) ⟨⟨Nat.le_of_ble_eq_true rfl, Nat.le_of_ble_eq_true rfl⟩, Nat.le_of_ble_eq_true rfl, Nat.le_of_ble_eq_true rfl⟩ dX5_isInitialReaching_16 ?_
        refine V_iconst (v := nI 0) dX5_isInitialReaching_19 (by decide) ?_
        refine V_cs1 (ctX5_hasM (by omega)) msX5_has lkX5_183 rfl rfl (Nat.le_of_ble_eq_true rfl) ⟨⟨Nat.le_of_ble_eq_true rfl, Nat.le_of_ble_eq_true rfl⟩, Nat.le_of_ble_eq_true rfl, Nat.le_of_ble_eq_true rfl⟩ dX5_isInitialReaching_20 ?_
        exact V_zretP rfl (bI_nar _) ⟨rfl, hq⟩ ⟨Nat.le_of_ble_eq_true rfl, Nat.le_of_ble_eq_true rfl⟩ dX5_isInitialReaching_23

theorem ctX5_differentOperands (hL : XL σ x) (hX : XA mi x S) (hS : SOK S) {b v : Int32} : CtP κ 1 6 12 mrX5_differentOperands [.ref x, .int b, .int v] (MM σ mi ml) (XR σ mi ml x [EIOB, EISE, ENSE] (rs_differentOperands S b v)) := by
  have hq := XQ (ml := ml) (σ := σ) hX
  have hw := hS.1
  have h14 := hw.2.1
  cases hv : inR v 4 with
  | false =>
    rw [show rs_differentOperands S b v = (1, 0, S) from by unfold rs_differentOperands; rw [if_pos (by rw [hv]; rfl)]]
    refine CtP.of rfl (by simp [Value.category]) (Nat.le_of_ble_eq_true rfl) ?_
    refine V_aload_n dX5_differentOperands_0 rfl rfl ?_
    refine V_iload_n dX5_differentOperands_1 rfl rfl ?_
    refine V_iload_n dX5_differentOperands_2 rfl rfl ?_
    refine V_callVX (ctX5_requireMerge_v hL hX hS hv) mvX5_requireMerge lkX5_234 hL.1 rfl rfl rfl (Nat.le_of_ble_eq_true rfl) ⟨⟨Nat.le_of_ble_eq_true rfl, Nat.le_of_ble_eq_true rfl⟩, Nat.le_of_ble_eq_true rfl, Nat.le_of_ble_eq_true rfl⟩ dX5_differentOperands_3 ?_
    exact VX_outP ⟨rfl, hq⟩ ⟨Nat.le_of_ble_eq_true rfl, Nat.le_of_ble_eq_true rfl⟩

  | true =>
    obtain ⟨i, hi, rfl⟩ := inR_t (by omega) hv
    have ti := tn_nI (show i < 2 ^ 31 by omega)
    cases hb : inR b S.1.1 with
    | false =>
      rw [show rs_differentOperands S b (nI i) = (1, 0, S) from by unfold rs_differentOperands; rw [if_pos (by rw [hb, Bool.and_false])]]
      refine CtP.of rfl (by simp [Value.category]) (Nat.le_of_ble_eq_true rfl) ?_
      refine V_aload_n dX5_differentOperands_0 rfl rfl ?_
      refine V_iload_n dX5_differentOperands_1 rfl rfl ?_
      refine V_iload_n dX5_differentOperands_2 rfl rfl ?_
      refine V_callVX (ctX5_requireMerge_b hL hX hS hv hb) mvX5_requireMerge lkX5_234 hL.1 rfl rfl rfl (Nat.le_of_ble_eq_true rfl) ⟨⟨Nat.le_of_ble_eq_true rfl, Nat.le_of_ble_eq_true rfl⟩, Nat.le_of_ble_eq_true rfl, Nat.le_of_ble_eq_true rfl⟩ dX5_differentOperands_3 ?_
      exact VX_outP ⟨rfl, hq⟩ ⟨Nat.le_of_ble_eq_true rfl, Nat.le_of_ble_eq_true rfl⟩

    | true =>
      obtain ⟨j, hj, rfl⟩ := inR_t (by omega) hb
      have tj := tn_nI (show j < 2 ^ 31 by omega)
      have h1 : ¬ (inR (nI i) 4 && inR (nI j) S.1.1) = false := by rw [hb, hv]; decide
      cases hr : bp (Rc S.1 j) with
      | false =>
        rw [show rs_differentOperands S (nI j) (nI i) = (2, 0, S) from by unfold rs_differentOperands; rw [tj, if_neg h1, if_pos hr]]
        refine CtP.of rfl (by simp [Value.category]) (Nat.le_of_ble_eq_true rfl) ?_
        refine V_aload_n dX5_differentOperands_0 rfl rfl ?_
        refine V_iload_n dX5_differentOperands_1 rfl rfl ?_
        refine V_iload_n dX5_differentOperands_2 rfl rfl ?_
        refine V_callVX (ctX5_requireMerge_u hL hX hS hv hj hr) mvX5_requireMerge lkX5_234 hL.1 rfl rfl rfl (Nat.le_of_ble_eq_true rfl) ⟨⟨Nat.le_of_ble_eq_true rfl, Nat.le_of_ble_eq_true rfl⟩, Nat.le_of_ble_eq_true rfl, Nat.le_of_ble_eq_true rfl⟩ dX5_differentOperands_3 ?_
        exact VX_outP ⟨rfl, hq⟩ ⟨Nat.le_of_ble_eq_true rfl, Nat.le_of_ble_eq_true rfl⟩

      | true =>
        have hR := bp_t.mp hr
        have h2 : ¬ bp (Rc S.1 j) = false := by rw [hr]; decide
        cases hm : bp (PM S.1 i j) with
        | false =>
          rw [show rs_differentOperands S (nI j) (nI i) = (3, 0, S) from by unfold rs_differentOperands; rw [tj, ti, if_neg h1, if_neg h2, if_pos hm]]
          refine CtP.of rfl (by simp [Value.category]) (Nat.le_of_ble_eq_true rfl) ?_
          refine V_aload_n dX5_differentOperands_0 rfl rfl ?_
          refine V_iload_n dX5_differentOperands_1 rfl rfl ?_
          refine V_iload_n dX5_differentOperands_2 rfl rfl ?_
          refine V_callVX (ctX5_requireMerge_n hL hX hS hi hR hm) mvX5_requireMerge lkX5_234 hL.1 rfl rfl rfl (Nat.le_of_ble_eq_true rfl) ⟨⟨Nat.le_of_ble_eq_true rfl, Nat.le_of_ble_eq_true rfl⟩, Nat.le_of_ble_eq_true rfl, Nat.le_of_ble_eq_true rfl⟩ dX5_differentOperands_3 ?_
          exact VX_outP ⟨rfl, hq⟩ ⟨Nat.le_of_ble_eq_true rfl, Nat.le_of_ble_eq_true rfl⟩

        | true =>
          rw [show rs_differentOperands S (nI j) (nI i) = (0, nI (opN S.1 i j), S) from by unfold rs_differentOperands; rw [tj, ti, if_neg h1, if_neg h2, if_neg (by rw [hm]; decide)]]
          refine CtP.of rfl (by simp [Value.category]) (Nat.le_of_ble_eq_true rfl) ?_
          refine V_aload_n dX5_differentOperands_0 rfl rfl ?_
          refine V_iload_n dX5_differentOperands_1 rfl rfl ?_
          refine V_iload_n dX5_differentOperands_2 rfl rfl ?_
          refine V_cv0 (ctX5_requireMerge_t hL hX hS hi hR hm) mvX5_requireMerge lkX5_234 hL.1 rfl rfl rfl (Nat.le_of_ble_eq_true rfl) ⟨⟨Nat.le_of_ble_eq_true rfl, Nat.le_of_ble_eq_true rfl⟩, Nat.le_of_ble_eq_true rfl, Nat.le_of_ble_eq_true rfl⟩ dX5_differentOperands_3 ?_
          refine V_aload_n dX5_differentOperands_6 rfl rfl ?_
          refine V_getR frX5_10 hL.1 rfl dX5_differentOperands_7 ?_
          refine V_iload_n dX5_differentOperands_10 rfl rfl ?_
          refine V_iload_n dX5_differentOperands_11 rfl rfl ?_
          refine V_cv1 (ctX0_countOperands hL.2.1 hX.1 hS.1 hX.2.1 (by omega) hi) mvX0_countOperands lkX5_242 hL.2.1.1 rfl rfl rfl (Nat.le_of_ble_eq_true rfl) ⟨⟨Nat.le_of_ble_eq_true rfl, Nat.le_of_ble_eq_true rfl⟩, Nat.le_of_ble_eq_true rfl, Nat.le_of_ble_eq_true rfl⟩ dX5_differentOperands_12 ?_
          exact V_iretP rfl ⟨rfl, hq⟩ ⟨Nat.le_of_ble_eq_true rfl, Nat.le_of_ble_eq_true rfl⟩ dX5_differentOperands_15

theorem ctX5_operand (hL : XL σ x) (hX : XA mi x S) (hS : SOK S) {b v p : Int32} : CtP κ 1 6 12 mrX5_operand [.ref x, .int b, .int v, .int p] (MM σ mi ml) (XR σ mi ml x [EIOB, EISE, ENSE] (rs_operand S b v p)) := by
  have hq := XQ (ml := ml) (σ := σ) hX
  have hw := hS.1
  have h14 := hw.2.1
  cases hv : inR v 4 with
  | false =>
    rw [show rs_operand S b v p = (1, 0, S) from by unfold rs_operand; rw [if_pos (by rw [hv]; rfl)]]
    refine CtP.of rfl (by simp [Value.category]) (Nat.le_of_ble_eq_true rfl) ?_
    refine V_aload_n dX5_operand_0 rfl rfl ?_
    refine V_iload_n dX5_operand_1 rfl rfl ?_
    refine V_iload_n dX5_operand_2 rfl rfl ?_
    refine V_callVX (ctX5_requireMerge_v hL hX hS hv) mvX5_requireMerge lkX5_234 hL.1 rfl rfl rfl (Nat.le_of_ble_eq_true rfl) ⟨⟨Nat.le_of_ble_eq_true rfl, Nat.le_of_ble_eq_true rfl⟩, Nat.le_of_ble_eq_true rfl, Nat.le_of_ble_eq_true rfl⟩ dX5_operand_3 ?_
    exact VX_outP ⟨rfl, hq⟩ ⟨Nat.le_of_ble_eq_true rfl, Nat.le_of_ble_eq_true rfl⟩

  | true =>
    obtain ⟨i, hi, rfl⟩ := inR_t (by omega) hv
    have ti := tn_nI (show i < 2 ^ 31 by omega)
    cases hb : inR b S.1.1 with
    | false =>
      rw [show rs_operand S b (nI i) p = (1, 0, S) from by unfold rs_operand; rw [if_pos (by rw [hb, Bool.and_false])]]
      refine CtP.of rfl (by simp [Value.category]) (Nat.le_of_ble_eq_true rfl) ?_
      refine V_aload_n dX5_operand_0 rfl rfl ?_
      refine V_iload_n dX5_operand_1 rfl rfl ?_
      refine V_iload_n dX5_operand_2 rfl rfl ?_
      refine V_callVX (ctX5_requireMerge_b hL hX hS hv hb) mvX5_requireMerge lkX5_234 hL.1 rfl rfl rfl (Nat.le_of_ble_eq_true rfl) ⟨⟨Nat.le_of_ble_eq_true rfl, Nat.le_of_ble_eq_true rfl⟩, Nat.le_of_ble_eq_true rfl, Nat.le_of_ble_eq_true rfl⟩ dX5_operand_3 ?_
      exact VX_outP ⟨rfl, hq⟩ ⟨Nat.le_of_ble_eq_true rfl, Nat.le_of_ble_eq_true rfl⟩

    | true =>
      obtain ⟨j, hj, rfl⟩ := inR_t (by omega) hb
      have tj := tn_nI (show j < 2 ^ 31 by omega)
      have h1 : ¬ (inR (nI i) 4 && inR (nI j) S.1.1) = false := by rw [hb, hv]; decide
      cases hr : bp (Rc S.1 j) with
      | false =>
        rw [show rs_operand S (nI j) (nI i) p = (2, 0, S) from by unfold rs_operand; rw [tj, if_neg h1, if_pos hr]]
        refine CtP.of rfl (by simp [Value.category]) (Nat.le_of_ble_eq_true rfl) ?_
        refine V_aload_n dX5_operand_0 rfl rfl ?_
        refine V_iload_n dX5_operand_1 rfl rfl ?_
        refine V_iload_n dX5_operand_2 rfl rfl ?_
        refine V_callVX (ctX5_requireMerge_u hL hX hS hv hj hr) mvX5_requireMerge lkX5_234 hL.1 rfl rfl rfl (Nat.le_of_ble_eq_true rfl) ⟨⟨Nat.le_of_ble_eq_true rfl, Nat.le_of_ble_eq_true rfl⟩, Nat.le_of_ble_eq_true rfl, Nat.le_of_ble_eq_true rfl⟩ dX5_operand_3 ?_
        exact VX_outP ⟨rfl, hq⟩ ⟨Nat.le_of_ble_eq_true rfl, Nat.le_of_ble_eq_true rfl⟩

      | true =>
        have hR := bp_t.mp hr
        have h2 : ¬ bp (Rc S.1 j) = false := by rw [hr]; decide
        cases hm : bp (PM S.1 i j) with
        | false =>
          rw [show rs_operand S (nI j) (nI i) p = (3, 0, S) from by unfold rs_operand; rw [tj, ti, if_neg h1, if_neg h2, if_pos (by rw [hm]; rfl)]]
          refine CtP.of rfl (by simp [Value.category]) (Nat.le_of_ble_eq_true rfl) ?_
          refine V_aload_n dX5_operand_0 rfl rfl ?_
          refine V_iload_n dX5_operand_1 rfl rfl ?_
          refine V_iload_n dX5_operand_2 rfl rfl ?_
          refine V_callVX (ctX5_requireMerge_n hL hX hS hi hR hm) mvX5_requireMerge lkX5_234 hL.1 rfl rfl rfl (Nat.le_of_ble_eq_true rfl) ⟨⟨Nat.le_of_ble_eq_true rfl, Nat.le_of_ble_eq_true rfl⟩, Nat.le_of_ble_eq_true rfl, Nat.le_of_ble_eq_true rfl⟩ dX5_operand_3 ?_
          exact VX_outP ⟨rfl, hq⟩ ⟨Nat.le_of_ble_eq_true rfl, Nat.le_of_ble_eq_true rfl⟩

        | true =>
          cases hp : inR p S.1.1 with
          | false =>
            rw [show rs_operand S (nI j) (nI i) p = (3, 0, S) from by unfold rs_operand; rw [tj, ti, if_neg h1, if_neg h2, if_pos (by rw [hp, Bool.false_and, Bool.and_false])]]
            refine CtP.of rfl (by simp [Value.category]) (Nat.le_of_ble_eq_true rfl) ?_
            refine V_aload_n dX5_operand_0 rfl rfl ?_
            refine V_iload_n dX5_operand_1 rfl rfl ?_
            refine V_iload_n dX5_operand_2 rfl rfl ?_
            refine V_cv0 (ctX5_requireMerge_t hL hX hS hi hR hm) mvX5_requireMerge lkX5_234 hL.1 rfl rfl rfl (Nat.le_of_ble_eq_true rfl) ⟨⟨Nat.le_of_ble_eq_true rfl, Nat.le_of_ble_eq_true rfl⟩, Nat.le_of_ble_eq_true rfl, Nat.le_of_ble_eq_true rfl⟩ dX5_operand_3 ?_
            refine V_aload_n dX5_operand_6 rfl rfl ?_
            refine V_getR frX5_20 hL.1 rfl dX5_operand_7 ?_
            refine V_iload_n dX5_operand_10 rfl rfl ?_
            refine V_cv1 (ctX1_hasBlock hL.2.1.2.1 hX.1.1) mvX1_hasBlock lkX5_237 hL.2.1.2.1.1 rfl rfl rfl (Nat.le_of_ble_eq_true rfl) ⟨⟨Nat.le_of_ble_eq_true rfl, Nat.le_of_ble_eq_true rfl⟩, Nat.le_of_ble_eq_true rfl, Nat.le_of_ble_eq_true rfl⟩ dX5_operand_11 ?_
            refine V_ifeqB 33 dX5_operand_14 (by decide) (fun h14 => ?_) (fun h14 => absurd (h14.symm.trans hp) (by decide))
            refine V_thrP ⟨rfl, hq⟩ ?_
            exact V_throwX nse0 nse1 nse2 nse5 thrNSE rfl str_240 rfl rfl rfl ⟨Nat.le_of_ble_eq_true rfl, Nat.le_of_ble_eq_true rfl⟩ (Nat.le_of_ble_eq_true rfl) (Nat.le_of_ble_eq_true rfl) dX5_operand_33 dX5_operand_36 dX5_operand_37 dX5_operand_39 dX5_operand_42

          | true =>
            obtain ⟨q, hq2, rfl⟩ := inR_t (by omega) hp
            have tq := tn_nI (show q < 2 ^ 31 by omega)
            cases hpd : bp (Pd S.1 q j) with
            | false =>
              rw [show rs_operand S (nI j) (nI i) (nI q) = (3, 0, S) from by unfold rs_operand; rw [tj, ti, tq, if_neg h1, if_neg h2, if_pos (by rw [hpd, Bool.and_false, Bool.and_false])]]
              refine CtP.of rfl (by simp [Value.category]) (Nat.le_of_ble_eq_true rfl) ?_
              refine V_aload_n dX5_operand_0 rfl rfl ?_
              refine V_iload_n dX5_operand_1 rfl rfl ?_
              refine V_iload_n dX5_operand_2 rfl rfl ?_
              refine V_cv0 (ctX5_requireMerge_t hL hX hS hi hR hm) mvX5_requireMerge lkX5_234 hL.1 rfl rfl rfl (Nat.le_of_ble_eq_true rfl) ⟨⟨Nat.le_of_ble_eq_true rfl, Nat.le_of_ble_eq_true rfl⟩, Nat.le_of_ble_eq_true rfl, Nat.le_of_ble_eq_true rfl⟩ dX5_operand_3 ?_
              refine V_aload_n dX5_operand_6 rfl rfl ?_
              refine V_getR frX5_20 hL.1 rfl dX5_operand_7 ?_
              refine V_iload_n dX5_operand_10 rfl rfl ?_
              refine V_cv1 (ctX1_hasBlock hL.2.1.2.1 hX.1.1) mvX1_hasBlock lkX5_237 hL.2.1.2.1.1 rfl rfl rfl (Nat.le_of_ble_eq_true rfl) ⟨⟨Nat.le_of_ble_eq_true rfl, Nat.le_of_ble_eq_true rfl⟩, Nat.le_of_ble_eq_true rfl, Nat.le_of_ble_eq_true rfl⟩ dX5_operand_11 ?_
              refine V_ifeqB 33 dX5_operand_14 (by decide) (fun h14 => absurd (h14.symm.trans hp) (by decide)) (fun h14 => ?_)
              refine V_aload_n dX5_operand_17 rfl rfl ?_
              refine V_getR frX5_10 hL.1 rfl dX5_operand_18 ?_
              refine V_getR frX5_189 hL.2.1.1 rfl dX5_operand_21 ?_
              refine V_iload_n dX5_operand_24 rfl rfl ?_
              refine V_ialdE hL.2.1.2.2.2.1 j rfl (by omega) (by decide) (hX.2.1.1.2.2 j (by omega)) dX5_operand_25 ?_
              refine V_iload_n dX5_operand_26 rfl rfl ?_
              refine V_cs1 (ctX5_hasM (by omega)) msX5_has lkX5_183 rfl rfl (Nat.le_of_ble_eq_true rfl) ⟨⟨Nat.le_of_ble_eq_true rfl, Nat.le_of_ble_eq_true rfl⟩, Nat.le_of_ble_eq_true rfl, Nat.le_of_ble_eq_true rfl⟩ dX5_operand_27 ?_
              refine V_ifneB 43 dX5_operand_30 (by decide) (fun h30 => absurd (h30.symm.trans hpd) (by decide)) (fun h30 => ?_)
              refine V_thrP ⟨rfl, hq⟩ ?_
              exact V_throwX nse0 nse1 nse2 nse5 thrNSE rfl str_240 rfl rfl rfl ⟨Nat.le_of_ble_eq_true rfl, Nat.le_of_ble_eq_true rfl⟩ (Nat.le_of_ble_eq_true rfl) (Nat.le_of_ble_eq_true rfl) dX5_operand_33 dX5_operand_36 dX5_operand_37 dX5_operand_39 dX5_operand_42

            | true =>
              rw [show rs_operand S (nI j) (nI i) (nI q) = (0, nI (srcE S.1 i q), S) from by unfold rs_operand; rw [tj, ti, tq, if_neg h1, if_neg h2, if_neg (by rw [hm, hp, hpd]; decide)]]
              refine CtP.of rfl (by simp [Value.category]) (Nat.le_of_ble_eq_true rfl) ?_
              refine V_aload_n dX5_operand_0 rfl rfl ?_
              refine V_iload_n dX5_operand_1 rfl rfl ?_
              refine V_iload_n dX5_operand_2 rfl rfl ?_
              refine V_cv0 (ctX5_requireMerge_t hL hX hS hi hR hm) mvX5_requireMerge lkX5_234 hL.1 rfl rfl rfl (Nat.le_of_ble_eq_true rfl) ⟨⟨Nat.le_of_ble_eq_true rfl, Nat.le_of_ble_eq_true rfl⟩, Nat.le_of_ble_eq_true rfl, Nat.le_of_ble_eq_true rfl⟩ dX5_operand_3 ?_
              refine V_aload_n dX5_operand_6 rfl rfl ?_
              refine V_getR frX5_20 hL.1 rfl dX5_operand_7 ?_
              refine V_iload_n dX5_operand_10 rfl rfl ?_
              refine V_cv1 (ctX1_hasBlock hL.2.1.2.1 hX.1.1) mvX1_hasBlock lkX5_237 hL.2.1.2.1.1 rfl rfl rfl (Nat.le_of_ble_eq_true rfl) ⟨⟨Nat.le_of_ble_eq_true rfl, Nat.le_of_ble_eq_true rfl⟩, Nat.le_of_ble_eq_true rfl, Nat.le_of_ble_eq_true rfl⟩ dX5_operand_11 ?_
              refine V_ifeqB 33 dX5_operand_14 (by decide) (fun h14 => absurd (h14.symm.trans hp) (by decide)) (fun h14 => ?_)
              refine V_aload_n dX5_operand_17 rfl rfl ?_
              refine V_getR frX5_10 hL.1 rfl dX5_operand_18 ?_
              refine V_getR frX5_189 hL.2.1.1 rfl dX5_operand_21 ?_
              refine V_iload_n dX5_operand_24 rfl rfl ?_
              refine V_ialdE hL.2.1.2.2.2.1 j rfl (by omega) (by decide) (hX.2.1.1.2.2 j (by omega)) dX5_operand_25 ?_
              refine V_iload_n dX5_operand_26 rfl rfl ?_
              refine V_cs1 (ctX5_hasM (by omega)) msX5_has lkX5_183 rfl rfl (Nat.le_of_ble_eq_true rfl) ⟨⟨Nat.le_of_ble_eq_true rfl, Nat.le_of_ble_eq_true rfl⟩, Nat.le_of_ble_eq_true rfl, Nat.le_of_ble_eq_true rfl⟩ dX5_operand_27 ?_
              refine V_ifneB 43 dX5_operand_30 (by decide) (fun h30 => ?_) (fun h30 => absurd (h30.symm.trans hpd) (by decide))
              refine V_aload_n dX5_operand_43 rfl rfl ?_
              refine V_getR frX5_10 hL.1 rfl dX5_operand_44 ?_
              refine V_iload_n dX5_operand_47 rfl rfl ?_
              refine V_iload_n dX5_operand_48 rfl rfl ?_
              refine V_cv1 (ctX0_sourceAtEnd hL.2.1 hX.1 hS.1 hX.2.1 (bp_t.mp hpd).1 hi) mvX0_sourceAtEnd lkX5_219 hL.2.1.1 rfl rfl rfl (Nat.le_of_ble_eq_true rfl) ⟨⟨Nat.le_of_ble_eq_true rfl, Nat.le_of_ble_eq_true rfl⟩, Nat.le_of_ble_eq_true rfl, Nat.le_of_ble_eq_true rfl⟩ dX5_operand_49 ?_
              exact V_iretP rfl ⟨rfl, hq⟩ ⟨Nat.le_of_ble_eq_true rfl, Nat.le_of_ble_eq_true rfl⟩ dX5_operand_52

end Cls1
