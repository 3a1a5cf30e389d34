/-! SsaRepairModel: the state it shows; questions -/
/-- a row of the history: a graph written out -/
def RowA (mi : Nat → Nat → Int32) (r : Nat) (G : Gr) : Prop := mi r 0 = nI G.1 ∧ ∀ b, b < 14 → mi r (1 + 11 * b) = nI (G.2.1 b).length ∧ mi r (2 + 11 * b) = nI (G.2.2 b).length ∧ (∀ k, k < (G.2.1 b).length → mi r (3 + 11 * b + k) = nI ((G.2.1 b).getD k 0)) ∧ ∀ k, k < (G.2.2 b).length → mi r (9 + 11 * b + k) = nI ((G.2.2 b).getD k 0)
theorem RowA.keep {mi m' : Nat → Nat → Int32} {r : Nat} {G : Gr} (h : RowA mi r G) (hk : ∀ i, m' r i = mi r i) : RowA m' r G := by
  refine ⟨(hk _).trans h.1, fun b hb => ?_⟩
  obtain ⟨h1, h2, h3, h4⟩ := h.2 b hb
  exact ⟨(hk _).trans h1, (hk _).trans h2, fun k q => (hk _).trans (h3 k q), fun k q => (hk _).trans (h4 k q)⟩
def MA (mi : Nat → Nat → Int32) (m : Nat) (S : SS) : Prop := GM mi m S.1 ∧ (mi m 8 = nI S.2.1.1 ∧ ∀ i, i < S.2.1.1 → RowA mi (m + 34 + (S.2.1.1 - 1 - i)) (S.2.1.2 i)) ∧ (mi m 9 = nI (if S.2.2.1.isSome = true then 1 else 0) ∧ ∀ g, S.2.2.1 = some g → RowA mi (m + 43) g) ∧ (mi m 11 = nI S.2.2.2.1.length ∧ ∀ i, i < S.2.2.2.1.length → mi (m + 44) i = nI (ch S.2.2.2.1 i)) ∧ mi m 13 = S.2.2.2.2.1 ∧ mi m 34 = nI S.2.2.2.2.2.1 ∧ ∀ i, 1 ≤ i → i ≤ S.2.2.2.2.2.1 → mi (m + 100) i = nI (S.2.2.2.2.2.2 i)
/-- nothing that the state shows, and nothing outside the model, has changed -/
def kep (mi m' : Nat → Nat → Int32) (m : Nat) : Prop := ∀ a i, ((a = m ∧ (i = 1 ∨ i = 8 ∨ i = 9 ∨ i = 11 ∨ i = 13 ∨ i = 34)) ∨ (m + 1 ≤ a ∧ a < m + 42) ∨ a = m + 43 ∨ a = m + 44 ∨ a = m + 100 ∨ a < m ∨ m + 101 ≤ a) → m' a i = mi a i
/-- what a call of the model answers and leaves -/
def MRz (σ : Nat → Option Kd) (mi : Nat → Nat → Int32) (ml : Nat → Nat → Int64) (m : Nat) (r : Rs) : Oc → Mem → Prop := fun o μ' => o = .inl (some (.int r.2.1)) ∧ ∃ m', μ' = MM σ m' ml ∧ MA m' m r.2.2 ∧ m' m 0 = nI r.1 ∧ ∀ a i, (a < m ∨ m + 101 ≤ a) → m' a i = mi a i
section Mdl4
variable {κ : K0} {σ : Nat → Option Kd} {mi : Nat → Nat → Int32} {ml : Nat → Nat → Int64} {m : Nat} {G : Gr} {S : SS} {μ : Mem}
theorem MA.keep {m1 : Nat → Nat → Int32} (h : MA mi m S) (hS : SOK S) (hk : kep mi m1 m) : MA m1 m S := by
  obtain ⟨h1, ⟨h2, h3⟩, ⟨h4, h5⟩, ⟨h6, h7⟩, h8, h9, h10⟩ := h
  have h8' := hS.2.1.1
  exact ⟨h1.keep (fun a i q => hk a i (by omega)), ⟨(hk _ _ (by omega)).trans h2, fun i hi => (h3 i hi).keep (fun j => hk _ _ (by omega))⟩, ⟨(hk _ _ (by omega)).trans h4, fun g hg => (h5 g hg).keep (fun j => hk _ _ (by omega))⟩, ⟨(hk _ _ (by omega)).trans h6, fun i hi => (hk _ _ (by omega)).trans (h7 i hi)⟩, (hk _ _ (by omega)).trans h8, (hk _ _ (by omega)).trans h9, fun i hi1 hi2 => (hk _ _ (by omega)).trans (h10 i hi1 hi2)⟩
theorem kep.rf : kep mi mi m := fun _ _ _ => rfl
theorem kep.z {m1 : Nat → Nat → Int32} {x : Int32} (h : kep mi m1 m) : kep mi (u2 m1 m 0 x) m := fun a i q => (u2_n _ _ (by omega)).trans (h a i q)
theorem kep.u {m1 : Nat → Nat → Int32} {b j : Nat} {x : Int32} (h : kep mi m1 m) (hb : (m + 45 ≤ b ∧ b < m + 100) ∨ (b = m ∧ j = 30)) : kep mi (u2 m1 b j x) m := fun a i q => (u2_n _ _ (by omega)).trans (h a i q)
theorem kep.an {m1 m2 : Nat → Nat → Int32} (h : kep mi m1 m) (ho : offA m1 m2 m) : kep mi m2 m := fun a i q => (ho a i (by omega) (by omega)).trans (h a i q)
theorem GM.z {x : Int32} (h : GM mi m G) : GM (u2 mi m 0 x) m G := h.keep (fun a i q => u2_n _ _ (by omega))
theorem AN.z (hw : Wf G) {x : Int32} (h : AN mi m G) : AN (u2 mi m 0 x) m G := ⟨h.1.keep (fun a i q => u2_n _ _ (by omega)), h.2.1.keep (fun i => u2_n _ _ (by omega)), h.2.2.1.keep (fun a i q => u2_n _ _ (by omega)), fun v hv => (h.2.2.2 v hv).keep hw (fun a q1 q2 => u2_n _ _ (by omega))⟩
theorem GM.kp {m1 : Nat → Nat → Int32} (h : GM mi m G) (hk : kep mi m1 m) : GM m1 m G := h.keep (fun a i q => hk a i (by omega))
theorem MQz {m1 : Nat → Nat → Int32} {k : Nat} (hA : MA mi m S) (hS : SOK S) (hk : kep mi m1 m) (h0 : m1 m 0 = nI k) : ∃ m', MM σ m1 ml = MM σ m' ml ∧ MA m' m S ∧ m' m 0 = nI k ∧ ∀ a i, (a < m ∨ m + 101 ≤ a) → m' a i = mi a i := ⟨m1, rfl, hA.keep hS hk, h0, fun a i q => hk a i (by omega)⟩
theorem ctX6_isUnreached (hM : ML σ m) (hG : GM mi m G) (hw : Wf G) {j : Nat} (hj : j < 14) : CtP κ 0 0 19 mrX6_isUnreached [.ref m, .int (nI j)] (MM σ mi ml) (fun o μ' => ∃ y, o = .inl (some (.int y)) ∧ y = bI (!bp (Rc G j)) ∧ ∃ m', μ' = MM σ m' ml ∧ AN m' m G ∧ offA mi m' m) := by
  refine CtP.of rfl (by simp [Value.category]) (Nat.le_of_ble_eq_true rfl) ?_
  refine V_aload_n dX6_isUnreached_0 rfl rfl ?_
  refine V_cp0 (ctX6_analyze hM hG hw) mvX6_analyze lkX6_196 hM.1 rfl rfl rfl (Nat.le_of_ble_eq_true rfl) ⟨⟨Nat.le_of_ble_eq_true rfl, Nat.le_of_ble_eq_true rfl⟩, Nat.le_of_ble_eq_true rfl, Nat.le_of_ble_eq_true rfl⟩ dX6_isUnreached_1 (fun μ1 hx => ?_)
  obtain ⟨m1, rfl, hn, ho⟩ := hx
  refine V_aload_n dX6_isUnreached_4 rfl rfl ?_
  refine V_getE frX6_155 hM.1 rfl hn.1.1 dX6_isUnreached_5 ?_
  refine V_iload_n dX6_isUnreached_8 rfl rfl ?_
  refine V_cs1 (ctX6_hasM hj) msX6_has lkX6_158 rfl rfl (Nat.le_of_ble_eq_true rfl) ⟨⟨Nat.le_of_ble_eq_true rfl, Nat.le_of_ble_eq_true rfl⟩, Nat.le_of_ble_eq_true rfl, Nat.le_of_ble_eq_true rfl⟩ dX6_isUnreached_9 ?_
  refine V_ifneB 19 dX6_isUnreached_12 (by decide) (fun h12 => ?_) (fun h12 => ?_)
  · refine V_iconst (v := nI 0) dX6_isUnreached_19 (by decide) ?_
    exact V_zretP rfl rfl ⟨_, rfl, by rw [h12]; rfl, m1, rfl, hn, ho⟩ ⟨Nat.le_of_ble_eq_true rfl, Nat.le_of_ble_eq_true rfl⟩ dX6_isUnreached_20
  · refine V_iconst (v := nI 1) dX6_isUnreached_15 (by decide) ?_
    refine V_goto 20 dX6_isUnreached_16 (by decide) ?_
    exact V_zretP rfl rfl ⟨_, rfl, by rw [h12]; rfl, m1, rfl, hn, ho⟩ ⟨Nat.le_of_ble_eq_true rfl, Nat.le_of_ble_eq_true rfl⟩ dX6_isUnreached_20

theorem ctX6_failsAt_1 (hM : ML σ m) (hG : GM mi m G) (hw : Wf G) {b v : Int32} (hc : (inR v 4 && inR b G.1) = false) : Ct κ 0 0 20 mrX6_failsAt [.ref m, .int b, .int v] (MM σ mi ml) (.inl (some (.int (bI true)))) (MM σ (u2 mi m 0 (nI 1)) ml) := by
  refine Ct.of rfl (by simp [Value.category]) (Nat.le_of_ble_eq_true rfl) ?_
  have h14 := hw.2.1
  refine V_aload_n dX6_failsAt_0 rfl rfl ?_
  refine V_iconst (v := nI 1) dX6_failsAt_1 (by decide) ?_
  refine V_aload_n dX6_failsAt_2 rfl rfl ?_
  refine V_iload_n dX6_failsAt_3 rfl rfl ?_
  refine V_cv1 (ctX6_isBlock hM (show G.1 < 2 ^ 31 by omega) hG.1) mvX6_isBlock lkX6_144 hM.1 rfl rfl rfl (Nat.le_of_ble_eq_true rfl) ⟨⟨Nat.le_of_ble_eq_true rfl, Nat.le_of_ble_eq_true rfl⟩, Nat.le_of_ble_eq_true rfl, Nat.le_of_ble_eq_true rfl⟩ dX6_failsAt_4 ?_
  refine V_ifeqB 17 dX6_failsAt_7 (by decide) (fun h7 => ?_) (fun h7 => ?_)
  · refine V_iconst (v := nI 1) dX6_failsAt_17 (by decide) ?_
    refine V_goto 22 dX6_failsAt_18 (by decide) ?_
    refine V_cv1 (ctX6_fails hM (k := nI 1) (c := true)) mvX6_fails lkX6_100 hM.1 rfl rfl rfl (Nat.le_of_ble_eq_true rfl) ⟨⟨Nat.le_of_ble_eq_true rfl, Nat.le_of_ble_eq_true rfl⟩, Nat.le_of_ble_eq_true rfl, Nat.le_of_ble_eq_true rfl⟩ dX6_failsAt_22 ?_
    refine V_ifneB 41 dX6_failsAt_25 (by decide) (fun h25 => ?_) (fun h25 => absurd (h25.symm.trans rfl) (by decide))
    refine V_iconst (v := nI 1) dX6_failsAt_41 (by decide) ?_
    refine V_goto 46 dX6_failsAt_42 (by decide) ?_
    exact V_zret rfl rfl rfl rfl ⟨Nat.le_of_ble_eq_true rfl, Nat.le_of_ble_eq_true rfl⟩ dX6_failsAt_46
  · refine V_iload_n dX6_failsAt_10 rfl rfl ?_
    refine V_cs1 (ctX6_isVariable) msX6_isVariable lkX6_202 rfl rfl (Nat.le_of_ble_eq_true rfl) ⟨⟨Nat.le_of_ble_eq_true rfl, Nat.le_of_ble_eq_true rfl⟩, Nat.le_of_ble_eq_true rfl, Nat.le_of_ble_eq_true rfl⟩ dX6_failsAt_11 ?_
    refine V_ifneB 21 dX6_failsAt_14 (by decide) (fun h14b => ?_) (fun h14b => ?_)
    · exfalso
      rw [h7, h14b] at hc
      cases hc
    · refine V_iconst (v := nI 1) dX6_failsAt_17 (by decide) ?_
      refine V_goto 22 dX6_failsAt_18 (by decide) ?_
      refine V_cv1 (ctX6_fails hM (k := nI 1) (c := true)) mvX6_fails lkX6_100 hM.1 rfl rfl rfl (Nat.le_of_ble_eq_true rfl) ⟨⟨Nat.le_of_ble_eq_true rfl, Nat.le_of_ble_eq_true rfl⟩, Nat.le_of_ble_eq_true rfl, Nat.le_of_ble_eq_true rfl⟩ dX6_failsAt_22 ?_
      refine V_ifneB 41 dX6_failsAt_25 (by decide) (fun h25 => ?_) (fun h25 => absurd (h25.symm.trans rfl) (by decide))
      refine V_iconst (v := nI 1) dX6_failsAt_41 (by decide) ?_
      refine V_goto 46 dX6_failsAt_42 (by decide) ?_
      exact V_zret rfl rfl rfl rfl ⟨Nat.le_of_ble_eq_true rfl, Nat.le_of_ble_eq_true rfl⟩ dX6_failsAt_46

theorem nR {j : Nat} : (!bp (Rc G j)) = true ↔ ¬ Rc G j := by rw [Bool.not_eq_true', bp_f]
theorem ctX6_failsAt_2 (hM : ML σ m) (hG : GM mi m G) (hw : Wf G) {j : Nat} {v : Int32} (hv : inR v 4 = true) (hj : j < G.1) (hr : bp (Rc G j) = false) : CtP κ 0 0 20 mrX6_failsAt [.ref m, .int (nI j), .int v] (MM σ mi ml) (fun o μ' => ∃ y, o = .inl (some (.int y)) ∧ y = bI true ∧ ∃ m', μ' = MM σ m' ml ∧ kep mi m' m ∧ m' m 0 = nI 2) := by
  refine CtP.of rfl (by simp [Value.category]) (Nat.le_of_ble_eq_true rfl) ?_
  have h14 := hw.2.1
  have hb := inR_nI hj (by omega)
  refine V_aload_n dX6_failsAt_0 rfl rfl ?_
  refine V_iconst (v := nI 1) dX6_failsAt_1 (by decide) ?_
  refine V_aload_n dX6_failsAt_2 rfl rfl ?_
  refine V_iload_n dX6_failsAt_3 rfl rfl ?_
  refine V_cv1 (ctX6_isBlock hM (show G.1 < 2 ^ 31 by omega) hG.1) mvX6_isBlock lkX6_144 hM.1 rfl rfl rfl (Nat.le_of_ble_eq_true rfl) ⟨⟨Nat.le_of_ble_eq_true rfl, Nat.le_of_ble_eq_true rfl⟩, Nat.le_of_ble_eq_true rfl, Nat.le_of_ble_eq_true rfl⟩ dX6_failsAt_4 ?_
  refine V_ifeqB 17 dX6_failsAt_7 (by decide) (fun h7 => absurd (h7.symm.trans hb) (by decide)) (fun h7 => ?_)
  refine V_iload_n dX6_failsAt_10 rfl rfl ?_
  refine V_cs1 (ctX6_isVariable) msX6_isVariable lkX6_202 rfl rfl (Nat.le_of_ble_eq_true rfl) ⟨⟨Nat.le_of_ble_eq_true rfl, Nat.le_of_ble_eq_true rfl⟩, Nat.le_of_ble_eq_true rfl, Nat.le_of_ble_eq_true rfl⟩ dX6_failsAt_11 ?_
  refine V_ifneB 21 dX6_failsAt_14 (by decide) (fun h14 => ?_) (fun h14 => absurd (h14.symm.trans hv) (by decide))
  refine V_iconst (v := nI 0) dX6_failsAt_21 (by decide) ?_
  refine V_cv1 (ctX6_fails hM (k := nI 1) (c := false)) mvX6_fails lkX6_100 hM.1 rfl rfl rfl (Nat.le_of_ble_eq_true rfl) ⟨⟨Nat.le_of_ble_eq_true rfl, Nat.le_of_ble_eq_true rfl⟩, Nat.le_of_ble_eq_true rfl, Nat.le_of_ble_eq_true rfl⟩ dX6_failsAt_22 ?_
  refine V_ifneB 41 dX6_failsAt_25 (by decide) (fun h25 => absurd (h25.symm.trans rfl) (by decide)) (fun h25 => ?_)
  refine V_aload_n dX6_failsAt_28 rfl rfl ?_
  refine V_iconst (v := nI 2) dX6_failsAt_29 (by decide) ?_
  refine V_aload_n dX6_failsAt_30 rfl rfl ?_
  refine V_iload_n dX6_failsAt_31 rfl rfl ?_
  refine V_cp1 (ctX6_isUnreached hM hG.z hw (show j < 14 by omega)) mvX6_isUnreached lkX6_199 hM.1 rfl rfl rfl (Nat.le_of_ble_eq_true rfl) ⟨⟨Nat.le_of_ble_eq_true rfl, Nat.le_of_ble_eq_true rfl⟩, Nat.le_of_ble_eq_true rfl, Nat.le_of_ble_eq_true rfl⟩ dX6_failsAt_32 (fun y μ1 hx => ?_)
  obtain ⟨rfl, m1, rfl, hn, ho⟩ := hx
  rw [hr]
  refine V_cv1 (ctX6_fails hM (k := nI 2) (c := true)) mvX6_fails lkX6_100 hM.1 rfl rfl rfl (Nat.le_of_ble_eq_true rfl) ⟨⟨Nat.le_of_ble_eq_true rfl, Nat.le_of_ble_eq_true rfl⟩, Nat.le_of_ble_eq_true rfl, Nat.le_of_ble_eq_true rfl⟩ dX6_failsAt_35 ?_
  refine V_ifeqB 45 dX6_failsAt_38 (by decide) (fun h38 => absurd (h38.symm.trans rfl) (by decide)) (fun h38 => ?_)
  refine V_iconst (v := nI 1) dX6_failsAt_41 (by decide) ?_
  refine V_goto 46 dX6_failsAt_42 (by decide) ?_
  exact V_zretP rfl rfl ⟨_, rfl, rfl, _, rfl, (kep.rf.z.an ho).z, u2_s _ _ _ _⟩ ⟨Nat.le_of_ble_eq_true rfl, Nat.le_of_ble_eq_true rfl⟩ dX6_failsAt_46

theorem ctX6_failsAt_0 (hM : ML σ m) (hG : GM mi m G) (hw : Wf G) {j : Nat} {v : Int32} (hv : inR v 4 = true) (hj : j < G.1) (hr : bp (Rc G j) = true) : CtP κ 0 0 20 mrX6_failsAt [.ref m, .int (nI j), .int v] (MM σ mi ml) (fun o μ' => ∃ y, o = .inl (some (.int y)) ∧ y = bI false ∧ ∃ m', μ' = MM σ m' ml ∧ kep mi m' m ∧ m' m 0 = nI 0 ∧ AN m' m G) := by
  refine CtP.of rfl (by simp [Value.category]) (Nat.le_of_ble_eq_true rfl) ?_
  have h14 := hw.2.1
  have hb := inR_nI hj (by omega)
  refine V_aload_n dX6_failsAt_0 rfl rfl ?_
  refine V_iconst (v := nI 1) dX6_failsAt_1 (by decide) ?_
  refine V_aload_n dX6_failsAt_2 rfl rfl ?_
  refine V_iload_n dX6_failsAt_3 rfl rfl ?_
  refine V_cv1 (ctX6_isBlock hM (show G.1 < 2 ^ 31 by omega) hG.1) mvX6_isBlock lkX6_144 hM.1 rfl rfl rfl (Nat.le_of_ble_eq_true rfl) ⟨⟨Nat.le_of_ble_eq_true rfl, Nat.le_of_ble_eq_true rfl⟩, Nat.le_of_ble_eq_true rfl, Nat.le_of_ble_eq_true rfl⟩ dX6_failsAt_4 ?_
  refine V_ifeqB 17 dX6_failsAt_7 (by decide) (fun h7 => absurd (h7.symm.trans hb) (by decide)) (fun h7 => ?_)
  refine V_iload_n dX6_failsAt_10 rfl rfl ?_
  refine V_cs1 (ctX6_isVariable) msX6_isVariable lkX6_202 rfl rfl (Nat.le_of_ble_eq_true rfl) ⟨⟨Nat.le_of_ble_eq_true rfl, Nat.le_of_ble_eq_true rfl⟩, Nat.le_of_ble_eq_true rfl, Nat.le_of_ble_eq_true rfl⟩ dX6_failsAt_11 ?_
  refine V_ifneB 21 dX6_failsAt_14 (by decide) (fun h14 => ?_) (fun h14 => absurd (h14.symm.trans hv) (by decide))
  refine V_iconst (v := nI 0) dX6_failsAt_21 (by decide) ?_
  refine V_cv1 (ctX6_fails hM (k := nI 1) (c := false)) mvX6_fails lkX6_100 hM.1 rfl rfl rfl (Nat.le_of_ble_eq_true rfl) ⟨⟨Nat.le_of_ble_eq_true rfl, Nat.le_of_ble_eq_true rfl⟩, Nat.le_of_ble_eq_true rfl, Nat.le_of_ble_eq_true rfl⟩ dX6_failsAt_22 ?_
  refine V_ifneB 41 dX6_failsAt_25 (by decide) (fun h25 => absurd (h25.symm.trans rfl) (by decide)) (fun h25 => ?_)
  refine V_aload_n dX6_failsAt_28 rfl rfl ?_
  refine V_iconst (v := nI 2) dX6_failsAt_29 (by decide) ?_
  refine V_aload_n dX6_failsAt_30 rfl rfl ?_
  refine V_iload_n dX6_failsAt_31 rfl rfl ?_
  refine V_cp1 (ctX6_isUnreached hM hG.z hw (show j < 14 by omega)) mvX6_isUnreached lkX6_199 hM.1 rfl rfl rfl (Nat.le_of_ble_eq_true rfl) ⟨⟨Nat.le_of_ble_eq_true rfl, Nat.le_of_ble_eq_true rfl⟩, Nat.le_of_ble_eq_true rfl, Nat.le_of_ble_eq_true rfl⟩ dX6_failsAt_32 (fun y μ1 hx => ?_)
  obtain ⟨rfl, m1, rfl, hn, ho⟩ := hx
  rw [hr]
  refine V_cv1 (ctX6_fails hM (k := nI 2) (c := false)) mvX6_fails lkX6_100 hM.1 rfl rfl rfl (Nat.le_of_ble_eq_true rfl) ⟨⟨Nat.le_of_ble_eq_true rfl, Nat.le_of_ble_eq_true rfl⟩, Nat.le_of_ble_eq_true rfl, Nat.le_of_ble_eq_true rfl⟩ dX6_failsAt_35 ?_
  refine V_ifeqB 45 dX6_failsAt_38 (by decide) (fun h38 => ?_) (fun h38 => absurd (h38.symm.trans rfl) (by decide))
  refine V_iconst (v := nI 0) dX6_failsAt_45 (by decide) ?_
  exact V_zretP rfl rfl ⟨_, rfl, rfl, _, rfl, (kep.rf.z.an ho).z, u2_s _ _ _ _, hn.z hw⟩ ⟨Nat.le_of_ble_eq_true rfl, Nat.le_of_ble_eq_true rfl⟩ dX6_failsAt_46

theorem ctX6_blockCount (hM : ML σ m) (hA : MA mi m S) (hS : SOK S)  : CtP κ 0 0 24 mrX6_blockCount [.ref m] (MM σ mi ml) (MRz σ mi ml m (rs_blockCount S)) := by
  have hw := hS.1
  have h14 := hw.2.1
  have hG := hA.1
  rw [show rs_blockCount S = (0, nI S.1.1, S) from by unfold rs_blockCount; rfl]
  refine CtP.of rfl (by simp [Value.category]) (Nat.le_of_ble_eq_true rfl) ?_
  refine V_aload_n dX6_blockCount_0 rfl rfl ?_
  refine V_iconst (v := nI 0) dX6_blockCount_1 (by decide) ?_
  refine V_putI fpX6_83 rfl rfl hM.1 rfl dX6_blockCount_2 ?_
  refine V_aload_n dX6_blockCount_5 rfl rfl ?_
  refine V_getE frX6_7 hM.1 rfl ((hG.z).1) dX6_blockCount_6 ?_
  exact V_iretP rfl ⟨rfl, MQz hA hS (by first | exact kep.rf.z | exact kep.rf.z.z | exact kep.rf.z.z.z) (u2_s _ _ _ _)⟩ ⟨Nat.le_of_ble_eq_true rfl, Nat.le_of_ble_eq_true rfl⟩ dX6_blockCount_9

theorem ctX6_actionCount (hM : ML σ m) (hA : MA mi m S) (hS : SOK S) {b : Int32} : CtP κ 0 0 24 mrX6_actionCount [.ref m, .int b] (MM σ mi ml) (MRz σ mi ml m (rs_actionCount S b)) := by
  have hw := hS.1
  have h14 := hw.2.1
  have hG := hA.1
  cases hb : inR b S.1.1 with
  | false =>
    rw [show rs_actionCount S b = (1, 0, S) from by unfold rs_actionCount; rw [if_pos hb]]
    refine CtP.of rfl (by simp [Value.category]) (Nat.le_of_ble_eq_true rfl) ?_
    refine V_aload_n dX6_actionCount_0 rfl rfl ?_
    refine V_iconst (v := nI 1) dX6_actionCount_1 (by decide) ?_
    refine V_aload_n dX6_actionCount_2 rfl rfl ?_
    refine V_iload_n dX6_actionCount_3 rfl rfl ?_
    refine V_cv1 (ctX6_isBlock hM (show S.1.1 < 2 ^ 31 by omega) hG.1) mvX6_isBlock lkX6_144 hM.1 rfl rfl rfl (Nat.le_of_ble_eq_true rfl) ⟨⟨Nat.le_of_ble_eq_true rfl, Nat.le_of_ble_eq_true rfl⟩, Nat.le_of_ble_eq_true rfl, Nat.le_of_ble_eq_true rfl⟩ dX6_actionCount_4 ?_
    refine V_ifneB 14 dX6_actionCount_7 (by decide) (fun h7 => absurd (h7.symm.trans hb) (by decide)) (fun h7 => ?_)
    refine V_iconst (v := nI 1) dX6_actionCount_10 (by decide) ?_
    refine V_goto 15 dX6_actionCount_11 (by decide) ?_
    refine V_cv1 (ctX6_fails hM (k := nI 1) (c := true)) mvX6_fails lkX6_100 hM.1 rfl rfl rfl (Nat.le_of_ble_eq_true rfl) ⟨⟨Nat.le_of_ble_eq_true rfl, Nat.le_of_ble_eq_true rfl⟩, Nat.le_of_ble_eq_true rfl, Nat.le_of_ble_eq_true rfl⟩ dX6_actionCount_15 ?_
    refine V_ifeqB 25 dX6_actionCount_18 (by decide) (fun h18 => absurd (h18.symm.trans rfl) (by decide)) (fun h18 => ?_)
    refine V_iconst (v := nI 0) dX6_actionCount_21 (by decide) ?_
    refine V_goto 31 dX6_actionCount_22 (by decide) ?_
    exact V_iretP rfl ⟨rfl, MQz hA hS (by first | exact kep.rf.z | exact kep.rf.z.z | exact kep.rf.z.z.z) (u2_s _ _ _ _)⟩ ⟨Nat.le_of_ble_eq_true rfl, Nat.le_of_ble_eq_true rfl⟩ dX6_actionCount_31

  | true =>
    obtain ⟨j, hj, rfl⟩ := inR_t (by omega) hb
    have tj := tn_nI (show j < 2 ^ 31 by omega)
    rw [show rs_actionCount S (nI j) = (0, nI (S.1.2.1 j).length, S) from by unfold rs_actionCount; rw [tj, if_neg (by rw [hb]; decide)]]
    refine CtP.of rfl (by simp [Value.category]) (Nat.le_of_ble_eq_true rfl) ?_
    refine V_aload_n dX6_actionCount_0 rfl rfl ?_
    refine V_iconst (v := nI 1) dX6_actionCount_1 (by decide) ?_
    refine V_aload_n dX6_actionCount_2 rfl rfl ?_
    refine V_iload_n dX6_actionCount_3 rfl rfl ?_
    refine V_cv1 (ctX6_isBlock hM (show S.1.1 < 2 ^ 31 by omega) hG.1) mvX6_isBlock lkX6_144 hM.1 rfl rfl rfl (Nat.le_of_ble_eq_true rfl) ⟨⟨Nat.le_of_ble_eq_true rfl, Nat.le_of_ble_eq_true rfl⟩, Nat.le_of_ble_eq_true rfl, Nat.le_of_ble_eq_true rfl⟩ dX6_actionCount_4 ?_
    refine V_ifneB 14 dX6_actionCount_7 (by decide) (fun h7 => ?_) (fun h7 => absurd (h7.symm.trans hb) (by decide))
    refine V_iconst (v := nI 0) dX6_actionCount_14 (by decide) ?_
    refine V_cv1 (ctX6_fails hM (k := nI 1) (c := false)) mvX6_fails lkX6_100 hM.1 rfl rfl rfl (Nat.le_of_ble_eq_true rfl) ⟨⟨Nat.le_of_ble_eq_true rfl, Nat.le_of_ble_eq_true rfl⟩, Nat.le_of_ble_eq_true rfl, Nat.le_of_ble_eq_true rfl⟩ dX6_actionCount_15 ?_
    refine V_ifeqB 25 dX6_actionCount_18 (by decide) (fun h18 => ?_) (fun h18 => absurd (h18.symm.trans rfl) (by decide))
    refine V_aload_n dX6_actionCount_25 rfl rfl ?_
    refine V_getR frX6_13 hM.1 rfl dX6_actionCount_26 ?_
    refine V_iload_n dX6_actionCount_29 rfl rfl ?_
    refine V_ialdE hM.2.1 j rfl (by omega) (by decide) ((hG.z.2 j (by omega)).1) dX6_actionCount_30 ?_
    exact V_iretP rfl ⟨rfl, MQz hA hS (by first | exact kep.rf.z | exact kep.rf.z.z | exact kep.rf.z.z.z) (u2_s _ _ _ _)⟩ ⟨Nat.le_of_ble_eq_true rfl, Nat.le_of_ble_eq_true rfl⟩ dX6_actionCount_31

theorem ctX6_edgeCount (hM : ML σ m) (hA : MA mi m S) (hS : SOK S) {b : Int32} : CtP κ 0 0 24 mrX6_edgeCount [.ref m, .int b] (MM σ mi ml) (MRz σ mi ml m (rs_edgeCount S b)) := by
  have hw := hS.1
  have h14 := hw.2.1
  have hG := hA.1
  cases hb : inR b S.1.1 with
  | false =>
    rw [show rs_edgeCount S b = (1, 0, S) from by unfold rs_edgeCount; rw [if_pos hb]]
    refine CtP.of rfl (by simp [Value.category]) (Nat.le_of_ble_eq_true rfl) ?_
    refine V_aload_n dX6_edgeCount_0 rfl rfl ?_
    refine V_iconst (v := nI 1) dX6_edgeCount_1 (by decide) ?_
    refine V_aload_n dX6_edgeCount_2 rfl rfl ?_
    refine V_iload_n dX6_edgeCount_3 rfl rfl ?_
    refine V_cv1 (ctX6_isBlock hM (show S.1.1 < 2 ^ 31 by omega) hG.1) mvX6_isBlock lkX6_144 hM.1 rfl rfl rfl (Nat.le_of_ble_eq_true rfl) ⟨⟨Nat.le_of_ble_eq_true rfl, Nat.le_of_ble_eq_true rfl⟩, Nat.le_of_ble_eq_true rfl, Nat.le_of_ble_eq_true rfl⟩ dX6_edgeCount_4 ?_
    refine V_ifneB 14 dX6_edgeCount_7 (by decide) (fun h7 => absurd (h7.symm.trans hb) (by decide)) (fun h7 => ?_)
    refine V_iconst (v := nI 1) dX6_edgeCount_10 (by decide) ?_
    refine V_goto 15 dX6_edgeCount_11 (by decide) ?_
    refine V_cv1 (ctX6_fails hM (k := nI 1) (c := true)) mvX6_fails lkX6_100 hM.1 rfl rfl rfl (Nat.le_of_ble_eq_true rfl) ⟨⟨Nat.le_of_ble_eq_true rfl, Nat.le_of_ble_eq_true rfl⟩, Nat.le_of_ble_eq_true rfl, Nat.le_of_ble_eq_true rfl⟩ dX6_edgeCount_15 ?_
    refine V_ifeqB 25 dX6_edgeCount_18 (by decide) (fun h18 => absurd (h18.symm.trans rfl) (by decide)) (fun h18 => ?_)
    refine V_iconst (v := nI 0) dX6_edgeCount_21 (by decide) ?_
    refine V_goto 31 dX6_edgeCount_22 (by decide) ?_
    exact V_iretP rfl ⟨rfl, MQz hA hS (by first | exact kep.rf.z | exact kep.rf.z.z | exact kep.rf.z.z.z) (u2_s _ _ _ _)⟩ ⟨Nat.le_of_ble_eq_true rfl, Nat.le_of_ble_eq_true rfl⟩ dX6_edgeCount_31

  | true =>
    obtain ⟨j, hj, rfl⟩ := inR_t (by omega) hb
    have tj := tn_nI (show j < 2 ^ 31 by omega)
    rw [show rs_edgeCount S (nI j) = (0, nI (S.1.2.2 j).length, S) from by unfold rs_edgeCount; rw [tj, if_neg (by rw [hb]; decide)]]
    refine CtP.of rfl (by simp [Value.category]) (Nat.le_of_ble_eq_true rfl) ?_
    refine V_aload_n dX6_edgeCount_0 rfl rfl ?_
    refine V_iconst (v := nI 1) dX6_edgeCount_1 (by decide) ?_
    refine V_aload_n dX6_edgeCount_2 rfl rfl ?_
    refine V_iload_n dX6_edgeCount_3 rfl rfl ?_
    refine V_cv1 (ctX6_isBlock hM (show S.1.1 < 2 ^ 31 by omega) hG.1) mvX6_isBlock lkX6_144 hM.1 rfl rfl rfl (Nat.le_of_ble_eq_true rfl) ⟨⟨Nat.le_of_ble_eq_true rfl, Nat.le_of_ble_eq_true rfl⟩, Nat.le_of_ble_eq_true rfl, Nat.le_of_ble_eq_true rfl⟩ dX6_edgeCount_4 ?_
    refine V_ifneB 14 dX6_edgeCount_7 (by decide) (fun h7 => ?_) (fun h7 => absurd (h7.symm.trans hb) (by decide))
    refine V_iconst (v := nI 0) dX6_edgeCount_14 (by decide) ?_
    refine V_cv1 (ctX6_fails hM (k := nI 1) (c := false)) mvX6_fails lkX6_100 hM.1 rfl rfl rfl (Nat.le_of_ble_eq_true rfl) ⟨⟨Nat.le_of_ble_eq_true rfl, Nat.le_of_ble_eq_true rfl⟩, Nat.le_of_ble_eq_true rfl, Nat.le_of_ble_eq_true rfl⟩ dX6_edgeCount_15 ?_
    refine V_ifeqB 25 dX6_edgeCount_18 (by decide) (fun h18 => ?_) (fun h18 => absurd (h18.symm.trans rfl) (by decide))
    refine V_aload_n dX6_edgeCount_25 rfl rfl ?_
    refine V_getR frX6_17 hM.1 rfl dX6_edgeCount_26 ?_
    refine V_iload_n dX6_edgeCount_29 rfl rfl ?_
    refine V_ialdE hM.2.2.1 j rfl (by omega) (by decide) ((hG.z.2 j (by omega)).2.1) dX6_edgeCount_30 ?_
    exact V_iretP rfl ⟨rfl, MQz hA hS (by first | exact kep.rf.z | exact kep.rf.z.z | exact kep.rf.z.z.z) (u2_s _ _ _ _)⟩ ⟨Nat.le_of_ble_eq_true rfl, Nat.le_of_ble_eq_true rfl⟩ dX6_edgeCount_31

theorem ctX6_action (hM : ML σ m) (hA : MA mi m S) (hS : SOK S) {b k : Int32} : CtP κ 0 0 24 mrX6_action [.ref m, .int b, .int k] (MM σ mi ml) (MRz σ mi ml m (rs_action S b k)) := by
  have hw := hS.1
  have h14 := hw.2.1
  have hG := hA.1
  cases hb : hasAct S.1 b k with
  | false =>
    rw [show rs_action S b k = (1, 0, S) from by unfold rs_action; rw [if_pos hb]]
    refine CtP.of rfl (by simp [Value.category]) (Nat.le_of_ble_eq_true rfl) ?_
    refine V_aload_n dX6_action_0 rfl rfl ?_
    refine V_iconst (v := nI 1) dX6_action_1 (by decide) ?_
    refine V_aload_n dX6_action_2 rfl rfl ?_
    refine V_iload_n dX6_action_3 rfl rfl ?_
    refine V_iload_n dX6_action_4 rfl rfl ?_
    refine V_cv1 (ctX6_isAction hM hG hw) mvX6_isAction lkX6_147 hM.1 rfl rfl rfl (Nat.le_of_ble_eq_true rfl) ⟨⟨Nat.le_of_ble_eq_true rfl, Nat.le_of_ble_eq_true rfl⟩, Nat.le_of_ble_eq_true rfl, Nat.le_of_ble_eq_true rfl⟩ dX6_action_5 ?_
    refine V_ifneB 15 dX6_action_8 (by decide) (fun h8 => absurd (h8.symm.trans hb) (by decide)) (fun h8 => ?_)
    refine V_iconst (v := nI 1) dX6_action_11 (by decide) ?_
    refine V_goto 16 dX6_action_12 (by decide) ?_
    refine V_cv1 (ctX6_fails hM (k := nI 1) (c := true)) mvX6_fails lkX6_100 hM.1 rfl rfl rfl (Nat.le_of_ble_eq_true rfl) ⟨⟨Nat.le_of_ble_eq_true rfl, Nat.le_of_ble_eq_true rfl⟩, Nat.le_of_ble_eq_true rfl, Nat.le_of_ble_eq_true rfl⟩ dX6_action_16 ?_
    refine V_ifeqB 26 dX6_action_19 (by decide) (fun h19 => absurd (h19.symm.trans rfl) (by decide)) (fun h19 => ?_)
    refine V_iconst (v := nI 0) dX6_action_22 (by decide) ?_
    refine V_goto 34 dX6_action_23 (by decide) ?_
    exact V_iretP rfl ⟨rfl, MQz hA hS (by first | exact kep.rf.z | exact kep.rf.z.z | exact kep.rf.z.z.z) (u2_s _ _ _ _)⟩ ⟨Nat.le_of_ble_eq_true rfl, Nat.le_of_ble_eq_true rfl⟩ dX6_action_34

  | true =>
    obtain ⟨j, i, hj, hi, rfl, rfl⟩ := hasAct_t hw hb
    have h6 := (hw.2.2.1 j).1
    have tj := tn_nI (show j < 2 ^ 31 by omega)
    have ti := tn_nI (show i < 2 ^ 31 by omega)
    rw [show rs_action S (nI j) (nI i) = (0, nI ((S.1.2.1 j).getD i 0), S) from by unfold rs_action; rw [tj, ti, if_neg (by rw [hb]; decide)]]
    refine CtP.of rfl (by simp [Value.category]) (Nat.le_of_ble_eq_true rfl) ?_
    refine V_aload_n dX6_action_0 rfl rfl ?_
    refine V_iconst (v := nI 1) dX6_action_1 (by decide) ?_
    refine V_aload_n dX6_action_2 rfl rfl ?_
    refine V_iload_n dX6_action_3 rfl rfl ?_
    refine V_iload_n dX6_action_4 rfl rfl ?_
    refine V_cv1 (ctX6_isAction hM hG hw) mvX6_isAction lkX6_147 hM.1 rfl rfl rfl (Nat.le_of_ble_eq_true rfl) ⟨⟨Nat.le_of_ble_eq_true rfl, Nat.le_of_ble_eq_true rfl⟩, Nat.le_of_ble_eq_true rfl, Nat.le_of_ble_eq_true rfl⟩ dX6_action_5 ?_
    refine V_ifneB 15 dX6_action_8 (by decide) (fun h8 => ?_) (fun h8 => absurd (h8.symm.trans hb) (by decide))
    refine V_iconst (v := nI 0) dX6_action_15 (by decide) ?_
    refine V_cv1 (ctX6_fails hM (k := nI 1) (c := false)) mvX6_fails lkX6_100 hM.1 rfl rfl rfl (Nat.le_of_ble_eq_true rfl) ⟨⟨Nat.le_of_ble_eq_true rfl, Nat.le_of_ble_eq_true rfl⟩, Nat.le_of_ble_eq_true rfl, Nat.le_of_ble_eq_true rfl⟩ dX6_action_16 ?_
    refine V_ifeqB 26 dX6_action_19 (by decide) (fun h19 => ?_) (fun h19 => absurd (h19.symm.trans rfl) (by decide))
    refine V_aload_n dX6_action_26 rfl rfl ?_
    refine V_getR frX6_22 hM.1 rfl dX6_action_27 ?_
    refine V_iload_n dX6_action_30 rfl rfl ?_
    refine V_aaldR hM.2.2.2.2.2.2.2.2.2.2.2.2.2.2.2.2.1 (j) rfl (show j < 14 by omega) (by decide) dX6_action_31 ?_
    refine V_iload_n dX6_action_32 rfl rfl ?_
    refine V_ialdE (hM.2.2.2.2.2.2.2.2.2.2.2.2.2.2.2.2.1.row (j := j) (show j < 14 by omega)) i rfl (by omega) (by decide) ((hG.z.2 j (by omega)).2.2.1 i hi) dX6_action_33 ?_
    exact V_iretP rfl ⟨rfl, MQz hA hS (by first | exact kep.rf.z | exact kep.rf.z.z | exact kep.rf.z.z.z) (u2_s _ _ _ _)⟩ ⟨Nat.le_of_ble_eq_true rfl, Nat.le_of_ble_eq_true rfl⟩ dX6_action_34

theorem ctX6_target (hM : ML σ m) (hA : MA mi m S) (hS : SOK S) {b k : Int32} : CtP κ 0 0 24 mrX6_target [.ref m, .int b, .int k] (MM σ mi ml) (MRz σ mi ml m (rs_target S b k)) := by
  have hw := hS.1
  have h14 := hw.2.1
  have hG := hA.1
  cases hb : inR b S.1.1 with
  | false =>
    have hc : hasEdg S.1 b k = false := by unfold hasEdg; rw [hb]; rfl
    rw [show rs_target S b k = (1, 0, S) from by unfold rs_target; rw [if_pos hc]]
    refine CtP.of rfl (by simp [Value.category]) (Nat.le_of_ble_eq_true rfl) ?_
    refine V_aload_n dX6_target_0 rfl rfl ?_
    refine V_iconst (v := nI 1) dX6_target_1 (by decide) ?_
    refine V_aload_n dX6_target_2 rfl rfl ?_
    refine V_iload_n dX6_target_3 rfl rfl ?_
    refine V_cv1 (ctX6_isBlock hM (show S.1.1 < 2 ^ 31 by omega) hG.1) mvX6_isBlock lkX6_144 hM.1 rfl rfl rfl (Nat.le_of_ble_eq_true rfl) ⟨⟨Nat.le_of_ble_eq_true rfl, Nat.le_of_ble_eq_true rfl⟩, Nat.le_of_ble_eq_true rfl, Nat.le_of_ble_eq_true rfl⟩ dX6_target_4 ?_
    refine V_ifeqB 26 dX6_target_7 (by decide) (fun h7 => ?_) (fun h7 => absurd (h7.symm.trans hb) (by decide))
    refine V_iconst (v := nI 1) dX6_target_26 (by decide) ?_
    refine V_goto 31 dX6_target_27 (by decide) ?_
    refine V_cv1 (ctX6_fails hM (k := nI 1) (c := true)) mvX6_fails lkX6_100 hM.1 rfl rfl rfl (Nat.le_of_ble_eq_true rfl) ⟨⟨Nat.le_of_ble_eq_true rfl, Nat.le_of_ble_eq_true rfl⟩, Nat.le_of_ble_eq_true rfl, Nat.le_of_ble_eq_true rfl⟩ dX6_target_31 ?_
    refine V_ifeqB 41 dX6_target_34 (by decide) (fun h34 => absurd (h34.symm.trans rfl) (by decide)) (fun h34 => ?_)
    refine V_iconst (v := nI 0) dX6_target_37 (by decide) ?_
    refine V_goto 49 dX6_target_38 (by decide) ?_
    exact V_iretP rfl ⟨rfl, MQz hA hS (by first | exact kep.rf.z | exact kep.rf.z.z | exact kep.rf.z.z.z) (u2_s _ _ _ _)⟩ ⟨Nat.le_of_ble_eq_true rfl, Nat.le_of_ble_eq_true rfl⟩ dX6_target_49

  | true =>
    obtain ⟨j, hj, rfl⟩ := inR_t (by omega) hb
    have tj := tn_nI (show j < 2 ^ 31 by omega)
    have h3 := (hw.2.2.2.1 j).1
    have hc : hasEdg S.1 (nI j) k = inR k (S.1.2.2 j).length := by unfold hasEdg; rw [hb, nI_clamp (by omega)]; rfl
    cases hk : inR k (S.1.2.2 j).length with
    | false =>
      rw [show rs_target S (nI j) k = (1, 0, S) from by unfold rs_target; rw [if_pos (hc.trans hk)]]
      refine CtP.of rfl (by simp [Value.category]) (Nat.le_of_ble_eq_true rfl) ?_
      refine V_aload_n dX6_target_0 rfl rfl ?_
      refine V_iconst (v := nI 1) dX6_target_1 (by decide) ?_
      refine V_aload_n dX6_target_2 rfl rfl ?_
      refine V_iload_n dX6_target_3 rfl rfl ?_
      refine V_cv1 (ctX6_isBlock hM (show S.1.1 < 2 ^ 31 by omega) hG.1) mvX6_isBlock lkX6_144 hM.1 rfl rfl rfl (Nat.le_of_ble_eq_true rfl) ⟨⟨Nat.le_of_ble_eq_true rfl, Nat.le_of_ble_eq_true rfl⟩, Nat.le_of_ble_eq_true rfl, Nat.le_of_ble_eq_true rfl⟩ dX6_target_4 ?_
      refine V_ifeqB 26 dX6_target_7 (by decide) (fun h7 => absurd (h7.symm.trans hb) (by decide)) (fun h7 => ?_)
      refine V_iload_n dX6_target_10 rfl rfl ?_
      refine V_iconst (v := nI 0) dX6_target_11 (by decide) ?_
      refine V_aload_n dX6_target_12 rfl rfl ?_
      refine V_getR frX6_17 hM.1 rfl dX6_target_13 ?_
      refine V_iload_n dX6_target_16 rfl rfl ?_
      refine V_ialdE hM.2.2.1 j rfl (by omega) (by decide) ((hG.2 j (by omega)).2.1) dX6_target_17 ?_
      refine V_iconst (v := nI 1) dX6_target_18 (by decide) ?_
      refine V_isub dX6_target_19 ?_
      refine V_cs1 (ctX6_isBetween) msX6_isBetween lkX6_86 rfl rfl (Nat.le_of_ble_eq_true rfl) ⟨⟨Nat.le_of_ble_eq_true rfl, Nat.le_of_ble_eq_true rfl⟩, Nat.le_of_ble_eq_true rfl, Nat.le_of_ble_eq_true rfl⟩ dX6_target_20 ?_
      rw [btw (by omega)]
      refine V_ifneB 30 dX6_target_23 (by decide) (fun h23 => absurd (h23.symm.trans hk) (by decide)) (fun h23 => ?_)
      refine V_iconst (v := nI 1) dX6_target_26 (by decide) ?_
      refine V_goto 31 dX6_target_27 (by decide) ?_
      refine V_cv1 (ctX6_fails hM (k := nI 1) (c := true)) mvX6_fails lkX6_100 hM.1 rfl rfl rfl (Nat.le_of_ble_eq_true rfl) ⟨⟨Nat.le_of_ble_eq_true rfl, Nat.le_of_ble_eq_true rfl⟩, Nat.le_of_ble_eq_true rfl, Nat.le_of_ble_eq_true rfl⟩ dX6_target_31 ?_
      refine V_ifeqB 41 dX6_target_34 (by decide) (fun h34 => absurd (h34.symm.trans rfl) (by decide)) (fun h34 => ?_)
      refine V_iconst (v := nI 0) dX6_target_37 (by decide) ?_
      refine V_goto 49 dX6_target_38 (by decide) ?_
      exact V_iretP rfl ⟨rfl, MQz hA hS (by first | exact kep.rf.z | exact kep.rf.z.z | exact kep.rf.z.z.z) (u2_s _ _ _ _)⟩ ⟨Nat.le_of_ble_eq_true rfl, Nat.le_of_ble_eq_true rfl⟩ dX6_target_49

    | true =>
      obtain ⟨i, hi, rfl⟩ := inR_t (by omega) hk
      have ti := tn_nI (show i < 2 ^ 31 by omega)
      rw [show rs_target S (nI j) (nI i) = (0, nI ((S.1.2.2 j).getD i 0), S) from by unfold rs_target; rw [tj, ti, if_neg (by rw [hc, hk]; decide)]]
      refine CtP.of rfl (by simp [Value.category]) (Nat.le_of_ble_eq_true rfl) ?_
      refine V_aload_n dX6_target_0 rfl rfl ?_
      refine V_iconst (v := nI 1) dX6_target_1 (by decide) ?_
      refine V_aload_n dX6_target_2 rfl rfl ?_
      refine V_iload_n dX6_target_3 rfl rfl ?_
      refine V_cv1 (ctX6_isBlock hM (show S.1.1 < 2 ^ 31 by omega) hG.1) mvX6_isBlock lkX6_144 hM.1 rfl rfl rfl (Nat.le_of_ble_eq_true rfl) ⟨⟨Nat.le_of_ble_eq_true rfl, Nat.le_of_ble_eq_true rfl⟩, Nat.le_of_ble_eq_true rfl, Nat.le_of_ble_eq_true rfl⟩ dX6_target_4 ?_
      refine V_ifeqB 26 dX6_target_7 (by decide) (fun h7 => absurd (h7.symm.trans hb) (by decide)) (fun h7 => ?_)
      refine V_iload_n dX6_target_10 rfl rfl ?_
      refine V_iconst (v := nI 0) dX6_target_11 (by decide) ?_
      refine V_aload_n dX6_target_12 rfl rfl ?_
      refine V_getR frX6_17 hM.1 rfl dX6_target_13 ?_
      refine V_iload_n dX6_target_16 rfl rfl ?_
      refine V_ialdE hM.2.2.1 j rfl (by omega) (by decide) ((hG.2 j (by omega)).2.1) dX6_target_17 ?_
      refine V_iconst (v := nI 1) dX6_target_18 (by decide) ?_
      refine V_isub dX6_target_19 ?_
      refine V_cs1 (ctX6_isBetween) msX6_isBetween lkX6_86 rfl rfl (Nat.le_of_ble_eq_true rfl) ⟨⟨Nat.le_of_ble_eq_true rfl, Nat.le_of_ble_eq_true rfl⟩, Nat.le_of_ble_eq_true rfl, Nat.le_of_ble_eq_true rfl⟩ dX6_target_20 ?_
      rw [btw (by omega)]
      refine V_ifneB 30 dX6_target_23 (by decide) (fun h23 => ?_) (fun h23 => absurd (h23.symm.trans hk) (by decide))
      refine V_iconst (v := nI 0) dX6_target_30 (by decide) ?_
      refine V_cv1 (ctX6_fails hM (k := nI 1) (c := false)) mvX6_fails lkX6_100 hM.1 rfl rfl rfl (Nat.le_of_ble_eq_true rfl) ⟨⟨Nat.le_of_ble_eq_true rfl, Nat.le_of_ble_eq_true rfl⟩, Nat.le_of_ble_eq_true rfl, Nat.le_of_ble_eq_true rfl⟩ dX6_target_31 ?_
      refine V_ifeqB 41 dX6_target_34 (by decide) (fun h34 => ?_) (fun h34 => absurd (h34.symm.trans rfl) (by decide))
      refine V_aload_n dX6_target_41 rfl rfl ?_
      refine V_getR frX6_25 hM.1 rfl dX6_target_42 ?_
      refine V_iload_n dX6_target_45 rfl rfl ?_
      refine V_aaldR hM.2.2.2.2.2.2.2.2.2.2.2.2.2.2.2.2.2.1 (j) rfl (show j < 14 by omega) (by decide) dX6_target_46 ?_
      refine V_iload_n dX6_target_47 rfl rfl ?_
      refine V_ialdE (hM.2.2.2.2.2.2.2.2.2.2.2.2.2.2.2.2.2.1.row (j := j) (show j < 14 by omega)) i rfl (by omega) (by decide) ((hG.z.2 j (by omega)).2.2.2 i hi) dX6_target_48 ?_
      exact V_iretP rfl ⟨rfl, MQz hA hS (by first | exact kep.rf.z | exact kep.rf.z.z | exact kep.rf.z.z.z) (u2_s _ _ _ _)⟩ ⟨Nat.le_of_ble_eq_true rfl, Nat.le_of_ble_eq_true rfl⟩ dX6_target_49

theorem ctX6_isReachable (hM : ML σ m) (hA : MA mi m S) (hS : SOK S) {b : Int32} : CtP κ 0 0 24 mrX6_isReachable [.ref m, .int b] (MM σ mi ml) (MRz σ mi ml m (rs_isReachable S b)) := by
  have hw := hS.1
  have h14 := hw.2.1
  have hG := hA.1
  cases hb : inR b S.1.1 with
  | false =>
    rw [show rs_isReachable S b = (1, 0, S) from by unfold rs_isReachable; rw [if_pos hb]]
    refine CtP.of rfl (by simp [Value.category]) (Nat.le_of_ble_eq_true rfl) ?_
    refine V_aload_n dX6_isReachable_0 rfl rfl ?_
    refine V_iconst (v := nI 1) dX6_isReachable_1 (by decide) ?_
    refine V_aload_n dX6_isReachable_2 rfl rfl ?_
    refine V_iload_n dX6_isReachable_3 rfl rfl ?_
    refine V_cv1 (ctX6_isBlock hM (show S.1.1 < 2 ^ 31 by omega) hG.1) mvX6_isBlock lkX6_144 hM.1 rfl rfl rfl (Nat.le_of_ble_eq_true rfl) ⟨⟨Nat.le_of_ble_eq_true rfl, Nat.le_of_ble_eq_true rfl⟩, Nat.le_of_ble_eq_true rfl, Nat.le_of_ble_eq_true rfl⟩ dX6_isReachable_4 ?_
    refine V_ifneB 14 dX6_isReachable_7 (by decide) (fun h7 => absurd (h7.symm.trans hb) (by decide)) (fun h7 => ?_)
    refine V_iconst (v := nI 1) dX6_isReachable_10 (by decide) ?_
    refine V_goto 15 dX6_isReachable_11 (by decide) ?_
    refine V_cv1 (ctX6_fails hM (k := nI 1) (c := true)) mvX6_fails lkX6_100 hM.1 rfl rfl rfl (Nat.le_of_ble_eq_true rfl) ⟨⟨Nat.le_of_ble_eq_true rfl, Nat.le_of_ble_eq_true rfl⟩, Nat.le_of_ble_eq_true rfl, Nat.le_of_ble_eq_true rfl⟩ dX6_isReachable_15 ?_
    refine V_ifneB 33 dX6_isReachable_18 (by decide) (fun h18 => ?_) (fun h18 => absurd (h18.symm.trans rfl) (by decide))
    refine V_iconst (v := nI 0) dX6_isReachable_33 (by decide) ?_
    exact V_zretP rfl rfl ⟨rfl, MQz hA hS (by first | exact kep.rf.z | exact kep.rf.z.z | exact kep.rf.z.z.z) (u2_s _ _ _ _)⟩ ⟨Nat.le_of_ble_eq_true rfl, Nat.le_of_ble_eq_true rfl⟩ dX6_isReachable_34

  | true =>
    obtain ⟨j, hj, rfl⟩ := inR_t (by omega) hb
    have tj := tn_nI (show j < 2 ^ 31 by omega)
    rw [show rs_isReachable S (nI j) = (0, bI (bp (Rc S.1 j)), S) from by unfold rs_isReachable; rw [tj, if_neg (by rw [hb]; decide)]]
    refine CtP.of rfl (by simp [Value.category]) (Nat.le_of_ble_eq_true rfl) ?_
    refine V_aload_n dX6_isReachable_0 rfl rfl ?_
    refine V_iconst (v := nI 1) dX6_isReachable_1 (by decide) ?_
    refine V_aload_n dX6_isReachable_2 rfl rfl ?_
    refine V_iload_n dX6_isReachable_3 rfl rfl ?_
    refine V_cv1 (ctX6_isBlock hM (show S.1.1 < 2 ^ 31 by omega) hG.1) mvX6_isBlock lkX6_144 hM.1 rfl rfl rfl (Nat.le_of_ble_eq_true rfl) ⟨⟨Nat.le_of_ble_eq_true rfl, Nat.le_of_ble_eq_true rfl⟩, Nat.le_of_ble_eq_true rfl, Nat.le_of_ble_eq_true rfl⟩ dX6_isReachable_4 ?_
    refine V_ifneB 14 dX6_isReachable_7 (by decide) (fun h7 => ?_) (fun h7 => absurd (h7.symm.trans hb) (by decide))
    refine V_iconst (v := nI 0) dX6_isReachable_14 (by decide) ?_
    refine V_cv1 (ctX6_fails hM (k := nI 1) (c := false)) mvX6_fails lkX6_100 hM.1 rfl rfl rfl (Nat.le_of_ble_eq_true rfl) ⟨⟨Nat.le_of_ble_eq_true rfl, Nat.le_of_ble_eq_true rfl⟩, Nat.le_of_ble_eq_true rfl, Nat.le_of_ble_eq_true rfl⟩ dX6_isReachable_15 ?_
    refine V_ifneB 33 dX6_isReachable_18 (by decide) (fun h18 => absurd (h18.symm.trans rfl) (by decide)) (fun h18 => ?_)
    refine V_aload_n dX6_isReachable_21 rfl rfl ?_
    refine V_iload_n dX6_isReachable_22 rfl rfl ?_
    refine V_cp1 (ctX6_isUnreached hM hG.z hw (show j < 14 by omega)) mvX6_isUnreached lkX6_199 hM.1 rfl rfl rfl (Nat.le_of_ble_eq_true rfl) ⟨⟨Nat.le_of_ble_eq_true rfl, Nat.le_of_ble_eq_true rfl⟩, Nat.le_of_ble_eq_true rfl, Nat.le_of_ble_eq_true rfl⟩ dX6_isReachable_23 (fun y μ1 hx => ?_)
    obtain ⟨rfl, m1, rfl, hn, ho⟩ := hx
    refine V_ifneB 33 dX6_isReachable_26 (by decide) (fun h26 => ?_) (fun h26 => ?_)
    · refine V_iconst (v := nI 0) dX6_isReachable_33 (by decide) ?_
      exact V_zretP rfl rfl ⟨by rw [show bp (Rc S.1 j) = false by simpa using h26]; rfl, MQz hA hS (kep.rf.z.an ho) ((ho _ _ (by omega) (by omega)).trans (u2_s _ _ _ _))⟩ ⟨Nat.le_of_ble_eq_true rfl, Nat.le_of_ble_eq_true rfl⟩ dX6_isReachable_34
    · refine V_iconst (v := nI 1) dX6_isReachable_29 (by decide) ?_
      refine V_goto 34 dX6_isReachable_30 (by decide) ?_
      exact V_zretP rfl rfl ⟨by rw [show bp (Rc S.1 j) = true by simpa using h26]; rfl, MQz hA hS (kep.rf.z.an ho) ((ho _ _ (by omega) (by omega)).trans (u2_s _ _ _ _))⟩ ⟨Nat.le_of_ble_eq_true rfl, Nat.le_of_ble_eq_true rfl⟩ dX6_isReachable_34

theorem ctX6_predecessors (hM : ML σ m) (hA : MA mi m S) (hS : SOK S) {b : Int32} : CtP κ 0 0 24 mrX6_predecessors [.ref m, .int b] (MM σ mi ml) (MRz σ mi ml m (rs_predecessors S b)) := by
  have hw := hS.1
  have h14 := hw.2.1
  have hG := hA.1
  cases hb : inR b S.1.1 with
  | false =>
    rw [show rs_predecessors S b = (1, 0, S) from by unfold rs_predecessors; rw [if_pos hb]]
    refine CtP.of rfl (by simp [Value.category]) (Nat.le_of_ble_eq_true rfl) ?_
    refine V_aload_n dX6_predecessors_0 rfl rfl ?_
    refine V_iconst (v := nI 1) dX6_predecessors_1 (by decide) ?_
    refine V_aload_n dX6_predecessors_2 rfl rfl ?_
    refine V_iload_n dX6_predecessors_3 rfl rfl ?_
    refine V_cv1 (ctX6_isBlock hM (show S.1.1 < 2 ^ 31 by omega) hG.1) mvX6_isBlock lkX6_144 hM.1 rfl rfl rfl (Nat.le_of_ble_eq_true rfl) ⟨⟨Nat.le_of_ble_eq_true rfl, Nat.le_of_ble_eq_true rfl⟩, Nat.le_of_ble_eq_true rfl, Nat.le_of_ble_eq_true rfl⟩ dX6_predecessors_4 ?_
    refine V_ifneB 14 dX6_predecessors_7 (by decide) (fun h7 => absurd (h7.symm.trans hb) (by decide)) (fun h7 => ?_)
    refine V_iconst (v := nI 1) dX6_predecessors_10 (by decide) ?_
    refine V_goto 15 dX6_predecessors_11 (by decide) ?_
    refine V_cv1 (ctX6_fails hM (k := nI 1) (c := true)) mvX6_fails lkX6_100 hM.1 rfl rfl rfl (Nat.le_of_ble_eq_true rfl) ⟨⟨Nat.le_of_ble_eq_true rfl, Nat.le_of_ble_eq_true rfl⟩, Nat.le_of_ble_eq_true rfl, Nat.le_of_ble_eq_true rfl⟩ dX6_predecessors_15 ?_
    refine V_ifneB 34 dX6_predecessors_18 (by decide) (fun h18 => ?_) (fun h18 => absurd (h18.symm.trans rfl) (by decide))
    refine V_iconst (v := nI 0) dX6_predecessors_34 (by decide) ?_
    refine V_goto 44 dX6_predecessors_35 (by decide) ?_
    exact V_iretP rfl ⟨rfl, MQz hA hS (by first | exact kep.rf.z | exact kep.rf.z.z | exact kep.rf.z.z.z) (u2_s _ _ _ _)⟩ ⟨Nat.le_of_ble_eq_true rfl, Nat.le_of_ble_eq_true rfl⟩ dX6_predecessors_44

  | true =>
    obtain ⟨j, hj, rfl⟩ := inR_t (by omega) hb
    have tj := tn_nI (show j < 2 ^ 31 by omega)
    cases hr : bp (Rc S.1 j) with
    | false =>
      rw [show rs_predecessors S (nI j) = (2, 0, S) from by unfold rs_predecessors; rw [tj, if_neg (by rw [hb]; decide), if_pos hr]]
      refine CtP.of rfl (by simp [Value.category]) (Nat.le_of_ble_eq_true rfl) ?_
      refine V_aload_n dX6_predecessors_0 rfl rfl ?_
      refine V_iconst (v := nI 1) dX6_predecessors_1 (by decide) ?_
      refine V_aload_n dX6_predecessors_2 rfl rfl ?_
      refine V_iload_n dX6_predecessors_3 rfl rfl ?_
      refine V_cv1 (ctX6_isBlock hM (show S.1.1 < 2 ^ 31 by omega) hG.1) mvX6_isBlock lkX6_144 hM.1 rfl rfl rfl (Nat.le_of_ble_eq_true rfl) ⟨⟨Nat.le_of_ble_eq_true rfl, Nat.le_of_ble_eq_true rfl⟩, Nat.le_of_ble_eq_true rfl, Nat.le_of_ble_eq_true rfl⟩ dX6_predecessors_4 ?_
      refine V_ifneB 14 dX6_predecessors_7 (by decide) (fun h7 => ?_) (fun h7 => absurd (h7.symm.trans hb) (by decide))
      refine V_iconst (v := nI 0) dX6_predecessors_14 (by decide) ?_
      refine V_cv1 (ctX6_fails hM (k := nI 1) (c := false)) mvX6_fails lkX6_100 hM.1 rfl rfl rfl (Nat.le_of_ble_eq_true rfl) ⟨⟨Nat.le_of_ble_eq_true rfl, Nat.le_of_ble_eq_true rfl⟩, Nat.le_of_ble_eq_true rfl, Nat.le_of_ble_eq_true rfl⟩ dX6_predecessors_15 ?_
      refine V_ifneB 34 dX6_predecessors_18 (by decide) (fun h18 => absurd (h18.symm.trans rfl) (by decide)) (fun h18 => ?_)
      refine V_aload_n dX6_predecessors_21 rfl rfl ?_
      refine V_iconst (v := nI 2) dX6_predecessors_22 (by decide) ?_
      refine V_aload_n dX6_predecessors_23 rfl rfl ?_
      refine V_iload_n dX6_predecessors_24 rfl rfl ?_
      refine V_cp1 (ctX6_isUnreached hM hG.z hw (show j < 14 by omega)) mvX6_isUnreached lkX6_199 hM.1 rfl rfl rfl (Nat.le_of_ble_eq_true rfl) ⟨⟨Nat.le_of_ble_eq_true rfl, Nat.le_of_ble_eq_true rfl⟩, Nat.le_of_ble_eq_true rfl, Nat.le_of_ble_eq_true rfl⟩ dX6_predecessors_25 (fun y μ1 hx => ?_)
      obtain ⟨rfl, m1, rfl, hn, ho⟩ := hx
      rw [hr]
      refine V_cv1 (ctX6_fails hM (k := nI 2) (c := true)) mvX6_fails lkX6_100 hM.1 rfl rfl rfl (Nat.le_of_ble_eq_true rfl) ⟨⟨Nat.le_of_ble_eq_true rfl, Nat.le_of_ble_eq_true rfl⟩, Nat.le_of_ble_eq_true rfl, Nat.le_of_ble_eq_true rfl⟩ dX6_predecessors_28 ?_
      refine V_ifeqB 38 dX6_predecessors_31 (by decide) (fun h31 => absurd (h31.symm.trans rfl) (by decide)) (fun h31 => ?_)
      refine V_iconst (v := nI 0) dX6_predecessors_34 (by decide) ?_
      refine V_goto 44 dX6_predecessors_35 (by decide) ?_
      exact V_iretP rfl ⟨rfl, MQz hA hS (kep.rf.z.an ho).z (u2_s _ _ _ _)⟩ ⟨Nat.le_of_ble_eq_true rfl, Nat.le_of_ble_eq_true rfl⟩ dX6_predecessors_44

    | true =>
      rw [show rs_predecessors S (nI j) = (0, msk (fun p => bp (Pd S.1 p j)), S) from by unfold rs_predecessors; rw [tj, if_neg (by rw [hb]; decide), if_neg (by rw [hr]; decide)]]
      refine CtP.of rfl (by simp [Value.category]) (Nat.le_of_ble_eq_true rfl) ?_
      refine V_aload_n dX6_predecessors_0 rfl rfl ?_
      refine V_iconst (v := nI 1) dX6_predecessors_1 (by decide) ?_
      refine V_aload_n dX6_predecessors_2 rfl rfl ?_
      refine V_iload_n dX6_predecessors_3 rfl rfl ?_
      refine V_cv1 (ctX6_isBlock hM (show S.1.1 < 2 ^ 31 by omega) hG.1) mvX6_isBlock lkX6_144 hM.1 rfl rfl rfl (Nat.le_of_ble_eq_true rfl) ⟨⟨Nat.le_of_ble_eq_true rfl, Nat.le_of_ble_eq_true rfl⟩, Nat.le_of_ble_eq_true rfl, Nat.le_of_ble_eq_true rfl⟩ dX6_predecessors_4 ?_
      refine V_ifneB 14 dX6_predecessors_7 (by decide) (fun h7 => ?_) (fun h7 => absurd (h7.symm.trans hb) (by decide))
      refine V_iconst (v := nI 0) dX6_predecessors_14 (by decide) ?_
      refine V_cv1 (ctX6_fails hM (k := nI 1) (c := false)) mvX6_fails lkX6_100 hM.1 rfl rfl rfl (Nat.le_of_ble_eq_true rfl) ⟨⟨Nat.le_of_ble_eq_true rfl, Nat.le_of_ble_eq_true rfl⟩, Nat.le_of_ble_eq_true rfl, Nat.le_of_ble_eq_true rfl⟩ dX6_predecessors_15 ?_
      refine V_ifneB 34 dX6_predecessors_18 (by decide) (fun h18 => absurd (h18.symm.trans rfl) (by decide)) (fun h18 => ?_)
      refine V_aload_n dX6_predecessors_21 rfl rfl ?_
      refine V_iconst (v := nI 2) dX6_predecessors_22 (by decide) ?_
      refine V_aload_n dX6_predecessors_23 rfl rfl ?_
      refine V_iload_n dX6_predecessors_24 rfl rfl ?_
      refine V_cp1 (ctX6_isUnreached hM hG.z hw (show j < 14 by omega)) mvX6_isUnreached lkX6_199 hM.1 rfl rfl rfl (Nat.le_of_ble_eq_true rfl) ⟨⟨Nat.le_of_ble_eq_true rfl, Nat.le_of_ble_eq_true rfl⟩, Nat.le_of_ble_eq_true rfl, Nat.le_of_ble_eq_true rfl⟩ dX6_predecessors_25 (fun y μ1 hx => ?_)
      obtain ⟨rfl, m1, rfl, hn, ho⟩ := hx
      rw [hr]
      refine V_cv1 (ctX6_fails hM (k := nI 2) (c := false)) mvX6_fails lkX6_100 hM.1 rfl rfl rfl (Nat.le_of_ble_eq_true rfl) ⟨⟨Nat.le_of_ble_eq_true rfl, Nat.le_of_ble_eq_true rfl⟩, Nat.le_of_ble_eq_true rfl, Nat.le_of_ble_eq_true rfl⟩ dX6_predecessors_28 ?_
      refine V_ifeqB 38 dX6_predecessors_31 (by decide) (fun h31 => ?_) (fun h31 => absurd (h31.symm.trans rfl) (by decide))
      refine V_aload_n dX6_predecessors_38 rfl rfl ?_
      refine V_getR frX6_47 hM.1 rfl dX6_predecessors_39 ?_
      refine V_iload_n dX6_predecessors_42 rfl rfl ?_
      refine V_ialdE hM.2.2.2.2.2.2.1 j rfl (by omega) (by decide) ((hn.z hw).1.2 j hj) dX6_predecessors_43 ?_
      exact V_iretP rfl ⟨rfl, MQz hA hS (kep.rf.z.an ho).z (u2_s _ _ _ _)⟩ ⟨Nat.le_of_ble_eq_true rfl, Nat.le_of_ble_eq_true rfl⟩ dX6_predecessors_44

theorem ctX6_frontier (hM : ML σ m) (hA : MA mi m S) (hS : SOK S) {b : Int32} : CtP κ 0 0 24 mrX6_frontier [.ref m, .int b] (MM σ mi ml) (MRz σ mi ml m (rs_frontier S b)) := by
  have hw := hS.1
  have h14 := hw.2.1
  have hG := hA.1
  cases hb : inR b S.1.1 with
  | false =>
    rw [show rs_frontier S b = (1, 0, S) from by unfold rs_frontier; rw [if_pos hb]]
    refine CtP.of rfl (by simp [Value.category]) (Nat.le_of_ble_eq_true rfl) ?_
    refine V_aload_n dX6_frontier_0 rfl rfl ?_
    refine V_iconst (v := nI 1) dX6_frontier_1 (by decide) ?_
    refine V_aload_n dX6_frontier_2 rfl rfl ?_
    refine V_iload_n dX6_frontier_3 rfl rfl ?_
    refine V_cv1 (ctX6_isBlock hM (show S.1.1 < 2 ^ 31 by omega) hG.1) mvX6_isBlock lkX6_144 hM.1 rfl rfl rfl (Nat.le_of_ble_eq_true rfl) ⟨⟨Nat.le_of_ble_eq_true rfl, Nat.le_of_ble_eq_true rfl⟩, Nat.le_of_ble_eq_true rfl, Nat.le_of_ble_eq_true rfl⟩ dX6_frontier_4 ?_
    refine V_ifneB 14 dX6_frontier_7 (by decide) (fun h7 => absurd (h7.symm.trans hb) (by decide)) (fun h7 => ?_)
    refine V_iconst (v := nI 1) dX6_frontier_10 (by decide) ?_
    refine V_goto 15 dX6_frontier_11 (by decide) ?_
    refine V_cv1 (ctX6_fails hM (k := nI 1) (c := true)) mvX6_fails lkX6_100 hM.1 rfl rfl rfl (Nat.le_of_ble_eq_true rfl) ⟨⟨Nat.le_of_ble_eq_true rfl, Nat.le_of_ble_eq_true rfl⟩, Nat.le_of_ble_eq_true rfl, Nat.le_of_ble_eq_true rfl⟩ dX6_frontier_15 ?_
    refine V_ifneB 34 dX6_frontier_18 (by decide) (fun h18 => ?_) (fun h18 => absurd (h18.symm.trans rfl) (by decide))
    refine V_iconst (v := nI 0) dX6_frontier_34 (by decide) ?_
    refine V_goto 44 dX6_frontier_35 (by decide) ?_
    exact V_iretP rfl ⟨rfl, MQz hA hS (by first | exact kep.rf.z | exact kep.rf.z.z | exact kep.rf.z.z.z) (u2_s _ _ _ _)⟩ ⟨Nat.le_of_ble_eq_true rfl, Nat.le_of_ble_eq_true rfl⟩ dX6_frontier_44

  | true =>
    obtain ⟨j, hj, rfl⟩ := inR_t (by omega) hb
    have tj := tn_nI (show j < 2 ^ 31 by omega)
    cases hr : bp (Rc S.1 j) with
    | false =>
      rw [show rs_frontier S (nI j) = (2, 0, S) from by unfold rs_frontier; rw [tj, if_neg (by rw [hb]; decide), if_pos hr]]
      refine CtP.of rfl (by simp [Value.category]) (Nat.le_of_ble_eq_true rfl) ?_
      refine V_aload_n dX6_frontier_0 rfl rfl ?_
      refine V_iconst (v := nI 1) dX6_frontier_1 (by decide) ?_
      refine V_aload_n dX6_frontier_2 rfl rfl ?_
      refine V_iload_n dX6_frontier_3 rfl rfl ?_
      refine V_cv1 (ctX6_isBlock hM (show S.1.1 < 2 ^ 31 by omega) hG.1) mvX6_isBlock lkX6_144 hM.1 rfl rfl rfl (Nat.le_of_ble_eq_true rfl) ⟨⟨Nat.le_of_ble_eq_true rfl, Nat.le_of_ble_eq_true rfl⟩, Nat.le_of_ble_eq_true rfl, Nat.le_of_ble_eq_true rfl⟩ dX6_frontier_4 ?_
      refine V_ifneB 14 dX6_frontier_7 (by decide) (fun h7 => ?_) (fun h7 => absurd (h7.symm.trans hb) (by decide))
      refine V_iconst (v := nI 0) dX6_frontier_14 (by decide) ?_
      refine V_cv1 (ctX6_fails hM (k := nI 1) (c := false)) mvX6_fails lkX6_100 hM.1 rfl rfl rfl (Nat.le_of_ble_eq_true rfl) ⟨⟨Nat.le_of_ble_eq_true rfl, Nat.le_of_ble_eq_true rfl⟩, Nat.le_of_ble_eq_true rfl, Nat.le_of_ble_eq_true rfl⟩ dX6_frontier_15 ?_
      refine V_ifneB 34 dX6_frontier_18 (by decide) (fun h18 => absurd (h18.symm.trans rfl) (by decide)) (fun h18 => ?_)
      refine V_aload_n dX6_frontier_21 rfl rfl ?_
      refine V_iconst (v := nI 2) dX6_frontier_22 (by decide) ?_
      refine V_aload_n dX6_frontier_23 rfl rfl ?_
      refine V_iload_n dX6_frontier_24 rfl rfl ?_
      refine V_cp1 (ctX6_isUnreached hM hG.z hw (show j < 14 by omega)) mvX6_isUnreached lkX6_199 hM.1 rfl rfl rfl (Nat.le_of_ble_eq_true rfl) ⟨⟨Nat.le_of_ble_eq_true rfl, Nat.le_of_ble_eq_true rfl⟩, Nat.le_of_ble_eq_true rfl, Nat.le_of_ble_eq_true rfl⟩ dX6_frontier_25 (fun y μ1 hx => ?_)
      obtain ⟨rfl, m1, rfl, hn, ho⟩ := hx
      rw [hr]
      refine V_cv1 (ctX6_fails hM (k := nI 2) (c := true)) mvX6_fails lkX6_100 hM.1 rfl rfl rfl (Nat.le_of_ble_eq_true rfl) ⟨⟨Nat.le_of_ble_eq_true rfl, Nat.le_of_ble_eq_true rfl⟩, Nat.le_of_ble_eq_true rfl, Nat.le_of_ble_eq_true rfl⟩ dX6_frontier_28 ?_
      refine V_ifeqB 38 dX6_frontier_31 (by decide) (fun h31 => absurd (h31.symm.trans rfl) (by decide)) (fun h31 => ?_)
      refine V_iconst (v := nI 0) dX6_frontier_34 (by decide) ?_
      refine V_goto 44 dX6_frontier_35 (by decide) ?_
      exact V_iretP rfl ⟨rfl, MQz hA hS (kep.rf.z.an ho).z (u2_s _ _ _ _)⟩ ⟨Nat.le_of_ble_eq_true rfl, Nat.le_of_ble_eq_true rfl⟩ dX6_frontier_44

    | true =>
      rw [show rs_frontier S (nI j) = (0, msk (fun y => bp (Fr' S.1 j y)), S) from by unfold rs_frontier; rw [tj, if_neg (by rw [hb]; decide), if_neg (by rw [hr]; decide)]]
      refine CtP.of rfl (by simp [Value.category]) (Nat.le_of_ble_eq_true rfl) ?_
      refine V_aload_n dX6_frontier_0 rfl rfl ?_
      refine V_iconst (v := nI 1) dX6_frontier_1 (by decide) ?_
      refine V_aload_n dX6_frontier_2 rfl rfl ?_
      refine V_iload_n dX6_frontier_3 rfl rfl ?_
      refine V_cv1 (ctX6_isBlock hM (show S.1.1 < 2 ^ 31 by omega) hG.1) mvX6_isBlock lkX6_144 hM.1 rfl rfl rfl (Nat.le_of_ble_eq_true rfl) ⟨⟨Nat.le_of_ble_eq_true rfl, Nat.le_of_ble_eq_true rfl⟩, Nat.le_of_ble_eq_true rfl, Nat.le_of_ble_eq_true rfl⟩ dX6_frontier_4 ?_
      refine V_ifneB 14 dX6_frontier_7 (by decide) (fun h7 => ?_) (fun h7 => absurd (h7.symm.trans hb) (by decide))
      refine V_iconst (v := nI 0) dX6_frontier_14 (by decide) ?_
      refine V_cv1 (ctX6_fails hM (k := nI 1) (c := false)) mvX6_fails lkX6_100 hM.1 rfl rfl rfl (Nat.le_of_ble_eq_true rfl) ⟨⟨Nat.le_of_ble_eq_true rfl, Nat.le_of_ble_eq_true rfl⟩, Nat.le_of_ble_eq_true rfl, Nat.le_of_ble_eq_true rfl⟩ dX6_frontier_15 ?_
      refine V_ifneB 34 dX6_frontier_18 (by decide) (fun h18 => absurd (h18.symm.trans rfl) (by decide)) (fun h18 => ?_)
      refine V_aload_n dX6_frontier_21 rfl rfl ?_
      refine V_iconst (v := nI 2) dX6_frontier_22 (by decide) ?_
      refine V_aload_n dX6_frontier_23 rfl rfl ?_
      refine V_iload_n dX6_frontier_24 rfl rfl ?_
      refine V_cp1 (ctX6_isUnreached hM hG.z hw (show j < 14 by omega)) mvX6_isUnreached lkX6_199 hM.1 rfl rfl rfl (Nat.le_of_ble_eq_true rfl) ⟨⟨Nat.le_of_ble_eq_true rfl, Nat.le_of_ble_eq_true rfl⟩, Nat.le_of_ble_eq_true rfl, Nat.le_of_ble_eq_true rfl⟩ dX6_frontier_25 (fun y μ1 hx => ?_)
      obtain ⟨rfl, m1, rfl, hn, ho⟩ := hx
      rw [hr]
      refine V_cv1 (ctX6_fails hM (k := nI 2) (c := false)) mvX6_fails lkX6_100 hM.1 rfl rfl rfl (Nat.le_of_ble_eq_true rfl) ⟨⟨Nat.le_of_ble_eq_true rfl, Nat.le_of_ble_eq_true rfl⟩, Nat.le_of_ble_eq_true rfl, Nat.le_of_ble_eq_true rfl⟩ dX6_frontier_28 ?_
      refine V_ifeqB 38 dX6_frontier_31 (by decide) (fun h31 => ?_) (fun h31 => absurd (h31.symm.trans rfl) (by decide))
      refine V_aload_n dX6_frontier_38 rfl rfl ?_
      refine V_getR frX6_56 hM.1 rfl dX6_frontier_39 ?_
      refine V_iload_n dX6_frontier_42 rfl rfl ?_
      refine V_ialdE hM.2.2.2.2.2.2.2.2.2.1 j rfl (by omega) (by decide) ((hn.z hw).2.2.1.2 j hj) dX6_frontier_43 ?_
      exact V_iretP rfl ⟨rfl, MQz hA hS (kep.rf.z.an ho).z (u2_s _ _ _ _)⟩ ⟨Nat.le_of_ble_eq_true rfl, Nat.le_of_ble_eq_true rfl⟩ dX6_frontier_44

theorem ctX6_parent (hM : ML σ m) (hA : MA mi m S) (hS : SOK S) {b : Int32} : CtP κ 0 0 24 mrX6_parent [.ref m, .int b] (MM σ mi ml) (MRz σ mi ml m (rs_parent S b)) := by
  have hw := hS.1
  have h14 := hw.2.1
  have hG := hA.1
  cases hb : inR b S.1.1 with
  | false =>
    rw [show rs_parent S b = (1, 0, S) from by unfold rs_parent; rw [if_pos hb]]
    refine CtP.of rfl (by simp [Value.category]) (Nat.le_of_ble_eq_true rfl) ?_
    refine V_aload_n dX6_parent_0 rfl rfl ?_
    refine V_iconst (v := nI 1) dX6_parent_1 (by decide) ?_
    refine V_aload_n dX6_parent_2 rfl rfl ?_
    refine V_iload_n dX6_parent_3 rfl rfl ?_
    refine V_cv1 (ctX6_isBlock hM (show S.1.1 < 2 ^ 31 by omega) hG.1) mvX6_isBlock lkX6_144 hM.1 rfl rfl rfl (Nat.le_of_ble_eq_true rfl) ⟨⟨Nat.le_of_ble_eq_true rfl, Nat.le_of_ble_eq_true rfl⟩, Nat.le_of_ble_eq_true rfl, Nat.le_of_ble_eq_true rfl⟩ dX6_parent_4 ?_
    refine V_ifneB 14 dX6_parent_7 (by decide) (fun h7 => absurd (h7.symm.trans hb) (by decide)) (fun h7 => ?_)
    refine V_iconst (v := nI 1) dX6_parent_10 (by decide) ?_
    refine V_goto 15 dX6_parent_11 (by decide) ?_
    refine V_cv1 (ctX6_fails hM (k := nI 1) (c := true)) mvX6_fails lkX6_100 hM.1 rfl rfl rfl (Nat.le_of_ble_eq_true rfl) ⟨⟨Nat.le_of_ble_eq_true rfl, Nat.le_of_ble_eq_true rfl⟩, Nat.le_of_ble_eq_true rfl, Nat.le_of_ble_eq_true rfl⟩ dX6_parent_15 ?_
    refine V_ifneB 51 dX6_parent_18 (by decide) (fun h18 => ?_) (fun h18 => absurd (h18.symm.trans rfl) (by decide))
    refine V_iconst (v := nI 0) dX6_parent_51 (by decide) ?_
    refine V_goto 61 dX6_parent_52 (by decide) ?_
    exact V_iretP rfl ⟨rfl, MQz hA hS (by first | exact kep.rf.z | exact kep.rf.z.z | exact kep.rf.z.z.z) (u2_s _ _ _ _)⟩ ⟨Nat.le_of_ble_eq_true rfl, Nat.le_of_ble_eq_true rfl⟩ dX6_parent_61

  | true =>
    obtain ⟨j, hj, rfl⟩ := inR_t (by omega) hb
    have tj := tn_nI (show j < 2 ^ 31 by omega)
    cases hr : bp (Rc S.1 j) with
    | false =>
      rw [show rs_parent S (nI j) = (2, 0, S) from by unfold rs_parent; rw [tj, if_neg (by rw [hb]; decide), if_pos hr]]
      refine CtP.of rfl (by simp [Value.category]) (Nat.le_of_ble_eq_true rfl) ?_
      refine V_aload_n dX6_parent_0 rfl rfl ?_
      refine V_iconst (v := nI 1) dX6_parent_1 (by decide) ?_
      refine V_aload_n dX6_parent_2 rfl rfl ?_
      refine V_iload_n dX6_parent_3 rfl rfl ?_
      refine V_cv1 (ctX6_isBlock hM (show S.1.1 < 2 ^ 31 by omega) hG.1) mvX6_isBlock lkX6_144 hM.1 rfl rfl rfl (Nat.le_of_ble_eq_true rfl) ⟨⟨Nat.le_of_ble_eq_true rfl, Nat.le_of_ble_eq_true rfl⟩, Nat.le_of_ble_eq_true rfl, Nat.le_of_ble_eq_true rfl⟩ dX6_parent_4 ?_
      refine V_ifneB 14 dX6_parent_7 (by decide) (fun h7 => ?_) (fun h7 => absurd (h7.symm.trans hb) (by decide))
      refine V_iconst (v := nI 0) dX6_parent_14 (by decide) ?_
      refine V_cv1 (ctX6_fails hM (k := nI 1) (c := false)) mvX6_fails lkX6_100 hM.1 rfl rfl rfl (Nat.le_of_ble_eq_true rfl) ⟨⟨Nat.le_of_ble_eq_true rfl, Nat.le_of_ble_eq_true rfl⟩, Nat.le_of_ble_eq_true rfl, Nat.le_of_ble_eq_true rfl⟩ dX6_parent_15 ?_
      refine V_ifneB 51 dX6_parent_18 (by decide) (fun h18 => absurd (h18.symm.trans rfl) (by decide)) (fun h18 => ?_)
      refine V_aload_n dX6_parent_21 rfl rfl ?_
      refine V_iconst (v := nI 2) dX6_parent_22 (by decide) ?_
      refine V_aload_n dX6_parent_23 rfl rfl ?_
      refine V_iload_n dX6_parent_24 rfl rfl ?_
      refine V_cp1 (ctX6_isUnreached hM hG.z hw (show j < 14 by omega)) mvX6_isUnreached lkX6_199 hM.1 rfl rfl rfl (Nat.le_of_ble_eq_true rfl) ⟨⟨Nat.le_of_ble_eq_true rfl, Nat.le_of_ble_eq_true rfl⟩, Nat.le_of_ble_eq_true rfl, Nat.le_of_ble_eq_true rfl⟩ dX6_parent_25 (fun y μ1 hx => ?_)
      obtain ⟨rfl, m1, rfl, hn, ho⟩ := hx
      rw [hr]
      refine V_cv1 (ctX6_fails hM (k := nI 2) (c := true)) mvX6_fails lkX6_100 hM.1 rfl rfl rfl (Nat.le_of_ble_eq_true rfl) ⟨⟨Nat.le_of_ble_eq_true rfl, Nat.le_of_ble_eq_true rfl⟩, Nat.le_of_ble_eq_true rfl, Nat.le_of_ble_eq_true rfl⟩ dX6_parent_28 ?_
      refine V_ifneB 51 dX6_parent_31 (by decide) (fun h31 => ?_) (fun h31 => absurd (h31.symm.trans rfl) (by decide))
      refine V_iconst (v := nI 0) dX6_parent_51 (by decide) ?_
      refine V_goto 61 dX6_parent_52 (by decide) ?_
      exact V_iretP rfl ⟨rfl, MQz hA hS (kep.rf.z.an ho).z (u2_s _ _ _ _)⟩ ⟨Nat.le_of_ble_eq_true rfl, Nat.le_of_ble_eq_true rfl⟩ dX6_parent_61

    | true =>
      by_cases h0 : j = 0
      · rw [show rs_parent S (nI j) = (3, 0, S) from by unfold rs_parent; rw [tj, if_neg (by rw [hb]; decide), if_neg (by rw [hr]; decide), if_pos h0]]
        refine CtP.of rfl (by simp [Value.category]) (Nat.le_of_ble_eq_true rfl) ?_
        refine V_aload_n dX6_parent_0 rfl rfl ?_
        refine V_iconst (v := nI 1) dX6_parent_1 (by decide) ?_
        refine V_aload_n dX6_parent_2 rfl rfl ?_
        refine V_iload_n dX6_parent_3 rfl rfl ?_
        refine V_cv1 (ctX6_isBlock hM (show S.1.1 < 2 ^ 31 by omega) hG.1) mvX6_isBlock lkX6_144 hM.1 rfl rfl rfl (Nat.le_of_ble_eq_true rfl) ⟨⟨Nat.le_of_ble_eq_true rfl, Nat.le_of_ble_eq_true rfl⟩, Nat.le_of_ble_eq_true rfl, Nat.le_of_ble_eq_true rfl⟩ dX6_parent_4 ?_
        refine V_ifneB 14 dX6_parent_7 (by decide) (fun h7 => ?_) (fun h7 => absurd (h7.symm.trans hb) (by decide))
        refine V_iconst (v := nI 0) dX6_parent_14 (by decide) ?_
        refine V_cv1 (ctX6_fails hM (k := nI 1) (c := false)) mvX6_fails lkX6_100 hM.1 rfl rfl rfl (Nat.le_of_ble_eq_true rfl) ⟨⟨Nat.le_of_ble_eq_true rfl, Nat.le_of_ble_eq_true rfl⟩, Nat.le_of_ble_eq_true rfl, Nat.le_of_ble_eq_true rfl⟩ dX6_parent_15 ?_
        refine V_ifneB 51 dX6_parent_18 (by decide) (fun h18 => absurd (h18.symm.trans rfl) (by decide)) (fun h18 => ?_)
        refine V_aload_n dX6_parent_21 rfl rfl ?_
        refine V_iconst (v := nI 2) dX6_parent_22 (by decide) ?_
        refine V_aload_n dX6_parent_23 rfl rfl ?_
        refine V_iload_n dX6_parent_24 rfl rfl ?_
        refine V_cp1 (ctX6_isUnreached hM hG.z hw (show j < 14 by omega)) mvX6_isUnreached lkX6_199 hM.1 rfl rfl rfl (Nat.le_of_ble_eq_true rfl) ⟨⟨Nat.le_of_ble_eq_true rfl, Nat.le_of_ble_eq_true rfl⟩, Nat.le_of_ble_eq_true rfl, Nat.le_of_ble_eq_true rfl⟩ dX6_parent_25 (fun y μ1 hx => ?_)
        obtain ⟨rfl, m1, rfl, hn, ho⟩ := hx
        rw [hr]
        refine V_cv1 (ctX6_fails hM (k := nI 2) (c := false)) mvX6_fails lkX6_100 hM.1 rfl rfl rfl (Nat.le_of_ble_eq_true rfl) ⟨⟨Nat.le_of_ble_eq_true rfl, Nat.le_of_ble_eq_true rfl⟩, Nat.le_of_ble_eq_true rfl, Nat.le_of_ble_eq_true rfl⟩ dX6_parent_28 ?_
        refine V_ifneB 51 dX6_parent_31 (by decide) (fun h31 => absurd (h31.symm.trans rfl) (by decide)) (fun h31 => ?_)
        refine V_aload_n dX6_parent_34 rfl rfl ?_
        refine V_iconst (v := nI 3) dX6_parent_35 (by decide) ?_
        refine V_iload_n dX6_parent_36 rfl rfl ?_
        refine V_Z_ne (by omega) 44 dX6_parent_37 (by decide) (fun h37 => absurd h37 (fun q => q h0)) (fun h37 => ?_)
        refine V_iconst (v := nI 1) dX6_parent_40 (by decide) ?_
        refine V_goto 45 dX6_parent_41 (by decide) ?_
        refine V_cv1 (ctX6_fails hM (k := nI 3) (c := true)) mvX6_fails lkX6_100 hM.1 rfl rfl rfl (Nat.le_of_ble_eq_true rfl) ⟨⟨Nat.le_of_ble_eq_true rfl, Nat.le_of_ble_eq_true rfl⟩, Nat.le_of_ble_eq_true rfl, Nat.le_of_ble_eq_true rfl⟩ dX6_parent_45 ?_
        refine V_ifeqB 55 dX6_parent_48 (by decide) (fun h48 => absurd (h48.symm.trans rfl) (by decide)) (fun h48 => ?_)
        refine V_iconst (v := nI 0) dX6_parent_51 (by decide) ?_
        refine V_goto 61 dX6_parent_52 (by decide) ?_
        exact V_iretP rfl ⟨rfl, MQz hA hS (kep.rf.z.an ho).z.z (u2_s _ _ _ _)⟩ ⟨Nat.le_of_ble_eq_true rfl, Nat.le_of_ble_eq_true rfl⟩ dX6_parent_61

      · rw [show rs_parent S (nI j) = (0, nI (par S.1 j), S) from by unfold rs_parent; rw [tj, if_neg (by rw [hb]; decide), if_neg (by rw [hr]; decide), if_neg h0]]
        refine CtP.of rfl (by simp [Value.category]) (Nat.le_of_ble_eq_true rfl) ?_
        refine V_aload_n dX6_parent_0 rfl rfl ?_
        refine V_iconst (v := nI 1) dX6_parent_1 (by decide) ?_
        refine V_aload_n dX6_parent_2 rfl rfl ?_
        refine V_iload_n dX6_parent_3 rfl rfl ?_
        refine V_cv1 (ctX6_isBlock hM (show S.1.1 < 2 ^ 31 by omega) hG.1) mvX6_isBlock lkX6_144 hM.1 rfl rfl rfl (Nat.le_of_ble_eq_true rfl) ⟨⟨Nat.le_of_ble_eq_true rfl, Nat.le_of_ble_eq_true rfl⟩, Nat.le_of_ble_eq_true rfl, Nat.le_of_ble_eq_true rfl⟩ dX6_parent_4 ?_
        refine V_ifneB 14 dX6_parent_7 (by decide) (fun h7 => ?_) (fun h7 => absurd (h7.symm.trans hb) (by decide))
        refine V_iconst (v := nI 0) dX6_parent_14 (by decide) ?_
        refine V_cv1 (ctX6_fails hM (k := nI 1) (c := false)) mvX6_fails lkX6_100 hM.1 rfl rfl rfl (Nat.le_of_ble_eq_true rfl) ⟨⟨Nat.le_of_ble_eq_true rfl, Nat.le_of_ble_eq_true rfl⟩, Nat.le_of_ble_eq_true rfl, Nat.le_of_ble_eq_true rfl⟩ dX6_parent_15 ?_
        refine V_ifneB 51 dX6_parent_18 (by decide) (fun h18 => absurd (h18.symm.trans rfl) (by decide)) (fun h18 => ?_)
        refine V_aload_n dX6_parent_21 rfl rfl ?_
        refine V_iconst (v := nI 2) dX6_parent_22 (by decide) ?_
        refine V_aload_n dX6_parent_23 rfl rfl ?_
        refine V_iload_n dX6_parent_24 rfl rfl ?_
        refine V_cp1 (ctX6_isUnreached hM hG.z hw (show j < 14 by omega)) mvX6_isUnreached lkX6_199 hM.1 rfl rfl rfl (Nat.le_of_ble_eq_true rfl) ⟨⟨Nat.le_of_ble_eq_true rfl, Nat.le_of_ble_eq_true rfl⟩, Nat.le_of_ble_eq_true rfl, Nat.le_of_ble_eq_true rfl⟩ dX6_parent_25 (fun y μ1 hx => ?_)
        obtain ⟨rfl, m1, rfl, hn, ho⟩ := hx
        rw [hr]
        refine V_cv1 (ctX6_fails hM (k := nI 2) (c := false)) mvX6_fails lkX6_100 hM.1 rfl rfl rfl (Nat.le_of_ble_eq_true rfl) ⟨⟨Nat.le_of_ble_eq_true rfl, Nat.le_of_ble_eq_true rfl⟩, Nat.le_of_ble_eq_true rfl, Nat.le_of_ble_eq_true rfl⟩ dX6_parent_28 ?_
        refine V_ifneB 51 dX6_parent_31 (by decide) (fun h31 => absurd (h31.symm.trans rfl) (by decide)) (fun h31 => ?_)
        refine V_aload_n dX6_parent_34 rfl rfl ?_
        refine V_iconst (v := nI 3) dX6_parent_35 (by decide) ?_
        refine V_iload_n dX6_parent_36 rfl rfl ?_
        refine V_Z_ne (by omega) 44 dX6_parent_37 (by decide) (fun h37 => ?_) (fun h37 => absurd h37 h0)
        refine V_iconst (v := nI 0) dX6_parent_44 (by decide) ?_
        refine V_cv1 (ctX6_fails hM (k := nI 3) (c := false)) mvX6_fails lkX6_100 hM.1 rfl rfl rfl (Nat.le_of_ble_eq_true rfl) ⟨⟨Nat.le_of_ble_eq_true rfl, Nat.le_of_ble_eq_true rfl⟩, Nat.le_of_ble_eq_true rfl, Nat.le_of_ble_eq_true rfl⟩ dX6_parent_45 ?_
        refine V_ifeqB 55 dX6_parent_48 (by decide) (fun h48 => ?_) (fun h48 => absurd (h48.symm.trans rfl) (by decide))
        refine V_aload_n dX6_parent_55 rfl rfl ?_
        refine V_getR frX6_53 hM.1 rfl dX6_parent_56 ?_
        refine V_iload_n dX6_parent_59 rfl rfl ?_
        refine V_ialdE hM.2.2.2.2.2.2.2.2.1 j rfl (by omega) (by decide) (((hn.z hw).z hw).2.2.1.1 j (bp_t.mp hr) h0) dX6_parent_60 ?_
        exact V_iretP rfl ⟨rfl, MQz hA hS (kep.rf.z.an ho).z.z (u2_s _ _ _ _)⟩ ⟨Nat.le_of_ble_eq_true rfl, Nat.le_of_ble_eq_true rfl⟩ dX6_parent_61

theorem ctX6_dominates (hM : ML σ m) (hA : MA mi m S) (hS : SOK S) {b t : Int32} : CtP κ 0 0 24 mrX6_dominates [.ref m, .int b, .int t] (MM σ mi ml) (MRz σ mi ml m (rs_dominates S b t)) := by
  have hw := hS.1
  have h14 := hw.2.1
  have hG := hA.1
  cases hb : inR b S.1.1 with
  | false =>
    rw [show rs_dominates S b t = (1, 0, S) from by unfold rs_dominates; rw [if_pos (by rw [hb]; rfl)]]
    refine CtP.of rfl (by simp [Value.category]) (Nat.le_of_ble_eq_true rfl) ?_
    refine V_aload_n dX6_dominates_0 rfl rfl ?_
    refine V_iconst (v := nI 1) dX6_dominates_1 (by decide) ?_
    refine V_aload_n dX6_dominates_2 rfl rfl ?_
    refine V_iload_n dX6_dominates_3 rfl rfl ?_
    refine V_cv1 (ctX6_isBlock hM (show S.1.1 < 2 ^ 31 by omega) hG.1) mvX6_isBlock lkX6_144 hM.1 rfl rfl rfl (Nat.le_of_ble_eq_true rfl) ⟨⟨Nat.le_of_ble_eq_true rfl, Nat.le_of_ble_eq_true rfl⟩, Nat.le_of_ble_eq_true rfl, Nat.le_of_ble_eq_true rfl⟩ dX6_dominates_4 ?_
    refine V_ifeqB 18 dX6_dominates_7 (by decide) (fun h7 => ?_) (fun h7 => absurd (h7.symm.trans hb) (by decide))
    refine V_iconst (v := nI 1) dX6_dominates_18 (by decide) ?_
    refine V_goto 23 dX6_dominates_19 (by decide) ?_
    refine V_cv1 (ctX6_fails hM (k := nI 1) (c := true)) mvX6_fails lkX6_100 hM.1 rfl rfl rfl (Nat.le_of_ble_eq_true rfl) ⟨⟨Nat.le_of_ble_eq_true rfl, Nat.le_of_ble_eq_true rfl⟩, Nat.le_of_ble_eq_true rfl, Nat.le_of_ble_eq_true rfl⟩ dX6_dominates_23 ?_
    refine V_ifneB 58 dX6_dominates_26 (by decide) (fun h26 => ?_) (fun h26 => absurd (h26.symm.trans rfl) (by decide))
    refine V_iconst (v := nI 0) dX6_dominates_58 (by decide) ?_
    exact V_zretP rfl rfl ⟨rfl, MQz hA hS (by first | exact kep.rf.z | exact kep.rf.z.z | exact kep.rf.z.z.z) (u2_s _ _ _ _)⟩ ⟨Nat.le_of_ble_eq_true rfl, Nat.le_of_ble_eq_true rfl⟩ dX6_dominates_59

  | true =>
    cases ht : inR t S.1.1 with
    | false =>
      rw [show rs_dominates S b t = (1, 0, S) from by unfold rs_dominates; rw [if_pos (by rw [ht, Bool.and_false])]]
      refine CtP.of rfl (by simp [Value.category]) (Nat.le_of_ble_eq_true rfl) ?_
      refine V_aload_n dX6_dominates_0 rfl rfl ?_
      refine V_iconst (v := nI 1) dX6_dominates_1 (by decide) ?_
      refine V_aload_n dX6_dominates_2 rfl rfl ?_
      refine V_iload_n dX6_dominates_3 rfl rfl ?_
      refine V_cv1 (ctX6_isBlock hM (show S.1.1 < 2 ^ 31 by omega) hG.1) mvX6_isBlock lkX6_144 hM.1 rfl rfl rfl (Nat.le_of_ble_eq_true rfl) ⟨⟨Nat.le_of_ble_eq_true rfl, Nat.le_of_ble_eq_true rfl⟩, Nat.le_of_ble_eq_true rfl, Nat.le_of_ble_eq_true rfl⟩ dX6_dominates_4 ?_
      refine V_ifeqB 18 dX6_dominates_7 (by decide) (fun h7 => absurd (h7.symm.trans hb) (by decide)) (fun h7 => ?_)
      refine V_aload_n dX6_dominates_10 rfl rfl ?_
      refine V_iload_n dX6_dominates_11 rfl rfl ?_
      refine V_cv1 (ctX6_isBlock hM (show S.1.1 < 2 ^ 31 by omega) hG.1) mvX6_isBlock lkX6_144 hM.1 rfl rfl rfl (Nat.le_of_ble_eq_true rfl) ⟨⟨Nat.le_of_ble_eq_true rfl, Nat.le_of_ble_eq_true rfl⟩, Nat.le_of_ble_eq_true rfl, Nat.le_of_ble_eq_true rfl⟩ dX6_dominates_12 ?_
      refine V_ifneB 22 dX6_dominates_15 (by decide) (fun h15 => absurd (h15.symm.trans ht) (by decide)) (fun h15 => ?_)
      refine V_iconst (v := nI 1) dX6_dominates_18 (by decide) ?_
      refine V_goto 23 dX6_dominates_19 (by decide) ?_
      refine V_cv1 (ctX6_fails hM (k := nI 1) (c := true)) mvX6_fails lkX6_100 hM.1 rfl rfl rfl (Nat.le_of_ble_eq_true rfl) ⟨⟨Nat.le_of_ble_eq_true rfl, Nat.le_of_ble_eq_true rfl⟩, Nat.le_of_ble_eq_true rfl, Nat.le_of_ble_eq_true rfl⟩ dX6_dominates_23 ?_
      refine V_ifneB 58 dX6_dominates_26 (by decide) (fun h26 => ?_) (fun h26 => absurd (h26.symm.trans rfl) (by decide))
      refine V_iconst (v := nI 0) dX6_dominates_58 (by decide) ?_
      exact V_zretP rfl rfl ⟨rfl, MQz hA hS (by first | exact kep.rf.z | exact kep.rf.z.z | exact kep.rf.z.z.z) (u2_s _ _ _ _)⟩ ⟨Nat.le_of_ble_eq_true rfl, Nat.le_of_ble_eq_true rfl⟩ dX6_dominates_59

    | true =>
      obtain ⟨j, hj, rfl⟩ := inR_t (by omega) hb
      have tj := tn_nI (show j < 2 ^ 31 by omega)
      obtain ⟨i, hi, rfl⟩ := inR_t (by omega) ht
      have ti := tn_nI (show i < 2 ^ 31 by omega)
      have h1 : ¬ (inR (nI j) S.1.1 && inR (nI i) S.1.1) = false := by rw [hb, ht]; decide
      cases hr : bp (Rc S.1 j) with
      | false =>
        rw [show rs_dominates S (nI j) (nI i) = (2, 0, S) from by unfold rs_dominates; rw [tj, if_neg h1, if_pos (by rw [hr]; rfl)]]
        refine CtP.of rfl (by simp [Value.category]) (Nat.le_of_ble_eq_true rfl) ?_
        refine V_aload_n dX6_dominates_0 rfl rfl ?_
        refine V_iconst (v := nI 1) dX6_dominates_1 (by decide) ?_
        refine V_aload_n dX6_dominates_2 rfl rfl ?_
        refine V_iload_n dX6_dominates_3 rfl rfl ?_
        refine V_cv1 (ctX6_isBlock hM (show S.1.1 < 2 ^ 31 by omega) hG.1) mvX6_isBlock lkX6_144 hM.1 rfl rfl rfl (Nat.le_of_ble_eq_true rfl) ⟨⟨Nat.le_of_ble_eq_true rfl, Nat.le_of_ble_eq_true rfl⟩, Nat.le_of_ble_eq_true rfl, Nat.le_of_ble_eq_true rfl⟩ dX6_dominates_4 ?_
        refine V_ifeqB 18 dX6_dominates_7 (by decide) (fun h7 => absurd (h7.symm.trans hb) (by decide)) (fun h7 => ?_)
        refine V_aload_n dX6_dominates_10 rfl rfl ?_
        refine V_iload_n dX6_dominates_11 rfl rfl ?_
        refine V_cv1 (ctX6_isBlock hM (show S.1.1 < 2 ^ 31 by omega) hG.1) mvX6_isBlock lkX6_144 hM.1 rfl rfl rfl (Nat.le_of_ble_eq_true rfl) ⟨⟨Nat.le_of_ble_eq_true rfl, Nat.le_of_ble_eq_true rfl⟩, Nat.le_of_ble_eq_true rfl, Nat.le_of_ble_eq_true rfl⟩ dX6_dominates_12 ?_
        refine V_ifneB 22 dX6_dominates_15 (by decide) (fun h15 => ?_) (fun h15 => absurd (h15.symm.trans ht) (by decide))
        refine V_iconst (v := nI 0) dX6_dominates_22 (by decide) ?_
        refine V_cv1 (ctX6_fails hM (k := nI 1) (c := false)) mvX6_fails lkX6_100 hM.1 rfl rfl rfl (Nat.le_of_ble_eq_true rfl) ⟨⟨Nat.le_of_ble_eq_true rfl, Nat.le_of_ble_eq_true rfl⟩, Nat.le_of_ble_eq_true rfl, Nat.le_of_ble_eq_true rfl⟩ dX6_dominates_23 ?_
        refine V_ifneB 58 dX6_dominates_26 (by decide) (fun h26 => absurd (h26.symm.trans rfl) (by decide)) (fun h26 => ?_)
        refine V_aload_n dX6_dominates_29 rfl rfl ?_
        refine V_iconst (v := nI 2) dX6_dominates_30 (by decide) ?_
        refine V_aload_n dX6_dominates_31 rfl rfl ?_
        refine V_iload_n dX6_dominates_32 rfl rfl ?_
        refine V_cp1 (ctX6_isUnreached hM hG.z hw (show j < 14 by omega)) mvX6_isUnreached lkX6_199 hM.1 rfl rfl rfl (Nat.le_of_ble_eq_true rfl) ⟨⟨Nat.le_of_ble_eq_true rfl, Nat.le_of_ble_eq_true rfl⟩, Nat.le_of_ble_eq_true rfl, Nat.le_of_ble_eq_true rfl⟩ dX6_dominates_33 (fun y μ1 hx => ?_)
        obtain ⟨rfl, m1, rfl, hn, ho⟩ := hx
        rw [hr]
        refine V_ifneB 47 dX6_dominates_36 (by decide) (fun h36 => ?_) (fun h36 => absurd (h36.symm.trans rfl) (by decide))
        refine V_iconst (v := nI 1) dX6_dominates_47 (by decide) ?_
        refine V_goto 52 dX6_dominates_48 (by decide) ?_
        refine V_cv1 (ctX6_fails hM (k := nI 2) (c := true)) mvX6_fails lkX6_100 hM.1 rfl rfl rfl (Nat.le_of_ble_eq_true rfl) ⟨⟨Nat.le_of_ble_eq_true rfl, Nat.le_of_ble_eq_true rfl⟩, Nat.le_of_ble_eq_true rfl, Nat.le_of_ble_eq_true rfl⟩ dX6_dominates_52 ?_
        refine V_ifeqB 60 dX6_dominates_55 (by decide) (fun h55 => absurd (h55.symm.trans rfl) (by decide)) (fun h55 => ?_)
        refine V_iconst (v := nI 0) dX6_dominates_58 (by decide) ?_
        exact V_zretP rfl rfl ⟨rfl, MQz hA hS (kep.rf.z.an ho).z (u2_s _ _ _ _)⟩ ⟨Nat.le_of_ble_eq_true rfl, Nat.le_of_ble_eq_true rfl⟩ dX6_dominates_59

      | true =>
        cases hr2 : bp (Rc S.1 i) with
        | false =>
          rw [show rs_dominates S (nI j) (nI i) = (2, 0, S) from by unfold rs_dominates; rw [tj, ti, if_neg h1, if_pos (by rw [hr2, Bool.and_false])]]
          refine CtP.of rfl (by simp [Value.category]) (Nat.le_of_ble_eq_true rfl) ?_
          refine V_aload_n dX6_dominates_0 rfl rfl ?_
          refine V_iconst (v := nI 1) dX6_dominates_1 (by decide) ?_
          refine V_aload_n dX6_dominates_2 rfl rfl ?_
          refine V_iload_n dX6_dominates_3 rfl rfl ?_
          refine V_cv1 (ctX6_isBlock hM (show S.1.1 < 2 ^ 31 by omega) hG.1) mvX6_isBlock lkX6_144 hM.1 rfl rfl rfl (Nat.le_of_ble_eq_true rfl) ⟨⟨Nat.le_of_ble_eq_true rfl, Nat.le_of_ble_eq_true rfl⟩, Nat.le_of_ble_eq_true rfl, Nat.le_of_ble_eq_true rfl⟩ dX6_dominates_4 ?_
          refine V_ifeqB 18 dX6_dominates_7 (by decide) (fun h7 => absurd (h7.symm.trans hb) (by decide)) (fun h7 => ?_)
          refine V_aload_n dX6_dominates_10 rfl rfl ?_
          refine V_iload_n dX6_dominates_11 rfl rfl ?_
          refine V_cv1 (ctX6_isBlock hM (show S.1.1 < 2 ^ 31 by omega) hG.1) mvX6_isBlock lkX6_144 hM.1 rfl rfl rfl (Nat.le_of_ble_eq_true rfl) ⟨⟨Nat.le_of_ble_eq_true rfl, Nat.le_of_ble_eq_true rfl⟩, Nat.le_of_ble_eq_true rfl, Nat.le_of_ble_eq_true rfl⟩ dX6_dominates_12 ?_
          refine V_ifneB 22 dX6_dominates_15 (by decide) (fun h15 => ?_) (fun h15 => absurd (h15.symm.trans ht) (by decide))
          refine V_iconst (v := nI 0) dX6_dominates_22 (by decide) ?_
          refine V_cv1 (ctX6_fails hM (k := nI 1) (c := false)) mvX6_fails lkX6_100 hM.1 rfl rfl rfl (Nat.le_of_ble_eq_true rfl) ⟨⟨Nat.le_of_ble_eq_true rfl, Nat.le_of_ble_eq_true rfl⟩, Nat.le_of_ble_eq_true rfl, Nat.le_of_ble_eq_true rfl⟩ dX6_dominates_23 ?_
          refine V_ifneB 58 dX6_dominates_26 (by decide) (fun h26 => absurd (h26.symm.trans rfl) (by decide)) (fun h26 => ?_)
          refine V_aload_n dX6_dominates_29 rfl rfl ?_
          refine V_iconst (v := nI 2) dX6_dominates_30 (by decide) ?_
          refine V_aload_n dX6_dominates_31 rfl rfl ?_
          refine V_iload_n dX6_dominates_32 rfl rfl ?_
          refine V_cp1 (ctX6_isUnreached hM hG.z hw (show j < 14 by omega)) mvX6_isUnreached lkX6_199 hM.1 rfl rfl rfl (Nat.le_of_ble_eq_true rfl) ⟨⟨Nat.le_of_ble_eq_true rfl, Nat.le_of_ble_eq_true rfl⟩, Nat.le_of_ble_eq_true rfl, Nat.le_of_ble_eq_true rfl⟩ dX6_dominates_33 (fun y μ1 hx => ?_)
          obtain ⟨rfl, m1, rfl, hn, ho⟩ := hx
          rw [hr]
          refine V_ifneB 47 dX6_dominates_36 (by decide) (fun h36 => absurd (h36.symm.trans rfl) (by decide)) (fun h36 => ?_)
          refine V_aload_n dX6_dominates_39 rfl rfl ?_
          refine V_iload_n dX6_dominates_40 rfl rfl ?_
          refine V_cp1 (ctX6_isUnreached hM (GM_off hG.z ho) hw (show i < 14 by omega)) mvX6_isUnreached lkX6_199 hM.1 rfl rfl rfl (Nat.le_of_ble_eq_true rfl) ⟨⟨Nat.le_of_ble_eq_true rfl, Nat.le_of_ble_eq_true rfl⟩, Nat.le_of_ble_eq_true rfl, Nat.le_of_ble_eq_true rfl⟩ dX6_dominates_41 (fun y2 μ2 hx => ?_)
          obtain ⟨rfl, m2, rfl, hn2, ho2⟩ := hx
          rw [hr2]
          refine V_ifeqB 51 dX6_dominates_44 (by decide) (fun h44 => absurd (h44.symm.trans rfl) (by decide)) (fun h44 => ?_)
          refine V_iconst (v := nI 1) dX6_dominates_47 (by decide) ?_
          refine V_goto 52 dX6_dominates_48 (by decide) ?_
          refine V_cv1 (ctX6_fails hM (k := nI 2) (c := true)) mvX6_fails lkX6_100 hM.1 rfl rfl rfl (Nat.le_of_ble_eq_true rfl) ⟨⟨Nat.le_of_ble_eq_true rfl, Nat.le_of_ble_eq_true rfl⟩, Nat.le_of_ble_eq_true rfl, Nat.le_of_ble_eq_true rfl⟩ dX6_dominates_52 ?_
          refine V_ifeqB 60 dX6_dominates_55 (by decide) (fun h55 => absurd (h55.symm.trans rfl) (by decide)) (fun h55 => ?_)
          refine V_iconst (v := nI 0) dX6_dominates_58 (by decide) ?_
          exact V_zretP rfl rfl ⟨rfl, MQz hA hS ((kep.rf.z.an ho).an ho2).z (u2_s _ _ _ _)⟩ ⟨Nat.le_of_ble_eq_true rfl, Nat.le_of_ble_eq_true rfl⟩ dX6_dominates_59

        | true =>
          rw [show rs_dominates S (nI j) (nI i) = (0, bI (bp (Dm S.1 j i)), S) from by unfold rs_dominates; rw [tj, ti, if_neg h1, if_neg (by rw [hr, hr2]; decide)]]
          refine CtP.of rfl (by simp [Value.category]) (Nat.le_of_ble_eq_true rfl) ?_
          refine V_aload_n dX6_dominates_0 rfl rfl ?_
          refine V_iconst (v := nI 1) dX6_dominates_1 (by decide) ?_
          refine V_aload_n dX6_dominates_2 rfl rfl ?_
          refine V_iload_n dX6_dominates_3 rfl rfl ?_
          refine V_cv1 (ctX6_isBlock hM (show S.1.1 < 2 ^ 31 by omega) hG.1) mvX6_isBlock lkX6_144 hM.1 rfl rfl rfl (Nat.le_of_ble_eq_true rfl) ⟨⟨Nat.le_of_ble_eq_true rfl, Nat.le_of_ble_eq_true rfl⟩, Nat.le_of_ble_eq_true rfl, Nat.le_of_ble_eq_true rfl⟩ dX6_dominates_4 ?_
          refine V_ifeqB 18 dX6_dominates_7 (by decide) (fun h7 => absurd (h7.symm.trans hb) (by decide)) (fun h7 => ?_)
          refine V_aload_n dX6_dominates_10 rfl rfl ?_
          refine V_iload_n dX6_dominates_11 rfl rfl ?_
          refine V_cv1 (ctX6_isBlock hM (show S.1.1 < 2 ^ 31 by omega) hG.1) mvX6_isBlock lkX6_144 hM.1 rfl rfl rfl (Nat.le_of_ble_eq_true rfl) ⟨⟨Nat.le_of_ble_eq_true rfl, Nat.le_of_ble_eq_true rfl⟩, Nat.le_of_ble_eq_true rfl, Nat.le_of_ble_eq_true rfl⟩ dX6_dominates_12 ?_
          refine V_ifneB 22 dX6_dominates_15 (by decide) (fun h15 => ?_) (fun h15 => absurd (h15.symm.trans ht) (by decide))
          refine V_iconst (v := nI 0) dX6_dominates_22 (by decide) ?_
          refine V_cv1 (ctX6_fails hM (k := nI 1) (c := false)) mvX6_fails lkX6_100 hM.1 rfl rfl rfl (Nat.le_of_ble_eq_true rfl) ⟨⟨Nat.le_of_ble_eq_true rfl, Nat.le_of_ble_eq_true rfl⟩, Nat.le_of_ble_eq_true rfl, Nat.le_of_ble_eq_true rfl⟩ dX6_dominates_23 ?_
          refine V_ifneB 58 dX6_dominates_26 (by decide) (fun h26 => absurd (h26.symm.trans rfl) (by decide)) (fun h26 => ?_)
          refine V_aload_n dX6_dominates_29 rfl rfl ?_
          refine V_iconst (v := nI 2) dX6_dominates_30 (by decide) ?_
          refine V_aload_n dX6_dominates_31 rfl rfl ?_
          refine V_iload_n dX6_dominates_32 rfl rfl ?_
          refine V_cp1 (ctX6_isUnreached hM hG.z hw (show j < 14 by omega)) mvX6_isUnreached lkX6_199 hM.1 rfl rfl rfl (Nat.le_of_ble_eq_true rfl) ⟨⟨Nat.le_of_ble_eq_true rfl, Nat.le_of_ble_eq_true rfl⟩, Nat.le_of_ble_eq_true rfl, Nat.le_of_ble_eq_true rfl⟩ dX6_dominates_33 (fun y μ1 hx => ?_)
          obtain ⟨rfl, m1, rfl, hn, ho⟩ := hx
          rw [hr]
          refine V_ifneB 47 dX6_dominates_36 (by decide) (fun h36 => absurd (h36.symm.trans rfl) (by decide)) (fun h36 => ?_)
          refine V_aload_n dX6_dominates_39 rfl rfl ?_
          refine V_iload_n dX6_dominates_40 rfl rfl ?_
          refine V_cp1 (ctX6_isUnreached hM (GM_off hG.z ho) hw (show i < 14 by omega)) mvX6_isUnreached lkX6_199 hM.1 rfl rfl rfl (Nat.le_of_ble_eq_true rfl) ⟨⟨Nat.le_of_ble_eq_true rfl, Nat.le_of_ble_eq_true rfl⟩, Nat.le_of_ble_eq_true rfl, Nat.le_of_ble_eq_true rfl⟩ dX6_dominates_41 (fun y2 μ2 hx => ?_)
          obtain ⟨rfl, m2, rfl, hn2, ho2⟩ := hx
          rw [hr2]
          refine V_ifeqB 51 dX6_dominates_44 (by decide) (fun h44 => ?_) (fun h44 => absurd (h44.symm.trans rfl) (by decide))
          refine V_iconst (v := nI 0) dX6_dominates_51 (by decide) ?_
          refine V_cv1 (ctX6_fails hM (k := nI 2) (c := false)) mvX6_fails lkX6_100 hM.1 rfl rfl rfl (Nat.le_of_ble_eq_true rfl) ⟨⟨Nat.le_of_ble_eq_true rfl, Nat.le_of_ble_eq_true rfl⟩, Nat.le_of_ble_eq_true rfl, Nat.le_of_ble_eq_true rfl⟩ dX6_dominates_52 ?_
          refine V_ifeqB 60 dX6_dominates_55 (by decide) (fun h55 => ?_) (fun h55 => absurd (h55.symm.trans rfl) (by decide))
          refine V_aload_n dX6_dominates_60 rfl rfl ?_
          refine V_iload_n dX6_dominates_61 rfl rfl ?_
          refine V_iload_n dX6_dominates_62 rfl rfl ?_
          refine V_cv1 (ctX6_isDominator hM (hn2.z hw).2.1 hw (bp_t.mp hr2) (by omega)) mvX6_isDominator lkX6_161 hM.1 rfl rfl rfl (Nat.le_of_ble_eq_true rfl) ⟨⟨Nat.le_of_ble_eq_true rfl, Nat.le_of_ble_eq_true rfl⟩, Nat.le_of_ble_eq_true rfl, Nat.le_of_ble_eq_true rfl⟩ dX6_dominates_63 ?_
          exact V_zretP rfl (bI_nar _) ⟨rfl, MQz hA hS ((kep.rf.z.an ho).an ho2).z (u2_s _ _ _ _)⟩ ⟨Nat.le_of_ble_eq_true rfl, Nat.le_of_ble_eq_true rfl⟩ dX6_dominates_66

theorem ctX6_minimalMerges (hM : ML σ m) (hA : MA mi m S) (hS : SOK S) {v : Int32} : CtP κ 0 0 24 mrX6_minimalMerges [.ref m, .int v] (MM σ mi ml) (MRz σ mi ml m (rs_minimalMerges S v)) := by
  have hw := hS.1
  have h14 := hw.2.1
  have hG := hA.1
  cases hv : inR v 4 with
  | false =>
    rw [show rs_minimalMerges S v = (1, 0, S) from by unfold rs_minimalMerges; rw [if_pos hv]]
    refine CtP.of rfl (by simp [Value.category]) (Nat.le_of_ble_eq_true rfl) ?_
    refine V_aload_n dX6_minimalMerges_0 rfl rfl ?_
    refine V_iconst (v := nI 1) dX6_minimalMerges_1 (by decide) ?_
    refine V_iload_n dX6_minimalMerges_2 rfl rfl ?_
    refine V_cs1 (ctX6_isVariable) msX6_isVariable lkX6_202 rfl rfl (Nat.le_of_ble_eq_true rfl) ⟨⟨Nat.le_of_ble_eq_true rfl, Nat.le_of_ble_eq_true rfl⟩, Nat.le_of_ble_eq_true rfl, Nat.le_of_ble_eq_true rfl⟩ dX6_minimalMerges_3 ?_
    refine V_ifneB 13 dX6_minimalMerges_6 (by decide) (fun h6 => absurd (h6.symm.trans hv) (by decide)) (fun h6 => ?_)
    refine V_iconst (v := nI 1) dX6_minimalMerges_9 (by decide) ?_
    refine V_goto 14 dX6_minimalMerges_10 (by decide) ?_
    refine V_cv1 (ctX6_fails hM (k := nI 1) (c := true)) mvX6_fails lkX6_100 hM.1 rfl rfl rfl (Nat.le_of_ble_eq_true rfl) ⟨⟨Nat.le_of_ble_eq_true rfl, Nat.le_of_ble_eq_true rfl⟩, Nat.le_of_ble_eq_true rfl, Nat.le_of_ble_eq_true rfl⟩ dX6_minimalMerges_14 ?_
    refine V_ifeqB 22 dX6_minimalMerges_17 (by decide) (fun h17 => absurd (h17.symm.trans rfl) (by decide)) (fun h17 => ?_)
    refine V_iconst (v := nI 0) dX6_minimalMerges_20 (by decide) ?_
    exact V_iretP rfl ⟨rfl, MQz hA hS (by first | exact kep.rf.z | exact kep.rf.z.z | exact kep.rf.z.z.z) (u2_s _ _ _ _)⟩ ⟨Nat.le_of_ble_eq_true rfl, Nat.le_of_ble_eq_true rfl⟩ dX6_minimalMerges_21

  | true =>
    obtain ⟨i, hi, rfl⟩ := inR_t (by omega) hv
    have ti := tn_nI (show i < 2 ^ 31 by omega)
    rw [show rs_minimalMerges S (nI i) = (0, msk (fun b => bp (MN S.1 i b)), S) from by unfold rs_minimalMerges; rw [ti, if_neg (by rw [hv]; decide)]]
    refine CtP.of rfl (by simp [Value.category]) (Nat.le_of_ble_eq_true rfl) ?_
    refine V_aload_n dX6_minimalMerges_0 rfl rfl ?_
    refine V_iconst (v := nI 1) dX6_minimalMerges_1 (by decide) ?_
    refine V_iload_n dX6_minimalMerges_2 rfl rfl ?_
    refine V_cs1 (ctX6_isVariable) msX6_isVariable lkX6_202 rfl rfl (Nat.le_of_ble_eq_true rfl) ⟨⟨Nat.le_of_ble_eq_true rfl, Nat.le_of_ble_eq_true rfl⟩, Nat.le_of_ble_eq_true rfl, Nat.le_of_ble_eq_true rfl⟩ dX6_minimalMerges_3 ?_
    refine V_ifneB 13 dX6_minimalMerges_6 (by decide) (fun h6 => ?_) (fun h6 => absurd (h6.symm.trans hv) (by decide))
    refine V_iconst (v := nI 0) dX6_minimalMerges_13 (by decide) ?_
    refine V_cv1 (ctX6_fails hM (k := nI 1) (c := false)) mvX6_fails lkX6_100 hM.1 rfl rfl rfl (Nat.le_of_ble_eq_true rfl) ⟨⟨Nat.le_of_ble_eq_true rfl, Nat.le_of_ble_eq_true rfl⟩, Nat.le_of_ble_eq_true rfl, Nat.le_of_ble_eq_true rfl⟩ dX6_minimalMerges_14 ?_
    refine V_ifeqB 22 dX6_minimalMerges_17 (by decide) (fun h17 => ?_) (fun h17 => absurd (h17.symm.trans rfl) (by decide))
    refine V_aload_n dX6_minimalMerges_22 rfl rfl ?_
    refine V_cp0 (ctX6_analyze hM hG.z hw) mvX6_analyze lkX6_196 hM.1 rfl rfl rfl (Nat.le_of_ble_eq_true rfl) ⟨⟨Nat.le_of_ble_eq_true rfl, Nat.le_of_ble_eq_true rfl⟩, Nat.le_of_ble_eq_true rfl, Nat.le_of_ble_eq_true rfl⟩ dX6_minimalMerges_23 (fun μ1 hx => ?_)
    obtain ⟨m1, rfl, hn, ho⟩ := hx
    refine V_aload_n dX6_minimalMerges_26 rfl rfl ?_
    refine V_getR frX6_62 hM.1 rfl dX6_minimalMerges_27 ?_
    refine V_iload_n dX6_minimalMerges_30 rfl rfl ?_
    refine V_ialdE hM.2.2.2.2.2.2.2.2.2.2.2.1 i rfl hi (by decide) ((hn.2.2.2 i hi).2.1) dX6_minimalMerges_31 ?_
    exact V_iretP rfl ⟨rfl, MQz hA hS (kep.rf.z.an ho) ((ho _ _ (by omega) (by omega)).trans (u2_s _ _ _ _))⟩ ⟨Nat.le_of_ble_eq_true rfl, Nat.le_of_ble_eq_true rfl⟩ dX6_minimalMerges_32

theorem ctX6_merges (hM : ML σ m) (hA : MA mi m S) (hS : SOK S) {v : Int32} : CtP κ 0 0 24 mrX6_merges [.ref m, .int v] (MM σ mi ml) (MRz σ mi ml m (rs_merges S v)) := by
  have hw := hS.1
  have h14 := hw.2.1
  have hG := hA.1
  cases hv : inR v 4 with
  | false =>
    rw [show rs_merges S v = (1, 0, S) from by unfold rs_merges; rw [if_pos hv]]
    refine CtP.of rfl (by simp [Value.category]) (Nat.le_of_ble_eq_true rfl) ?_
    refine V_aload_n dX6_merges_0 rfl rfl ?_
    refine V_iconst (v := nI 1) dX6_merges_1 (by decide) ?_
    refine V_iload_n dX6_merges_2 rfl rfl ?_
    refine V_cs1 (ctX6_isVariable) msX6_isVariable lkX6_202 rfl rfl (Nat.le_of_ble_eq_true rfl) ⟨⟨Nat.le_of_ble_eq_true rfl, Nat.le_of_ble_eq_true rfl⟩, Nat.le_of_ble_eq_true rfl, Nat.le_of_ble_eq_true rfl⟩ dX6_merges_3 ?_
    refine V_ifneB 13 dX6_merges_6 (by decide) (fun h6 => absurd (h6.symm.trans hv) (by decide)) (fun h6 => ?_)
    refine V_iconst (v := nI 1) dX6_merges_9 (by decide) ?_
    refine V_goto 14 dX6_merges_10 (by decide) ?_
    refine V_cv1 (ctX6_fails hM (k := nI 1) (c := true)) mvX6_fails lkX6_100 hM.1 rfl rfl rfl (Nat.le_of_ble_eq_true rfl) ⟨⟨Nat.le_of_ble_eq_true rfl, Nat.le_of_ble_eq_true rfl⟩, Nat.le_of_ble_eq_true rfl, Nat.le_of_ble_eq_true rfl⟩ dX6_merges_14 ?_
    refine V_ifeqB 22 dX6_merges_17 (by decide) (fun h17 => absurd (h17.symm.trans rfl) (by decide)) (fun h17 => ?_)
    refine V_iconst (v := nI 0) dX6_merges_20 (by decide) ?_
    exact V_iretP rfl ⟨rfl, MQz hA hS (by first | exact kep.rf.z | exact kep.rf.z.z | exact kep.rf.z.z.z) (u2_s _ _ _ _)⟩ ⟨Nat.le_of_ble_eq_true rfl, Nat.le_of_ble_eq_true rfl⟩ dX6_merges_21

  | true =>
    obtain ⟨i, hi, rfl⟩ := inR_t (by omega) hv
    have ti := tn_nI (show i < 2 ^ 31 by omega)
    rw [show rs_merges S (nI i) = (0, msk (fun b => bp (PM S.1 i b)), S) from by unfold rs_merges; rw [ti, if_neg (by rw [hv]; decide)]]
    refine CtP.of rfl (by simp [Value.category]) (Nat.le_of_ble_eq_true rfl) ?_
    refine V_aload_n dX6_merges_0 rfl rfl ?_
    refine V_iconst (v := nI 1) dX6_merges_1 (by decide) ?_
    refine V_iload_n dX6_merges_2 rfl rfl ?_
    refine V_cs1 (ctX6_isVariable) msX6_isVariable lkX6_202 rfl rfl (Nat.le_of_ble_eq_true rfl) ⟨⟨Nat.le_of_ble_eq_true rfl, Nat.le_of_ble_eq_true rfl⟩, Nat.le_of_ble_eq_true rfl, Nat.le_of_ble_eq_true rfl⟩ dX6_merges_3 ?_
    refine V_ifneB 13 dX6_merges_6 (by decide) (fun h6 => ?_) (fun h6 => absurd (h6.symm.trans hv) (by decide))
    refine V_iconst (v := nI 0) dX6_merges_13 (by decide) ?_
    refine V_cv1 (ctX6_fails hM (k := nI 1) (c := false)) mvX6_fails lkX6_100 hM.1 rfl rfl rfl (Nat.le_of_ble_eq_true rfl) ⟨⟨Nat.le_of_ble_eq_true rfl, Nat.le_of_ble_eq_true rfl⟩, Nat.le_of_ble_eq_true rfl, Nat.le_of_ble_eq_true rfl⟩ dX6_merges_14 ?_
    refine V_ifeqB 22 dX6_merges_17 (by decide) (fun h17 => ?_) (fun h17 => absurd (h17.symm.trans rfl) (by decide))
    refine V_aload_n dX6_merges_22 rfl rfl ?_
    refine V_cp0 (ctX6_analyze hM hG.z hw) mvX6_analyze lkX6_196 hM.1 rfl rfl rfl (Nat.le_of_ble_eq_true rfl) ⟨⟨Nat.le_of_ble_eq_true rfl, Nat.le_of_ble_eq_true rfl⟩, Nat.le_of_ble_eq_true rfl, Nat.le_of_ble_eq_true rfl⟩ dX6_merges_23 (fun μ1 hx => ?_)
    obtain ⟨m1, rfl, hn, ho⟩ := hx
    refine V_aload_n dX6_merges_26 rfl rfl ?_
    refine V_getR frX6_65 hM.1 rfl dX6_merges_27 ?_
    refine V_iload_n dX6_merges_30 rfl rfl ?_
    refine V_ialdE hM.2.2.2.2.2.2.2.2.2.2.2.2.1 i rfl hi (by decide) ((hn.2.2.2 i hi).2.2.1) dX6_merges_31 ?_
    exact V_iretP rfl ⟨rfl, MQz hA hS (kep.rf.z.an ho) ((ho _ _ (by omega) (by omega)).trans (u2_s _ _ _ _))⟩ ⟨Nat.le_of_ble_eq_true rfl, Nat.le_of_ble_eq_true rfl⟩ dX6_merges_32

theorem ctX6_isLive (hM : ML σ m) (hA : MA mi m S) (hS : SOK S) {b v : Int32} : CtP κ 0 0 24 mrX6_isLive [.ref m, .int b, .int v] (MM σ mi ml) (MRz σ mi ml m (rs_isLive S b v)) := by
  have hw := hS.1
  have h14 := hw.2.1
  have hG := hA.1
  cases hc : (inR v 4 && inR b S.1.1) with
  | false =>
    rw [show rs_isLive S b v = (1, 0, S) from by unfold rs_isLive; rw [if_pos hc]]
    refine CtP.of rfl (by simp [Value.category]) (Nat.le_of_ble_eq_true rfl) ?_
    refine V_aload_n dX6_isLive_0 rfl rfl ?_
    refine V_iload_n dX6_isLive_1 rfl rfl ?_
    refine V_iload_n dX6_isLive_2 rfl rfl ?_
    refine V_cv1 (ctX6_failsAt_1 hM hG hw hc) mvX6_failsAt lkX6_205 hM.1 rfl rfl rfl (Nat.le_of_ble_eq_true rfl) ⟨⟨Nat.le_of_ble_eq_true rfl, Nat.le_of_ble_eq_true rfl⟩, Nat.le_of_ble_eq_true rfl, Nat.le_of_ble_eq_true rfl⟩ dX6_isLive_3 ?_
    refine V_ifneB 26 dX6_isLive_6 (by decide) (fun h6 => ?_) (fun h6 => absurd (h6.symm.trans rfl) (by decide))
    refine V_iconst (v := nI 0) dX6_isLive_26 (by decide) ?_
    exact V_zretP rfl rfl ⟨rfl, MQz hA hS kep.rf.z (u2_s _ _ _ _)⟩ ⟨Nat.le_of_ble_eq_true rfl, Nat.le_of_ble_eq_true rfl⟩ dX6_isLive_27

  | true =>
    have hc2 := hc
    rw [Bool.and_eq_true] at hc2
    obtain ⟨i, hi, rfl⟩ := inR_t (by omega) hc2.1
    have ti := tn_nI (show i < 2 ^ 31 by omega)
    obtain ⟨j, hj, rfl⟩ := inR_t (by omega) hc2.2
    have tj := tn_nI (show j < 2 ^ 31 by omega)
    have h1 : ¬ (inR (nI i) 4 && inR (nI j) S.1.1) = false := by rw [hc]; decide
    cases hr : bp (Rc S.1 j) with
    | false =>
      rw [show rs_isLive S (nI j) (nI i) = (2, 0, S) from by unfold rs_isLive; rw [tj, if_neg h1, if_pos hr]]
      refine CtP.of rfl (by simp [Value.category]) (Nat.le_of_ble_eq_true rfl) ?_
      refine V_aload_n dX6_isLive_0 rfl rfl ?_
      refine V_iload_n dX6_isLive_1 rfl rfl ?_
      refine V_iload_n dX6_isLive_2 rfl rfl ?_
      refine V_cp1 (ctX6_failsAt_2 hM hG hw hc2.1 hj hr) mvX6_failsAt lkX6_205 hM.1 rfl rfl rfl (Nat.le_of_ble_eq_true rfl) ⟨⟨Nat.le_of_ble_eq_true rfl, Nat.le_of_ble_eq_true rfl⟩, Nat.le_of_ble_eq_true rfl, Nat.le_of_ble_eq_true rfl⟩ dX6_isLive_3 (fun y μ1 hx => ?_)
      obtain ⟨rfl, m1, rfl, hk1, h01⟩ := hx
      refine V_ifneB 26 dX6_isLive_6 (by decide) (fun h6 => ?_) (fun h6 => absurd (h6.symm.trans rfl) (by decide))
      refine V_iconst (v := nI 0) dX6_isLive_26 (by decide) ?_
      exact V_zretP rfl rfl ⟨rfl, MQz hA hS hk1 h01⟩ ⟨Nat.le_of_ble_eq_true rfl, Nat.le_of_ble_eq_true rfl⟩ dX6_isLive_27

    | true =>
      have hR := bp_t.mp hr
      have h2 : ¬ bp (Rc S.1 j) = false := by rw [hr]; decide
      rw [show rs_isLive S (nI j) (nI i) = (0, bI (bp (LV S.1 i j)), S) from by unfold rs_isLive; rw [tj, ti, if_neg h1, if_neg h2]]
      refine CtP.of rfl (by simp [Value.category]) (Nat.le_of_ble_eq_true rfl) ?_
      refine V_aload_n dX6_isLive_0 rfl rfl ?_
      refine V_iload_n dX6_isLive_1 rfl rfl ?_
      refine V_iload_n dX6_isLive_2 rfl rfl ?_
      refine V_cp1 (ctX6_failsAt_0 hM hG hw hc2.1 hj hr) mvX6_failsAt lkX6_205 hM.1 rfl rfl rfl (Nat.le_of_ble_eq_true rfl) ⟨⟨Nat.le_of_ble_eq_true rfl, Nat.le_of_ble_eq_true rfl⟩, Nat.le_of_ble_eq_true rfl, Nat.le_of_ble_eq_true rfl⟩ dX6_isLive_3 (fun y μ1 hx => ?_)
      obtain ⟨rfl, m1, rfl, hk1, h01, hn⟩ := hx
      have hG1 := hG.kp hk1
      refine V_ifneB 26 dX6_isLive_6 (by decide) (fun h6 => absurd (h6.symm.trans rfl) (by decide)) (fun h6 => ?_)
      refine V_aload_n dX6_isLive_9 rfl rfl ?_
      refine V_getR frX6_59 hM.1 rfl dX6_isLive_10 ?_
      refine V_iload_n dX6_isLive_13 rfl rfl ?_
      refine V_ialdE hM.2.2.2.2.2.2.2.2.2.2.1 i rfl hi (by decide) ((hn.2.2.2 i hi).1) dX6_isLive_14 ?_
      refine V_iload_n dX6_isLive_15 rfl rfl ?_
      refine V_cs1 (ctX6_hasM (by omega)) msX6_has lkX6_158 rfl rfl (Nat.le_of_ble_eq_true rfl) ⟨⟨Nat.le_of_ble_eq_true rfl, Nat.le_of_ble_eq_true rfl⟩, Nat.le_of_ble_eq_true rfl, Nat.le_of_ble_eq_true rfl⟩ dX6_isLive_16 ?_
      refine V_ifeqB 26 dX6_isLive_19 (by decide) (fun h19 => ?_) (fun h19 => ?_)
      · refine V_iconst (v := nI 0) dX6_isLive_26 (by decide) ?_
        exact V_zretP rfl rfl ⟨by rw [h19]; rfl, MQz hA hS hk1 h01⟩ ⟨Nat.le_of_ble_eq_true rfl, Nat.le_of_ble_eq_true rfl⟩ dX6_isLive_27
      · refine V_iconst (v := nI 1) dX6_isLive_22 (by decide) ?_
        refine V_goto 27 dX6_isLive_23 (by decide) ?_
        exact V_zretP rfl rfl ⟨by rw [h19]; rfl, MQz hA hS hk1 h01⟩ ⟨Nat.le_of_ble_eq_true rfl, Nat.le_of_ble_eq_true rfl⟩ dX6_isLive_27

theorem ctX6_source (hM : ML σ m) (hA : MA mi m S) (hS : SOK S) {b v : Int32} {z : Bool} : CtP κ 0 0 24 mrX6_source [.ref m, .int b, .int v, .int (bI z)] (MM σ mi ml) (MRz σ mi ml m (rs_source S b v z)) := by
  have hw := hS.1
  have h14 := hw.2.1
  have hG := hA.1
  cases hc : (inR v 4 && inR b S.1.1) with
  | false =>
    rw [show rs_source S b v z = (1, 0, S) from by unfold rs_source; rw [if_pos hc]]
    refine CtP.of rfl (by simp [Value.category]) (Nat.le_of_ble_eq_true rfl) ?_
    refine V_aload_n dX6_source_0 rfl rfl ?_
    refine V_iload_n dX6_source_1 rfl rfl ?_
    refine V_iload_n dX6_source_2 rfl rfl ?_
    refine V_cv1 (ctX6_failsAt_1 hM hG hw hc) mvX6_failsAt lkX6_205 hM.1 rfl rfl rfl (Nat.le_of_ble_eq_true rfl) ⟨⟨Nat.le_of_ble_eq_true rfl, Nat.le_of_ble_eq_true rfl⟩, Nat.le_of_ble_eq_true rfl, Nat.le_of_ble_eq_true rfl⟩ dX6_source_3 ?_
    refine V_ifeqB 13 dX6_source_6 (by decide) (fun h6 => absurd (h6.symm.trans rfl) (by decide)) (fun h6 => ?_)
    refine V_iconst (v := nI 0) dX6_source_9 (by decide) ?_
    refine V_goto 36 dX6_source_10 (by decide) ?_
    exact V_iretP rfl ⟨rfl, MQz hA hS kep.rf.z (u2_s _ _ _ _)⟩ ⟨Nat.le_of_ble_eq_true rfl, Nat.le_of_ble_eq_true rfl⟩ dX6_source_36

  | true =>
    have hc2 := hc
    rw [Bool.and_eq_true] at hc2
    obtain ⟨i, hi, rfl⟩ := inR_t (by omega) hc2.1
    have ti := tn_nI (show i < 2 ^ 31 by omega)
    obtain ⟨j, hj, rfl⟩ := inR_t (by omega) hc2.2
    have tj := tn_nI (show j < 2 ^ 31 by omega)
    have h1 : ¬ (inR (nI i) 4 && inR (nI j) S.1.1) = false := by rw [hc]; decide
    cases hr : bp (Rc S.1 j) with
    | false =>
      rw [show rs_source S (nI j) (nI i) z = (2, 0, S) from by unfold rs_source; rw [tj, if_neg h1, if_pos hr]]
      refine CtP.of rfl (by simp [Value.category]) (Nat.le_of_ble_eq_true rfl) ?_
      refine V_aload_n dX6_source_0 rfl rfl ?_
      refine V_iload_n dX6_source_1 rfl rfl ?_
      refine V_iload_n dX6_source_2 rfl rfl ?_
      refine V_cp1 (ctX6_failsAt_2 hM hG hw hc2.1 hj hr) mvX6_failsAt lkX6_205 hM.1 rfl rfl rfl (Nat.le_of_ble_eq_true rfl) ⟨⟨Nat.le_of_ble_eq_true rfl, Nat.le_of_ble_eq_true rfl⟩, Nat.le_of_ble_eq_true rfl, Nat.le_of_ble_eq_true rfl⟩ dX6_source_3 (fun y μ1 hx => ?_)
      obtain ⟨rfl, m1, rfl, hk1, h01⟩ := hx
      refine V_ifeqB 13 dX6_source_6 (by decide) (fun h6 => absurd (h6.symm.trans rfl) (by decide)) (fun h6 => ?_)
      refine V_iconst (v := nI 0) dX6_source_9 (by decide) ?_
      refine V_goto 36 dX6_source_10 (by decide) ?_
      exact V_iretP rfl ⟨rfl, MQz hA hS hk1 h01⟩ ⟨Nat.le_of_ble_eq_true rfl, Nat.le_of_ble_eq_true rfl⟩ dX6_source_36

    | true =>
      have hR := bp_t.mp hr
      have h2 : ¬ bp (Rc S.1 j) = false := by rw [hr]; decide
      cases z with
      | false =>
        rw [show rs_source S (nI j) (nI i) false = (0, nI (srcB S.1 i j), S) from by unfold rs_source; rw [tj, ti, if_neg h1, if_neg h2]; rfl]
        refine CtP.of rfl (by simp [Value.category]) (Nat.le_of_ble_eq_true rfl) ?_
        refine V_aload_n dX6_source_0 rfl rfl ?_
        refine V_iload_n dX6_source_1 rfl rfl ?_
        refine V_iload_n dX6_source_2 rfl rfl ?_
        refine V_cp1 (ctX6_failsAt_0 hM hG hw hc2.1 hj hr) mvX6_failsAt lkX6_205 hM.1 rfl rfl rfl (Nat.le_of_ble_eq_true rfl) ⟨⟨Nat.le_of_ble_eq_true rfl, Nat.le_of_ble_eq_true rfl⟩, Nat.le_of_ble_eq_true rfl, Nat.le_of_ble_eq_true rfl⟩ dX6_source_3 (fun y μ1 hx => ?_)
        obtain ⟨rfl, m1, rfl, hk1, h01, hn⟩ := hx
        have hG1 := hG.kp hk1
        refine V_ifeqB 13 dX6_source_6 (by decide) (fun h6 => ?_) (fun h6 => absurd (h6.symm.trans rfl) (by decide))
        refine V_iload_n dX6_source_13 rfl rfl ?_
        refine V_ifeqB 28 dX6_source_14 (by decide) (fun h14 => ?_) (fun h14 => absurd (h14.symm.trans rfl) (by decide))
        refine V_aload_n dX6_source_28 rfl rfl ?_
        refine V_getR frX6_68 hM.1 rfl dX6_source_29 ?_
        refine V_iload_n dX6_source_32 rfl rfl ?_
        refine V_aaldR hM.2.2.2.2.2.2.2.2.2.2.2.2.2.2.2.2.2.2.2.1 (j) rfl (show j < 14 by omega) (by decide) dX6_source_33 ?_
        refine V_iload_n dX6_source_34 rfl rfl ?_
        refine V_ialdE (hM.2.2.2.2.2.2.2.2.2.2.2.2.2.2.2.2.2.2.2.1.row (j := j) (show j < 14 by omega)) i rfl hi (by decide) (((hn.2.2.2 i hi).2.2.2 j hR).1) dX6_source_35 ?_
        exact V_iretP rfl ⟨rfl, MQz hA hS hk1 h01⟩ ⟨Nat.le_of_ble_eq_true rfl, Nat.le_of_ble_eq_true rfl⟩ dX6_source_36

      | true =>
        rw [show rs_source S (nI j) (nI i) true = (0, nI (srcE S.1 i j), S) from by unfold rs_source; rw [tj, ti, if_neg h1, if_neg h2]; rfl]
        refine CtP.of rfl (by simp [Value.category]) (Nat.le_of_ble_eq_true rfl) ?_
        refine V_aload_n dX6_source_0 rfl rfl ?_
        refine V_iload_n dX6_source_1 rfl rfl ?_
        refine V_iload_n dX6_source_2 rfl rfl ?_
        refine V_cp1 (ctX6_failsAt_0 hM hG hw hc2.1 hj hr) mvX6_failsAt lkX6_205 hM.1 rfl rfl rfl (Nat.le_of_ble_eq_true rfl) ⟨⟨Nat.le_of_ble_eq_true rfl, Nat.le_of_ble_eq_true rfl⟩, Nat.le_of_ble_eq_true rfl, Nat.le_of_ble_eq_true rfl⟩ dX6_source_3 (fun y μ1 hx => ?_)
        obtain ⟨rfl, m1, rfl, hk1, h01, hn⟩ := hx
        have hG1 := hG.kp hk1
        refine V_ifeqB 13 dX6_source_6 (by decide) (fun h6 => ?_) (fun h6 => absurd (h6.symm.trans rfl) (by decide))
        refine V_iload_n dX6_source_13 rfl rfl ?_
        refine V_ifeqB 28 dX6_source_14 (by decide) (fun h14 => absurd (h14.symm.trans rfl) (by decide)) (fun h14 => ?_)
        refine V_aload_n dX6_source_17 rfl rfl ?_
        refine V_getR frX6_71 hM.1 rfl dX6_source_18 ?_
        refine V_iload_n dX6_source_21 rfl rfl ?_
        refine V_aaldR hM.2.2.2.2.2.2.2.2.2.2.2.2.2.2.2.2.2.2.2.2.1 (j) rfl (show j < 14 by omega) (by decide) dX6_source_22 ?_
        refine V_iload_n dX6_source_23 rfl rfl ?_
        refine V_ialdE (hM.2.2.2.2.2.2.2.2.2.2.2.2.2.2.2.2.2.2.2.2.1.row (j := j) (show j < 14 by omega)) i rfl hi (by decide) (((hn.2.2.2 i hi).2.2.2 j hR).2) dX6_source_24 ?_
        refine V_goto 36 dX6_source_25 (by decide) ?_
        exact V_iretP rfl ⟨rfl, MQz hA hS hk1 h01⟩ ⟨Nat.le_of_ble_eq_true rfl, Nat.le_of_ble_eq_true rfl⟩ dX6_source_36

theorem ctX6_operand (hM : ML σ m) (hA : MA mi m S) (hS : SOK S) {b v p : Int32} : CtP κ 0 0 24 mrX6_operand [.ref m, .int b, .int v, .int p] (MM σ mi ml) (MRz σ mi ml m (rs_operand S b v p)) := by
  have hw := hS.1
  have h14 := hw.2.1
  have hG := hA.1
  cases hc : (inR v 4 && inR b S.1.1) with
  | false =>
    rw [show rs_operand S b v p = (1, 0, S) from by unfold rs_operand; rw [if_pos hc]]
    refine CtP.of rfl (by simp [Value.category]) (Nat.le_of_ble_eq_true rfl) ?_
    refine V_aload_n dX6_operand_0 rfl rfl ?_
    refine V_iload_n dX6_operand_1 rfl rfl ?_
    refine V_iload_n dX6_operand_2 rfl rfl ?_
    refine V_cv1 (ctX6_failsAt_1 hM hG hw hc) mvX6_failsAt lkX6_205 hM.1 rfl rfl rfl (Nat.le_of_ble_eq_true rfl) ⟨⟨Nat.le_of_ble_eq_true rfl, Nat.le_of_ble_eq_true rfl⟩, Nat.le_of_ble_eq_true rfl, Nat.le_of_ble_eq_true rfl⟩ dX6_operand_3 ?_
    refine V_ifeqB 11 dX6_operand_6 (by decide) (fun h6 => absurd (h6.symm.trans rfl) (by decide)) (fun h6 => ?_)
    refine V_iconst (v := nI 0) dX6_operand_9 (by decide) ?_
    exact V_iretP rfl ⟨rfl, MQz hA hS kep.rf.z (u2_s _ _ _ _)⟩ ⟨Nat.le_of_ble_eq_true rfl, Nat.le_of_ble_eq_true rfl⟩ dX6_operand_10

  | true =>
    have hc2 := hc
    rw [Bool.and_eq_true] at hc2
    obtain ⟨i, hi, rfl⟩ := inR_t (by omega) hc2.1
    have ti := tn_nI (show i < 2 ^ 31 by omega)
    obtain ⟨j, hj, rfl⟩ := inR_t (by omega) hc2.2
    have tj := tn_nI (show j < 2 ^ 31 by omega)
    have h1 : ¬ (inR (nI i) 4 && inR (nI j) S.1.1) = false := by rw [hc]; decide
    cases hr : bp (Rc S.1 j) with
    | false =>
      rw [show rs_operand S (nI j) (nI i) p = (2, 0, S) from by unfold rs_operand; rw [tj, if_neg h1, if_pos hr]]
      refine CtP.of rfl (by simp [Value.category]) (Nat.le_of_ble_eq_true rfl) ?_
      refine V_aload_n dX6_operand_0 rfl rfl ?_
      refine V_iload_n dX6_operand_1 rfl rfl ?_
      refine V_iload_n dX6_operand_2 rfl rfl ?_
      refine V_cp1 (ctX6_failsAt_2 hM hG hw hc2.1 hj hr) mvX6_failsAt lkX6_205 hM.1 rfl rfl rfl (Nat.le_of_ble_eq_true rfl) ⟨⟨Nat.le_of_ble_eq_true rfl, Nat.le_of_ble_eq_true rfl⟩, Nat.le_of_ble_eq_true rfl, Nat.le_of_ble_eq_true rfl⟩ dX6_operand_3 (fun y μ1 hx => ?_)
      obtain ⟨rfl, m1, rfl, hk1, h01⟩ := hx
      refine V_ifeqB 11 dX6_operand_6 (by decide) (fun h6 => absurd (h6.symm.trans rfl) (by decide)) (fun h6 => ?_)
      refine V_iconst (v := nI 0) dX6_operand_9 (by decide) ?_
      exact V_iretP rfl ⟨rfl, MQz hA hS hk1 h01⟩ ⟨Nat.le_of_ble_eq_true rfl, Nat.le_of_ble_eq_true rfl⟩ dX6_operand_10

    | true =>
      have hR := bp_t.mp hr
      have h2 : ¬ bp (Rc S.1 j) = false := by rw [hr]; decide
      cases hm : bp (PM S.1 i j) with
      | false =>
        rw [show rs_operand S (nI j) (nI i) p = (3, 0, S) from by unfold rs_operand; rw [tj, ti, if_neg h1, if_neg h2, if_pos (by rw [hm]; rfl)]]
        refine CtP.of rfl (by simp [Value.category]) (Nat.le_of_ble_eq_true rfl) ?_
        refine V_aload_n dX6_operand_0 rfl rfl ?_
        refine V_iload_n dX6_operand_1 rfl rfl ?_
        refine V_iload_n dX6_operand_2 rfl rfl ?_
        refine V_cp1 (ctX6_failsAt_0 hM hG hw hc2.1 hj hr) mvX6_failsAt lkX6_205 hM.1 rfl rfl rfl (Nat.le_of_ble_eq_true rfl) ⟨⟨Nat.le_of_ble_eq_true rfl, Nat.le_of_ble_eq_true rfl⟩, Nat.le_of_ble_eq_true rfl, Nat.le_of_ble_eq_true rfl⟩ dX6_operand_3 (fun y μ1 hx => ?_)
        obtain ⟨rfl, m1, rfl, hk1, h01, hn⟩ := hx
        have hG1 := hG.kp hk1
        refine V_ifeqB 11 dX6_operand_6 (by decide) (fun h6 => ?_) (fun h6 => absurd (h6.symm.trans rfl) (by decide))
        refine V_aload_n dX6_operand_11 rfl rfl ?_
        refine V_getR frX6_65 hM.1 rfl dX6_operand_12 ?_
        refine V_iload_n dX6_operand_15 rfl rfl ?_
        refine V_ialdE hM.2.2.2.2.2.2.2.2.2.2.2.2.1 i rfl hi (by decide) ((hn.2.2.2 i hi).2.2.1) dX6_operand_16 ?_
        refine V_iload_n dX6_operand_17 rfl rfl ?_
        refine V_cs1 (ctX6_hasM (by omega)) msX6_has lkX6_158 rfl rfl (Nat.le_of_ble_eq_true rfl) ⟨⟨Nat.le_of_ble_eq_true rfl, Nat.le_of_ble_eq_true rfl⟩, Nat.le_of_ble_eq_true rfl, Nat.le_of_ble_eq_true rfl⟩ dX6_operand_18 ?_
        refine V_ifeqB 49 dX6_operand_21 (by decide) (fun h21 => ?_) (fun h21 => absurd (h21.symm.trans hm) (by decide))
        refine V_iconst (v := nI 0) dX6_operand_49 (by decide) ?_
        refine V_istore dX6_operand_50 (Nat.le_of_ble_eq_true rfl) ?_
        refine V_aload_n dX6_operand_52 rfl rfl ?_
        refine V_iconst (v := nI 3) dX6_operand_53 (by decide) ?_
        refine V_iload dX6_operand_54 rfl ?_
        refine V_if_ne 63 dX6_operand_56 (by decide) (fun h56 => absurd h56 (fun q => q rfl)) (fun h56 => ?_)
        refine V_iconst (v := nI 1) dX6_operand_59 (by decide) ?_
        refine V_goto 64 dX6_operand_60 (by decide) ?_
        refine V_cv1 (ctX6_fails hM (k := nI 3) (c := true)) mvX6_fails lkX6_100 hM.1 rfl rfl rfl (Nat.le_of_ble_eq_true rfl) ⟨⟨Nat.le_of_ble_eq_true rfl, Nat.le_of_ble_eq_true rfl⟩, Nat.le_of_ble_eq_true rfl, Nat.le_of_ble_eq_true rfl⟩ dX6_operand_64 ?_
        refine V_ifeqB 74 dX6_operand_67 (by decide) (fun h67 => absurd (h67.symm.trans rfl) (by decide)) (fun h67 => ?_)
        refine V_iconst (v := nI 0) dX6_operand_70 (by decide) ?_
        refine V_goto 82 dX6_operand_71 (by decide) ?_
        exact V_iretP rfl ⟨rfl, MQz hA hS hk1.z (u2_s _ _ _ _)⟩ ⟨Nat.le_of_ble_eq_true rfl, Nat.le_of_ble_eq_true rfl⟩ dX6_operand_82

      | true =>
        cases hp : inR p S.1.1 with
        | false =>
          rw [show rs_operand S (nI j) (nI i) p = (3, 0, S) from by unfold rs_operand; rw [tj, ti, if_neg h1, if_neg h2, if_pos (by rw [hp, Bool.false_and, Bool.and_false])]]
          refine CtP.of rfl (by simp [Value.category]) (Nat.le_of_ble_eq_true rfl) ?_
          refine V_aload_n dX6_operand_0 rfl rfl ?_
          refine V_iload_n dX6_operand_1 rfl rfl ?_
          refine V_iload_n dX6_operand_2 rfl rfl ?_
          refine V_cp1 (ctX6_failsAt_0 hM hG hw hc2.1 hj hr) mvX6_failsAt lkX6_205 hM.1 rfl rfl rfl (Nat.le_of_ble_eq_true rfl) ⟨⟨Nat.le_of_ble_eq_true rfl, Nat.le_of_ble_eq_true rfl⟩, Nat.le_of_ble_eq_true rfl, Nat.le_of_ble_eq_true rfl⟩ dX6_operand_3 (fun y μ1 hx => ?_)
          obtain ⟨rfl, m1, rfl, hk1, h01, hn⟩ := hx
          have hG1 := hG.kp hk1
          refine V_ifeqB 11 dX6_operand_6 (by decide) (fun h6 => ?_) (fun h6 => absurd (h6.symm.trans rfl) (by decide))
          refine V_aload_n dX6_operand_11 rfl rfl ?_
          refine V_getR frX6_65 hM.1 rfl dX6_operand_12 ?_
          refine V_iload_n dX6_operand_15 rfl rfl ?_
          refine V_ialdE hM.2.2.2.2.2.2.2.2.2.2.2.2.1 i rfl hi (by decide) ((hn.2.2.2 i hi).2.2.1) dX6_operand_16 ?_
          refine V_iload_n dX6_operand_17 rfl rfl ?_
          refine V_cs1 (ctX6_hasM (by omega)) msX6_has lkX6_158 rfl rfl (Nat.le_of_ble_eq_true rfl) ⟨⟨Nat.le_of_ble_eq_true rfl, Nat.le_of_ble_eq_true rfl⟩, Nat.le_of_ble_eq_true rfl, Nat.le_of_ble_eq_true rfl⟩ dX6_operand_18 ?_
          refine V_ifeqB 49 dX6_operand_21 (by decide) (fun h21 => absurd (h21.symm.trans hm) (by decide)) (fun h21 => ?_)
          refine V_aload_n dX6_operand_24 rfl rfl ?_
          refine V_iload_n dX6_operand_25 rfl rfl ?_
          refine V_cv1 (ctX6_isBlock hM (show S.1.1 < 2 ^ 31 by omega) hG1.1) mvX6_isBlock lkX6_144 hM.1 rfl rfl rfl (Nat.le_of_ble_eq_true rfl) ⟨⟨Nat.le_of_ble_eq_true rfl, Nat.le_of_ble_eq_true rfl⟩, Nat.le_of_ble_eq_true rfl, Nat.le_of_ble_eq_true rfl⟩ dX6_operand_26 ?_
          refine V_ifeqB 49 dX6_operand_29 (by decide) (fun h29 => ?_) (fun h29 => absurd (h29.symm.trans hp) (by decide))
          refine V_iconst (v := nI 0) dX6_operand_49 (by decide) ?_
          refine V_istore dX6_operand_50 (Nat.le_of_ble_eq_true rfl) ?_
          refine V_aload_n dX6_operand_52 rfl rfl ?_
          refine V_iconst (v := nI 3) dX6_operand_53 (by decide) ?_
          refine V_iload dX6_operand_54 rfl ?_
          refine V_if_ne 63 dX6_operand_56 (by decide) (fun h56 => absurd h56 (fun q => q rfl)) (fun h56 => ?_)
          refine V_iconst (v := nI 1) dX6_operand_59 (by decide) ?_
          refine V_goto 64 dX6_operand_60 (by decide) ?_
          refine V_cv1 (ctX6_fails hM (k := nI 3) (c := true)) mvX6_fails lkX6_100 hM.1 rfl rfl rfl (Nat.le_of_ble_eq_true rfl) ⟨⟨Nat.le_of_ble_eq_true rfl, Nat.le_of_ble_eq_true rfl⟩, Nat.le_of_ble_eq_true rfl, Nat.le_of_ble_eq_true rfl⟩ dX6_operand_64 ?_
          refine V_ifeqB 74 dX6_operand_67 (by decide) (fun h67 => absurd (h67.symm.trans rfl) (by decide)) (fun h67 => ?_)
          refine V_iconst (v := nI 0) dX6_operand_70 (by decide) ?_
          refine V_goto 82 dX6_operand_71 (by decide) ?_
          exact V_iretP rfl ⟨rfl, MQz hA hS hk1.z (u2_s _ _ _ _)⟩ ⟨Nat.le_of_ble_eq_true rfl, Nat.le_of_ble_eq_true rfl⟩ dX6_operand_82

        | true =>
          obtain ⟨q, hq2, rfl⟩ := inR_t (by omega) hp
          have tq := tn_nI (show q < 2 ^ 31 by omega)
          cases hpd : bp (Pd S.1 q j) with
          | false =>
            rw [show rs_operand S (nI j) (nI i) (nI q) = (3, 0, S) from by unfold rs_operand; rw [tj, ti, tq, if_neg h1, if_neg h2, if_pos (by rw [hpd, Bool.and_false, Bool.and_false])]]
            refine CtP.of rfl (by simp [Value.category]) (Nat.le_of_ble_eq_true rfl) ?_
            refine V_aload_n dX6_operand_0 rfl rfl ?_
            refine V_iload_n dX6_operand_1 rfl rfl ?_
            refine V_iload_n dX6_operand_2 rfl rfl ?_
            refine V_cp1 (ctX6_failsAt_0 hM hG hw hc2.1 hj hr) mvX6_failsAt lkX6_205 hM.1 rfl rfl rfl (Nat.le_of_ble_eq_true rfl) ⟨⟨Nat.le_of_ble_eq_true rfl, Nat.le_of_ble_eq_true rfl⟩, Nat.le_of_ble_eq_true rfl, Nat.le_of_ble_eq_true rfl⟩ dX6_operand_3 (fun y μ1 hx => ?_)
            obtain ⟨rfl, m1, rfl, hk1, h01, hn⟩ := hx
            have hG1 := hG.kp hk1
            refine V_ifeqB 11 dX6_operand_6 (by decide) (fun h6 => ?_) (fun h6 => absurd (h6.symm.trans rfl) (by decide))
            refine V_aload_n dX6_operand_11 rfl rfl ?_
            refine V_getR frX6_65 hM.1 rfl dX6_operand_12 ?_
            refine V_iload_n dX6_operand_15 rfl rfl ?_
            refine V_ialdE hM.2.2.2.2.2.2.2.2.2.2.2.2.1 i rfl hi (by decide) ((hn.2.2.2 i hi).2.2.1) dX6_operand_16 ?_
            refine V_iload_n dX6_operand_17 rfl rfl ?_
            refine V_cs1 (ctX6_hasM (by omega)) msX6_has lkX6_158 rfl rfl (Nat.le_of_ble_eq_true rfl) ⟨⟨Nat.le_of_ble_eq_true rfl, Nat.le_of_ble_eq_true rfl⟩, Nat.le_of_ble_eq_true rfl, Nat.le_of_ble_eq_true rfl⟩ dX6_operand_18 ?_
            refine V_ifeqB 49 dX6_operand_21 (by decide) (fun h21 => absurd (h21.symm.trans hm) (by decide)) (fun h21 => ?_)
            refine V_aload_n dX6_operand_24 rfl rfl ?_
            refine V_iload_n dX6_operand_25 rfl rfl ?_
            refine V_cv1 (ctX6_isBlock hM (show S.1.1 < 2 ^ 31 by omega) hG1.1) mvX6_isBlock lkX6_144 hM.1 rfl rfl rfl (Nat.le_of_ble_eq_true rfl) ⟨⟨Nat.le_of_ble_eq_true rfl, Nat.le_of_ble_eq_true rfl⟩, Nat.le_of_ble_eq_true rfl, Nat.le_of_ble_eq_true rfl⟩ dX6_operand_26 ?_
            refine V_ifeqB 49 dX6_operand_29 (by decide) (fun h29 => absurd (h29.symm.trans hp) (by decide)) (fun h29 => ?_)
            refine V_aload_n dX6_operand_32 rfl rfl ?_
            refine V_getR frX6_47 hM.1 rfl dX6_operand_33 ?_
            refine V_iload_n dX6_operand_36 rfl rfl ?_
            refine V_ialdE hM.2.2.2.2.2.2.1 j rfl (by omega) (by decide) (hn.1.2 j hj) dX6_operand_37 ?_
            refine V_iload_n dX6_operand_38 rfl rfl ?_
            refine V_cs1 (ctX6_hasM (by omega)) msX6_has lkX6_158 rfl rfl (Nat.le_of_ble_eq_true rfl) ⟨⟨Nat.le_of_ble_eq_true rfl, Nat.le_of_ble_eq_true rfl⟩, Nat.le_of_ble_eq_true rfl, Nat.le_of_ble_eq_true rfl⟩ dX6_operand_39 ?_
            refine V_ifeqB 49 dX6_operand_42 (by decide) (fun h42 => ?_) (fun h42 => absurd (h42.symm.trans hpd) (by decide))
            refine V_iconst (v := nI 0) dX6_operand_49 (by decide) ?_
            refine V_istore dX6_operand_50 (Nat.le_of_ble_eq_true rfl) ?_
            refine V_aload_n dX6_operand_52 rfl rfl ?_
            refine V_iconst (v := nI 3) dX6_operand_53 (by decide) ?_
            refine V_iload dX6_operand_54 rfl ?_
            refine V_if_ne 63 dX6_operand_56 (by decide) (fun h56 => absurd h56 (fun q => q rfl)) (fun h56 => ?_)
            refine V_iconst (v := nI 1) dX6_operand_59 (by decide) ?_
            refine V_goto 64 dX6_operand_60 (by decide) ?_
            refine V_cv1 (ctX6_fails hM (k := nI 3) (c := true)) mvX6_fails lkX6_100 hM.1 rfl rfl rfl (Nat.le_of_ble_eq_true rfl) ⟨⟨Nat.le_of_ble_eq_true rfl, Nat.le_of_ble_eq_true rfl⟩, Nat.le_of_ble_eq_true rfl, Nat.le_of_ble_eq_true rfl⟩ dX6_operand_64 ?_
            refine V_ifeqB 74 dX6_operand_67 (by decide) (fun h67 => absurd (h67.symm.trans rfl) (by decide)) (fun h67 => ?_)
            refine V_iconst (v := nI 0) dX6_operand_70 (by decide) ?_
            refine V_goto 82 dX6_operand_71 (by decide) ?_
            exact V_iretP rfl ⟨rfl, MQz hA hS hk1.z (u2_s _ _ _ _)⟩ ⟨Nat.le_of_ble_eq_true rfl, Nat.le_of_ble_eq_true rfl⟩ dX6_operand_82

          | true =>
            rw [show rs_operand S (nI j) (nI i) (nI q) = (0, nI (srcE S.1 i q), S) from by unfold rs_operand; rw [tj, ti, tq, if_neg h1, if_neg h2, if_neg (by rw [hm, hp, hpd]; decide)]]
            refine CtP.of rfl (by simp [Value.category]) (Nat.le_of_ble_eq_true rfl) ?_
            refine V_aload_n dX6_operand_0 rfl rfl ?_
            refine V_iload_n dX6_operand_1 rfl rfl ?_
            refine V_iload_n dX6_operand_2 rfl rfl ?_
            refine V_cp1 (ctX6_failsAt_0 hM hG hw hc2.1 hj hr) mvX6_failsAt lkX6_205 hM.1 rfl rfl rfl (Nat.le_of_ble_eq_true rfl) ⟨⟨Nat.le_of_ble_eq_true rfl, Nat.le_of_ble_eq_true rfl⟩, Nat.le_of_ble_eq_true rfl, Nat.le_of_ble_eq_true rfl⟩ dX6_operand_3 (fun y μ1 hx => ?_)
            obtain ⟨rfl, m1, rfl, hk1, h01, hn⟩ := hx
            have hG1 := hG.kp hk1
            refine V_ifeqB 11 dX6_operand_6 (by decide) (fun h6 => ?_) (fun h6 => absurd (h6.symm.trans rfl) (by decide))
            refine V_aload_n dX6_operand_11 rfl rfl ?_
            refine V_getR frX6_65 hM.1 rfl dX6_operand_12 ?_
            refine V_iload_n dX6_operand_15 rfl rfl ?_
            refine V_ialdE hM.2.2.2.2.2.2.2.2.2.2.2.2.1 i rfl hi (by decide) ((hn.2.2.2 i hi).2.2.1) dX6_operand_16 ?_
            refine V_iload_n dX6_operand_17 rfl rfl ?_
            refine V_cs1 (ctX6_hasM (by omega)) msX6_has lkX6_158 rfl rfl (Nat.le_of_ble_eq_true rfl) ⟨⟨Nat.le_of_ble_eq_true rfl, Nat.le_of_ble_eq_true rfl⟩, Nat.le_of_ble_eq_true rfl, Nat.le_of_ble_eq_true rfl⟩ dX6_operand_18 ?_
            refine V_ifeqB 49 dX6_operand_21 (by decide) (fun h21 => absurd (h21.symm.trans hm) (by decide)) (fun h21 => ?_)
            refine V_aload_n dX6_operand_24 rfl rfl ?_
            refine V_iload_n dX6_operand_25 rfl rfl ?_
            refine V_cv1 (ctX6_isBlock hM (show S.1.1 < 2 ^ 31 by omega) hG1.1) mvX6_isBlock lkX6_144 hM.1 rfl rfl rfl (Nat.le_of_ble_eq_true rfl) ⟨⟨Nat.le_of_ble_eq_true rfl, Nat.le_of_ble_eq_true rfl⟩, Nat.le_of_ble_eq_true rfl, Nat.le_of_ble_eq_true rfl⟩ dX6_operand_26 ?_
            refine V_ifeqB 49 dX6_operand_29 (by decide) (fun h29 => absurd (h29.symm.trans hp) (by decide)) (fun h29 => ?_)
            refine V_aload_n dX6_operand_32 rfl rfl ?_
            refine V_getR frX6_47 hM.1 rfl dX6_operand_33 ?_
            refine V_iload_n dX6_operand_36 rfl rfl ?_
            refine V_ialdE hM.2.2.2.2.2.2.1 j rfl (by omega) (by decide) (hn.1.2 j hj) dX6_operand_37 ?_
            refine V_iload_n dX6_operand_38 rfl rfl ?_
            refine V_cs1 (ctX6_hasM (by omega)) msX6_has lkX6_158 rfl rfl (Nat.le_of_ble_eq_true rfl) ⟨⟨Nat.le_of_ble_eq_true rfl, Nat.le_of_ble_eq_true rfl⟩, Nat.le_of_ble_eq_true rfl, Nat.le_of_ble_eq_true rfl⟩ dX6_operand_39 ?_
            refine V_ifeqB 49 dX6_operand_42 (by decide) (fun h42 => absurd (h42.symm.trans hpd) (by decide)) (fun h42 => ?_)
            refine V_iconst (v := nI 1) dX6_operand_45 (by decide) ?_
            refine V_goto 50 dX6_operand_46 (by decide) ?_
            refine V_istore dX6_operand_50 (Nat.le_of_ble_eq_true rfl) ?_
            refine V_aload_n dX6_operand_52 rfl rfl ?_
            refine V_iconst (v := nI 3) dX6_operand_53 (by decide) ?_
            refine V_iload dX6_operand_54 rfl ?_
            refine V_if_ne 63 dX6_operand_56 (by decide) (fun h56 => ?_) (fun h56 => absurd h56 (by decide))
            refine V_iconst (v := nI 0) dX6_operand_63 (by decide) ?_
            refine V_cv1 (ctX6_fails hM (k := nI 3) (c := false)) mvX6_fails lkX6_100 hM.1 rfl rfl rfl (Nat.le_of_ble_eq_true rfl) ⟨⟨Nat.le_of_ble_eq_true rfl, Nat.le_of_ble_eq_true rfl⟩, Nat.le_of_ble_eq_true rfl, Nat.le_of_ble_eq_true rfl⟩ dX6_operand_64 ?_
            refine V_ifeqB 74 dX6_operand_67 (by decide) (fun h67 => ?_) (fun h67 => absurd (h67.symm.trans rfl) (by decide))
            refine V_aload_n dX6_operand_74 rfl rfl ?_
            refine V_getR frX6_71 hM.1 rfl dX6_operand_75 ?_
            refine V_iload_n dX6_operand_78 rfl rfl ?_
            refine V_aaldR hM.2.2.2.2.2.2.2.2.2.2.2.2.2.2.2.2.2.2.2.2.1 (q) rfl (show q < 14 by omega) (by decide) dX6_operand_79 ?_
            refine V_iload_n dX6_operand_80 rfl rfl ?_
            refine V_ialdE (hM.2.2.2.2.2.2.2.2.2.2.2.2.2.2.2.2.2.2.2.2.1.row (j := q) (show q < 14 by omega)) i rfl hi (by decide) ((((hn.z hw).2.2.2 i hi).2.2.2 q (bp_t.mp hpd).1).2) dX6_operand_81 ?_
            exact V_iretP rfl ⟨rfl, MQz hA hS hk1.z (u2_s _ _ _ _)⟩ ⟨Nat.le_of_ble_eq_true rfl, Nat.le_of_ble_eq_true rfl⟩ dX6_operand_82

end Mdl4
