/-! SsaRepairModel: readLine, define -/
section Mdl11
variable {κ : K0} {σ : Nat → Option Kd} {mi : Nat → Nat → Int32} {ml : Nat → Nat → Int64} {m : Nat} {G : Gr} {S : SS} {μ : Mem}
variable {C : List Nat}
theorem ctX6_readLine (hM : ML σ m) (hI : IC mi m C) (hc : Cok C) {B : Nat} (hB1 : 1 ≤ B) (hB : B ≤ 14) (h1 : mi m 1 = nI B) : CtP κ 0 0 3 mrX6_readLine [.ref m] (MM σ mi ml) (fun o μ' => o = .inl none ∧ ∃ m1, μ' = MM σ m1 ml ∧ (∀ e, pr C B = .inl e → m1 m 14 = bI true ∧ m1 m 12 = nI e) ∧ (∀ b la le, pr C B = .inr (b, la, le) → m1 m 14 = bI false ∧ m1 m 15 = nI b ∧ m1 m 16 = nI la.length ∧ m1 m 17 = nI le.length ∧ (∀ z, z < la.length → m1 (m + 45) z = nI (la.getD z 0)) ∧ ∀ z, z < le.length → m1 (m + 46) z = nI (le.getD z 0)) ∧ (∀ a i, ¬ (a = m ∧ (i = 12 ∨ i = 14 ∨ i = 15 ∨ i = 16 ∨ i = 17)) → a ≠ m + 45 → a ≠ m + 46 → m1 a i = mi a i)) := by
  refine CtP.of rfl (by simp [Value.category]) (Nat.le_of_ble_eq_true rfl) ?_
  have h30 := hc.1
  have hn6 := nA_le C
  have ht3 : (tgo C B (2 + 2 * nA C + 1) 3 []).length ≤ 3 := tgo_le 3 []
  have hIk : ∀ (m1 : Nat → Nat → Int32), (∀ a i, ¬ (a = m ∧ (i = 12 ∨ i = 14 ∨ i = 15 ∨ i = 16 ∨ i = 17)) → a ≠ m + 45 → a ≠ m + 46 → m1 a i = mi a i) → IC m1 m C := fun m1 ho => hI.keep (fun a i q => ho a i (by omega) (by omega) (by omega))
  have hBk : ∀ (m1 : Nat → Nat → Int32), (∀ a i, ¬ (a = m ∧ (i = 12 ∨ i = 14 ∨ i = 15 ∨ i = 16 ∨ i = 17)) → a ≠ m + 45 → a ≠ m + 46 → m1 a i = mi a i) → m1 m 1 = nI B := fun m1 ho => (ho _ _ (by omega) (by omega) (by omega)).trans h1
  have last : ∀ m1 (wr : Bool) p o1, m1 m 14 = bI wr → m1 m 12 = nI p → p < 1000 → (∀ a i, ¬ (a = m ∧ (i = 12 ∨ i = 14 ∨ i = 15 ∨ i = 16 ∨ i = 17)) → a ≠ m + 45 → a ≠ m + 46 → m1 a i = mi a i) → (∀ m2, m2 m 14 = bI (wr || decide (p < C.length)) → (∀ a i, ¬ (a = m ∧ i = 14) → m2 a i = m1 a i) → (fun o μ' => o = .inl none ∧ ∃ m1, μ' = MM σ m1 ml ∧ (∀ e, pr C B = .inl e → m1 m 14 = bI true ∧ m1 m 12 = nI e) ∧ (∀ b la le, pr C B = .inr (b, la, le) → m1 m 14 = bI false ∧ m1 m 15 = nI b ∧ m1 m 16 = nI la.length ∧ m1 m 17 = nI le.length ∧ (∀ z, z < la.length → m1 (m + 45) z = nI (la.getD z 0)) ∧ ∀ z, z < le.length → m1 (m + 46) z = nI (le.getD z 0)) ∧ (∀ a i, ¬ (a = m ∧ (i = 12 ∨ i = 14 ∨ i = 15 ∨ i = 16 ∨ i = 17)) → a ≠ m + 45 → a ≠ m + 46 → m1 a i = mi a i) : Oc → Mem → Prop) (.inl none) (MM σ m2 ml)) → V κ (phiP κ mrX6_readLine 3 0 0 (fun o μ' => o = .inl none ∧ ∃ m1, μ' = MM σ m1 ml ∧ (∀ e, pr C B = .inl e → m1 m 14 = bI true ∧ m1 m 12 = nI e) ∧ (∀ b la le, pr C B = .inr (b, la, le) → m1 m 14 = bI false ∧ m1 m 15 = nI b ∧ m1 m 16 = nI la.length ∧ m1 m 17 = nI le.length ∧ (∀ z, z < la.length → m1 (m + 45) z = nI (la.getD z 0)) ∧ ∀ z, z < le.length → m1 (m + 46) z = nI (le.getD z 0)) ∧ (∀ a i, ¬ (a = m ∧ (i = 12 ∨ i = 14 ∨ i = 15 ∨ i = 16 ∨ i = 17)) → a ≠ m + 45 → a ≠ m + 46 → m1 a i = mi a i))) 0 0 170 [some (.ref m), o1] [] (MM σ m1 ml) := fun m1 wr p o1 g1 g2 hp g3 fin => by
    refine V_aload_n dX6_readLine_170 rfl rfl ?_
    refine V_dup dX6_readLine_171 rfl ?_
    refine V_getE frX6_107 hM.1 rfl g1 dX6_readLine_172 ?_
    refine V_aload_n dX6_readLine_175 rfl rfl ?_
    refine V_getE frX6_111 hM.1 rfl g2 dX6_readLine_176 ?_
    refine V_aload_n dX6_readLine_179 rfl rfl ?_
    refine V_getE frX6_104 hM.1 rfl ((hIk m1 g3).1) dX6_readLine_180 ?_
    refine V_N_ge (by omega) (by omega) 190 dX6_readLine_183 (by decide) (fun h183 => ?_) (fun h183 => ?_)
    · refine V_iconst (v := nI 0) dX6_readLine_190 (by decide) ?_
      refine V_ior dX6_readLine_191 ?_
      refine V_top (bI_or wr false) ?_
      refine V_putI fpX6_107 (bI_nar _) (bI_fit _) hM.1 rfl dX6_readLine_192 ?_
      exact V_vretP rfl (fin _ ((u2_s _ _ _ _).trans (by rw [decide_eq_false (by omega : ¬ p < C.length)])) (fun a i q => u2_n _ _ (by omega))) ⟨Nat.le_of_ble_eq_true rfl, Nat.le_of_ble_eq_true rfl⟩ dX6_readLine_195
    · refine V_iconst (v := nI 1) dX6_readLine_186 (by decide) ?_
      refine V_goto 191 dX6_readLine_187 (by decide) ?_
      refine V_ior dX6_readLine_191 ?_
      refine V_top (bI_or wr true) ?_
      refine V_putI fpX6_107 (bI_nar _) (bI_fit _) hM.1 rfl dX6_readLine_192 ?_
      exact V_vretP rfl (fin _ ((u2_s _ _ _ _).trans (by rw [decide_eq_true h183])) (fun a i q => u2_n _ _ (by omega))) ⟨Nat.le_of_ble_eq_true rfl, Nat.le_of_ble_eq_true rfl⟩ dX6_readLine_195

  have wrong : ∀ m1 e a o1, m1 m 14 = bI true → m1 m 12 = nI e → m1 m 16 = nI a → a < 100 → e < 1000 → pr C B = .inl e → (∀ a i, ¬ (a = m ∧ (i = 12 ∨ i = 14 ∨ i = 15 ∨ i = 16 ∨ i = 17)) → a ≠ m + 45 → a ≠ m + 46 → m1 a i = mi a i) → V κ (phiP κ mrX6_readLine 3 0 0 (fun o μ' => o = .inl none ∧ ∃ m1, μ' = MM σ m1 ml ∧ (∀ e, pr C B = .inl e → m1 m 14 = bI true ∧ m1 m 12 = nI e) ∧ (∀ b la le, pr C B = .inr (b, la, le) → m1 m 14 = bI false ∧ m1 m 15 = nI b ∧ m1 m 16 = nI la.length ∧ m1 m 17 = nI le.length ∧ (∀ z, z < la.length → m1 (m + 45) z = nI (la.getD z 0)) ∧ ∀ z, z < le.length → m1 (m + 46) z = nI (le.getD z 0)) ∧ (∀ a i, ¬ (a = m ∧ (i = 12 ∨ i = 14 ∨ i = 15 ∨ i = 16 ∨ i = 17)) → a ≠ m + 45 → a ≠ m + 46 → m1 a i = mi a i))) 0 0 49 [some (.ref m), o1] [] (MM σ m1 ml) := fun m1 e a o1 g1 g2 g16 ha he hp g3 => by
    have J : V κ (phiP κ mrX6_readLine 3 0 0 (fun o μ' => o = .inl none ∧ ∃ m1, μ' = MM σ m1 ml ∧ (∀ e, pr C B = .inl e → m1 m 14 = bI true ∧ m1 m 12 = nI e) ∧ (∀ b la le, pr C B = .inr (b, la, le) → m1 m 14 = bI false ∧ m1 m 15 = nI b ∧ m1 m 16 = nI la.length ∧ m1 m 17 = nI le.length ∧ (∀ z, z < la.length → m1 (m + 45) z = nI (la.getD z 0)) ∧ ∀ z, z < le.length → m1 (m + 46) z = nI (le.getD z 0)) ∧ (∀ a i, ¬ (a = m ∧ (i = 12 ∨ i = 14 ∨ i = 15 ∨ i = 16 ∨ i = 17)) → a ≠ m + 45 → a ≠ m + 46 → m1 a i = mi a i))) 0 0 139 [some (.ref m), o1] [] (MM σ m1 ml) := by
      refine V_aload_n dX6_readLine_139 rfl rfl ?_
      refine V_bipush (v := nI 62) dX6_readLine_140 (by decide) ?_
      refine V_cv1 (ctX6_sees hM (hIk m1 g3) hc g2 g1 (by omega) (c := 62) (by omega) (by omega)) mvX6_sees lkX6_131 hM.1 rfl rfl rfl (Nat.le_of_ble_eq_true rfl) ⟨⟨Nat.le_of_ble_eq_true rfl, Nat.le_of_ble_eq_true rfl⟩, Nat.le_of_ble_eq_true rfl, Nat.le_of_ble_eq_true rfl⟩ dX6_readLine_142 ?_
      refine V_ifeqB 170 dX6_readLine_145 (by decide) (fun h145 => ?_) (fun h145 => absurd (h145.symm.trans (Bool.false_and _)) (by decide))
      refine last m1 true e _ g1 g2 he g3 (fun m2 q1 q2 => ⟨rfl, m2, rfl, fun e' he' => ?_, fun b la le hq => ?_, fun a i z1 z2 z3 => (q2 a i (by omega)).trans (g3 a i z1 z2 z3)⟩)
      · rw [hp] at he'
        cases he'
        exact ⟨q1, (q2 _ _ (by omega)).trans g2⟩
      · rw [hp] at hq
        cases hq

    refine V_aload_n dX6_readLine_49 rfl rfl ?_
    refine V_getE frX6_121 hM.1 rfl g16 dX6_readLine_50 ?_
    refine V_bipush (v := nI 6) dX6_readLine_53 (by decide) ?_
    refine V_N_ge (by omega) (by omega) 139 dX6_readLine_55 (by decide) (fun h55 => ?_) (fun h55 => ?_)
    · exact J
    · refine V_aload_n dX6_readLine_58 rfl rfl ?_
      refine V_bipush (v := nI 100) dX6_readLine_59 (by decide) ?_
      refine V_cv1 (ctX6_sees hM (hIk m1 g3) hc g2 g1 (by omega) (c := 100) (by omega) (by omega)) mvX6_sees lkX6_131 hM.1 rfl rfl rfl (Nat.le_of_ble_eq_true rfl) ⟨⟨Nat.le_of_ble_eq_true rfl, Nat.le_of_ble_eq_true rfl⟩, Nat.le_of_ble_eq_true rfl, Nat.le_of_ble_eq_true rfl⟩ dX6_readLine_61 ?_
      refine V_ifneB 76 dX6_readLine_64 (by decide) (fun h64 => absurd (h64.symm.trans (Bool.false_and _)) (by decide)) (fun h64 => ?_)
      refine V_aload_n dX6_readLine_67 rfl rfl ?_
      refine V_bipush (v := nI 117) dX6_readLine_68 (by decide) ?_
      refine V_cv1 (ctX6_sees hM (hIk m1 g3) hc g2 g1 (by omega) (c := 117) (by omega) (by omega)) mvX6_sees lkX6_131 hM.1 rfl rfl rfl (Nat.le_of_ble_eq_true rfl) ⟨⟨Nat.le_of_ble_eq_true rfl, Nat.le_of_ble_eq_true rfl⟩, Nat.le_of_ble_eq_true rfl, Nat.le_of_ble_eq_true rfl⟩ dX6_readLine_70 ?_
      refine V_ifeqB 139 dX6_readLine_73 (by decide) (fun h73 => ?_) (fun h73 => absurd (h73.symm.trans (Bool.false_and _)) (by decide))
      exact J

  have n0h : 97 ≤ ch C 0 ∧ ch C 0 < 97 + B → ch C 1 = 58 → 2 + 2 * nA C ≤ C.length := fun q1 q2 => by
    cases hn : nA C with
    | zero => have := (hc.at 1).2.mp (by omega); omega
    | succ z =>
      have hk := nA_ok (show z < nA C by omega)
      unfold okA at hk
      rw [Bool.and_eq_true, Bool.and_eq_true, decide_eq_true_iff, decide_eq_true_iff] at hk
      have := (hc.at (3 + 2 * z)).2.mp (by omega)
      omega
  have tail : (97 ≤ ch C 0 ∧ ch C 0 < 97 + B) → ch C 1 = 58 → ∀ m1 o1, m1 m 14 = bI false → m1 m 12 = nI (2 + 2 * nA C) → m1 m 15 = nI (ch C 0 - 97) → m1 m 16 = nI (nA C) → m1 m 17 = nI 0 → (∀ z, z < nA C → m1 (m + 45) z = nI (aOf C z)) → (nA C < 6 → isAL (ch C (2 + 2 * nA C)) = false) → (∀ a i, ¬ (a = m ∧ (i = 12 ∨ i = 14 ∨ i = 15 ∨ i = 16 ∨ i = 17)) → a ≠ m + 45 → a ≠ m + 46 → m1 a i = mi a i) → V κ (phiP κ mrX6_readLine 3 0 0 (fun o μ' => o = .inl none ∧ ∃ m1, μ' = MM σ m1 ml ∧ (∀ e, pr C B = .inl e → m1 m 14 = bI true ∧ m1 m 12 = nI e) ∧ (∀ b la le, pr C B = .inr (b, la, le) → m1 m 14 = bI false ∧ m1 m 15 = nI b ∧ m1 m 16 = nI la.length ∧ m1 m 17 = nI le.length ∧ (∀ z, z < la.length → m1 (m + 45) z = nI (la.getD z 0)) ∧ ∀ z, z < le.length → m1 (m + 46) z = nI (le.getD z 0)) ∧ (∀ a i, ¬ (a = m ∧ (i = 12 ∨ i = 14 ∨ i = 15 ∨ i = 16 ∨ i = 17)) → a ≠ m + 45 → a ≠ m + 46 → m1 a i = mi a i))) 0 0 139 [some (.ref m), o1] [] (MM σ m1 ml) := fun q1 q2 m1 o1 g1 g2 g15 g16 g17 g45 gAL g3 => by
    have n0 : ¬ ¬ (97 ≤ ch C 0 ∧ ch C 0 < 97 + B) := fun q => q q1
    have n1 : ¬ ch C 1 ≠ 58 := fun q => q q2
    have hle := n0h q1 q2
    have n3 : ¬ (nA C < 6 ∧ isAL (ch C (2 + 2 * nA C)) = true) := fun q => by rw [gAL q.1] at q; cases q.2
    have la45 : ∀ (m2 : Nat → Nat → Int32), (∀ z, m2 (m + 45) z = m1 (m + 45) z) → ∀ z, z < ((List.range (nA C)).map (aOf C)).length → m2 (m + 45) z = nI (((List.range (nA C)).map (aOf C)).getD z 0) := fun m2 hm z hz => by
      rw [List.length_map, List.length_range] at hz
      rw [range_getD hz, hm z]
      exact g45 z hz
    have other : (ch C (2 + 2 * nA C) ≠ 62 ∨ B < 2) → V κ (phiP κ mrX6_readLine 3 0 0 (fun o μ' => o = .inl none ∧ ∃ m1, μ' = MM σ m1 ml ∧ (∀ e, pr C B = .inl e → m1 m 14 = bI true ∧ m1 m 12 = nI e) ∧ (∀ b la le, pr C B = .inr (b, la, le) → m1 m 14 = bI false ∧ m1 m 15 = nI b ∧ m1 m 16 = nI la.length ∧ m1 m 17 = nI le.length ∧ (∀ z, z < la.length → m1 (m + 45) z = nI (la.getD z 0)) ∧ ∀ z, z < le.length → m1 (m + 46) z = nI (le.getD z 0)) ∧ (∀ a i, ¬ (a = m ∧ (i = 12 ∨ i = 14 ∨ i = 15 ∨ i = 16 ∨ i = 17)) → a ≠ m + 45 → a ≠ m + 46 → m1 a i = mi a i))) 0 0 170 [some (.ref m), o1] [] (MM σ m1 ml) := fun hno => by
      refine last m1 false (2 + 2 * nA C) _ g1 g2 (by omega) g3 (fun m2 z1 z2 => ?_)
      by_cases hl : 2 + 2 * nA C = C.length
      · have hp : pr C B = .inr (ch C 0 - 97, (List.range (nA C)).map (aOf C), []) := by unfold pr; rw [if_neg n0, if_neg n1, if_pos hl]
        refine ⟨rfl, m2, rfl, (fun e he => by rw [hp] at he; cases he), fun b la le hq => ?_, fun a i y1 y2 y3 => (z2 a i (by omega)).trans (g3 a i y1 y2 y3)⟩
        rw [hp] at hq
        cases hq
        refine ⟨z1.trans (by rw [decide_eq_false (by omega : ¬ 2 + 2 * nA C < C.length)]; rfl), (z2 _ _ (by omega)).trans g15, by rw [List.length_map, List.length_range]; exact (z2 _ _ (by omega)).trans g16, (z2 _ _ (by omega)).trans g17, la45 m2 (fun z => z2 _ _ (by omega)), fun z hz => absurd hz (Nat.not_lt_zero z)⟩
      · have hp : pr C B = .inl (2 + 2 * nA C) := by unfold pr; rw [if_neg n0, if_neg n1, if_neg hl, if_neg n3, if_pos hno]
        refine ⟨rfl, m2, rfl, fun e he => ?_, (fun b la le hq => by rw [hp] at hq; cases hq), fun a i y1 y2 y3 => (z2 a i (by omega)).trans (g3 a i y1 y2 y3)⟩
        rw [hp] at he
        cases he
        exact ⟨z1.trans (by rw [decide_eq_true (by omega : 2 + 2 * nA C < C.length)]; rfl), (z2 _ _ (by omega)).trans g2⟩
    refine V_aload_n dX6_readLine_139 rfl rfl ?_
    refine V_bipush (v := nI 62) dX6_readLine_140 (by decide) ?_
    refine V_cv1 (ctX6_sees hM (hIk m1 g3) hc g2 g1 (by omega) (c := 62) (by omega) (by omega)) mvX6_sees lkX6_131 hM.1 rfl rfl rfl (Nat.le_of_ble_eq_true rfl) ⟨⟨Nat.le_of_ble_eq_true rfl, Nat.le_of_ble_eq_true rfl⟩, Nat.le_of_ble_eq_true rfl, Nat.le_of_ble_eq_true rfl⟩ dX6_readLine_142 ?_
    refine V_ifeqB 170 dX6_readLine_145 (by decide) (fun h145 => ?_) (fun h145 => ?_)
    · exact other (Or.inl (of_decide_eq_false (by simpa using h145)))
    · refine V_aload_n dX6_readLine_148 rfl rfl ?_
      refine V_getE frX6_7 hM.1 rfl (hBk m1 g3) dX6_readLine_149 ?_
      refine V_iconst (v := nI 1) dX6_readLine_152 (by decide) ?_
      refine V_N_le (by omega) (by omega) 170 dX6_readLine_153 (by decide) (fun h153 => ?_) (fun h153 => ?_)
      · exact other (Or.inr (by omega))
      · refine V_aload_n dX6_readLine_156 rfl rfl ?_
        refine V_dup dX6_readLine_157 rfl ?_
        refine V_getE frX6_111 hM.1 rfl g2 dX6_readLine_158 ?_
        refine V_iconst (v := nI 1) dX6_readLine_161 (by decide) ?_
        refine V_iadd dX6_readLine_162 ?_
        refine V_top (nI_add _ 1) ?_
        refine V_putI fpX6_111 rfl rfl hM.1 rfl dX6_readLine_163 ?_
        have h62 : ch C (2 + 2 * nA C) = 62 := of_decide_eq_true (by simpa using h145)
        have hlt : 2 + 2 * nA C < C.length := (hc.at _).2.mp (by omega)
        have n4 : ¬ (ch C (2 + 2 * nA C) ≠ 62 ∨ B < 2) := by omega
        refine V_aload_n dX6_readLine_166 rfl rfl ?_
        refine V_cp0 (ctX6_readTargets hM ((hIk m1 g3).keep (fun a i q => u2_n _ _ (by omega))) hc hB (s := 2 + 2 * nA C + 1) (by omega) ((u2_n _ _ (by omega)).trans (hBk m1 g3)) (u2_s _ _ _ _) ((u2_n _ _ (by omega)).trans g1) ((u2_n _ _ (by omega)).trans g17)) mvX6_readTargets lkX6_135 hM.1 rfl rfl rfl (Nat.le_of_ble_eq_true rfl) ⟨⟨Nat.le_of_ble_eq_true rfl, Nat.le_of_ble_eq_true rfl⟩, Nat.le_of_ble_eq_true rfl, Nat.le_of_ble_eq_true rfl⟩ dX6_readLine_167 (fun μ2 hx => ?_)
        obtain ⟨m2, rfl, r14, r12, r17, r46, ro⟩ := hx
        have ho2 : ∀ a i, ¬ (a = m ∧ (i = 12 ∨ i = 14 ∨ i = 17)) → a ≠ m + 46 → m2 a i = m1 a i := fun a i y1 y2 => (ro a i y1 y2).trans (u2_n _ _ (by omega))
        refine last m2 _ (2 + 2 * nA C + 1 + (tgo C B (2 + 2 * nA C + 1) 3 []).length) _ r14 r12 (by omega) (fun a i y1 y2 y3 => (ho2 a i (by omega) (by omega)).trans (g3 a i y1 y2 y3)) (fun m3 z1 z2 => ?_)
        by_cases hok : (0 < (tgo C B (2 + 2 * nA C + 1) 3 []).length ∧ 2 + 2 * nA C + 1 + (tgo C B (2 + 2 * nA C + 1) 3 []).length = C.length)
        · have hp : pr C B = .inr (ch C 0 - 97, (List.range (nA C)).map (aOf C), (tgo C B (2 + 2 * nA C + 1) 3 [])) := by unfold pr; rw [if_neg n0, if_neg n1, if_neg (by omega : ¬ 2 + 2 * nA C = C.length), if_neg n3, if_neg n4, if_pos hok]
          refine ⟨rfl, m3, rfl, (fun e he => by rw [hp] at he; cases he), fun b la le hq => ?_, fun a i y1 y2 y3 => (z2 a i (by omega)).trans ((ho2 a i (by omega) (by omega)).trans (g3 a i y1 y2 y3))⟩
          rw [hp] at hq
          cases hq
          refine ⟨z1.trans (by rw [bp_pos hok, decide_eq_false (by omega)]; rfl), (z2 _ _ (by omega)).trans ((ho2 _ _ (by omega) (by omega)).trans g15), by rw [List.length_map, List.length_range]; exact (z2 _ _ (by omega)).trans ((ho2 _ _ (by omega) (by omega)).trans g16), (z2 _ _ (by omega)).trans r17, la45 m3 (fun z => (z2 _ _ (by omega)).trans (ho2 _ _ (by omega) (by omega))), fun z hz => (z2 _ _ (by omega)).trans (r46 z hz)⟩
        · have hp : pr C B = .inl (2 + 2 * nA C + 1 + (tgo C B (2 + 2 * nA C + 1) 3 []).length) := by unfold pr; rw [if_neg n0, if_neg n1, if_neg (by omega : ¬ 2 + 2 * nA C = C.length), if_neg n3, if_neg n4, if_neg hok]
          refine ⟨rfl, m3, rfl, fun e he => ?_, (fun b la le hq => by rw [hp] at hq; cases hq), fun a i y1 y2 y3 => (z2 a i (by omega)).trans ((ho2 a i (by omega) (by omega)).trans (g3 a i y1 y2 y3))⟩
          rw [hp] at he
          cases he
          exact ⟨z1.trans (by rw [bp_neg hok]; rfl), (z2 _ _ (by omega)).trans r12⟩

  have lp : (97 ≤ ch C 0 ∧ ch C 0 < 97 + B) → ch C 1 = 58 → ∀ a, a ≤ 6 → ∀ m1 o1, m1 m 14 = bI false → m1 m 12 = nI (2 + 2 * a) → m1 m 15 = nI (ch C 0 - 97) → m1 m 16 = nI a → m1 m 17 = nI 0 → (∀ z, z < a → m1 (m + 45) z = nI (aOf C z)) → lead (okA C) a (6 - a) = nA C → (∀ a i, ¬ (a = m ∧ (i = 12 ∨ i = 14 ∨ i = 15 ∨ i = 16 ∨ i = 17)) → a ≠ m + 45 → a ≠ m + 46 → m1 a i = mi a i) → V κ (phiP κ mrX6_readLine 3 0 0 (fun o μ' => o = .inl none ∧ ∃ m1, μ' = MM σ m1 ml ∧ (∀ e, pr C B = .inl e → m1 m 14 = bI true ∧ m1 m 12 = nI e) ∧ (∀ b la le, pr C B = .inr (b, la, le) → m1 m 14 = bI false ∧ m1 m 15 = nI b ∧ m1 m 16 = nI la.length ∧ m1 m 17 = nI le.length ∧ (∀ z, z < la.length → m1 (m + 45) z = nI (la.getD z 0)) ∧ ∀ z, z < le.length → m1 (m + 46) z = nI (le.getD z 0)) ∧ (∀ a i, ¬ (a = m ∧ (i = 12 ∨ i = 14 ∨ i = 15 ∨ i = 16 ∨ i = 17)) → a ≠ m + 45 → a ≠ m + 46 → m1 a i = mi a i))) 0 0 49 [some (.ref m), o1] [] (MM σ m1 ml) := fun q1 q2 => loop_up _ (fun a ha ih m1 o1 g1 g2 g15 g16 g17 g45 gl g3 => by
    have n0 : ¬ ¬ (97 ≤ ch C 0 ∧ ch C 0 < 97 + B) := fun q => q q1
    have n1 : ¬ ch C 1 ≠ 58 := fun q => q q2
    obtain ⟨c1, c2⟩ := hc.at (2 + 2 * a)
    obtain ⟨c3, c4⟩ := hc.at (3 + 2 * a)
    have en : a < 6 → 6 - a = (6 - (a + 1)) + 1 := fun _ => by omega
    have no : a < 6 → okA C a = false → nA C = a := fun h h2 => by rw [← gl, en h, lead, if_neg (by rw [h2]; decide)]
    have ye : a < 6 → okA C a = true → lead (okA C) (a + 1) (6 - (a + 1)) = nA C := fun h h2 => by rw [← gl, en h, lead, if_pos h2]
    have full : a = 6 → nA C = 6 := fun h => by rw [← gl, h]; rfl
    have hAL : ∀ x : Bool, isAL (ch C (2 + 2 * a)) = x ↔ (decide (ch C (2 + 2 * a) = 100) || decide (ch C (2 + 2 * a) = 117)) = x := fun x => Iff.rfl
    have body : a < 6 → isAL (ch C (2 + 2 * a)) = true → V κ (phiP κ mrX6_readLine 3 0 0 (fun o μ' => o = .inl none ∧ ∃ m1, μ' = MM σ m1 ml ∧ (∀ e, pr C B = .inl e → m1 m 14 = bI true ∧ m1 m 12 = nI e) ∧ (∀ b la le, pr C B = .inr (b, la, le) → m1 m 14 = bI false ∧ m1 m 15 = nI b ∧ m1 m 16 = nI la.length ∧ m1 m 17 = nI le.length ∧ (∀ z, z < la.length → m1 (m + 45) z = nI (la.getD z 0)) ∧ ∀ z, z < le.length → m1 (m + 46) z = nI (le.getD z 0)) ∧ (∀ a i, ¬ (a = m ∧ (i = 12 ∨ i = 14 ∨ i = 15 ∨ i = 16 ∨ i = 17)) → a ≠ m + 45 → a ≠ m + 46 → m1 a i = mi a i))) 0 0 76 [some (.ref m), o1] [] (MM σ m1 ml) := fun ha6 hal => by
      have hpl : 2 + 2 * a < C.length := c2.mp (fun q => by rw [q] at hal; cases hal)
      have hal2 := hal
      unfold isAL at hal2
      rw [Bool.or_eq_true, decide_eq_true_iff, decide_eq_true_iff] at hal2
      have J : ∀ kd, kd ≤ 10 → (aOf C a = kd + (ch C (3 + 2 * a) - 48)) → V κ (phiP κ mrX6_readLine 3 0 0 (fun o μ' => o = .inl none ∧ ∃ m1, μ' = MM σ m1 ml ∧ (∀ e, pr C B = .inl e → m1 m 14 = bI true ∧ m1 m 12 = nI e) ∧ (∀ b la le, pr C B = .inr (b, la, le) → m1 m 14 = bI false ∧ m1 m 15 = nI b ∧ m1 m 16 = nI la.length ∧ m1 m 17 = nI le.length ∧ (∀ z, z < la.length → m1 (m + 45) z = nI (la.getD z 0)) ∧ ∀ z, z < le.length → m1 (m + 46) z = nI (le.getD z 0)) ∧ (∀ a i, ¬ (a = m ∧ (i = 12 ∨ i = 14 ∨ i = 15 ∨ i = 16 ∨ i = 17)) → a ≠ m + 45 → a ≠ m + 46 → m1 a i = mi a i))) 0 0 96 [some (.ref m), o1] [.int (nI kd)] (MM σ m1 ml) := fun kd hkd hao => by
        by_cases hok : 48 ≤ ch C (3 + 2 * a) ∧ ch C (3 + 2 * a) ≤ 51
        · have hoka : okA C a = true := by unfold okA; rw [hal, decide_eq_true hok.1, decide_eq_true (by omega : ch C (3 + 2 * a) < 52)]; rfl
          refine V_istore_n dX6_readLine_96 rfl (Nat.le_of_ble_eq_true rfl) ?_
          refine V_aload_n dX6_readLine_97 rfl rfl ?_
          refine V_dup dX6_readLine_98 rfl ?_
          refine V_getE frX6_111 hM.1 rfl g2 dX6_readLine_99 ?_
          refine V_iconst (v := nI 1) dX6_readLine_102 (by decide) ?_
          refine V_iadd dX6_readLine_103 ?_
          refine V_top ((nI_add _ 1).trans (congrArg nI (by omega : 2 + 2 * a + 1 = 3 + 2 * a))) ?_
          refine V_putI fpX6_111 rfl rfl hM.1 rfl dX6_readLine_104 ?_
          refine V_aload_n dX6_readLine_107 rfl rfl ?_
          refine V_getR frX6_41 hM.1 rfl dX6_readLine_108 ?_
          refine V_aload_n dX6_readLine_111 rfl rfl ?_
          refine V_getE frX6_121 hM.1 rfl ((u2_n _ _ (by omega)).trans g16) dX6_readLine_112 ?_
          refine V_iload_n dX6_readLine_115 rfl rfl ?_
          refine V_aload_n dX6_readLine_116 rfl rfl ?_
          refine V_bipush (v := nI 48) dX6_readLine_117 (by decide) ?_
          refine V_bipush (v := nI 51) dX6_readLine_119 (by decide) ?_
          refine V_cv1 (ctX6_pass_ok hM ((hIk m1 g3).keep (fun a i q => u2_n _ _ (by omega))) hc (p := 3 + 2 * a) (lo := 48) (hi := 51) (u2_s _ _ _ _) ((u2_n _ _ (by omega)).trans g1) (by omega) hok.1 hok.2 (by omega)) mvX6_pass lkX6_124 hM.1 rfl rfl rfl (Nat.le_of_ble_eq_true rfl) ⟨⟨Nat.le_of_ble_eq_true rfl, Nat.le_of_ble_eq_true rfl⟩, Nat.le_of_ble_eq_true rfl, Nat.le_of_ble_eq_true rfl⟩ dX6_readLine_121 ?_
          refine V_iadd dX6_readLine_124 ?_
          refine V_top ((nI_add _ _).trans (congrArg nI hao.symm)) ?_
          refine V_iastN hM.2.2.2.2.1 a rfl (by omega) (by decide) dX6_readLine_125 ?_
          refine V_aload_n dX6_readLine_126 rfl rfl ?_
          refine V_dup dX6_readLine_127 rfl ?_
          refine V_getE frX6_121 hM.1 rfl ((u2_n _ _ (by omega)).trans (((u2_n _ _ (by omega)).trans ((u2_n _ _ (by omega)).trans (u2_n _ _ (by omega)))).trans g16)) dX6_readLine_128 ?_
          refine V_iconst (v := nI 1) dX6_readLine_131 (by decide) ?_
          refine V_iadd dX6_readLine_132 ?_
          refine V_top (nI_add a 1) ?_
          refine V_putI fpX6_121 rfl rfl hM.1 rfl dX6_readLine_133 ?_
          refine V_goto 49 dX6_readLine_136 (by decide) ?_
          exact ih ha6 _ _ ((u2_n _ _ (by omega)).trans ((u2_n _ _ (by omega)).trans ((u2_n _ _ (by omega)).trans (u2_s _ _ _ _)))) ((u2_n _ _ (by omega)).trans ((u2_n _ _ (by omega)).trans ((u2_s _ _ _ _).trans (congrArg nI (by omega))))) (((u2_n _ _ (by omega)).trans ((u2_n _ _ (by omega)).trans ((u2_n _ _ (by omega)).trans ((u2_n _ _ (by omega)).trans (u2_n _ _ (by omega)))))).trans g15) (u2_s _ _ _ _) (((u2_n _ _ (by omega)).trans ((u2_n _ _ (by omega)).trans ((u2_n _ _ (by omega)).trans ((u2_n _ _ (by omega)).trans (u2_n _ _ (by omega)))))).trans g17) (fun z hz => by
            by_cases e : z = a
            · subst e; exact (u2_n _ _ (by omega)).trans (u2_s _ _ _ _)
            · exact ((u2_n _ _ (by omega)).trans ((u2_n _ _ (Or.inr e)).trans ((u2_n _ _ (by omega)).trans ((u2_n _ _ (by omega)).trans (u2_n _ _ (by omega)))))).trans (g45 z (by omega))) (ye ha6 hoka) (fun x i y1 y2 y3 => ((u2_n _ _ (by omega)).trans ((u2_n _ _ (by omega)).trans ((u2_n _ _ (by omega)).trans ((u2_n _ _ (by omega)).trans (u2_n _ _ (by omega)))))).trans (g3 x i y1 y2 y3))

        · have hoka : okA C a = false := by
            unfold okA
            rw [hal, Bool.true_and, ← Bool.not_eq_true, Bool.and_eq_true, decide_eq_true_iff, decide_eq_true_iff]
            exact fun q => hok ⟨q.1, by omega⟩
          have hna := no ha6 hoka
          have hp : pr C B = .inl (3 + 2 * a) := by
            unfold pr
            rw [if_neg n0, if_neg n1, hna, if_neg (by omega : ¬ 2 + 2 * a = C.length), if_pos ⟨ha6, hal⟩]
            congr 1
            omega
          refine V_istore_n dX6_readLine_96 rfl (Nat.le_of_ble_eq_true rfl) ?_
          refine V_aload_n dX6_readLine_97 rfl rfl ?_
          refine V_dup dX6_readLine_98 rfl ?_
          refine V_getE frX6_111 hM.1 rfl g2 dX6_readLine_99 ?_
          refine V_iconst (v := nI 1) dX6_readLine_102 (by decide) ?_
          refine V_iadd dX6_readLine_103 ?_
          refine V_top ((nI_add _ 1).trans (congrArg nI (by omega : 2 + 2 * a + 1 = 3 + 2 * a))) ?_
          refine V_putI fpX6_111 rfl rfl hM.1 rfl dX6_readLine_104 ?_
          refine V_aload_n dX6_readLine_107 rfl rfl ?_
          refine V_getR frX6_41 hM.1 rfl dX6_readLine_108 ?_
          refine V_aload_n dX6_readLine_111 rfl rfl ?_
          refine V_getE frX6_121 hM.1 rfl ((u2_n _ _ (by omega)).trans g16) dX6_readLine_112 ?_
          refine V_iload_n dX6_readLine_115 rfl rfl ?_
          refine V_aload_n dX6_readLine_116 rfl rfl ?_
          refine V_bipush (v := nI 48) dX6_readLine_117 (by decide) ?_
          refine V_bipush (v := nI 51) dX6_readLine_119 (by decide) ?_
          refine V_cv1 (ctX6_pass_bad hM ((hIk m1 g3).keep (fun a i q => u2_n _ _ (by omega))) hc (p := 3 + 2 * a) (lo := 48) (hi := 51) (wr := false) (u2_s _ _ _ _) ((u2_n _ _ (by omega)).trans g1) (by omega) (by omega) (by omega) (Or.inr hok)) mvX6_pass lkX6_124 hM.1 rfl rfl rfl (Nat.le_of_ble_eq_true rfl) ⟨⟨Nat.le_of_ble_eq_true rfl, Nat.le_of_ble_eq_true rfl⟩, Nat.le_of_ble_eq_true rfl, Nat.le_of_ble_eq_true rfl⟩ dX6_readLine_121 ?_
          refine V_iadd dX6_readLine_124 ?_
          refine V_iastN hM.2.2.2.2.1 a rfl (by omega) (by decide) dX6_readLine_125 ?_
          refine V_aload_n dX6_readLine_126 rfl rfl ?_
          refine V_dup dX6_readLine_127 rfl ?_
          refine V_getE frX6_121 hM.1 rfl ((u2_n _ _ (by omega)).trans (((u2_n _ _ (by omega)).trans ((u2_n _ _ (by omega)).trans (u2_n _ _ (by omega)))).trans g16)) dX6_readLine_128 ?_
          refine V_iconst (v := nI 1) dX6_readLine_131 (by decide) ?_
          refine V_iadd dX6_readLine_132 ?_
          refine V_top (nI_add a 1) ?_
          refine V_putI fpX6_121 rfl rfl hM.1 rfl dX6_readLine_133 ?_
          refine V_goto 49 dX6_readLine_136 (by decide) ?_
          exact wrong _ (3 + 2 * a) (a + 1) _ ((u2_n _ _ (by omega)).trans ((u2_n _ _ (by omega)).trans ((u2_n _ _ (by omega)).trans (u2_s _ _ _ _)))) ((u2_n _ _ (by omega)).trans ((u2_n _ _ (by omega)).trans (u2_s _ _ _ _))) (u2_s _ _ _ _) (by omega) (by omega) hp (fun x i y1 y2 y3 => ((u2_n _ _ (by omega)).trans ((u2_n _ _ (by omega)).trans ((u2_n _ _ (by omega)).trans ((u2_n _ _ (by omega)).trans (u2_n _ _ (by omega)))))).trans (g3 x i y1 y2 y3))

      refine V_aload_n dX6_readLine_76 rfl rfl ?_
      refine V_getR frX6_34 hM.1 rfl dX6_readLine_77 ?_
      refine V_aload_n dX6_readLine_80 rfl rfl ?_
      refine V_getE frX6_111 hM.1 rfl g2 dX6_readLine_81 ?_
      refine V_caldE hM.2.2.2.2.2.2.2.2.2.2.2.2.2.2.2.1 (2 + 2 * a) rfl (by omega) (by decide) ((hIk m1 g3).2 _ hpl) dX6_readLine_84 ?_
      refine V_bipush (v := nI 100) dX6_readLine_85 (by decide) ?_
      refine V_N_ne (by omega) (by omega) 94 dX6_readLine_87 (by decide) (fun h87 => ?_) (fun h87 => ?_)
      · refine V_bipush (v := nI 10) dX6_readLine_94 (by decide) ?_
        exact J 10 (by omega) (by unfold aOf; rw [if_pos (by omega)])
      · refine V_iconst (v := nI 0) dX6_readLine_90 (by decide) ?_
        refine V_goto 96 dX6_readLine_91 (by decide) ?_
        exact J 0 (by omega) (by unfold aOf; rw [if_neg (by omega), Nat.zero_add])

    refine V_aload_n dX6_readLine_49 rfl rfl ?_
    refine V_getE frX6_121 hM.1 rfl g16 dX6_readLine_50 ?_
    refine V_bipush (v := nI 6) dX6_readLine_53 (by decide) ?_
    refine V_N_ge (by omega) (by omega) 139 dX6_readLine_55 (by decide) (fun h55 => ?_) (fun h55 => ?_)
    · have hf := full (by omega)
      have ha6 : a = 6 := by omega
      exact tail q1 q2 m1 _ g1 (by rw [hf, ← ha6]; exact g2) g15 (by rw [hf, ← ha6]; exact g16) g17 (by rw [hf, ← ha6]; exact g45) (fun q => by omega) g3
    · refine V_aload_n dX6_readLine_58 rfl rfl ?_
      refine V_bipush (v := nI 100) dX6_readLine_59 (by decide) ?_
      refine V_cv1 (ctX6_sees hM (hIk m1 g3) hc g2 g1 (by omega) (c := 100) (by omega) (by omega)) mvX6_sees lkX6_131 hM.1 rfl rfl rfl (Nat.le_of_ble_eq_true rfl) ⟨⟨Nat.le_of_ble_eq_true rfl, Nat.le_of_ble_eq_true rfl⟩, Nat.le_of_ble_eq_true rfl, Nat.le_of_ble_eq_true rfl⟩ dX6_readLine_61 ?_
      refine V_ifneB 76 dX6_readLine_64 (by decide) (fun h64 => ?_) (fun h64 => ?_)
      · exact body h55 (by unfold isAL; rw [show decide (ch C (2 + 2 * a) = 100) = true by simpa using h64]; rfl)
      · refine V_aload_n dX6_readLine_67 rfl rfl ?_
        refine V_bipush (v := nI 117) dX6_readLine_68 (by decide) ?_
        refine V_cv1 (ctX6_sees hM (hIk m1 g3) hc g2 g1 (by omega) (c := 117) (by omega) (by omega)) mvX6_sees lkX6_131 hM.1 rfl rfl rfl (Nat.le_of_ble_eq_true rfl) ⟨⟨Nat.le_of_ble_eq_true rfl, Nat.le_of_ble_eq_true rfl⟩, Nat.le_of_ble_eq_true rfl, Nat.le_of_ble_eq_true rfl⟩ dX6_readLine_70 ?_
        refine V_ifeqB 139 dX6_readLine_73 (by decide) (fun h73 => ?_) (fun h73 => ?_)
        · have hal : isAL (ch C (2 + 2 * a)) = false := by
            unfold isAL
            rw [show decide (ch C (2 + 2 * a) = 100) = false by simpa using h64, show decide (ch C (2 + 2 * a) = 117) = false by simpa using h73]; rfl
          have hna := no h55 (by unfold okA; rw [hal]; rfl)
          exact tail q1 q2 m1 _ g1 (by rw [hna]; exact g2) g15 (by rw [hna]; exact g16) g17 (by rw [hna]; exact g45) (fun _ => by rw [hna]; exact hal) g3
        · exact body h55 (by unfold isAL; rw [show decide (ch C (2 + 2 * a) = 117) = true by simpa using h73, Bool.or_true])
    )
  have hI0 : IC (u2 (u2 (u2 (u2 mi m 12 (nI 0)) m 14 (nI 0)) m 16 (nI 0)) m 17 (nI 0)) m C := hI.keep (fun a i q => ((u2_n _ _ (by omega)).trans ((u2_n _ _ (by omega)).trans ((u2_n _ _ (by omega)).trans (u2_n _ _ (by omega))))))
  have z12 : u2 (u2 (u2 (u2 mi m 12 (nI 0)) m 14 (nI 0)) m 16 (nI 0)) m 17 (nI 0) m 12 = nI 0 := (u2_n _ _ (by omega)).trans ((u2_n _ _ (by omega)).trans ((u2_n _ _ (by omega)).trans (u2_s _ _ _ _)))
  have z14 : u2 (u2 (u2 (u2 mi m 12 (nI 0)) m 14 (nI 0)) m 16 (nI 0)) m 17 (nI 0) m 14 = bI false := (u2_n _ _ (by omega)).trans ((u2_n _ _ (by omega)).trans (u2_s _ _ _ _))
  have z16 : u2 (u2 (u2 (u2 mi m 12 (nI 0)) m 14 (nI 0)) m 16 (nI 0)) m 17 (nI 0) m 16 = nI 0 := (u2_n _ _ (by omega)).trans (u2_s _ _ _ _)
  have z17 : u2 (u2 (u2 (u2 mi m 12 (nI 0)) m 14 (nI 0)) m 16 (nI 0)) m 17 (nI 0) m 17 = nI 0 := u2_s _ _ _ _
  have z1 : u2 (u2 (u2 (u2 mi m 12 (nI 0)) m 14 (nI 0)) m 16 (nI 0)) m 17 (nI 0) m 1 = nI B := ((u2_n _ _ (by omega)).trans ((u2_n _ _ (by omega)).trans ((u2_n _ _ (by omega)).trans (u2_n _ _ (by omega))))).trans h1
  have zf : ∀ a i, ¬ (a = m ∧ (i = 12 ∨ i = 14 ∨ i = 15 ∨ i = 16 ∨ i = 17)) → a ≠ m + 45 → a ≠ m + 46 → u2 (u2 (u2 (u2 mi m 12 (nI 0)) m 14 (nI 0)) m 16 (nI 0)) m 17 (nI 0) a i = mi a i := fun a i y1 y2 y3 => ((u2_n _ _ (by omega)).trans ((u2_n _ _ (by omega)).trans ((u2_n _ _ (by omega)).trans (u2_n _ _ (by omega)))))
  by_cases q1 : 97 ≤ ch C 0 ∧ ch C 0 < 97 + B
  · by_cases q2 : ch C 1 = 58
    · refine V_aload_n dX6_readLine_0 rfl rfl ?_
      refine V_iconst (v := nI 0) dX6_readLine_1 (by decide) ?_
      refine V_putI fpX6_111 rfl rfl hM.1 rfl dX6_readLine_2 ?_
      refine V_aload_n dX6_readLine_5 rfl rfl ?_
      refine V_iconst (v := nI 0) dX6_readLine_6 (by decide) ?_
      refine V_putI fpX6_107 rfl rfl hM.1 rfl dX6_readLine_7 ?_
      refine V_aload_n dX6_readLine_10 rfl rfl ?_
      refine V_iconst (v := nI 0) dX6_readLine_11 (by decide) ?_
      refine V_putI fpX6_121 rfl rfl hM.1 rfl dX6_readLine_12 ?_
      refine V_aload_n dX6_readLine_15 rfl rfl ?_
      refine V_iconst (v := nI 0) dX6_readLine_16 (by decide) ?_
      refine V_putI fpX6_114 rfl rfl hM.1 rfl dX6_readLine_17 ?_
      refine V_aload_n dX6_readLine_20 rfl rfl ?_
      refine V_aload_n dX6_readLine_21 rfl rfl ?_
      refine V_bipush (v := nI 97) dX6_readLine_22 (by decide) ?_
      refine V_bipush (v := nI 97) dX6_readLine_24 (by decide) ?_
      refine V_aload_n dX6_readLine_26 rfl rfl ?_
      refine V_getE frX6_7 hM.1 rfl z1 dX6_readLine_27 ?_
      refine V_iadd dX6_readLine_30 ?_
      refine V_top (nI_add 97 B) ?_
      refine V_iconst (v := nI 1) dX6_readLine_31 (by decide) ?_
      refine V_isub dX6_readLine_32 ?_
      refine V_top ((nI_subN (by omega)).trans (congrArg nI (by omega : 97 + B - 1 = 96 + B))) ?_
      refine V_i2c dX6_readLine_33 ?_
      refine V_top (ch_mod (by omega)) ?_
      refine V_cv1 (ctX6_pass_ok hM hI0 hc (p := 0) (lo := 97) (hi := 96 + B) z12 z14 (by omega) q1.1 (by omega) (by omega)) mvX6_pass lkX6_124 hM.1 rfl rfl rfl (Nat.le_of_ble_eq_true rfl) ⟨⟨Nat.le_of_ble_eq_true rfl, Nat.le_of_ble_eq_true rfl⟩, Nat.le_of_ble_eq_true rfl, Nat.le_of_ble_eq_true rfl⟩ dX6_readLine_34 ?_
      refine V_putI fpX6_128 rfl rfl hM.1 rfl dX6_readLine_37 ?_
      refine V_aload_n dX6_readLine_40 rfl rfl ?_
      refine V_bipush (v := nI 58) dX6_readLine_41 (by decide) ?_
      refine V_bipush (v := nI 58) dX6_readLine_43 (by decide) ?_
      refine V_cv1 (ctX6_pass_ok hM (hI0.keep (fun a i q => ((u2_n _ _ (by omega)).trans ((u2_n _ _ (by omega)).trans (u2_n _ _ (by omega)))))) hc (p := 1) (lo := 58) (hi := 58) ((u2_n _ _ (by omega)).trans (u2_s _ _ _ _)) ((u2_n _ _ (by omega)).trans ((u2_n _ _ (by omega)).trans (u2_s _ _ _ _))) (by omega) (by omega) (by omega) (by omega)) mvX6_pass lkX6_124 hM.1 rfl rfl rfl (Nat.le_of_ble_eq_true rfl) ⟨⟨Nat.le_of_ble_eq_true rfl, Nat.le_of_ble_eq_true rfl⟩, Nat.le_of_ble_eq_true rfl, Nat.le_of_ble_eq_true rfl⟩ dX6_readLine_45 ?_
      refine V_pop dX6_readLine_48 rfl ?_
      exact lp q1 q2 0 (Nat.zero_le _) _ _ ((u2_n _ _ (by omega)).trans (u2_s _ _ _ _)) (u2_s _ _ _ _) ((u2_n _ _ (by omega)).trans ((u2_n _ _ (by omega)).trans (u2_s _ _ _ _))) (((u2_n _ _ (by omega)).trans ((u2_n _ _ (by omega)).trans ((u2_n _ _ (by omega)).trans ((u2_n _ _ (by omega)).trans (u2_n _ _ (by omega)))))).trans z16) (((u2_n _ _ (by omega)).trans ((u2_n _ _ (by omega)).trans ((u2_n _ _ (by omega)).trans ((u2_n _ _ (by omega)).trans (u2_n _ _ (by omega)))))).trans z17) (fun z hz => absurd hz (Nat.not_lt_zero z)) rfl (fun a i y1 y2 y3 => ((u2_n _ _ (by omega)).trans ((u2_n _ _ (by omega)).trans ((u2_n _ _ (by omega)).trans ((u2_n _ _ (by omega)).trans (u2_n _ _ (by omega)))))).trans (zf a i y1 y2 y3))

    · refine V_aload_n dX6_readLine_0 rfl rfl ?_
      refine V_iconst (v := nI 0) dX6_readLine_1 (by decide) ?_
      refine V_putI fpX6_111 rfl rfl hM.1 rfl dX6_readLine_2 ?_
      refine V_aload_n dX6_readLine_5 rfl rfl ?_
      refine V_iconst (v := nI 0) dX6_readLine_6 (by decide) ?_
      refine V_putI fpX6_107 rfl rfl hM.1 rfl dX6_readLine_7 ?_
      refine V_aload_n dX6_readLine_10 rfl rfl ?_
      refine V_iconst (v := nI 0) dX6_readLine_11 (by decide) ?_
      refine V_putI fpX6_121 rfl rfl hM.1 rfl dX6_readLine_12 ?_
      refine V_aload_n dX6_readLine_15 rfl rfl ?_
      refine V_iconst (v := nI 0) dX6_readLine_16 (by decide) ?_
      refine V_putI fpX6_114 rfl rfl hM.1 rfl dX6_readLine_17 ?_
      refine V_aload_n dX6_readLine_20 rfl rfl ?_
      refine V_aload_n dX6_readLine_21 rfl rfl ?_
      refine V_bipush (v := nI 97) dX6_readLine_22 (by decide) ?_
      refine V_bipush (v := nI 97) dX6_readLine_24 (by decide) ?_
      refine V_aload_n dX6_readLine_26 rfl rfl ?_
      refine V_getE frX6_7 hM.1 rfl z1 dX6_readLine_27 ?_
      refine V_iadd dX6_readLine_30 ?_
      refine V_top (nI_add 97 B) ?_
      refine V_iconst (v := nI 1) dX6_readLine_31 (by decide) ?_
      refine V_isub dX6_readLine_32 ?_
      refine V_top ((nI_subN (by omega)).trans (congrArg nI (by omega : 97 + B - 1 = 96 + B))) ?_
      refine V_i2c dX6_readLine_33 ?_
      refine V_top (ch_mod (by omega)) ?_
      refine V_cv1 (ctX6_pass_ok hM hI0 hc (p := 0) (lo := 97) (hi := 96 + B) z12 z14 (by omega) q1.1 (by omega) (by omega)) mvX6_pass lkX6_124 hM.1 rfl rfl rfl (Nat.le_of_ble_eq_true rfl) ⟨⟨Nat.le_of_ble_eq_true rfl, Nat.le_of_ble_eq_true rfl⟩, Nat.le_of_ble_eq_true rfl, Nat.le_of_ble_eq_true rfl⟩ dX6_readLine_34 ?_
      refine V_putI fpX6_128 rfl rfl hM.1 rfl dX6_readLine_37 ?_
      refine V_aload_n dX6_readLine_40 rfl rfl ?_
      refine V_bipush (v := nI 58) dX6_readLine_41 (by decide) ?_
      refine V_bipush (v := nI 58) dX6_readLine_43 (by decide) ?_
      refine V_cv1 (ctX6_pass_bad hM (hI0.keep (fun a i q => ((u2_n _ _ (by omega)).trans ((u2_n _ _ (by omega)).trans (u2_n _ _ (by omega)))))) hc (p := 1) (lo := 58) (hi := 58) (wr := false) ((u2_n _ _ (by omega)).trans (u2_s _ _ _ _)) ((u2_n _ _ (by omega)).trans ((u2_n _ _ (by omega)).trans (u2_s _ _ _ _))) (by omega) (by omega) (by omega) (Or.inr (by omega))) mvX6_pass lkX6_124 hM.1 rfl rfl rfl (Nat.le_of_ble_eq_true rfl) ⟨⟨Nat.le_of_ble_eq_true rfl, Nat.le_of_ble_eq_true rfl⟩, Nat.le_of_ble_eq_true rfl, Nat.le_of_ble_eq_true rfl⟩ dX6_readLine_45 ?_
      refine V_pop dX6_readLine_48 rfl ?_
      exact wrong _ 1 0 _ ((u2_n _ _ (by omega)).trans (u2_s _ _ _ _)) (u2_s _ _ _ _) (((u2_n _ _ (by omega)).trans ((u2_n _ _ (by omega)).trans ((u2_n _ _ (by omega)).trans ((u2_n _ _ (by omega)).trans (u2_n _ _ (by omega)))))).trans z16) (by omega) (by omega) (by unfold pr; rw [if_neg (fun q => q q1), if_pos q2]) (fun a i y1 y2 y3 => ((u2_n _ _ (by omega)).trans ((u2_n _ _ (by omega)).trans ((u2_n _ _ (by omega)).trans ((u2_n _ _ (by omega)).trans (u2_n _ _ (by omega)))))).trans (zf a i y1 y2 y3))

  · refine V_aload_n dX6_readLine_0 rfl rfl ?_
    refine V_iconst (v := nI 0) dX6_readLine_1 (by decide) ?_
    refine V_putI fpX6_111 rfl rfl hM.1 rfl dX6_readLine_2 ?_
    refine V_aload_n dX6_readLine_5 rfl rfl ?_
    refine V_iconst (v := nI 0) dX6_readLine_6 (by decide) ?_
    refine V_putI fpX6_107 rfl rfl hM.1 rfl dX6_readLine_7 ?_
    refine V_aload_n dX6_readLine_10 rfl rfl ?_
    refine V_iconst (v := nI 0) dX6_readLine_11 (by decide) ?_
    refine V_putI fpX6_121 rfl rfl hM.1 rfl dX6_readLine_12 ?_
    refine V_aload_n dX6_readLine_15 rfl rfl ?_
    refine V_iconst (v := nI 0) dX6_readLine_16 (by decide) ?_
    refine V_putI fpX6_114 rfl rfl hM.1 rfl dX6_readLine_17 ?_
    refine V_aload_n dX6_readLine_20 rfl rfl ?_
    refine V_aload_n dX6_readLine_21 rfl rfl ?_
    refine V_bipush (v := nI 97) dX6_readLine_22 (by decide) ?_
    refine V_bipush (v := nI 97) dX6_readLine_24 (by decide) ?_
    refine V_aload_n dX6_readLine_26 rfl rfl ?_
    refine V_getE frX6_7 hM.1 rfl z1 dX6_readLine_27 ?_
    refine V_iadd dX6_readLine_30 ?_
    refine V_top (nI_add 97 B) ?_
    refine V_iconst (v := nI 1) dX6_readLine_31 (by decide) ?_
    refine V_isub dX6_readLine_32 ?_
    refine V_top ((nI_subN (by omega)).trans (congrArg nI (by omega : 97 + B - 1 = 96 + B))) ?_
    refine V_i2c dX6_readLine_33 ?_
    refine V_top (ch_mod (by omega)) ?_
    refine V_cv1 (ctX6_pass_bad hM hI0 hc (p := 0) (lo := 97) (hi := 96 + B) (wr := false) z12 z14 (by omega) (by omega) (by omega) (Or.inr (by omega))) mvX6_pass lkX6_124 hM.1 rfl rfl rfl (Nat.le_of_ble_eq_true rfl) ⟨⟨Nat.le_of_ble_eq_true rfl, Nat.le_of_ble_eq_true rfl⟩, Nat.le_of_ble_eq_true rfl, Nat.le_of_ble_eq_true rfl⟩ dX6_readLine_34 ?_
    refine V_putI fpX6_128 rfl rfl hM.1 rfl dX6_readLine_37 ?_
    refine V_aload_n dX6_readLine_40 rfl rfl ?_
    refine V_bipush (v := nI 58) dX6_readLine_41 (by decide) ?_
    refine V_bipush (v := nI 58) dX6_readLine_43 (by decide) ?_
    refine V_cv1 (ctX6_pass_bad hM (hI0.keep (fun a i q => ((u2_n _ _ (by omega)).trans ((u2_n _ _ (by omega)).trans (u2_n _ _ (by omega)))))) hc (p := 0) (lo := 58) (hi := 58) (wr := true) ((u2_n _ _ (by omega)).trans (u2_s _ _ _ _)) ((u2_n _ _ (by omega)).trans ((u2_n _ _ (by omega)).trans (u2_s _ _ _ _))) (by omega) (by omega) (by omega) (Or.inl rfl)) mvX6_pass lkX6_124 hM.1 rfl rfl rfl (Nat.le_of_ble_eq_true rfl) ⟨⟨Nat.le_of_ble_eq_true rfl, Nat.le_of_ble_eq_true rfl⟩, Nat.le_of_ble_eq_true rfl, Nat.le_of_ble_eq_true rfl⟩ dX6_readLine_45 ?_
    refine V_pop dX6_readLine_48 rfl ?_
    exact wrong _ 0 0 _ ((u2_n _ _ (by omega)).trans (u2_s _ _ _ _)) (u2_s _ _ _ _) (((u2_n _ _ (by omega)).trans ((u2_n _ _ (by omega)).trans ((u2_n _ _ (by omega)).trans ((u2_n _ _ (by omega)).trans (u2_n _ _ (by omega)))))).trans z16) (by omega) (by omega) (by unfold pr; rw [if_pos q1]) (fun a i y1 y2 y3 => ((u2_n _ _ (by omega)).trans ((u2_n _ _ (by omega)).trans ((u2_n _ _ (by omega)).trans ((u2_n _ _ (by omega)).trans (u2_n _ _ (by omega)))))).trans (zf a i y1 y2 y3))

theorem ctX6_define (hM : ML σ m) (hA : MA mi m S) (hS : SOK S)  : CtP κ 0 0 24 mrX6_define [.ref m] (MM σ mi ml) (MRz σ mi ml m (rs_define S)) := by
  have hw := hS.1
  have h14 := hw.2.1
  have hG := hA.1
  have h8 := hS.2.1.1
  cases hp : pr S.2.2.2.1 S.1.1 with
  | inl e =>
    have he := pr_lt hS.2.2.2.1 hp
    rw [show rs_define S = (1, 0, (S.1, S.2.1, S.2.2.1, [], nI e, S.2.2.2.2.2)) from by unfold rs_define; rw [hp]]
    refine CtP.of rfl (by simp [Value.category]) (Nat.le_of_ble_eq_true rfl) ?_
    refine V_aload_n dX6_define_0 rfl rfl ?_
    refine V_cp0 (ctX6_readLine hM ⟨hA.2.2.2.1.1, hA.2.2.2.1.2⟩ hS.2.2.2.1 hw.1 h14 hG.1) mvX6_readLine lkX6_138 hM.1 rfl rfl rfl (Nat.le_of_ble_eq_true rfl) ⟨⟨Nat.le_of_ble_eq_true rfl, Nat.le_of_ble_eq_true rfl⟩, Nat.le_of_ble_eq_true rfl, Nat.le_of_ble_eq_true rfl⟩ dX6_define_1 (fun μ1 hx => ?_)
    obtain ⟨m1, rfl, hE, hLn, ho⟩ := hx
    obtain ⟨e14, e12⟩ := hE e hp
    refine V_aload_n dX6_define_4 rfl rfl ?_
    refine V_iconst (v := nI 0) dX6_define_5 (by decide) ?_
    refine V_putI fpX6_104 rfl rfl hM.1 rfl dX6_define_6 ?_
    refine V_aload_n dX6_define_9 rfl rfl ?_
    refine V_aload_n dX6_define_10 rfl rfl ?_
    refine V_getE frX6_107 hM.1 rfl ((u2_n _ _ (by omega)).trans e14) dX6_define_11 ?_
    refine V_ifeqB 24 dX6_define_14 (by decide) (fun h14 => absurd (h14.symm.trans rfl) (by decide)) (fun h14 => ?_)
    refine V_aload_n dX6_define_17 rfl rfl ?_
    refine V_getE frX6_111 hM.1 rfl ((u2_n _ _ (by omega)).trans e12) dX6_define_18 ?_
    refine V_goto 28 dX6_define_21 (by decide) ?_
    refine V_putI fpX6_38 rfl rfl hM.1 rfl dX6_define_28 ?_
    refine V_aload_n dX6_define_31 rfl rfl ?_
    refine V_iconst (v := nI 1) dX6_define_32 (by decide) ?_
    refine V_aload_n dX6_define_33 rfl rfl ?_
    refine V_getE frX6_107 hM.1 rfl ((u2_n _ _ (by omega)).trans ((u2_n _ _ (by omega)).trans e14)) dX6_define_34 ?_
    refine V_cv1 (ctX6_fails hM (k := nI 1) (c := true)) mvX6_fails lkX6_100 hM.1 rfl rfl rfl (Nat.le_of_ble_eq_true rfl) ⟨⟨Nat.le_of_ble_eq_true rfl, Nat.le_of_ble_eq_true rfl⟩, Nat.le_of_ble_eq_true rfl, Nat.le_of_ble_eq_true rfl⟩ dX6_define_37 ?_
    refine V_ifeqB 45 dX6_define_40 (by decide) (fun h40 => absurd (h40.symm.trans rfl) (by decide)) (fun h40 => ?_)
    refine V_iconst (v := nI 0) dX6_define_43 (by decide) ?_
    exact V_iretP rfl ⟨rfl, _, rfl, by
          obtain ⟨a1, ⟨a2, a3⟩, ⟨a4, a5⟩, ⟨a6, a7⟩, a8, a9, a10⟩ := hA
          exact ⟨a1.keep (fun a i q => ((u2_n _ _ (by omega)).trans ((u2_n _ _ (by omega)).trans ((u2_n _ _ (by omega)).trans (ho _ _ (by omega) (by omega) (by omega)))))), ⟨((u2_n _ _ (by omega)).trans ((u2_n _ _ (by omega)).trans ((u2_n _ _ (by omega)).trans (ho _ _ (by omega) (by omega) (by omega))))).trans a2, fun i hi => (a3 i hi).keep (fun j => ((u2_n _ _ (by omega)).trans ((u2_n _ _ (by omega)).trans ((u2_n _ _ (by omega)).trans (ho _ _ (by omega) (by omega) (by omega))))))⟩, ⟨((u2_n _ _ (by omega)).trans ((u2_n _ _ (by omega)).trans ((u2_n _ _ (by omega)).trans (ho _ _ (by omega) (by omega) (by omega))))).trans a4, fun g hg => (a5 g hg).keep (fun j => ((u2_n _ _ (by omega)).trans ((u2_n _ _ (by omega)).trans ((u2_n _ _ (by omega)).trans (ho _ _ (by omega) (by omega) (by omega))))))⟩, ⟨(u2_n _ _ (by omega)).trans ((u2_n _ _ (by omega)).trans (u2_s _ _ _ _)), fun i hi => absurd hi (Nat.not_lt_zero i)⟩, (u2_n _ _ (by omega)).trans (u2_s _ _ _ _), ((u2_n _ _ (by omega)).trans ((u2_n _ _ (by omega)).trans ((u2_n _ _ (by omega)).trans (ho _ _ (by omega) (by omega) (by omega))))).trans a9, fun i y1 y2 => ((u2_n _ _ (by omega)).trans ((u2_n _ _ (by omega)).trans ((u2_n _ _ (by omega)).trans (ho _ _ (by omega) (by omega) (by omega))))).trans (a10 i y1 y2)⟩, u2_s _ _ _ _, fun a i q => ((u2_n _ _ (by omega)).trans ((u2_n _ _ (by omega)).trans ((u2_n _ _ (by omega)).trans (ho _ _ (by omega) (by omega) (by omega)))))⟩ ⟨Nat.le_of_ble_eq_true rfl, Nat.le_of_ble_eq_true rfl⟩ dX6_define_44

  | inr r =>
    obtain ⟨b, la, le⟩ := r
    obtain ⟨p1, p2, p3, p4, p5, p6⟩ := pr_ok hp
    rw [show rs_define S = (0, nI b, chg (S.1, S.2.1, S.2.2.1, [], S.2.2.2.2) (S.1.1, va_up S.1.2.1 b la, va_up S.1.2.2 b le)) from by unfold rs_define; rw [hp]]
    refine CtP.of rfl (by simp [Value.category]) (Nat.le_of_ble_eq_true rfl) ?_
    have lpE : ∀ m1, (∀ mF, (∀ a z, ((a = m) ∨ a < m ∨ m + 33 ≤ a) → mF a z = m1 a z) → GM mF m (S.1.1, va_up S.1.2.1 b la, va_up S.1.2.2 b le) → MRz σ mi ml m (0, nI b, chg (S.1, S.2.1, S.2.2.1, [], S.2.2.2.2) (S.1.1, va_up S.1.2.1 b la, va_up S.1.2.2 b le)) (.inl (some (.int (nI b)))) (MM σ mF ml)) → GM m1 m S.1 → m1 m 15 = nI b → m1 m 17 = nI le.length → (∀ z, z < le.length → m1 (m + 46) z = nI (le.getD z 0)) → ∀ k, k ≤ le.length → ∀ m2, m2 (m + 1) b = nI la.length → (∀ c, c ≠ b → m2 (m + 1) c = m1 (m + 1) c) → m2 (m + 2) b = nI le.length → (∀ c, c ≠ b → m2 (m + 2) c = m1 (m + 2) c) → (∀ z, z < la.length → m2 (m + 4 + b) z = nI (la.getD z 0)) → (∀ z, z < k → m2 (m + 19 + b) z = nI (le.getD z 0)) → (∀ a z, a ≠ m + 1 → a ≠ m + 2 → a ≠ m + 4 + b → a ≠ m + 19 + b → m2 a z = m1 a z) → V κ (phiP κ mrX6_define 24 0 0 (MRz σ mi ml m (0, nI b, chg (S.1, S.2.1, S.2.2.1, [], S.2.2.2.2) (S.1.1, va_up S.1.2.1 b la, va_up S.1.2.2 b le)))) 0 0 110 [some (.ref m), some (.int (nI k))] [] (MM σ m2 ml) := fun m1 fin hG1 g15 g17 g46 => loop_up _ (fun k hk ih m2 o1 o2 o3 o4 o5 o6 o7 => by
      have k15 : m2 m 15 = nI b := (o7 _ _ (by omega) (by omega) (by omega) (by omega)).trans g15
      have k17 : m2 m 17 = nI le.length := (o7 _ _ (by omega) (by omega) (by omega) (by omega)).trans g17
      refine V_iload_n dX6_define_110 rfl rfl ?_
      refine V_aload_n dX6_define_111 rfl rfl ?_
      refine V_getE frX6_114 hM.1 rfl k17 dX6_define_112 ?_
      refine V_N_ge (by omega) (by omega) 141 dX6_define_115 (by decide) (fun h115 => ?_) (fun h115 => ?_)
      · refine V_aload_n dX6_define_141 rfl rfl ?_
        refine V_getE frX6_128 hM.1 rfl k15 dX6_define_142 ?_
        exact V_iretP rfl (fin m2 (fun a z q => o7 a z (by omega) (by omega) (by omega) (by omega)) (GM.upd hG1 (show b < 14 by omega) ((o7 _ _ (by omega) (by omega) (by omega) (by omega)).trans hG1.1) o1 o3 o5 (fun z hz => o6 z (by omega)) (fun c hc hne => ⟨o2 c hne, o4 c hne, fun z => o7 _ _ (by omega) (by omega) (by omega) (by omega), fun z => o7 _ _ (by omega) (by omega) (by omega) (by omega)⟩))) ⟨Nat.le_of_ble_eq_true rfl, Nat.le_of_ble_eq_true rfl⟩ dX6_define_145
      · refine V_aload_n dX6_define_118 rfl rfl ?_
        refine V_getR frX6_25 hM.1 rfl dX6_define_119 ?_
        refine V_aload_n dX6_define_122 rfl rfl ?_
        refine V_getE frX6_128 hM.1 rfl k15 dX6_define_123 ?_
        refine V_aaldR hM.2.2.2.2.2.2.2.2.2.2.2.2.2.2.2.2.2.1 (b) rfl (show b < 14 by omega) (by decide) dX6_define_126 ?_
        refine V_iload_n dX6_define_127 rfl rfl ?_
        refine V_aload_n dX6_define_128 rfl rfl ?_
        refine V_getR frX6_44 hM.1 rfl dX6_define_129 ?_
        refine V_iload_n dX6_define_132 rfl rfl ?_
        refine V_ialdE hM.2.2.2.2.2.1 k rfl (by omega) (by decide) ((o7 _ _ (by omega) (by omega) (by omega) (by omega)).trans (g46 k h115)) dX6_define_133 ?_
        refine V_iastN (hM.2.2.2.2.2.2.2.2.2.2.2.2.2.2.2.2.2.1.row (j := b) (show b < 14 by omega)) k rfl (by omega) (by decide) dX6_define_134 ?_
        refine V_iinc1 dX6_define_135 rfl (Nat.le_of_ble_eq_true rfl) ?_
        refine V_goto 110 dX6_define_138 (by decide) ?_
        exact ih h115 _ ((u2_n _ _ (by omega)).trans o1) (fun c hc => (u2_n _ _ (by omega)).trans (o2 c hc)) ((u2_n _ _ (by omega)).trans o3) (fun c hc => (u2_n _ _ (by omega)).trans (o4 c hc)) (fun z hz => (u2_n _ _ (by omega)).trans (o5 z hz)) (fun z hz => by
          by_cases e : z = k
          · subst e; exact u2_s _ _ _ _
          · exact (u2_n _ _ (Or.inr e)).trans (o6 z (by omega))) (fun a z y1 y2 y3 y4 => (u2_n _ _ (Or.inl y4)).trans (o7 a z y1 y2 y3 y4))
      )
    have lpA : ∀ m1, (∀ mF, (∀ a z, ((a = m) ∨ a < m ∨ m + 33 ≤ a) → mF a z = m1 a z) → GM mF m (S.1.1, va_up S.1.2.1 b la, va_up S.1.2.2 b le) → MRz σ mi ml m (0, nI b, chg (S.1, S.2.1, S.2.2.1, [], S.2.2.2.2) (S.1.1, va_up S.1.2.1 b la, va_up S.1.2.2 b le)) (.inl (some (.int (nI b)))) (MM σ mF ml)) → GM m1 m S.1 → m1 m 15 = nI b → m1 m 16 = nI la.length → m1 m 17 = nI le.length → (∀ z, z < la.length → m1 (m + 45) z = nI (la.getD z 0)) → (∀ z, z < le.length → m1 (m + 46) z = nI (le.getD z 0)) → ∀ k, k ≤ la.length → ∀ m2, m2 (m + 1) b = nI la.length → (∀ c, c ≠ b → m2 (m + 1) c = m1 (m + 1) c) → m2 (m + 2) b = nI le.length → (∀ c, c ≠ b → m2 (m + 2) c = m1 (m + 2) c) → (∀ z, z < k → m2 (m + 4 + b) z = nI (la.getD z 0)) → (∀ a z, a ≠ m + 1 → a ≠ m + 2 → a ≠ m + 4 + b → m2 a z = m1 a z) → V κ (phiP κ mrX6_define 24 0 0 (MRz σ mi ml m (0, nI b, chg (S.1, S.2.1, S.2.2.1, [], S.2.2.2.2) (S.1.1, va_up S.1.2.1 b la, va_up S.1.2.2 b le)))) 0 0 77 [some (.ref m), some (.int (nI k))] [] (MM σ m2 ml) := fun m1 fin hG1 g15 g16 g17 g45 g46 => loop_up _ (fun k hk ih m2 o1 o2 o3 o4 o5 o7 => by
      have k15 : m2 m 15 = nI b := (o7 _ _ (by omega) (by omega) (by omega)).trans g15
      have k16 : m2 m 16 = nI la.length := (o7 _ _ (by omega) (by omega) (by omega)).trans g16
      refine V_iload_n dX6_define_77 rfl rfl ?_
      refine V_aload_n dX6_define_78 rfl rfl ?_
      refine V_getE frX6_121 hM.1 rfl k16 dX6_define_79 ?_
      refine V_N_ge (by omega) (by omega) 108 dX6_define_82 (by decide) (fun h82 => ?_) (fun h82 => ?_)
      · refine V_iconst (v := nI 0) dX6_define_108 (by decide) ?_
        refine V_istore_n dX6_define_109 rfl (Nat.le_of_ble_eq_true rfl) ?_
        exact lpE m1 fin hG1 g15 g17 g46 0 (Nat.zero_le _) m2 o1 o2 o3 o4 (fun z hz => o5 z (by omega)) (fun z hz => absurd hz (Nat.not_lt_zero z)) (fun a z y1 y2 y3 y4 => o7 a z y1 y2 y3)
      · refine V_aload_n dX6_define_85 rfl rfl ?_
        refine V_getR frX6_22 hM.1 rfl dX6_define_86 ?_
        refine V_aload_n dX6_define_89 rfl rfl ?_
        refine V_getE frX6_128 hM.1 rfl k15 dX6_define_90 ?_
        refine V_aaldR hM.2.2.2.2.2.2.2.2.2.2.2.2.2.2.2.2.1 (b) rfl (show b < 14 by omega) (by decide) dX6_define_93 ?_
        refine V_iload_n dX6_define_94 rfl rfl ?_
        refine V_aload_n dX6_define_95 rfl rfl ?_
        refine V_getR frX6_41 hM.1 rfl dX6_define_96 ?_
        refine V_iload_n dX6_define_99 rfl rfl ?_
        refine V_ialdE hM.2.2.2.2.1 k rfl (by omega) (by decide) ((o7 _ _ (by omega) (by omega) (by omega)).trans (g45 k h82)) dX6_define_100 ?_
        refine V_iastN (hM.2.2.2.2.2.2.2.2.2.2.2.2.2.2.2.2.1.row (j := b) (show b < 14 by omega)) k rfl (by omega) (by decide) dX6_define_101 ?_
        refine V_iinc1 dX6_define_102 rfl (Nat.le_of_ble_eq_true rfl) ?_
        refine V_goto 77 dX6_define_105 (by decide) ?_
        exact ih h82 _ ((u2_n _ _ (by omega)).trans o1) (fun c hc => (u2_n _ _ (by omega)).trans (o2 c hc)) ((u2_n _ _ (by omega)).trans o3) (fun c hc => (u2_n _ _ (by omega)).trans (o4 c hc)) (fun z hz => by
          by_cases e : z = k
          · subst e; exact u2_s _ _ _ _
          · exact (u2_n _ _ (Or.inr e)).trans (o5 z (by omega))) (fun a z y1 y2 y3 => (u2_n _ _ (Or.inl y3)).trans (o7 a z y1 y2 y3))
      )
    refine V_aload_n dX6_define_0 rfl rfl ?_
    refine V_cp0 (ctX6_readLine hM ⟨hA.2.2.2.1.1, hA.2.2.2.1.2⟩ hS.2.2.2.1 hw.1 h14 hG.1) mvX6_readLine lkX6_138 hM.1 rfl rfl rfl (Nat.le_of_ble_eq_true rfl) ⟨⟨Nat.le_of_ble_eq_true rfl, Nat.le_of_ble_eq_true rfl⟩, Nat.le_of_ble_eq_true rfl, Nat.le_of_ble_eq_true rfl⟩ dX6_define_1 (fun μ1 hx => ?_)
    obtain ⟨m1, rfl, hE, hLn, ho⟩ := hx
    obtain ⟨e14, e15, e16, e17, e45, e46⟩ := hLn b la le hp
    refine V_aload_n dX6_define_4 rfl rfl ?_
    refine V_iconst (v := nI 0) dX6_define_5 (by decide) ?_
    refine V_putI fpX6_104 rfl rfl hM.1 rfl dX6_define_6 ?_
    refine V_aload_n dX6_define_9 rfl rfl ?_
    refine V_aload_n dX6_define_10 rfl rfl ?_
    refine V_getE frX6_107 hM.1 rfl ((u2_n _ _ (by omega)).trans e14) dX6_define_11 ?_
    refine V_ifeqB 24 dX6_define_14 (by decide) (fun h14 => ?_) (fun h14 => absurd (h14.symm.trans rfl) (by decide))
    refine V_aload_n dX6_define_24 rfl rfl ?_
    refine V_getE frX6_38 hM.1 rfl ((u2_n _ _ (by omega)).trans ((ho _ _ (by omega) (by omega) (by omega)).trans hA.2.2.2.2.1)) dX6_define_25 ?_
    refine V_putI fpX6_38 rfl rfl hM.1 rfl dX6_define_28 ?_
    refine V_aload_n dX6_define_31 rfl rfl ?_
    refine V_iconst (v := nI 1) dX6_define_32 (by decide) ?_
    refine V_aload_n dX6_define_33 rfl rfl ?_
    refine V_getE frX6_107 hM.1 rfl ((u2_n _ _ (by omega)).trans ((u2_n _ _ (by omega)).trans e14)) dX6_define_34 ?_
    refine V_cv1 (ctX6_fails hM (k := nI 1) (c := false)) mvX6_fails lkX6_100 hM.1 rfl rfl rfl (Nat.le_of_ble_eq_true rfl) ⟨⟨Nat.le_of_ble_eq_true rfl, Nat.le_of_ble_eq_true rfl⟩, Nat.le_of_ble_eq_true rfl, Nat.le_of_ble_eq_true rfl⟩ dX6_define_37 ?_
    have kb : ∀ a i, ¬ (a = m ∧ (i = 0 ∨ i = 11 ∨ i = 12 ∨ i = 13 ∨ i = 14 ∨ i = 15 ∨ i = 16 ∨ i = 17)) → a ≠ m + 45 → a ≠ m + 46 → u2 (u2 (u2 m1 m 11 (nI 0)) m 13 S.2.2.2.2.1) m 0 (nI 0) a i = mi a i := fun a i y1 y2 y3 => ((u2_n _ _ (by omega)).trans ((u2_n _ _ (by omega)).trans ((u2_n _ _ (by omega)).trans (ho _ _ (by omega) (by omega) (by omega)))))
    refine V_ifeqB 45 dX6_define_40 (by decide) (fun h40 => ?_) (fun h40 => absurd (h40.symm.trans rfl) (by decide))
    refine V_aload_n dX6_define_45 rfl rfl ?_
    refine V_cp0 (ctX6_remember hM (hG.keep (fun a i q => kb a i (by omega) (by omega) (by omega))) hw hS.2.1.1 ((kb _ _ (by omega) (by omega) (by omega)).trans hA.2.1.1) (fun i hi => (hA.2.1.2 i hi).keep (fun j => kb _ _ (by omega) (by omega) (by omega))) hS.2.1.2) mvX6_remember lkX6_141 hM.1 rfl rfl rfl (Nat.le_of_ble_eq_true rfl) ⟨⟨Nat.le_of_ble_eq_true rfl, Nat.le_of_ble_eq_true rfl⟩, Nat.le_of_ble_eq_true rfl, Nat.le_of_ble_eq_true rfl⟩ dX6_define_46 (fun μ2 hx => ?_)
    obtain ⟨m2, rfl, hH1, hz1, ho1⟩ := hx
    have hG1 : GM m2 m S.1 := hG.keep (fun a i q => (ho1 a i (by omega) (by omega)).trans (kb a i (by omega) (by omega) (by omega)))
    have kl : ∀ a i, ((a = m ∧ (i = 15 ∨ i = 16 ∨ i = 17)) ∨ a = m + 45 ∨ a = m + 46) → m2 a i = m1 a i := fun a i q => (ho1 a i (by omega) (by omega)).trans ((u2_n _ _ (by omega)).trans ((u2_n _ _ (by omega)).trans (u2_n _ _ (by omega))))
    refine V_aload_n dX6_define_49 rfl rfl ?_
    refine V_getR frX6_13 hM.1 rfl dX6_define_50 ?_
    refine V_aload_n dX6_define_53 rfl rfl ?_
    refine V_getE frX6_128 hM.1 rfl ((kl _ _ (by omega)).trans e15) dX6_define_54 ?_
    refine V_aload_n dX6_define_57 rfl rfl ?_
    refine V_getE frX6_121 hM.1 rfl ((kl _ _ (by omega)).trans e16) dX6_define_58 ?_
    refine V_iastN hM.2.1 b rfl (by omega) (by decide) dX6_define_61 ?_
    refine V_aload_n dX6_define_62 rfl rfl ?_
    refine V_getR frX6_17 hM.1 rfl dX6_define_63 ?_
    refine V_aload_n dX6_define_66 rfl rfl ?_
    refine V_getE frX6_128 hM.1 rfl ((u2_n _ _ (by omega)).trans ((kl _ _ (by omega)).trans e15)) dX6_define_67 ?_
    refine V_aload_n dX6_define_70 rfl rfl ?_
    refine V_getE frX6_114 hM.1 rfl ((u2_n _ _ (by omega)).trans ((kl _ _ (by omega)).trans e17)) dX6_define_71 ?_
    refine V_iastN hM.2.2.1 b rfl (by omega) (by decide) dX6_define_74 ?_
    refine V_iconst (v := nI 0) dX6_define_75 (by decide) ?_
    refine V_istore_n dX6_define_76 rfl (Nat.le_of_ble_eq_true rfl) ?_
    refine lpA m2 (fun mF o1 hg => ⟨rfl, mF, rfl, hA.new hg ⟨(o1 _ _ (by omega)).trans hH1.1, fun i hi => (hH1.2 i hi).keep (fun j => o1 _ _ (by omega))⟩ ((o1 _ _ (by omega)).trans hz1) ⟨(o1 _ _ (by omega)).trans ((ho1 _ _ (by omega) (by omega)).trans ((u2_n _ _ (by omega)).trans ((u2_n _ _ (by omega)).trans (u2_s _ _ _ _)))), fun i hi => absurd hi (Nat.not_lt_zero i)⟩ ((o1 _ _ (by omega)).trans ((ho1 _ _ (by omega) (by omega)).trans ((u2_n _ _ (by omega)).trans (u2_s _ _ _ _)))) (fun a i q => (o1 _ _ (by omega)).trans ((ho1 _ _ (by omega) (by omega)).trans (kb a i (by omega) (by omega) (by omega)))), (o1 _ _ (by omega)).trans ((ho1 _ _ (by omega) (by omega)).trans (u2_s _ _ _ _)), fun a i q => (o1 _ _ (by omega)).trans ((ho1 _ _ (by omega) (by omega)).trans (kb a i (by omega) (by omega) (by omega)))⟩) hG1 ((kl _ _ (by omega)).trans e15) ((kl _ _ (by omega)).trans e16) ((kl _ _ (by omega)).trans e17) (fun z hz => (kl _ _ (by omega)).trans (e45 z hz)) (fun z hz => (kl _ _ (by omega)).trans (e46 z hz)) 0 (Nat.zero_le _) _ ((u2_n _ _ (by omega)).trans (u2_s _ _ _ _)) (fun c hc => (u2_n _ _ (by omega)).trans (u2_n _ _ (Or.inr hc))) (u2_s _ _ _ _) (fun c hc => (u2_n _ _ (Or.inr hc)).trans (u2_n _ _ (by omega))) (fun z hz => absurd hz (Nat.not_lt_zero z)) (fun a z y1 y2 y3 => (u2_n _ _ (Or.inl y2)).trans (u2_n _ _ (Or.inl y1)))

end Mdl11
