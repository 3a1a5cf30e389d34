/-! SsaRepairModel: reports of changes -/
section Mdl12
variable {κ : K0} {σ : Nat → Option Kd} {mi : Nat → Nat → Int32} {ml : Nat → Nat → Int64} {m : Nat} {G : Gr} {S : SS} {μ : Mem}
theorem MA.gm {m1 : Nat → Nat → Int32} (h : MA mi m S) (hS : SOK S) (hg : GM m1 m S.1) (hk : (∀ a i, ((a = m ∧ (i = 8 ∨ i = 9 ∨ i = 11 ∨ i = 13 ∨ i = 34)) ∨ (m + 34 ≤ a ∧ a < m + 42) ∨ a = m + 43 ∨ a = m + 44 ∨ a = m + 100 ∨ a < m ∨ m + 101 ≤ a) → m1 a i = mi a i)) : MA m1 m S := by
  obtain ⟨h1, ⟨h2, h3⟩, ⟨h4, h5⟩, ⟨h6, h7⟩, h8, h9, h10⟩ := h
  have h8' := hS.2.1.1
  exact ⟨hg, ⟨(hk _ _ (by omega)).trans h2, fun i hi => (h3 i hi).keep (fun j => hk _ _ (by omega))⟩, ⟨(hk _ _ (by omega)).trans h4, fun g hg => (h5 g hg).keep (fun j => hk _ _ (by omega))⟩, ⟨(hk _ _ (by omega)).trans h6, fun i hi => (hk _ _ (by omega)).trans (h7 i hi)⟩, (hk _ _ (by omega)).trans h8, (hk _ _ (by omega)).trans h9, fun i hi1 hi2 => (hk _ _ (by omega)).trans (h10 i hi1 hi2)⟩
theorem AN.keep (hw : Wf G) {m1 : Nat → Nat → Int32} (h : AN mi m G) (hk : ∀ a i, ((a = m ∧ i = 20) ∨ (m + 47 ≤ a ∧ a < m + 84)) → m1 a i = mi a i) : AN m1 m G := ⟨h.1.keep (fun a i q => hk a i (by omega)), h.2.1.keep (fun i => hk _ _ (by omega)), h.2.2.1.keep (fun a i q => hk a i (by omega)), fun v hv => (h.2.2.2 v hv).keep hw (fun a q1 q2 => hk a v (by omega))⟩
/-- what is kept of a use in the old graph -/
noncomputable def oldU (H : Gr) (b k : Nat) : Int32 := if (bp (Rc H b) && (decide (k < (H.2.1 b).length) && decide (10 ≤ (H.2.1 b).getD k 0))) = true then nI (10000 * (H.2.1 b).getD k 0 + srcU H b k) else -1
theorem ctX6_isReportEmpty (hM : ML σ m) (hA : MA mi m S) (hS : SOK S) : CtP κ 0 0 20 mrX6_isReportEmpty [.ref m] (MM σ mi ml) (fun o μ' => ∃ y, o = .inl (some (.int y)) ∧ y = bI (decide (S.2.1.1 = 0)) ∧ ∃ m1, μ' = MM σ m1 ml ∧ m1 m 0 = nI 0 ∧ MA m1 m S ∧ (∀ a i, (a < m ∨ m + 101 ≤ a) → m1 a i = mi a i) ∧ (S.2.1.1 ≠ 0 → AN m1 m S.1 ∧ m1 m 31 = msk (fun k => bp (Rc (S.2.1.2 0) k)) ∧ (∀ v, v < 4 → m1 (m + 84) v = msk (fun b => bp (PM (S.2.1.2 0) v b))) ∧ ∀ b, b < 14 → ∀ k, k < 6 → m1 (m + 86 + b) k = oldU (S.2.1.2 0) b k)) := by
  have hw := hS.1
  have h14 := hw.2.1
  have hG := hA.1
  have h8 := hS.2.1.1
  refine CtP.of rfl (by simp [Value.category]) (Nat.le_of_ble_eq_true rfl) ?_
  have fin : S.2.1.1 ≠ 0 → ∀ m1 o1 o2 o3, (∀ a i, ((a = m ∧ (i = 8 ∨ i = 9 ∨ i = 11 ∨ i = 13 ∨ i = 34)) ∨ (m + 34 ≤ a ∧ a < m + 42) ∨ a = m + 43 ∨ a = m + 44 ∨ a = m + 100 ∨ a < m ∨ m + 101 ≤ a) → m1 a i = mi a i) → m1 m 0 = nI 0 → RowA m1 (m + 42) S.1 → (m1 m 31 = msk (fun k => bp (Rc (S.2.1.2 0) k)) ∧ (∀ v, v < 4 → m1 (m + 84) v = msk (fun b => bp (PM (S.2.1.2 0) v b))) ∧ ∀ b, b < 14 → ∀ k, k < 6 → m1 (m + 86 + b) k = oldU (S.2.1.2 0) b k) → V κ (phiP κ mrX6_isReportEmpty 20 0 0 (fun o μ' => ∃ y, o = .inl (some (.int y)) ∧ y = bI (decide (S.2.1.1 = 0)) ∧ ∃ m1, μ' = MM σ m1 ml ∧ m1 m 0 = nI 0 ∧ MA m1 m S ∧ (∀ a i, (a < m ∨ m + 101 ≤ a) → m1 a i = mi a i) ∧ (S.2.1.1 ≠ 0 → AN m1 m S.1 ∧ m1 m 31 = msk (fun k => bp (Rc (S.2.1.2 0) k)) ∧ (∀ v, v < 4 → m1 (m + 84) v = msk (fun b => bp (PM (S.2.1.2 0) v b))) ∧ ∀ b, b < 14 → ∀ k, k < 6 → m1 (m + 86 + b) k = oldU (S.2.1.2 0) b k))) 0 0 188 [some (.ref m), o1, o2, o3] [] (MM σ m1 ml) := fun hn m1 o1 o2 o3 k1 k0 kr ko => by
    refine V_aload_n dX6_isReportEmpty_188 rfl rfl ?_
    refine V_aload_n dX6_isReportEmpty_189 rfl rfl ?_
    refine V_getR frX6_28 hM.1 rfl dX6_isReportEmpty_190 ?_
    refine V_bipush (v := nI 8) dX6_isReportEmpty_193 (by decide) ?_
    refine V_aaldR hM.2.2.2.2.2.2.2.2.2.2.2.2.2.2.2.2.2.2.1 (8) rfl (show 8 < 9 by omega) (by decide) dX6_isReportEmpty_195 ?_
    refine V_cp0 (ctX6_take hM kr hw (hM.2.2.2.2.2.2.2.2.2.2.2.2.2.2.2.2.2.2.1.row (j := 8) (by omega)) (by omega)) mvX6_take lkX6_235 hM.1 rfl rfl rfl (Nat.le_of_ble_eq_true rfl) ⟨⟨Nat.le_of_ble_eq_true rfl, Nat.le_of_ble_eq_true rfl⟩, Nat.le_of_ble_eq_true rfl, Nat.le_of_ble_eq_true rfl⟩ dX6_isReportEmpty_196 (fun μ2 hx => ?_)
    obtain ⟨m2, rfl, g2, o2⟩ := hx
    refine V_aload_n dX6_isReportEmpty_199 rfl rfl ?_
    refine V_cp0 (ctX6_analyze hM g2 hw) mvX6_analyze lkX6_196 hM.1 rfl rfl rfl (Nat.le_of_ble_eq_true rfl) ⟨⟨Nat.le_of_ble_eq_true rfl, Nat.le_of_ble_eq_true rfl⟩, Nat.le_of_ble_eq_true rfl, Nat.le_of_ble_eq_true rfl⟩ dX6_isReportEmpty_200 (fun μ3 hx => ?_)
    obtain ⟨m3, rfl, hn3, o3⟩ := hx
    have oo : ∀ a i, ¬ (a = m ∧ (i = 1 ∨ i = 20)) → (a < m + 1 ∨ (m + 33 ≤ a ∧ a < m + 47) ∨ m + 84 ≤ a) → m3 a i = m1 a i := fun a i q1 q2 => (o3 a i (by omega) (by omega)).trans (o2 a i (by omega) (by omega))
    refine V_iconst (v := nI 0) dX6_isReportEmpty_203 (by decide) ?_
    exact V_zretP rfl rfl ⟨_, rfl, by rw [decide_eq_false hn]; rfl, m3, rfl, (oo _ _ (by omega) (by omega)).trans k0, hA.gm hS (GM_off g2 o3) (fun a i q => (oo a i (by omega) (by omega)).trans (k1 a i q)), fun a i q => (oo a i (by omega) (by omega)).trans (k1 a i (by omega)), fun _ => ⟨hn3, (oo _ _ (by omega) (by omega)).trans ko.1, fun v hv => (oo _ _ (by omega) (by omega)).trans (ko.2.1 v hv), fun b hb k hk => (oo _ _ (by omega) (by omega)).trans (ko.2.2 b hb k hk)⟩⟩ ⟨Nat.le_of_ble_eq_true rfl, Nat.le_of_ble_eq_true rfl⟩ dX6_isReportEmpty_204

  have lpU : S.2.1.1 ≠ 0 → ∀ b, b ≤ 14 → ∀ m1 o2 o3, (∀ a i, ((a = m ∧ (i = 8 ∨ i = 9 ∨ i = 11 ∨ i = 13 ∨ i = 34)) ∨ (m + 34 ≤ a ∧ a < m + 42) ∨ a = m + 43 ∨ a = m + 44 ∨ a = m + 100 ∨ a < m ∨ m + 101 ≤ a) → m1 a i = mi a i) → m1 m 0 = nI 0 → RowA m1 (m + 42) S.1 → GM m1 m (S.2.1.2 0) → AN m1 m (S.2.1.2 0) → m1 m 31 = msk (fun k => bp (Rc (S.2.1.2 0) k)) → (∀ v, v < 4 → m1 (m + 84) v = msk (fun b => bp (PM (S.2.1.2 0) v b))) → (∀ c, c < b → ∀ k, k < 6 → m1 (m + 86 + c) k = oldU (S.2.1.2 0) c k) → V κ (phiP κ mrX6_isReportEmpty 20 0 0 (fun o μ' => ∃ y, o = .inl (some (.int y)) ∧ y = bI (decide (S.2.1.1 = 0)) ∧ ∃ m1, μ' = MM σ m1 ml ∧ m1 m 0 = nI 0 ∧ MA m1 m S ∧ (∀ a i, (a < m ∨ m + 101 ≤ a) → m1 a i = mi a i) ∧ (S.2.1.1 ≠ 0 → AN m1 m S.1 ∧ m1 m 31 = msk (fun k => bp (Rc (S.2.1.2 0) k)) ∧ (∀ v, v < 4 → m1 (m + 84) v = msk (fun b => bp (PM (S.2.1.2 0) v b))) ∧ ∀ b, b < 14 → ∀ k, k < 6 → m1 (m + 86 + b) k = oldU (S.2.1.2 0) b k))) 0 0 79 [some (.ref m), some (.int (nI b)), o2, o3] [] (MM σ m1 ml) := fun hn => loop_up _ (fun b hb ih m1 o2 o3 k1 k0 kr kg kn k31 k84 k86 => by
    have hw0 := hS.2.1.2 0 (by omega)
    have h14' := hw0.2.1
    have h6 := (hw0.2.2.1 b).1
    have lpK : b < 14 → ∀ k, k ≤ 6 → ∀ m1 o3, (∀ a i, ((a = m ∧ (i = 8 ∨ i = 9 ∨ i = 11 ∨ i = 13 ∨ i = 34)) ∨ (m + 34 ≤ a ∧ a < m + 42) ∨ a = m + 43 ∨ a = m + 44 ∨ a = m + 100 ∨ a < m ∨ m + 101 ≤ a) → m1 a i = mi a i) → m1 m 0 = nI 0 → RowA m1 (m + 42) S.1 → GM m1 m (S.2.1.2 0) → AN m1 m (S.2.1.2 0) → m1 m 31 = msk (fun k => bp (Rc (S.2.1.2 0) k)) → (∀ v, v < 4 → m1 (m + 84) v = msk (fun b => bp (PM (S.2.1.2 0) v b))) → (∀ c, c < b → ∀ k, k < 6 → m1 (m + 86 + c) k = oldU (S.2.1.2 0) c k) → (∀ z, z < k → m1 (m + 86 + b) z = oldU (S.2.1.2 0) b z) → V κ (phiP κ mrX6_isReportEmpty 20 0 0 (fun o μ' => ∃ y, o = .inl (some (.int y)) ∧ y = bI (decide (S.2.1.1 = 0)) ∧ ∃ m1, μ' = MM σ m1 ml ∧ m1 m 0 = nI 0 ∧ MA m1 m S ∧ (∀ a i, (a < m ∨ m + 101 ≤ a) → m1 a i = mi a i) ∧ (S.2.1.1 ≠ 0 → AN m1 m S.1 ∧ m1 m 31 = msk (fun k => bp (Rc (S.2.1.2 0) k)) ∧ (∀ v, v < 4 → m1 (m + 84) v = msk (fun b => bp (PM (S.2.1.2 0) v b))) ∧ ∀ b, b < 14 → ∀ k, k < 6 → m1 (m + 86 + b) k = oldU (S.2.1.2 0) b k))) 0 0 87 [some (.ref m), some (.int (nI b)), some (.int (nI k)), o3] [] (MM σ m1 ml) := fun hb2 => loop_up _ (fun k hk ih2 m1 o3 k1 k0 kr kg kn k31 k84 k86 kz => by
      have store : k < 6 → ∀ o3, V κ (phiP κ mrX6_isReportEmpty 20 0 0 (fun o μ' => ∃ y, o = .inl (some (.int y)) ∧ y = bI (decide (S.2.1.1 = 0)) ∧ ∃ m1, μ' = MM σ m1 ml ∧ m1 m 0 = nI 0 ∧ MA m1 m S ∧ (∀ a i, (a < m ∨ m + 101 ≤ a) → m1 a i = mi a i) ∧ (S.2.1.1 ≠ 0 → AN m1 m S.1 ∧ m1 m 31 = msk (fun k => bp (Rc (S.2.1.2 0) k)) ∧ (∀ v, v < 4 → m1 (m + 84) v = msk (fun b => bp (PM (S.2.1.2 0) v b))) ∧ ∀ b, b < 14 → ∀ k, k < 6 → m1 (m + 86 + b) k = oldU (S.2.1.2 0) b k))) 0 0 87 [some (.ref m), some (.int (nI b)), some (.int (nI (k + 1))), o3] [] (MM σ (u2 m1 (m + 86 + b) k (oldU (S.2.1.2 0) b k)) ml) := fun hk2 o3 =>
        ih2 hk2 _ _ (fun a i q => (u2_n _ _ (by omega)).trans (k1 a i q)) ((u2_n _ _ (by omega)).trans k0) (kr.keep (fun j => u2_n _ _ (by omega))) (kg.keep (fun a i q => u2_n _ _ (by omega))) (kn.keep hw0 (fun a i q => u2_n _ _ (by omega))) ((u2_n _ _ (by omega)).trans k31) (fun v hv => (u2_n _ _ (by omega)).trans (k84 v hv)) (fun c hc z hz => (u2_n _ _ (by omega)).trans (k86 c hc z hz)) (fun z hz => by
          by_cases e : z = k
          · subst e; exact u2_s _ _ _ _
          · exact (u2_n _ _ (Or.inr e)).trans (kz z (by omega)))
      have J : k < 6 → ∀ s : Bool, s = (bp (Rc (S.2.1.2 0) b) && (decide (k < ((S.2.1.2 0).2.1 b).length) && decide (10 ≤ ((S.2.1.2 0).2.1 b).getD k 0))) → V κ (phiP κ mrX6_isReportEmpty 20 0 0 (fun o μ' => ∃ y, o = .inl (some (.int y)) ∧ y = bI (decide (S.2.1.1 = 0)) ∧ ∃ m1, μ' = MM σ m1 ml ∧ m1 m 0 = nI 0 ∧ MA m1 m S ∧ (∀ a i, (a < m ∨ m + 101 ≤ a) → m1 a i = mi a i) ∧ (S.2.1.1 ≠ 0 → AN m1 m S.1 ∧ m1 m 31 = msk (fun k => bp (Rc (S.2.1.2 0) k)) ∧ (∀ v, v < 4 → m1 (m + 84) v = msk (fun b => bp (PM (S.2.1.2 0) v b))) ∧ ∀ b, b < 14 → ∀ k, k < 6 → m1 (m + 86 + b) k = oldU (S.2.1.2 0) b k))) 0 0 140 [some (.ref m), some (.int (nI b)), some (.int (nI k)), o3] [.int (bI s)] (MM σ m1 ml) := fun hk2 s hs => by
        cases s with
        | false =>
          have hx : oldU (S.2.1.2 0) b k = -1 := by unfold oldU; rw [if_neg (by rw [← hs]; decide)]
          refine V_istore_n dX6_isReportEmpty_140 rfl (Nat.le_of_ble_eq_true rfl) ?_
          refine V_aload_n dX6_isReportEmpty_141 rfl rfl ?_
          refine V_getR frX6_77 hM.1 rfl dX6_isReportEmpty_142 ?_
          refine V_iload_n dX6_isReportEmpty_145 rfl rfl ?_
          refine V_aaldR hM.2.2.2.2.2.2.2.2.2.2.2.2.2.2.2.2.2.2.2.2.2 (b) rfl hb2 (by decide) dX6_isReportEmpty_146 ?_
          refine V_iload_n dX6_isReportEmpty_147 rfl rfl ?_
          refine V_iload_n dX6_isReportEmpty_148 rfl rfl ?_
          refine V_ifeqB 174 dX6_isReportEmpty_149 (by decide) (fun h149 => ?_) (fun h149 => absurd (h149.symm.trans rfl) (by decide))
          refine V_iconst (v := (-1)) dX6_isReportEmpty_174 (by decide) ?_
          refine V_iastN (hM.2.2.2.2.2.2.2.2.2.2.2.2.2.2.2.2.2.2.2.2.2.row (j := b) hb2) k rfl (by omega) (by decide) dX6_isReportEmpty_175 ?_
          refine V_iinc1 dX6_isReportEmpty_176 rfl (Nat.le_of_ble_eq_true rfl) ?_
          refine V_goto 87 dX6_isReportEmpty_179 (by decide) ?_
          exact V.cM (store hk2 _) (by rw [hx])

        | true =>
          have hx : oldU (S.2.1.2 0) b k = nI (10000 * ((S.2.1.2 0).2.1 b).getD k 0 + srcU (S.2.1.2 0) b k) := by unfold oldU; rw [if_pos hs.symm]
          have hs2 := hs.symm
          rw [Bool.and_eq_true, Bool.and_eq_true, bp_t, decide_eq_true_iff, decide_eq_true_iff] at hs2
          refine V_istore_n dX6_isReportEmpty_140 rfl (Nat.le_of_ble_eq_true rfl) ?_
          refine V_aload_n dX6_isReportEmpty_141 rfl rfl ?_
          refine V_getR frX6_77 hM.1 rfl dX6_isReportEmpty_142 ?_
          refine V_iload_n dX6_isReportEmpty_145 rfl rfl ?_
          refine V_aaldR hM.2.2.2.2.2.2.2.2.2.2.2.2.2.2.2.2.2.2.2.2.2 (b) rfl hb2 (by decide) dX6_isReportEmpty_146 ?_
          refine V_iload_n dX6_isReportEmpty_147 rfl rfl ?_
          refine V_iload_n dX6_isReportEmpty_148 rfl rfl ?_
          refine V_ifeqB 174 dX6_isReportEmpty_149 (by decide) (fun h149 => absurd (h149.symm.trans rfl) (by decide)) (fun h149 => ?_)
          refine V_sipush (v := nI 10000) dX6_isReportEmpty_152 (by decide) ?_
          refine V_aload_n dX6_isReportEmpty_155 rfl rfl ?_
          refine V_getR frX6_22 hM.1 rfl dX6_isReportEmpty_156 ?_
          refine V_iload_n dX6_isReportEmpty_159 rfl rfl ?_
          refine V_aaldR hM.2.2.2.2.2.2.2.2.2.2.2.2.2.2.2.2.1 (b) rfl hb2 (by decide) dX6_isReportEmpty_160 ?_
          refine V_iload_n dX6_isReportEmpty_161 rfl rfl ?_
          refine V_ialdE (hM.2.2.2.2.2.2.2.2.2.2.2.2.2.2.2.2.1.row (j := b) hb2) k rfl (by omega) (by decide) ((kg.2 b hb2).2.2.1 k hs2.2.1) dX6_isReportEmpty_162 ?_
          refine V_imul dX6_isReportEmpty_163 ?_
          refine V_aload_n dX6_isReportEmpty_164 rfl rfl ?_
          refine V_iload_n dX6_isReportEmpty_165 rfl rfl ?_
          refine V_iload_n dX6_isReportEmpty_166 rfl rfl ?_
          refine V_cv1 (ctX6_useSource hM kg hw0 kn hs2.1 hs2.2.1 hs2.2.2) mvX6_useSource lkX6_216 hM.1 rfl rfl rfl (Nat.le_of_ble_eq_true rfl) ⟨⟨Nat.le_of_ble_eq_true rfl, Nat.le_of_ble_eq_true rfl⟩, Nat.le_of_ble_eq_true rfl, Nat.le_of_ble_eq_true rfl⟩ dX6_isReportEmpty_167 ?_
          refine V_iadd dX6_isReportEmpty_170 ?_
          refine V_top (show nI 10000 * nI _ + nI _ = nI (10000 * ((S.2.1.2 0).2.1 b).getD k 0 + srcU (S.2.1.2 0) b k) by rw [pk_mul, nI_add]) ?_
          refine V_goto 175 dX6_isReportEmpty_171 (by decide) ?_
          refine V_iastN (hM.2.2.2.2.2.2.2.2.2.2.2.2.2.2.2.2.2.2.2.2.2.row (j := b) hb2) k rfl (by omega) (by decide) dX6_isReportEmpty_175 ?_
          refine V_iinc1 dX6_isReportEmpty_176 rfl (Nat.le_of_ble_eq_true rfl) ?_
          refine V_goto 87 dX6_isReportEmpty_179 (by decide) ?_
          exact V.cM (store hk2 _) (by rw [hx])

      refine V_iload_n dX6_isReportEmpty_87 rfl rfl ?_
      refine V_bipush (v := nI 6) dX6_isReportEmpty_88 (by decide) ?_
      refine V_N_ge (by omega) (by omega) 182 dX6_isReportEmpty_90 (by decide) (fun h90 => ?_) (fun h90 => ?_)
      · refine V_iinc1 dX6_isReportEmpty_182 rfl (Nat.le_of_ble_eq_true rfl) ?_
        refine V_goto 79 dX6_isReportEmpty_185 (by decide) ?_
        exact ih hb2 m1 _ _ k1 k0 kr kg kn k31 k84 (fun c hc z hz => by
          rcases Nat.lt_or_ge c b with q | q
          · exact k86 c q z hz
          · have e : c = b := by omega
            subst e; exact kz z (by omega))
      · refine V_iload_n dX6_isReportEmpty_93 rfl rfl ?_
        refine V_aload_n dX6_isReportEmpty_94 rfl rfl ?_
        refine V_getE frX6_7 hM.1 rfl kg.1 dX6_isReportEmpty_95 ?_
        refine V_N_ge (by omega) (by omega) 139 dX6_isReportEmpty_98 (by decide) (fun h98 => ?_) (fun h98 => ?_)
        · refine V_iconst (v := nI 0) dX6_isReportEmpty_139 (by decide) ?_
          exact J h90 false (by rw [bp_neg (fun q => by have := q.lt hw0; omega)]; rfl)
        · refine V_aload_n dX6_isReportEmpty_101 rfl rfl ?_
          refine V_getE frX6_155 hM.1 rfl kn.1.1 dX6_isReportEmpty_102 ?_
          refine V_iload_n dX6_isReportEmpty_105 rfl rfl ?_
          refine V_cs1 (ctX6_hasM hb2) msX6_has lkX6_158 rfl rfl (Nat.le_of_ble_eq_true rfl) ⟨⟨Nat.le_of_ble_eq_true rfl, Nat.le_of_ble_eq_true rfl⟩, Nat.le_of_ble_eq_true rfl, Nat.le_of_ble_eq_true rfl⟩ dX6_isReportEmpty_106 ?_
          refine V_ifeqB 139 dX6_isReportEmpty_109 (by decide) (fun h109 => ?_) (fun h109 => ?_)
          · refine V_iconst (v := nI 0) dX6_isReportEmpty_139 (by decide) ?_
            exact J h90 false (by rw [h109]; rfl)
          · refine V_iload_n dX6_isReportEmpty_112 rfl rfl ?_
            refine V_aload_n dX6_isReportEmpty_113 rfl rfl ?_
            refine V_getR frX6_13 hM.1 rfl dX6_isReportEmpty_114 ?_
            refine V_iload_n dX6_isReportEmpty_117 rfl rfl ?_
            refine V_ialdE hM.2.1 b rfl (by omega) (by decide) ((kg.2 b hb2).1) dX6_isReportEmpty_118 ?_
            refine V_N_ge (by omega) (by omega) 139 dX6_isReportEmpty_119 (by decide) (fun h119 => ?_) (fun h119 => ?_)
            · refine V_iconst (v := nI 0) dX6_isReportEmpty_139 (by decide) ?_
              exact J h90 false (by rw [decide_eq_false (by omega : ¬ k < ((S.2.1.2 0).2.1 b).length), Bool.false_and, Bool.and_false])
            · have ha := act14 hw0 h119
              refine V_aload_n dX6_isReportEmpty_122 rfl rfl ?_
              refine V_getR frX6_22 hM.1 rfl dX6_isReportEmpty_123 ?_
              refine V_iload_n dX6_isReportEmpty_126 rfl rfl ?_
              refine V_aaldR hM.2.2.2.2.2.2.2.2.2.2.2.2.2.2.2.2.1 (b) rfl hb2 (by decide) dX6_isReportEmpty_127 ?_
              refine V_iload_n dX6_isReportEmpty_128 rfl rfl ?_
              refine V_ialdE (hM.2.2.2.2.2.2.2.2.2.2.2.2.2.2.2.2.1.row (j := b) hb2) k rfl (by omega) (by decide) ((kg.2 b hb2).2.2.1 k h119) dX6_isReportEmpty_129 ?_
              refine V_bipush (v := nI 10) dX6_isReportEmpty_130 (by decide) ?_
              refine V_N_lt (by omega) (by omega) 139 dX6_isReportEmpty_132 (by decide) (fun h132 => ?_) (fun h132 => ?_)
              · refine V_iconst (v := nI 0) dX6_isReportEmpty_139 (by decide) ?_
                exact J h90 false (by rw [decide_eq_false (by omega : ¬ 10 ≤ ((S.2.1.2 0).2.1 b).getD k 0), Bool.and_false, Bool.and_false])
              · refine V_iconst (v := nI 1) dX6_isReportEmpty_135 (by decide) ?_
                refine V_goto 140 dX6_isReportEmpty_136 (by decide) ?_
                exact J h90 true (by rw [h109, decide_eq_true h119, decide_eq_true h132]; rfl)
      )
    refine V_iload_n dX6_isReportEmpty_79 rfl rfl ?_
    refine V_bipush (v := nI 14) dX6_isReportEmpty_80 (by decide) ?_
    refine V_N_ge (by omega) (by omega) 188 dX6_isReportEmpty_82 (by decide) (fun h82 => ?_) (fun h82 => ?_)
    · exact fin hn m1 _ _ _ k1 k0 kr ⟨k31, k84, fun c hc z hz => k86 c (by omega) z hz⟩
    · refine V_iconst (v := nI 0) dX6_isReportEmpty_85 (by decide) ?_
      refine V_istore_n dX6_isReportEmpty_86 rfl (Nat.le_of_ble_eq_true rfl) ?_
      exact lpK h82 0 (Nat.zero_le _) m1 _ k1 k0 kr kg kn k31 k84 k86 (fun z hz => absurd hz (Nat.not_lt_zero z))
    )
  have lpV : S.2.1.1 ≠ 0 → ∀ v, v ≤ 4 → ∀ m1 o2 o3, (∀ a i, ((a = m ∧ (i = 8 ∨ i = 9 ∨ i = 11 ∨ i = 13 ∨ i = 34)) ∨ (m + 34 ≤ a ∧ a < m + 42) ∨ a = m + 43 ∨ a = m + 44 ∨ a = m + 100 ∨ a < m ∨ m + 101 ≤ a) → m1 a i = mi a i) → m1 m 0 = nI 0 → RowA m1 (m + 42) S.1 → GM m1 m (S.2.1.2 0) → AN m1 m (S.2.1.2 0) → m1 m 31 = msk (fun k => bp (Rc (S.2.1.2 0) k)) → (∀ u, u < v → m1 (m + 84) u = msk (fun b => bp (PM (S.2.1.2 0) u b))) → V κ (phiP κ mrX6_isReportEmpty 20 0 0 (fun o μ' => ∃ y, o = .inl (some (.int y)) ∧ y = bI (decide (S.2.1.1 = 0)) ∧ ∃ m1, μ' = MM σ m1 ml ∧ m1 m 0 = nI 0 ∧ MA m1 m S ∧ (∀ a i, (a < m ∨ m + 101 ≤ a) → m1 a i = mi a i) ∧ (S.2.1.1 ≠ 0 → AN m1 m S.1 ∧ m1 m 31 = msk (fun k => bp (Rc (S.2.1.2 0) k)) ∧ (∀ v, v < 4 → m1 (m + 84) v = msk (fun b => bp (PM (S.2.1.2 0) v b))) ∧ ∀ b, b < 14 → ∀ k, k < 6 → m1 (m + 86 + b) k = oldU (S.2.1.2 0) b k))) 0 0 54 [some (.ref m), some (.int (nI v)), o2, o3] [] (MM σ m1 ml) := fun hn => loop_up _ (fun v hv ih m1 o2 o3 k1 k0 kr kg kn k31 k84 => by
    have hw0 := hS.2.1.2 0 (by omega)
    refine V_iload_n dX6_isReportEmpty_54 rfl rfl ?_
    refine V_iconst (v := nI 4) dX6_isReportEmpty_55 (by decide) ?_
    refine V_N_ge (by omega) (by omega) 77 dX6_isReportEmpty_56 (by decide) (fun h56 => ?_) (fun h56 => ?_)
    · refine V_iconst (v := nI 0) dX6_isReportEmpty_77 (by decide) ?_
      refine V_istore_n dX6_isReportEmpty_78 rfl (Nat.le_of_ble_eq_true rfl) ?_
      exact lpU hn 0 (Nat.zero_le _) m1 _ _ k1 k0 kr kg kn k31 (fun u hu => k84 u (by omega)) (fun c hc => absurd hc (Nat.not_lt_zero c))
    · refine V_aload_n dX6_isReportEmpty_59 rfl rfl ?_
      refine V_getR frX6_74 hM.1 rfl dX6_isReportEmpty_60 ?_
      refine V_iload_n dX6_isReportEmpty_63 rfl rfl ?_
      refine V_aload_n dX6_isReportEmpty_64 rfl rfl ?_
      refine V_getR frX6_65 hM.1 rfl dX6_isReportEmpty_65 ?_
      refine V_iload_n dX6_isReportEmpty_68 rfl rfl ?_
      refine V_ialdE hM.2.2.2.2.2.2.2.2.2.2.2.2.1 v rfl (by omega) (by decide) ((kn.2.2.2 v h56).2.2.1) dX6_isReportEmpty_69 ?_
      refine V_iastN hM.2.2.2.2.2.2.2.2.2.2.2.2.2.1 v rfl (by omega) (by decide) dX6_isReportEmpty_70 ?_
      refine V_iinc1 dX6_isReportEmpty_71 rfl (Nat.le_of_ble_eq_true rfl) ?_
      refine V_goto 54 dX6_isReportEmpty_74 (by decide) ?_
      exact ih h56 _ _ _ (fun a i q => (u2_n _ _ (by omega)).trans (k1 a i q)) ((u2_n _ _ (by omega)).trans k0) (kr.keep (fun j => u2_n _ _ (by omega))) (kg.keep (fun a i q => u2_n _ _ (by omega))) (kn.keep hw0 (fun a i q => u2_n _ _ (by omega))) ((u2_n _ _ (by omega)).trans k31) (fun u hu => by
        by_cases e : u = v
        · subst e; exact u2_s _ _ _ _
        · exact (u2_n _ _ (Or.inr e)).trans (k84 u (by omega)))
    )
  refine V_aload_n dX6_isReportEmpty_0 rfl rfl ?_
  refine V_iconst (v := nI 0) dX6_isReportEmpty_1 (by decide) ?_
  refine V_putI fpX6_83 rfl rfl hM.1 rfl dX6_isReportEmpty_2 ?_
  refine V_aload_n dX6_isReportEmpty_5 rfl rfl ?_
  refine V_getE frX6_90 hM.1 rfl ((u2_n _ _ (by omega)).trans hA.2.1.1) dX6_isReportEmpty_6 ?_
  refine V_Z_ne (by omega) 14 dX6_isReportEmpty_9 (by decide) (fun h9 => ?_) (fun h9 => ?_)
  · have hw0 := hS.2.1.2 0 (by omega)
    have hrow := hA.2.1.2 0 (by omega)
    rw [show S.2.1.1 - 1 - 0 = S.2.1.1 - 1 by omega] at hrow
    refine V_aload_n dX6_isReportEmpty_14 rfl rfl ?_
    refine V_aload_n dX6_isReportEmpty_15 rfl rfl ?_
    refine V_getR frX6_28 hM.1 rfl dX6_isReportEmpty_16 ?_
    refine V_bipush (v := nI 8) dX6_isReportEmpty_19 (by decide) ?_
    refine V_aaldR hM.2.2.2.2.2.2.2.2.2.2.2.2.2.2.2.2.2.2.1 (8) rfl (show 8 < 9 by omega) (by decide) dX6_isReportEmpty_21 ?_
    refine V_cp0 (ctX6_write hM hG.z hw (hM.2.2.2.2.2.2.2.2.2.2.2.2.2.2.2.2.2.2.1.row (j := 8) (by omega)) (by omega)) mvX6_write lkX6_93 hM.1 rfl rfl rfl (Nat.le_of_ble_eq_true rfl) ⟨⟨Nat.le_of_ble_eq_true rfl, Nat.le_of_ble_eq_true rfl⟩, Nat.le_of_ble_eq_true rfl, Nat.le_of_ble_eq_true rfl⟩ dX6_isReportEmpty_22 (fun μ1 hx => ?_)
    obtain ⟨m1, rfl, kr1, o1⟩ := hx
    refine V_aload_n dX6_isReportEmpty_25 rfl rfl ?_
    refine V_aload_n dX6_isReportEmpty_26 rfl rfl ?_
    refine V_getR frX6_28 hM.1 rfl dX6_isReportEmpty_27 ?_
    refine V_aload_n dX6_isReportEmpty_30 rfl rfl ?_
    refine V_getE frX6_90 hM.1 rfl ((o1 _ _ (by omega)).trans ((u2_n _ _ (by omega)).trans hA.2.1.1)) dX6_isReportEmpty_31 ?_
    refine V_iconst (v := nI 1) dX6_isReportEmpty_34 (by decide) ?_
    refine V_isub dX6_isReportEmpty_35 ?_
    refine V_top (nI_subN (by omega)) ?_
    refine V_aaldR hM.2.2.2.2.2.2.2.2.2.2.2.2.2.2.2.2.2.2.1 (S.2.1.1 - 1) rfl (show S.2.1.1 - 1 < 9 by omega) (by decide) dX6_isReportEmpty_36 ?_
    refine V_cp0 (ctX6_take hM (hrow.keep (fun j => (o1 _ _ (by omega)).trans (u2_n _ _ (by omega)))) hw0 (hM.2.2.2.2.2.2.2.2.2.2.2.2.2.2.2.2.2.2.1.row (j := S.2.1.1 - 1) (by omega)) (by omega)) mvX6_take lkX6_235 hM.1 rfl rfl rfl (Nat.le_of_ble_eq_true rfl) ⟨⟨Nat.le_of_ble_eq_true rfl, Nat.le_of_ble_eq_true rfl⟩, Nat.le_of_ble_eq_true rfl, Nat.le_of_ble_eq_true rfl⟩ dX6_isReportEmpty_37 (fun μ2 hx => ?_)
    obtain ⟨m2, rfl, g2, o2⟩ := hx
    refine V_aload_n dX6_isReportEmpty_40 rfl rfl ?_
    refine V_cp0 (ctX6_analyze hM g2 hw0) mvX6_analyze lkX6_196 hM.1 rfl rfl rfl (Nat.le_of_ble_eq_true rfl) ⟨⟨Nat.le_of_ble_eq_true rfl, Nat.le_of_ble_eq_true rfl⟩, Nat.le_of_ble_eq_true rfl, Nat.le_of_ble_eq_true rfl⟩ dX6_isReportEmpty_41 (fun μ3 hx => ?_)
    obtain ⟨m3, rfl, hn3, o3⟩ := hx
    have oo : ∀ a i, ¬ (a = m ∧ (i = 1 ∨ i = 20)) → (a < m + 1 ∨ (m + 33 ≤ a ∧ a < m + 47) ∨ m + 84 ≤ a) → m3 a i = m1 a i := fun a i q1 q2 => (o3 a i (by omega) (by omega)).trans (o2 a i (by omega) (by omega))
    refine V_aload_n dX6_isReportEmpty_44 rfl rfl ?_
    refine V_aload_n dX6_isReportEmpty_45 rfl rfl ?_
    refine V_getE frX6_155 hM.1 rfl hn3.1.1 dX6_isReportEmpty_46 ?_
    refine V_putI fpX6_238 rfl rfl hM.1 rfl dX6_isReportEmpty_49 ?_
    refine V_iconst (v := nI 0) dX6_isReportEmpty_52 (by decide) ?_
    refine V_istore_n dX6_isReportEmpty_53 rfl (Nat.le_of_ble_eq_true rfl) ?_
    exact lpV h9 0 (Nat.zero_le _) _ _ _ (fun a i q => (u2_n _ _ (by omega)).trans ((oo a i (by omega) (by omega)).trans ((o1 a i (by omega)).trans (u2_n _ _ (by omega))))) ((u2_n _ _ (by omega)).trans ((oo _ _ (by omega) (by omega)).trans ((o1 _ _ (by omega)).trans (u2_s _ _ _ _)))) (kr1.keep (fun j => (u2_n _ _ (by omega)).trans (oo _ _ (by omega) (by omega)))) ((GM_off g2 o3).keep (fun a i q => u2_n _ _ (by omega))) (hn3.keep hw0 (fun a i q => u2_n _ _ (by omega))) (u2_s _ _ _ _) (fun u hu => absurd hu (Nat.not_lt_zero u))
  · refine V_iconst (v := nI 1) dX6_isReportEmpty_12 (by decide) ?_
    exact V_zretP rfl rfl ⟨_, rfl, by rw [decide_eq_true h9]; rfl, _, rfl, u2_s _ _ _ _, hA.keep hS kep.rf.z, fun a i q => u2_n _ _ (by omega), fun q => absurd h9 q⟩ ⟨Nat.le_of_ble_eq_true rfl, Nat.le_of_ble_eq_true rfl⟩ dX6_isReportEmpty_13

theorem ctX6_addedMerges (hM : ML σ m) (hA : MA mi m S) (hS : SOK S)  : CtP κ 0 0 24 mrX6_addedMerges [.ref m] (MM σ mi ml) (MRz σ mi ml m (rs_addedMerges S)) := by
  have hw := hS.1
  have h14 := hw.2.1
  have hG := hA.1
  unfold rs_addedMerges
  refine CtP.of rfl (by simp [Value.category]) (Nat.le_of_ble_eq_true rfl) ?_
  have lp : S.2.1.1 ≠ 0 → ∀ m1, m1 m 0 = nI 0 → MA m1 m S → (∀ a i, (a < m ∨ m + 101 ≤ a) → m1 a i = mi a i) → AN m1 m S.1 → (∀ v, v < 4 → m1 (m + 84) v = msk (fun b => bp (PM (S.2.1.2 0) v b))) → ∀ v, v ≤ 4 → V κ (phiP κ mrX6_addedMerges 24 0 0 (MRz σ mi ml m (0, nI (if S.2.1.1 = 0 then 0 else adN S.1 (S.2.1.2 0)), S))) 0 0 13 [some (.ref m), some (.int (nI (sm (fun v => cnt (fun b => bp (PM S.1 v b) && !bp (PM (S.2.1.2 0) v b)) 14) v))), some (.int (nI v))] [] (MM σ m1 ml) := fun hn m1 g0 gA gf gn g84 => loop_up _ (fun v hv ih => by
    refine V_iload_n dX6_addedMerges_13 rfl rfl ?_
    refine V_iconst (v := nI 4) dX6_addedMerges_14 (by decide) ?_
    refine V_N_ge (by omega) (by omega) 45 dX6_addedMerges_15 (by decide) (fun h15 => ?_) (fun h15 => ?_)
    · refine V_iload_n dX6_addedMerges_45 rfl rfl ?_
      exact V_iretP rfl ⟨by rw [if_neg hn]; show _ = Sum.inl (some (Value.int (nI (adN S.1 (S.2.1.2 0))))); unfold adN; rw [show v = 4 by omega], ⟨m1, rfl, gA, g0, gf⟩⟩ ⟨Nat.le_of_ble_eq_true rfl, Nat.le_of_ble_eq_true rfl⟩ dX6_addedMerges_46
    · refine V_iload_n dX6_addedMerges_18 rfl rfl ?_
      refine V_aload_n dX6_addedMerges_19 rfl rfl ?_
      refine V_getR frX6_65 hM.1 rfl dX6_addedMerges_20 ?_
      refine V_iload_n dX6_addedMerges_23 rfl rfl ?_
      refine V_ialdE hM.2.2.2.2.2.2.2.2.2.2.2.2.1 v rfl (by omega) (by decide) ((gn.2.2.2 v h15).2.2.1) dX6_addedMerges_24 ?_
      refine V_aload_n dX6_addedMerges_25 rfl rfl ?_
      refine V_getR frX6_74 hM.1 rfl dX6_addedMerges_26 ?_
      refine V_iload_n dX6_addedMerges_29 rfl rfl ?_
      refine V_ialdE hM.2.2.2.2.2.2.2.2.2.2.2.2.2.1 v rfl (by omega) (by decide) (g84 v h15) dX6_addedMerges_30 ?_
      refine V_iconst (v := (-1)) dX6_addedMerges_31 (by decide) ?_
      refine V_ixor dX6_addedMerges_32 ?_
      refine V_iand dX6_addedMerges_33 ?_
      refine V_top (msk_andN _ _) ?_
      refine V_cs1 (ctX6_countBits) msX6_countBits lkX6_208 rfl rfl (Nat.le_of_ble_eq_true rfl) ⟨⟨Nat.le_of_ble_eq_true rfl, Nat.le_of_ble_eq_true rfl⟩, Nat.le_of_ble_eq_true rfl, Nat.le_of_ble_eq_true rfl⟩ dX6_addedMerges_34 ?_
      refine V_iadd dX6_addedMerges_37 ?_
      refine V_top (nI_add _ _) ?_
      refine V_istore_n dX6_addedMerges_38 rfl (Nat.le_of_ble_eq_true rfl) ?_
      refine V_iinc1 dX6_addedMerges_39 rfl (Nat.le_of_ble_eq_true rfl) ?_
      refine V_goto 13 dX6_addedMerges_42 (by decide) ?_
      exact ih h15
    )
  refine V_aload_n dX6_addedMerges_0 rfl rfl ?_
  refine V_cp1 (ctX6_isReportEmpty hM hA hS) mvX6_isReportEmpty lkX6_241 hM.1 rfl rfl rfl (Nat.le_of_ble_eq_true rfl) ⟨⟨Nat.le_of_ble_eq_true rfl, Nat.le_of_ble_eq_true rfl⟩, Nat.le_of_ble_eq_true rfl, Nat.le_of_ble_eq_true rfl⟩ dX6_addedMerges_1 (fun y μ1 hx => ?_)
  obtain ⟨rfl, m1, rfl, g0, gA, gf, gn⟩ := hx
  refine V_ifeqB 9 dX6_addedMerges_4 (by decide) (fun h4 => ?_) (fun h4 => ?_)
  · refine V_iconst (v := nI 0) dX6_addedMerges_9 (by decide) ?_
    refine V_istore_n dX6_addedMerges_10 rfl (Nat.le_of_ble_eq_true rfl) ?_
    refine V_iconst (v := nI 0) dX6_addedMerges_11 (by decide) ?_
    refine V_istore_n dX6_addedMerges_12 rfl (Nat.le_of_ble_eq_true rfl) ?_
    exact lp (of_decide_eq_false h4) m1 g0 gA gf (gn (of_decide_eq_false h4)).1 (gn (of_decide_eq_false h4)).2.2.1 0 (Nat.zero_le _)
  · refine V_iconst (v := nI 0) dX6_addedMerges_7 (by decide) ?_
    exact V_iretP rfl ⟨by rw [if_pos (of_decide_eq_true h4)], ⟨m1, rfl, gA, g0, gf⟩⟩ ⟨Nat.le_of_ble_eq_true rfl, Nat.le_of_ble_eq_true rfl⟩ dX6_addedMerges_8

theorem ctX6_removedMerges (hM : ML σ m) (hA : MA mi m S) (hS : SOK S)  : CtP κ 0 0 24 mrX6_removedMerges [.ref m] (MM σ mi ml) (MRz σ mi ml m (rs_removedMerges S)) := by
  have hw := hS.1
  have h14 := hw.2.1
  have hG := hA.1
  unfold rs_removedMerges
  refine CtP.of rfl (by simp [Value.category]) (Nat.le_of_ble_eq_true rfl) ?_
  have lp : S.2.1.1 ≠ 0 → ∀ m1, m1 m 0 = nI 0 → MA m1 m S → (∀ a i, (a < m ∨ m + 101 ≤ a) → m1 a i = mi a i) → AN m1 m S.1 → (∀ v, v < 4 → m1 (m + 84) v = msk (fun b => bp (PM (S.2.1.2 0) v b))) → ∀ v, v ≤ 4 → V κ (phiP κ mrX6_removedMerges 24 0 0 (MRz σ mi ml m (0, nI (if S.2.1.1 = 0 then 0 else adN (S.2.1.2 0) S.1), S))) 0 0 13 [some (.ref m), some (.int (nI (sm (fun v => cnt (fun b => bp (PM (S.2.1.2 0) v b) && !bp (PM S.1 v b)) 14) v))), some (.int (nI v))] [] (MM σ m1 ml) := fun hn m1 g0 gA gf gn g84 => loop_up _ (fun v hv ih => by
    refine V_iload_n dX6_removedMerges_13 rfl rfl ?_
    refine V_iconst (v := nI 4) dX6_removedMerges_14 (by decide) ?_
    refine V_N_ge (by omega) (by omega) 45 dX6_removedMerges_15 (by decide) (fun h15 => ?_) (fun h15 => ?_)
    · refine V_iload_n dX6_removedMerges_45 rfl rfl ?_
      exact V_iretP rfl ⟨by rw [if_neg hn]; show _ = Sum.inl (some (Value.int (nI (adN (S.2.1.2 0) S.1)))); unfold adN; rw [show v = 4 by omega], ⟨m1, rfl, gA, g0, gf⟩⟩ ⟨Nat.le_of_ble_eq_true rfl, Nat.le_of_ble_eq_true rfl⟩ dX6_removedMerges_46
    · refine V_iload_n dX6_removedMerges_18 rfl rfl ?_
      refine V_aload_n dX6_removedMerges_19 rfl rfl ?_
      refine V_getR frX6_74 hM.1 rfl dX6_removedMerges_20 ?_
      refine V_iload_n dX6_removedMerges_23 rfl rfl ?_
      refine V_ialdE hM.2.2.2.2.2.2.2.2.2.2.2.2.2.1 v rfl (by omega) (by decide) (g84 v h15) dX6_removedMerges_24 ?_
      refine V_aload_n dX6_removedMerges_25 rfl rfl ?_
      refine V_getR frX6_65 hM.1 rfl dX6_removedMerges_26 ?_
      refine V_iload_n dX6_removedMerges_29 rfl rfl ?_
      refine V_ialdE hM.2.2.2.2.2.2.2.2.2.2.2.2.1 v rfl (by omega) (by decide) ((gn.2.2.2 v h15).2.2.1) dX6_removedMerges_30 ?_
      refine V_iconst (v := (-1)) dX6_removedMerges_31 (by decide) ?_
      refine V_ixor dX6_removedMerges_32 ?_
      refine V_iand dX6_removedMerges_33 ?_
      refine V_top (msk_andN _ _) ?_
      refine V_cs1 (ctX6_countBits) msX6_countBits lkX6_208 rfl rfl (Nat.le_of_ble_eq_true rfl) ⟨⟨Nat.le_of_ble_eq_true rfl, Nat.le_of_ble_eq_true rfl⟩, Nat.le_of_ble_eq_true rfl, Nat.le_of_ble_eq_true rfl⟩ dX6_removedMerges_34 ?_
      refine V_iadd dX6_removedMerges_37 ?_
      refine V_top (nI_add _ _) ?_
      refine V_istore_n dX6_removedMerges_38 rfl (Nat.le_of_ble_eq_true rfl) ?_
      refine V_iinc1 dX6_removedMerges_39 rfl (Nat.le_of_ble_eq_true rfl) ?_
      refine V_goto 13 dX6_removedMerges_42 (by decide) ?_
      exact ih h15
    )
  refine V_aload_n dX6_removedMerges_0 rfl rfl ?_
  refine V_cp1 (ctX6_isReportEmpty hM hA hS) mvX6_isReportEmpty lkX6_241 hM.1 rfl rfl rfl (Nat.le_of_ble_eq_true rfl) ⟨⟨Nat.le_of_ble_eq_true rfl, Nat.le_of_ble_eq_true rfl⟩, Nat.le_of_ble_eq_true rfl, Nat.le_of_ble_eq_true rfl⟩ dX6_removedMerges_1 (fun y μ1 hx => ?_)
  obtain ⟨rfl, m1, rfl, g0, gA, gf, gn⟩ := hx
  refine V_ifeqB 9 dX6_removedMerges_4 (by decide) (fun h4 => ?_) (fun h4 => ?_)
  · refine V_iconst (v := nI 0) dX6_removedMerges_9 (by decide) ?_
    refine V_istore_n dX6_removedMerges_10 rfl (Nat.le_of_ble_eq_true rfl) ?_
    refine V_iconst (v := nI 0) dX6_removedMerges_11 (by decide) ?_
    refine V_istore_n dX6_removedMerges_12 rfl (Nat.le_of_ble_eq_true rfl) ?_
    exact lp (of_decide_eq_false h4) m1 g0 gA gf (gn (of_decide_eq_false h4)).1 (gn (of_decide_eq_false h4)).2.2.1 0 (Nat.zero_le _)
  · refine V_iconst (v := nI 0) dX6_removedMerges_7 (by decide) ?_
    exact V_iretP rfl ⟨by rw [if_pos (of_decide_eq_true h4)], ⟨m1, rfl, gA, g0, gf⟩⟩ ⟨Nat.le_of_ble_eq_true rfl, Nat.le_of_ble_eq_true rfl⟩ dX6_removedMerges_8

theorem ctX6_newlyReachable (hM : ML σ m) (hA : MA mi m S) (hS : SOK S)  : CtP κ 0 0 24 mrX6_newlyReachable [.ref m] (MM σ mi ml) (MRz σ mi ml m (rs_newlyReachable S)) := by
  have hw := hS.1
  have h14 := hw.2.1
  have hG := hA.1
  unfold rs_newlyReachable
  refine CtP.of rfl (by simp [Value.category]) (Nat.le_of_ble_eq_true rfl) ?_
  refine V_aload_n dX6_newlyReachable_0 rfl rfl ?_
  refine V_cp1 (ctX6_isReportEmpty hM hA hS) mvX6_isReportEmpty lkX6_241 hM.1 rfl rfl rfl (Nat.le_of_ble_eq_true rfl) ⟨⟨Nat.le_of_ble_eq_true rfl, Nat.le_of_ble_eq_true rfl⟩, Nat.le_of_ble_eq_true rfl, Nat.le_of_ble_eq_true rfl⟩ dX6_newlyReachable_1 (fun y μ1 hx => ?_)
  obtain ⟨rfl, m1, rfl, g0, gA, gf, gn⟩ := hx
  refine V_ifeqB 11 dX6_newlyReachable_4 (by decide) (fun h4 => ?_) (fun h4 => ?_)
  · refine V_aload_n dX6_newlyReachable_11 rfl rfl ?_
    refine V_getE frX6_155 hM.1 rfl ((gn (of_decide_eq_false h4)).1.1.1) dX6_newlyReachable_12 ?_
    refine V_aload_n dX6_newlyReachable_15 rfl rfl ?_
    refine V_getE frX6_238 hM.1 rfl ((gn (of_decide_eq_false h4)).2.1) dX6_newlyReachable_16 ?_
    refine V_iconst (v := (-1)) dX6_newlyReachable_19 (by decide) ?_
    refine V_ixor dX6_newlyReachable_20 ?_
    refine V_iand dX6_newlyReachable_21 ?_
    refine V_top (msk_andN _ _) ?_
    exact V_iretP rfl ⟨by rw [show msk (fun k => !decide (S.2.1.1 = 0) && (bp (Rc S.1 k) && !bp (Rc (S.2.1.2 0) k))) = msk (fun k => bp (Rc S.1 k) && !bp (Rc (S.2.1.2 0) k)) from msk_congr (fun k _ => by rw [h4]; rfl)], ⟨m1, rfl, gA, g0, gf⟩⟩ ⟨Nat.le_of_ble_eq_true rfl, Nat.le_of_ble_eq_true rfl⟩ dX6_newlyReachable_22
  · refine V_iconst (v := nI 0) dX6_newlyReachable_7 (by decide) ?_
    refine V_goto 22 dX6_newlyReachable_8 (by decide) ?_
    exact V_iretP rfl ⟨by rw [show msk (fun k => !decide (S.2.1.1 = 0) && (bp (Rc S.1 k) && !bp (Rc (S.2.1.2 0) k))) = nI 0 from msk_eq0.mpr (fun k _ => by rw [h4]; rfl)], ⟨m1, rfl, gA, g0, gf⟩⟩ ⟨Nat.le_of_ble_eq_true rfl, Nat.le_of_ble_eq_true rfl⟩ dX6_newlyReachable_22

theorem cnt_min {P : Nat → Bool} {b : Nat} : ∀ a, cnt (fun k => decide (k < b) && P k) a = cnt P (min a b)
  | 0 => by rw [Nat.zero_min]; rfl
  | a + 1 => by
    rw [cnt, cnt_min a]
    by_cases h : a < b
    · rw [decide_eq_true h, Bool.true_and, Nat.min_eq_left (by omega : a + 1 ≤ b), Nat.min_eq_left (by omega : a ≤ b), cnt]
    · rw [decide_eq_false h, Bool.false_and, Nat.min_eq_right (by omega : b ≤ a + 1), Nat.min_eq_right (by omega : b ≤ a)]; rfl
theorem ctX6_changedUses (hM : ML σ m) (hA : MA mi m S) (hS : SOK S)  : CtP κ 0 0 24 mrX6_changedUses [.ref m] (MM σ mi ml) (MRz σ mi ml m (rs_changedUses S)) := by
  have hw := hS.1
  have h14 := hw.2.1
  have hG := hA.1
  unfold rs_changedUses
  refine CtP.of rfl (by simp [Value.category]) (Nat.le_of_ble_eq_true rfl) ?_
  have lp : S.2.1.1 ≠ 0 → ∀ m1, m1 m 0 = nI 0 → MA m1 m S → (∀ a i, (a < m ∨ m + 101 ≤ a) → m1 a i = mi a i) → AN m1 m S.1 → (∀ b, b < 14 → ∀ k, k < 6 → m1 (m + 86 + b) k = oldU (S.2.1.2 0) b k) → ∀ b, b ≤ S.1.1 → ∀ o3 o4, V κ (phiP κ mrX6_changedUses 24 0 0 (MRz σ mi ml m (0, nI (if S.2.1.1 = 0 then 0 else chN S.1 (S.2.1.2 0)), S))) 0 0 13 [some (.ref m), some (.int (nI (sm (fun b => if bp (Rc S.1 b) = true then (if bp (Rc (S.2.1.2 0) b) = true then chB S.1 (S.2.1.2 0) b else 0) else 0) b))), some (.int (nI b)), o3, o4] [] (MM σ m1 ml) := fun hn m1 g0 gA gf gn g86 => loop_up _ (fun b hb ih o3 o4 => by
    have hw0 := hS.2.1.2 0 (by omega)
    have h6 := (hw.2.2.1 b).1
    have hG := gA.1
    have lpK : b < S.1.1 → ∀ k, k ≤ (S.1.2.1 b).length → ∀ o4, V κ (phiP κ mrX6_changedUses 24 0 0 (MRz σ mi ml m (0, nI (if S.2.1.1 = 0 then 0 else chN S.1 (S.2.1.2 0)), S))) 0 0 23 [some (.ref m), some (.int (nI (sm (fun b => if bp (Rc S.1 b) = true then (if bp (Rc (S.2.1.2 0) b) = true then chB S.1 (S.2.1.2 0) b else 0) else 0) b + if bp (Rc S.1 b) = true then cnt (fun k => bp (Rc (S.2.1.2 0) b) && (decide (k < ((S.2.1.2 0).2.1 b).length) && (decide (10 ≤ (S.1.2.1 b).getD k 0) && (decide ((S.1.2.1 b).getD k 0 = ((S.2.1.2 0).2.1 b).getD k 0) && decide (srcU S.1 b k ≠ srcU (S.2.1.2 0) b k))))) k else 0))), some (.int (nI b)), some (.int (nI k)), o4] [] (MM σ m1 ml) := fun hb2 => loop_up _ (fun k hk ih2 o4 => by
      have ob : k < (S.1.2.1 b).length → (bp (Rc (S.2.1.2 0) b) && (decide (k < ((S.2.1.2 0).2.1 b).length) && decide (10 ≤ ((S.2.1.2 0).2.1 b).getD k 0))) = true → oldU (S.2.1.2 0) b k = nI (10000 * ((S.2.1.2 0).2.1 b).getD k 0 + srcU (S.2.1.2 0) b k) ∧ Rc (S.2.1.2 0) b ∧ k < ((S.2.1.2 0).2.1 b).length ∧ 10 ≤ ((S.2.1.2 0).2.1 b).getD k 0 ∧ ((S.2.1.2 0).2.1 b).getD k 0 < 14 ∧ srcU (S.2.1.2 0) b k ≤ 2000 := fun hk2 h => by
        have h' := h
        rw [Bool.and_eq_true, Bool.and_eq_true, bp_t, decide_eq_true_iff, decide_eq_true_iff] at h'
        have ha := act14 hw0 h'.2.1
        exact ⟨by unfold oldU; rw [if_pos h], h'.1, h'.2.1, h'.2.2, by omega, srcU_le hw0 h'.1 h'.2.1⟩
      have od : (bp (Rc (S.2.1.2 0) b) && (decide (k < ((S.2.1.2 0).2.1 b).length) && decide (10 ≤ ((S.2.1.2 0).2.1 b).getD k 0))) = false → oldU (S.2.1.2 0) b k = -1 := fun h => by unfold oldU; rw [if_neg (by rw [h]; decide)]
      have nxt : k < (S.1.2.1 b).length → bp (Rc S.1 b) = true → ∀ x : Nat, ∀ o4, x = (if (fun k => bp (Rc (S.2.1.2 0) b) && (decide (k < ((S.2.1.2 0).2.1 b).length) && (decide (10 ≤ (S.1.2.1 b).getD k 0) && (decide ((S.1.2.1 b).getD k 0 = ((S.2.1.2 0).2.1 b).getD k 0) && decide (srcU S.1 b k ≠ srcU (S.2.1.2 0) b k))))) k = true then 1 else 0) → V κ (phiP κ mrX6_changedUses 24 0 0 (MRz σ mi ml m (0, nI (if S.2.1.1 = 0 then 0 else chN S.1 (S.2.1.2 0)), S))) 0 0 130 [some (.ref m), some (.int (nI (sm (fun b => if bp (Rc S.1 b) = true then (if bp (Rc (S.2.1.2 0) b) = true then chB S.1 (S.2.1.2 0) b else 0) else 0) b + if bp (Rc S.1 b) = true then cnt (fun k => bp (Rc (S.2.1.2 0) b) && (decide (k < ((S.2.1.2 0).2.1 b).length) && (decide (10 ≤ (S.1.2.1 b).getD k 0) && (decide ((S.1.2.1 b).getD k 0 = ((S.2.1.2 0).2.1 b).getD k 0) && decide (srcU S.1 b k ≠ srcU (S.2.1.2 0) b k))))) k else 0))), some (.int (nI b)), some (.int (nI k)), o4] [.int (nI x), .int (nI (sm (fun b => if bp (Rc S.1 b) = true then (if bp (Rc (S.2.1.2 0) b) = true then chB S.1 (S.2.1.2 0) b else 0) else 0) b + if bp (Rc S.1 b) = true then cnt (fun k => bp (Rc (S.2.1.2 0) b) && (decide (k < ((S.2.1.2 0).2.1 b).length) && (decide (10 ≤ (S.1.2.1 b).getD k 0) && (decide ((S.1.2.1 b).getD k 0 = ((S.2.1.2 0).2.1 b).getD k 0) && decide (srcU S.1 b k ≠ srcU (S.2.1.2 0) b k))))) k else 0))] (MM σ m1 ml) := fun hk2 hR x o4 hx => by
        refine V_iadd dX6_changedUses_130 ?_
        refine V_top (nI_add _ _) ?_
        refine V_istore_n dX6_changedUses_131 rfl (Nat.le_of_ble_eq_true rfl) ?_
        refine V_iinc1 dX6_changedUses_132 rfl (Nat.le_of_ble_eq_true rfl) ?_
        refine V_goto 23 dX6_changedUses_135 (by decide) ?_
        exact V.cL (ih2 hk2 _) (by rw [if_pos hR, if_pos hR, hx, Nat.add_assoc, show cnt (fun k => bp (Rc (S.2.1.2 0) b) && (decide (k < ((S.2.1.2 0).2.1 b).length) && (decide (10 ≤ (S.1.2.1 b).getD k 0) && (decide ((S.1.2.1 b).getD k 0 = ((S.2.1.2 0).2.1 b).getD k 0) && decide (srcU S.1 b k ≠ srcU (S.2.1.2 0) b k))))) k + (if (fun k => bp (Rc (S.2.1.2 0) b) && (decide (k < ((S.2.1.2 0).2.1 b).length) && (decide (10 ≤ (S.1.2.1 b).getD k 0) && (decide ((S.1.2.1 b).getD k 0 = ((S.2.1.2 0).2.1 b).getD k 0) && decide (srcU S.1 b k ≠ srcU (S.2.1.2 0) b k))))) k = true then 1 else 0) = cnt (fun k => bp (Rc (S.2.1.2 0) b) && (decide (k < ((S.2.1.2 0).2.1 b).length) && (decide (10 ≤ (S.1.2.1 b).getD k 0) && (decide ((S.1.2.1 b).getD k 0 = ((S.2.1.2 0).2.1 b).getD k 0) && decide (srcU S.1 b k ≠ srcU (S.2.1.2 0) b k))))) (k + 1) from rfl]; rfl)

      refine V_iload_n dX6_changedUses_23 rfl rfl ?_
      refine V_aload_n dX6_changedUses_24 rfl rfl ?_
      refine V_getR frX6_13 hM.1 rfl dX6_changedUses_25 ?_
      refine V_iload_n dX6_changedUses_28 rfl rfl ?_
      refine V_ialdE hM.2.1 b rfl (by omega) (by decide) ((hG.2 b (by omega)).1) dX6_changedUses_29 ?_
      refine V_N_ge (by omega) (by omega) 138 dX6_changedUses_30 (by decide) (fun h30 => ?_) (fun h30 => ?_)
      · refine V_iinc1 dX6_changedUses_138 rfl (Nat.le_of_ble_eq_true rfl) ?_
        refine V_goto 13 dX6_changedUses_141 (by decide) ?_
        exact V.cL (ih hb2 _ _) (by
          rw [sm, show k = (S.1.2.1 b).length by omega]
          by_cases hR : bp (Rc S.1 b) = true
          · rw [if_pos hR, if_pos hR]
            by_cases hR2 : bp (Rc (S.2.1.2 0) b) = true
            · rw [if_pos hR2, show cnt (fun k => bp (Rc (S.2.1.2 0) b) && (decide (k < ((S.2.1.2 0).2.1 b).length) && (decide (10 ≤ (S.1.2.1 b).getD k 0) && (decide ((S.1.2.1 b).getD k 0 = ((S.2.1.2 0).2.1 b).getD k 0) && decide (srcU S.1 b k ≠ srcU (S.2.1.2 0) b k))))) (S.1.2.1 b).length = chB S.1 (S.2.1.2 0) b from by
                unfold chB
                rw [← cnt_min]
                exact cnt_congr _ (fun z _ => by rw [hR2]; rfl)]; rfl
            · rw [if_neg hR2, show cnt (fun k => bp (Rc (S.2.1.2 0) b) && (decide (k < ((S.2.1.2 0).2.1 b).length) && (decide (10 ≤ (S.1.2.1 b).getD k 0) && (decide ((S.1.2.1 b).getD k 0 = ((S.2.1.2 0).2.1 b).getD k 0) && decide (srcU S.1 b k ≠ srcU (S.2.1.2 0) b k))))) (S.1.2.1 b).length = 0 from by
                refine Nat.eq_zero_of_not_pos (fun q => ?_)
                obtain ⟨z, _, hz⟩ := (cnt_pos' _).mp q
                rw [Bool.and_eq_true] at hz
                exact hR2 hz.1]; rfl
          · rw [if_neg hR, if_neg hR]; rfl)
      · have ha := act14 hw h30
        refine V_aload_n dX6_changedUses_33 rfl rfl ?_
        refine V_getE frX6_155 hM.1 rfl gn.1.1 dX6_changedUses_34 ?_
        refine V_iload_n dX6_changedUses_37 rfl rfl ?_
        refine V_cs1 (ctX6_hasM (by omega)) msX6_has lkX6_158 rfl rfl (Nat.le_of_ble_eq_true rfl) ⟨⟨Nat.le_of_ble_eq_true rfl, Nat.le_of_ble_eq_true rfl⟩, Nat.le_of_ble_eq_true rfl, Nat.le_of_ble_eq_true rfl⟩ dX6_changedUses_38 ?_
        refine V_ifeqB 138 dX6_changedUses_41 (by decide) (fun h41 => ?_) (fun h41 => ?_)
        · refine V_iinc1 dX6_changedUses_138 rfl (Nat.le_of_ble_eq_true rfl) ?_
          refine V_goto 13 dX6_changedUses_141 (by decide) ?_
          exact V.cL (ih hb2 _ _) (by rw [sm, if_neg (by rw [h41]; decide), if_neg (by rw [h41]; decide)]; rfl)
        · have hRb := bp_t.mp h41
          refine V_aload_n dX6_changedUses_44 rfl rfl ?_
          refine V_getR frX6_22 hM.1 rfl dX6_changedUses_45 ?_
          refine V_iload_n dX6_changedUses_48 rfl rfl ?_
          refine V_aaldR hM.2.2.2.2.2.2.2.2.2.2.2.2.2.2.2.2.1 (b) rfl (show b < 14 by omega) (by decide) dX6_changedUses_49 ?_
          refine V_iload_n dX6_changedUses_50 rfl rfl ?_
          refine V_ialdE (hM.2.2.2.2.2.2.2.2.2.2.2.2.2.2.2.2.1.row (j := b) (show b < 14 by omega)) k rfl (by omega) (by decide) ((hG.2 b (by omega)).2.2.1 k h30) dX6_changedUses_51 ?_
          refine V_bipush (v := nI 10) dX6_changedUses_52 (by decide) ?_
          refine V_N_lt (by omega) (by omega) 95 dX6_changedUses_54 (by decide) (fun h54 => ?_) (fun h54 => ?_)
          · refine V_iconst (v := nI 0) dX6_changedUses_95 (by decide) ?_
            refine V_istore dX6_changedUses_96 (Nat.le_of_ble_eq_true rfl) ?_
            refine V_iload_n dX6_changedUses_98 rfl rfl ?_
            refine V_iload dX6_changedUses_99 rfl ?_
            refine V_if_eq 129 dX6_changedUses_101 (by decide) (fun h101 => ?_) (fun h101 => absurd rfl h101)
            refine V_iconst (v := nI 0) dX6_changedUses_129 (by decide) ?_
            exact nxt h30 h41 0 _ (by rw [if_neg (by show ¬ (_ && (_ && (_ && (_ && _)))) = true; rw [decide_eq_false (by omega : ¬ 10 ≤ (S.1.2.1 b).getD k 0), Bool.false_and, Bool.and_false, Bool.and_false]; decide)])
          · refine V_aload_n dX6_changedUses_57 rfl rfl ?_
            refine V_getR frX6_77 hM.1 rfl dX6_changedUses_58 ?_
            refine V_iload_n dX6_changedUses_61 rfl rfl ?_
            refine V_aaldR hM.2.2.2.2.2.2.2.2.2.2.2.2.2.2.2.2.2.2.2.2.2 (b) rfl (show b < 14 by omega) (by decide) dX6_changedUses_62 ?_
            refine V_iload_n dX6_changedUses_63 rfl rfl ?_
            refine V_ialdE (hM.2.2.2.2.2.2.2.2.2.2.2.2.2.2.2.2.2.2.2.2.2.row (j := b) (show b < 14 by omega)) k rfl (by omega) (by decide) (g86 b (by omega) k (by omega)) dX6_changedUses_64 ?_
            refine V_if_lt 95 dX6_changedUses_65 (by decide) (fun h65 => ?_) (fun h65 => ?_)
            · have hno : (bp (Rc (S.2.1.2 0) b) && (decide (k < ((S.2.1.2 0).2.1 b).length) && decide (10 ≤ ((S.2.1.2 0).2.1 b).getD k 0))) = false := Bool.eq_false_iff.mpr (fun q => by
                obtain ⟨e1, e2, e3, e4, e5, e6⟩ := ob h30 q
                rw [e1] at h65
                exact absurd h65 (nI_pos (by omega)))
              refine V_iconst (v := nI 0) dX6_changedUses_95 (by decide) ?_
              refine V_istore dX6_changedUses_96 (Nat.le_of_ble_eq_true rfl) ?_
              refine V_iload_n dX6_changedUses_98 rfl rfl ?_
              refine V_iload dX6_changedUses_99 rfl ?_
              refine V_if_eq 129 dX6_changedUses_101 (by decide) (fun h101 => ?_) (fun h101 => absurd rfl h101)
              refine V_iconst (v := nI 0) dX6_changedUses_129 (by decide) ?_
              exact nxt h30 h41 0 _ (by rw [if_neg (by show ¬ (_ && (_ && (_ && (_ && _)))) = true; intro q; rw [Bool.and_eq_true, Bool.and_eq_true, Bool.and_eq_true, Bool.and_eq_true] at q; have := of_decide_eq_true q.2.2.1; have h4 := of_decide_eq_true q.2.2.2.1; rw [Bool.and_eq_false_iff, Bool.and_eq_false_iff] at hno; rcases hno with w | w | w; exact absurd (q.1.symm.trans w) (by decide); exact absurd (q.2.1.symm.trans w) (by decide); exact absurd (of_decide_eq_false w) (by omega))])
            · have hyes : (bp (Rc (S.2.1.2 0) b) && (decide (k < ((S.2.1.2 0).2.1 b).length) && decide (10 ≤ ((S.2.1.2 0).2.1 b).getD k 0))) = true := by
                cases q : (bp (Rc (S.2.1.2 0) b) && (decide (k < ((S.2.1.2 0).2.1 b).length) && decide (10 ≤ ((S.2.1.2 0).2.1 b).getD k 0))) with
                | true => rfl
                | false => rw [od q] at h65; exact absurd (by decide) h65
              obtain ⟨e1, e2, e3, e4, e5, e6⟩ := ob h30 hyes
              obtain ⟨d1, d2⟩ := divA e4 e5 e6
              refine V_aload_n dX6_changedUses_68 rfl rfl ?_
              refine V_getR frX6_77 hM.1 rfl dX6_changedUses_69 ?_
              refine V_iload_n dX6_changedUses_72 rfl rfl ?_
              refine V_aaldR hM.2.2.2.2.2.2.2.2.2.2.2.2.2.2.2.2.2.2.2.2.2 (b) rfl (show b < 14 by omega) (by decide) dX6_changedUses_73 ?_
              refine V_iload_n dX6_changedUses_74 rfl rfl ?_
              refine V_ialdE (hM.2.2.2.2.2.2.2.2.2.2.2.2.2.2.2.2.2.2.2.2.2.row (j := b) (show b < 14 by omega)) k rfl (by omega) (by decide) ((g86 b (by omega) k (by omega)).trans e1) dX6_changedUses_75 ?_
              refine V_sipush (v := nI 10000) dX6_changedUses_76 (by decide) ?_
              refine V_idiv dX6_changedUses_79 (by decide) ?_
              refine V_top d1 ?_
              refine V_aload_n dX6_changedUses_80 rfl rfl ?_
              refine V_getR frX6_22 hM.1 rfl dX6_changedUses_81 ?_
              refine V_iload_n dX6_changedUses_84 rfl rfl ?_
              refine V_aaldR hM.2.2.2.2.2.2.2.2.2.2.2.2.2.2.2.2.1 (b) rfl (show b < 14 by omega) (by decide) dX6_changedUses_85 ?_
              refine V_iload_n dX6_changedUses_86 rfl rfl ?_
              refine V_ialdE (hM.2.2.2.2.2.2.2.2.2.2.2.2.2.2.2.2.1.row (j := b) (show b < 14 by omega)) k rfl (by omega) (by decide) ((hG.2 b (by omega)).2.2.1 k h30) dX6_changedUses_87 ?_
              refine V_N_ne (by omega) (by omega) 95 dX6_changedUses_88 (by decide) (fun h88 => ?_) (fun h88 => ?_)
              · refine V_iconst (v := nI 0) dX6_changedUses_95 (by decide) ?_
                refine V_istore dX6_changedUses_96 (Nat.le_of_ble_eq_true rfl) ?_
                refine V_iload_n dX6_changedUses_98 rfl rfl ?_
                refine V_iload dX6_changedUses_99 rfl ?_
                refine V_if_eq 129 dX6_changedUses_101 (by decide) (fun h101 => ?_) (fun h101 => absurd rfl h101)
                refine V_iconst (v := nI 0) dX6_changedUses_129 (by decide) ?_
                exact nxt h30 h41 0 _ (by rw [if_neg (by show ¬ (_ && (_ && (_ && (_ && _)))) = true; rw [decide_eq_false (show ¬ (S.1.2.1 b).getD k 0 = ((S.2.1.2 0).2.1 b).getD k 0 from fun q => h88 q.symm), Bool.false_and, Bool.and_false, Bool.and_false, Bool.and_false]; decide)])
              · refine V_iconst (v := nI 1) dX6_changedUses_91 (by decide) ?_
                refine V_goto 96 dX6_changedUses_92 (by decide) ?_
                refine V_istore dX6_changedUses_96 (Nat.le_of_ble_eq_true rfl) ?_
                refine V_iload_n dX6_changedUses_98 rfl rfl ?_
                refine V_iload dX6_changedUses_99 rfl ?_
                refine V_if_eq 129 dX6_changedUses_101 (by decide) (fun h101 => absurd h101 (by decide)) (fun h101 => ?_)
                refine V_aload_n dX6_changedUses_104 rfl rfl ?_
                refine V_getR frX6_77 hM.1 rfl dX6_changedUses_105 ?_
                refine V_iload_n dX6_changedUses_108 rfl rfl ?_
                refine V_aaldR hM.2.2.2.2.2.2.2.2.2.2.2.2.2.2.2.2.2.2.2.2.2 (b) rfl (show b < 14 by omega) (by decide) dX6_changedUses_109 ?_
                refine V_iload_n dX6_changedUses_110 rfl rfl ?_
                refine V_ialdE (hM.2.2.2.2.2.2.2.2.2.2.2.2.2.2.2.2.2.2.2.2.2.row (j := b) (show b < 14 by omega)) k rfl (by omega) (by decide) ((g86 b (by omega) k (by omega)).trans e1) dX6_changedUses_111 ?_
                refine V_sipush (v := nI 10000) dX6_changedUses_112 (by decide) ?_
                refine V_irem dX6_changedUses_115 (by decide) ?_
                refine V_top d2 ?_
                refine V_aload_n dX6_changedUses_116 rfl rfl ?_
                refine V_iload_n dX6_changedUses_117 rfl rfl ?_
                refine V_iload_n dX6_changedUses_118 rfl rfl ?_
                refine V_cv1 (ctX6_useSource hM hG hw gn hRb h30 (by omega)) mvX6_useSource lkX6_216 hM.1 rfl rfl rfl (Nat.le_of_ble_eq_true rfl) ⟨⟨Nat.le_of_ble_eq_true rfl, Nat.le_of_ble_eq_true rfl⟩, Nat.le_of_ble_eq_true rfl, Nat.le_of_ble_eq_true rfl⟩ dX6_changedUses_119 ?_
                refine V_N_eq (by omega) (by have := srcU_le hw hRb h30; omega) 129 dX6_changedUses_122 (by decide) (fun h122 => ?_) (fun h122 => ?_)
                · refine V_iconst (v := nI 0) dX6_changedUses_129 (by decide) ?_
                  exact nxt h30 h41 0 _ (by rw [if_neg (by show ¬ (_ && (_ && (_ && (_ && _)))) = true; rw [decide_eq_false (show ¬ srcU S.1 b k ≠ srcU (S.2.1.2 0) b k from fun q => q h122.symm), Bool.and_false, Bool.and_false, Bool.and_false, Bool.and_false]; decide)])
                · refine V_iconst (v := nI 1) dX6_changedUses_125 (by decide) ?_
                  refine V_goto 130 dX6_changedUses_126 (by decide) ?_
                  exact nxt h30 h41 1 _ (by rw [if_pos (by show (_ && (_ && (_ && (_ && _)))) = true; rw [bp_pos e2, decide_eq_true e3, decide_eq_true (by omega : 10 ≤ (S.1.2.1 b).getD k 0), decide_eq_true h88.symm, decide_eq_true (show srcU S.1 b k ≠ srcU (S.2.1.2 0) b k from fun q => h122 q.symm)]; rfl)])
      )
    refine V_iload_n dX6_changedUses_13 rfl rfl ?_
    refine V_aload_n dX6_changedUses_14 rfl rfl ?_
    refine V_getE frX6_7 hM.1 rfl hG.1 dX6_changedUses_15 ?_
    refine V_N_ge (by omega) (by omega) 144 dX6_changedUses_18 (by decide) (fun h18 => ?_) (fun h18 => ?_)
    · refine V_iload_n dX6_changedUses_144 rfl rfl ?_
      exact V_iretP rfl ⟨by
              rw [if_neg hn]
              show _ = Sum.inl (some (Value.int (nI (chN S.1 (S.2.1.2 0)))))
              rw [show chN S.1 (S.2.1.2 0) = sm (fun b => if bp (Rc S.1 b) = true then (if bp (Rc (S.2.1.2 0) b) = true then chB S.1 (S.2.1.2 0) b else 0) else 0) b from by
                unfold chN
                rw [show b = S.1.1 by omega, ← sm_cut hw]
                exact sm_congr 14 (fun z _ => by
                  cases bp (Rc S.1 z) <;> cases bp (Rc (S.2.1.2 0) z) <;> rfl)], ⟨m1, rfl, gA, g0, gf⟩⟩ ⟨Nat.le_of_ble_eq_true rfl, Nat.le_of_ble_eq_true rfl⟩ dX6_changedUses_145
    · refine V_iconst (v := nI 0) dX6_changedUses_21 (by decide) ?_
      refine V_istore_n dX6_changedUses_22 rfl (Nat.le_of_ble_eq_true rfl) ?_
      exact V.cL (lpK h18 0 (Nat.zero_le _) _) (by rw [show (if bp (Rc S.1 b) = true then cnt (fun k => bp (Rc (S.2.1.2 0) b) && (decide (k < ((S.2.1.2 0).2.1 b).length) && (decide (10 ≤ (S.1.2.1 b).getD k 0) && (decide ((S.1.2.1 b).getD k 0 = ((S.2.1.2 0).2.1 b).getD k 0) && decide (srcU S.1 b k ≠ srcU (S.2.1.2 0) b k))))) 0 else 0) = 0 by split <;> rfl, Nat.add_zero]; rfl)
    )
  refine V_aload_n dX6_changedUses_0 rfl rfl ?_
  refine V_cp1 (ctX6_isReportEmpty hM hA hS) mvX6_isReportEmpty lkX6_241 hM.1 rfl rfl rfl (Nat.le_of_ble_eq_true rfl) ⟨⟨Nat.le_of_ble_eq_true rfl, Nat.le_of_ble_eq_true rfl⟩, Nat.le_of_ble_eq_true rfl, Nat.le_of_ble_eq_true rfl⟩ dX6_changedUses_1 (fun y μ1 hx => ?_)
  obtain ⟨rfl, m1, rfl, g0, gA, gf, gn⟩ := hx
  refine V_ifeqB 9 dX6_changedUses_4 (by decide) (fun h4 => ?_) (fun h4 => ?_)
  · refine V_iconst (v := nI 0) dX6_changedUses_9 (by decide) ?_
    refine V_istore_n dX6_changedUses_10 rfl (Nat.le_of_ble_eq_true rfl) ?_
    refine V_iconst (v := nI 0) dX6_changedUses_11 (by decide) ?_
    refine V_istore_n dX6_changedUses_12 rfl (Nat.le_of_ble_eq_true rfl) ?_
    exact lp (of_decide_eq_false h4) m1 g0 gA gf (gn (of_decide_eq_false h4)).1 (gn (of_decide_eq_false h4)).2.2.2 0 (Nat.zero_le _) _ _
  · refine V_iconst (v := nI 0) dX6_changedUses_7 (by decide) ?_
    exact V_iretP rfl ⟨by rw [if_pos (of_decide_eq_true h4)], ⟨m1, rfl, gA, g0, gf⟩⟩ ⟨Nat.le_of_ble_eq_true rfl, Nat.le_of_ble_eq_true rfl⟩ dX6_changedUses_8

end Mdl12
