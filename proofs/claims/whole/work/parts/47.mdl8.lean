/-! SsaRepairModel: the calls that change -/
section Mdl8
variable {κ : K0} {σ : Nat → Option Kd} {mi : Nat → Nat → Int32} {ml : Nat → Nat → Int64} {m : Nat} {G : Gr} {S : SS} {μ : Mem}
theorem RowA.mv {mi m' : Nat → Nat → Int32} {r r' : Nat} {G : Gr} (h : RowA mi r G) (hw : Wf G) (hk : ∀ i, i < 160 → m' r' i = mi r i) : RowA m' r' G := by
  refine ⟨(hk _ (by omega)).trans h.1, fun b hb => ?_⟩
  obtain ⟨h1, h2, h3, h4⟩ := h.2 b hb
  have h6 := (hw.2.2.1 b).1
  have h33 := (hw.2.2.2.1 b).1
  exact ⟨(hk _ (by omega)).trans h1, (hk _ (by omega)).trans h2, fun k q => (hk _ (by omega)).trans (h3 k q), fun k q => (hk _ (by omega)).trans (h4 k q)⟩
theorem va_up_id {α : Type} (f : Nat → α) (b : Nat) : va_up f b (f b) = f := by
  funext k
  by_cases e : k = b
  · subst e; exact va_up_self _ _ _
  · exact va_up_ne _ _ e
theorem GM.upd {m1 : Nat → Nat → Int32} {b n' : Nat} {la le : List Nat} (h : GM mi m G) (hb : b < 14) (hn : m1 m 1 = nI n') (f1 : m1 (m + 1) b = nI la.length) (f2 : m1 (m + 2) b = nI le.length) (f3 : ∀ k, k < la.length → m1 (m + 4 + b) k = nI (la.getD k 0)) (f4 : ∀ k, k < le.length → m1 (m + 19 + b) k = nI (le.getD k 0)) (hk : ∀ c, c < 14 → c ≠ b → m1 (m + 1) c = mi (m + 1) c ∧ m1 (m + 2) c = mi (m + 2) c ∧ (∀ k, m1 (m + 4 + c) k = mi (m + 4 + c) k) ∧ ∀ k, m1 (m + 19 + c) k = mi (m + 19 + c) k) : GM m1 m (n', va_up G.2.1 b la, va_up G.2.2 b le) := by
  refine ⟨hn, fun c hc => ?_⟩
  show m1 (m + 1) c = nI (va_up G.2.1 b la c).length ∧ m1 (m + 2) c = nI (va_up G.2.2 b le c).length ∧ (∀ k, k < (va_up G.2.1 b la c).length → m1 (m + 4 + c) k = nI ((va_up G.2.1 b la c).getD k 0)) ∧ ∀ k, k < (va_up G.2.2 b le c).length → m1 (m + 19 + c) k = nI ((va_up G.2.2 b le c).getD k 0)
  by_cases e : c = b
  · subst e
    rw [va_up_self, va_up_self]
    exact ⟨f1, f2, f3, f4⟩
  · rw [va_up_ne _ _ e, va_up_ne _ _ e]
    obtain ⟨k1, k2, k3, k4⟩ := hk c hc e
    obtain ⟨h1, h2, h3, h4⟩ := h.2 c hc
    exact ⟨k1.trans h1, k2.trans h2, fun k q => (k3 k).trans (h3 k q), fun k q => (k4 k).trans (h4 k q)⟩
theorem MA.new {m1 : Nat → Nat → Int32} {G' : Gr} {n' : Nat} {Hs' : Nat → Gr} {C' : List Nat} {er : Int32} (hA : MA mi m S) (h1 : GM m1 m G') (h2 : m1 m 8 = nI n' ∧ ∀ i, i < n' → RowA m1 (m + 34 + (n' - 1 - i)) (Hs' i)) (h3 : m1 m 34 = nI 0) (h4 : m1 m 11 = nI C'.length ∧ ∀ i, i < C'.length → m1 (m + 44) i = nI (ch C' i)) (h5 : m1 m 13 = er) (hk : ∀ a i, ((a = m ∧ i = 9) ∨ a = m + 43) → m1 a i = mi a i) : MA m1 m (G', (n', Hs'), S.2.2.1, C', er, 0, S.2.2.2.2.2.2) :=
  ⟨h1, h2, ⟨(hk _ _ (by omega)).trans hA.2.2.1.1, fun g hg => (hA.2.2.1.2 g hg).keep (fun j => hk _ _ (by omega))⟩, h4, h5, h3, fun i q1 q2 => absurd q1 (by have q2' : i ≤ 0 := q2; omega)⟩
theorem MA.inp (hA : MA mi m S) {m1 : Nat → Nat → Int32} (hk : ∀ a i, ((a = m ∧ i = 11) ∨ a = m + 44) → m1 a i = mi a i) : m1 m 11 = nI S.2.2.2.1.length ∧ ∀ i, i < S.2.2.2.1.length → m1 (m + 44) i = nI (ch S.2.2.2.1 i) := ⟨(hk _ _ (by omega)).trans hA.2.2.2.1.1, fun i hi => (hk _ _ (by omega)).trans (hA.2.2.2.1.2 i hi)⟩
theorem ctX6_remember (hM : ML σ m) (hG : GM mi m G) (hw : Wf G) {n : Nat} {Hs : Nat → Gr} (hn : n ≤ 8) (h8 : mi m 8 = nI n) (hr : ∀ i, i < n → RowA mi (m + 34 + (n - 1 - i)) (Hs i)) (hwH : ∀ i, i < n → Wf (Hs i)) : CtP κ 0 0 3 mrX6_remember [.ref m] (MM σ mi ml) (fun o μ' => o = .inl none ∧ ∃ m1, μ' = MM σ m1 ml ∧ (m1 m 8 = nI (min (n + 1) 8) ∧ ∀ i, i < (min (n + 1) 8) → RowA m1 (m + 34 + ((min (n + 1) 8) - 1 - i)) (hcons G Hs i)) ∧ m1 m 34 = nI 0 ∧ (∀ a i, ¬ (a = m ∧ (i = 8 ∨ i = 34)) → (a < m + 34 ∨ m + 42 ≤ a) → m1 a i = mi a i)) := by
  refine CtP.of rfl (by simp [Value.category]) (Nat.le_of_ble_eq_true rfl) ?_
  have J : ∀ n0 m1 o1 o2, n0 ≤ 7 → (min (n + 1) 8) = n0 + 1 → n0 ≤ n → m1 m 8 = nI n0 → (∀ i, i < n0 → RowA m1 (m + 34 + (n0 - 1 - i)) (Hs i)) → (∀ a i, ¬ (a = m ∧ (i = 8 ∨ i = 34)) → (a < m + 34 ∨ m + 42 ≤ a) → m1 a i = mi a i) → V κ (phiP κ mrX6_remember 3 0 0 (fun o μ' => o = .inl none ∧ ∃ m1, μ' = MM σ m1 ml ∧ (m1 m 8 = nI (min (n + 1) 8) ∧ ∀ i, i < (min (n + 1) 8) → RowA m1 (m + 34 + ((min (n + 1) 8) - 1 - i)) (hcons G Hs i)) ∧ m1 m 34 = nI 0 ∧ (∀ a i, ¬ (a = m ∧ (i = 8 ∨ i = 34)) → (a < m + 34 ∨ m + 42 ≤ a) → m1 a i = mi a i))) 0 0 68 [some (.ref m), o1, o2] [] (MM σ m1 ml) := fun n0 m1 o1 o2 hn0 hnn hnl g8 gr go => by
    have hG1 : GM m1 m G := hG.keep (fun a i q => go a i (by omega) (by omega))
    refine V_aload_n dX6_remember_68 rfl rfl ?_
    refine V_aload_n dX6_remember_69 rfl rfl ?_
    refine V_getR frX6_28 hM.1 rfl dX6_remember_70 ?_
    refine V_aload_n dX6_remember_73 rfl rfl ?_
    refine V_getE frX6_90 hM.1 rfl g8 dX6_remember_74 ?_
    refine V_aaldR hM.2.2.2.2.2.2.2.2.2.2.2.2.2.2.2.2.2.2.1 (n0) rfl (show n0 < 9 by omega) (by decide) dX6_remember_77 ?_
    refine V_cp0 (ctX6_write hM hG1 hw (hM.2.2.2.2.2.2.2.2.2.2.2.2.2.2.2.2.2.2.1.row (j := n0) (by omega)) (by omega)) mvX6_write lkX6_93 hM.1 rfl rfl rfl (Nat.le_of_ble_eq_true rfl) ⟨⟨Nat.le_of_ble_eq_true rfl, Nat.le_of_ble_eq_true rfl⟩, Nat.le_of_ble_eq_true rfl, Nat.le_of_ble_eq_true rfl⟩ dX6_remember_78 (fun μ2 hx => ?_)
    obtain ⟨m2, rfl, kr, ko⟩ := hx
    refine V_aload_n dX6_remember_81 rfl rfl ?_
    refine V_dup dX6_remember_82 rfl ?_
    refine V_getE frX6_90 hM.1 rfl ((ko _ _ (by omega)).trans g8) dX6_remember_83 ?_
    refine V_iconst (v := nI 1) dX6_remember_86 (by decide) ?_
    refine V_iadd dX6_remember_87 ?_
    refine V_top (nI_add n0 1) ?_
    refine V_putI fpX6_90 rfl rfl hM.1 rfl dX6_remember_88 ?_
    refine V_aload_n dX6_remember_91 rfl rfl ?_
    refine V_iconst (v := nI 0) dX6_remember_92 (by decide) ?_
    refine V_putI fpX6_97 rfl rfl hM.1 rfl dX6_remember_93 ?_
    refine V_vretP rfl ⟨rfl, _, rfl, ⟨(u2_n _ _ (Or.inr (by decide))).trans ((u2_s _ _ _ _).trans (by rw [hnn])), fun i hi => ?_⟩, u2_s _ _ _ _, fun a i q1 q2 => (u2_n _ _ (by omega)).trans ((u2_n _ _ (by omega)).trans ((ko _ _ (by omega)).trans (go a i q1 q2)))⟩ ⟨Nat.le_of_ble_eq_true rfl, Nat.le_of_ble_eq_true rfl⟩ dX6_remember_96

    rw [hnn] at hi ⊢
    cases i with
    | zero =>
      rw [show m + 34 + (n0 + 1 - 1 - 0) = m + 34 + n0 by omega]
      exact kr.keep (fun j => (u2_n _ _ (Or.inl (by omega))).trans (u2_n _ _ (Or.inl (by omega))))
    | succ i =>
      rw [show m + 34 + (n0 + 1 - 1 - (i + 1)) = m + 34 + (n0 - 1 - i) by omega]
      exact (gr i (by omega)).keep (fun j => (u2_n _ _ (Or.inl (by omega))).trans ((u2_n _ _ (Or.inl (by omega))).trans (ko _ _ (by omega))))
  have lpK : n = 8 → ∀ k, k ≤ 7 → ∀ m1 o2, (∀ z, z < k → ∀ j, j < 160 → m1 (m + 34 + z) j = mi (m + 34 + (z + 1)) j) → (∀ z, k ≤ z → z < 8 → ∀ j, m1 (m + 34 + z) j = mi (m + 34 + z) j) → m1 m 8 = nI 7 → (∀ a i, ¬ (a = m ∧ (i = 8 ∨ i = 34)) → (a < m + 34 ∨ m + 42 ≤ a) → m1 a i = mi a i) → V κ (phiP κ mrX6_remember 3 0 0 (fun o μ' => o = .inl none ∧ ∃ m1, μ' = MM σ m1 ml ∧ (m1 m 8 = nI (min (n + 1) 8) ∧ ∀ i, i < (min (n + 1) 8) → RowA m1 (m + 34 + ((min (n + 1) 8) - 1 - i)) (hcons G Hs i)) ∧ m1 m 34 = nI 0 ∧ (∀ a i, ¬ (a = m ∧ (i = 8 ∨ i = 34)) → (a < m + 34 ∨ m + 42 ≤ a) → m1 a i = mi a i))) 0 0 21 [some (.ref m), some (.int (nI k)), o2] [] (MM σ m1 ml) := fun hn8 => loop_up _ (fun k hk ih m1 o2 j1 j2 j3 j4 => by
    have lpI : k < 7 → ∀ i, i ≤ 160 → ∀ m1, (∀ z, z < k → ∀ j, j < 160 → m1 (m + 34 + z) j = mi (m + 34 + (z + 1)) j) → (∀ j, j < i → m1 (m + 34 + k) j = mi (m + 34 + (k + 1)) j) → (∀ z, k < z → z < 8 → ∀ j, m1 (m + 34 + z) j = mi (m + 34 + z) j) → m1 m 8 = nI 7 → (∀ a i, ¬ (a = m ∧ (i = 8 ∨ i = 34)) → (a < m + 34 ∨ m + 42 ≤ a) → m1 a i = mi a i) → V κ (phiP κ mrX6_remember 3 0 0 (fun o μ' => o = .inl none ∧ ∃ m1, μ' = MM σ m1 ml ∧ (m1 m 8 = nI (min (n + 1) 8) ∧ ∀ i, i < (min (n + 1) 8) → RowA m1 (m + 34 + ((min (n + 1) 8) - 1 - i)) (hcons G Hs i)) ∧ m1 m 34 = nI 0 ∧ (∀ a i, ¬ (a = m ∧ (i = 8 ∨ i = 34)) → (a < m + 34 ∨ m + 42 ≤ a) → m1 a i = mi a i))) 0 0 31 [some (.ref m), some (.int (nI k)), some (.int (nI i))] [] (MM σ m1 ml) := fun hk2 => loop_up _ (fun i hi ih2 m1 j1 jk j2 j3 j4 => by
      refine V_iload_n dX6_remember_31 rfl rfl ?_
      refine V_sipush (v := nI 160) dX6_remember_32 (by decide) ?_
      refine V_N_ge (by omega) (by omega) 62 dX6_remember_35 (by decide) (fun h35 => ?_) (fun h35 => ?_)
      · refine V_iinc1 dX6_remember_62 rfl (Nat.le_of_ble_eq_true rfl) ?_
        refine V_goto 21 dX6_remember_65 (by decide) ?_
        exact ih hk2 m1 _ (fun z hz j hj => by
          rcases Nat.lt_or_ge z k with q | q
          · exact j1 z q j hj
          · have e : z = k := by omega
            subst e; exact jk j (by omega)) (fun z hz => j2 z (by omega)) j3 j4
      · refine V_aload_n dX6_remember_38 rfl rfl ?_
        refine V_getR frX6_28 hM.1 rfl dX6_remember_39 ?_
        refine V_iload_n dX6_remember_42 rfl rfl ?_
        refine V_aaldR hM.2.2.2.2.2.2.2.2.2.2.2.2.2.2.2.2.2.2.1 (k) rfl (show k < 9 by omega) (by decide) dX6_remember_43 ?_
        refine V_iload_n dX6_remember_44 rfl rfl ?_
        refine V_aload_n dX6_remember_45 rfl rfl ?_
        refine V_getR frX6_28 hM.1 rfl dX6_remember_46 ?_
        refine V_iload_n dX6_remember_49 rfl rfl ?_
        refine V_iconst (v := nI 1) dX6_remember_50 (by decide) ?_
        refine V_iadd dX6_remember_51 ?_
        refine V_top (nI_add k 1) ?_
        refine V_aaldR hM.2.2.2.2.2.2.2.2.2.2.2.2.2.2.2.2.2.2.1 (k + 1) rfl (show k + 1 < 9 by omega) (by decide) dX6_remember_52 ?_
        refine V_iload_n dX6_remember_53 rfl rfl ?_
        refine V_ialdE (hM.2.2.2.2.2.2.2.2.2.2.2.2.2.2.2.2.2.2.1.row (j := k + 1) (show k + 1 < 9 by omega)) i rfl (by omega) (by decide) (j2 (k + 1) (by omega) (by omega) i) dX6_remember_54 ?_
        refine V_iastN (hM.2.2.2.2.2.2.2.2.2.2.2.2.2.2.2.2.2.2.1.row (j := k) (show k < 9 by omega)) i rfl (by omega) (by decide) dX6_remember_55 ?_
        refine V_iinc1 dX6_remember_56 rfl (Nat.le_of_ble_eq_true rfl) ?_
        refine V_goto 31 dX6_remember_59 (by decide) ?_
        exact ih2 h35 _ (fun z hz j hj => (u2_n _ _ (Or.inl (by omega))).trans (j1 z hz j hj)) (fun j hj => by
          by_cases e : j = i
          · subst e; exact u2_s _ _ _ _
          · exact (u2_n _ _ (Or.inr e)).trans (jk j (by omega))) (fun z hz1 hz2 j => (u2_n _ _ (Or.inl (by omega))).trans (j2 z hz1 hz2 j)) ((u2_n _ _ (Or.inl (by omega))).trans j3) (fun a z q1 q2 => (u2_n _ _ (Or.inl (by omega))).trans (j4 a z q1 q2))
      )
    refine V_iload_n dX6_remember_21 rfl rfl ?_
    refine V_aload_n dX6_remember_22 rfl rfl ?_
    refine V_getE frX6_90 hM.1 rfl j3 dX6_remember_23 ?_
    refine V_N_ge (by omega) (by omega) 68 dX6_remember_26 (by decide) (fun h26 => ?_) (fun h26 => ?_)
    · exact J 7 m1 _ _ (Nat.le_refl _) (by omega) (by omega) j3 (fun i hi => (hr i (by omega)).mv (hwH i (by omega)) (fun j hj => by
        rw [j1 (7 - 1 - i) (by omega) j hj, show 7 - 1 - i + 1 = n - 1 - i by omega])) j4
    · refine V_iconst (v := nI 0) dX6_remember_29 (by decide) ?_
      refine V_istore_n dX6_remember_30 rfl (Nat.le_of_ble_eq_true rfl) ?_
      exact lpI h26 0 (Nat.zero_le _) m1 j1 (fun j hj => absurd hj (Nat.not_lt_zero j)) (fun z hz => j2 z (by omega)) j3 j4
    )
  refine V_aload_n dX6_remember_0 rfl rfl ?_
  refine V_getE frX6_90 hM.1 rfl h8 dX6_remember_1 ?_
  refine V_bipush (v := nI 8) dX6_remember_4 (by decide) ?_
  refine V_N_ne (by omega) (by omega) 68 dX6_remember_6 (by decide) (fun h6 => ?_) (fun h6 => ?_)
  · exact J n mi _ _ (by omega) (by omega) (Nat.le_refl _) h8 hr (fun _ _ _ _ => rfl)
  · refine V_aload_n dX6_remember_9 rfl rfl ?_
    refine V_dup dX6_remember_10 rfl ?_
    refine V_getE frX6_90 hM.1 rfl h8 dX6_remember_11 ?_
    refine V_iconst (v := nI 1) dX6_remember_14 (by decide) ?_
    refine V_isub dX6_remember_15 ?_
    refine V_top (nI_subN (by omega)) ?_
    refine V_putI fpX6_90 rfl rfl hM.1 rfl dX6_remember_16 ?_
    refine V_iconst (v := nI 0) dX6_remember_19 (by decide) ?_
    refine V_istore_n dX6_remember_20 rfl (Nat.le_of_ble_eq_true rfl) ?_
    exact lpK h6 0 (Nat.zero_le _) _ _ (fun z hz => absurd hz (Nat.not_lt_zero z)) (fun z _ _ j => u2_n _ _ (Or.inl (by omega))) ((u2_s _ _ _ _).trans (by rw [h6])) (fun a i q1 q2 => u2_n _ _ (by omega))

theorem ctX6_reset (hM : ML σ m) (hA : MA mi m S) (hS : SOK S) {p : Int32} : CtP κ 0 0 24 mrX6_reset [.ref m, .int p] (MM σ mi ml) (MRz σ mi ml m (rs_reset S p)) := by
  have hw := hS.1
  have h14 := hw.2.1
  have hG := hA.1
  cases hp : (decide (p < nI 1) || decide (nI 14 < p)) with
  | true =>
    have hb : (decide (nI 1 ≤ p) && decide (p ≤ nI 14)) = false := by
      rw [Bool.or_eq_true, decide_eq_true_iff, decide_eq_true_iff] at hp
      rcases hp with q | q
      · rw [decide_eq_false (Int32.not_le.mpr q)]; rfl
      · rw [decide_eq_false (p := p ≤ nI 14) (Int32.not_le.mpr q), Bool.and_false]
    rw [show rs_reset S p = (1, 0, S) from by unfold rs_reset; rw [if_pos hp]]
    refine CtP.of rfl (by simp [Value.category]) (Nat.le_of_ble_eq_true rfl) ?_
    refine V_aload_n dX6_reset_0 rfl rfl ?_
    refine V_iconst (v := nI 1) dX6_reset_1 (by decide) ?_
    refine V_iload_n dX6_reset_2 rfl rfl ?_
    refine V_iconst (v := nI 1) dX6_reset_3 (by decide) ?_
    refine V_bipush (v := nI 14) dX6_reset_4 (by decide) ?_
    refine V_cs1 (ctX6_isBetween) msX6_isBetween lkX6_86 rfl rfl (Nat.le_of_ble_eq_true rfl) ⟨⟨Nat.le_of_ble_eq_true rfl, Nat.le_of_ble_eq_true rfl⟩, Nat.le_of_ble_eq_true rfl, Nat.le_of_ble_eq_true rfl⟩ dX6_reset_6 ?_
    refine V_ifneB 16 dX6_reset_9 (by decide) (fun h9 => absurd (h9.symm.trans hb) (by decide)) (fun h9 => ?_)
    refine V_iconst (v := nI 1) dX6_reset_12 (by decide) ?_
    refine V_goto 17 dX6_reset_13 (by decide) ?_
    refine V_cv1 (ctX6_fails hM (k := nI 1) (c := true)) mvX6_fails lkX6_100 hM.1 rfl rfl rfl (Nat.le_of_ble_eq_true rfl) ⟨⟨Nat.le_of_ble_eq_true rfl, Nat.le_of_ble_eq_true rfl⟩, Nat.le_of_ble_eq_true rfl, Nat.le_of_ble_eq_true rfl⟩ dX6_reset_17 ?_
    refine V_ifeqB 25 dX6_reset_20 (by decide) (fun h20 => absurd (h20.symm.trans rfl) (by decide)) (fun h20 => ?_)
    refine V_iconst (v := nI 0) dX6_reset_23 (by decide) ?_
    exact V_iretP rfl ⟨rfl, MQz hA hS (by first | exact kep.rf.z | exact kep.rf.z.z | exact kep.rf.z.z.z) (u2_s _ _ _ _)⟩ ⟨Nat.le_of_ble_eq_true rfl, Nat.le_of_ble_eq_true rfl⟩ dX6_reset_24

  | false =>
    rw [Bool.or_eq_false_iff, decide_eq_false_iff_not, decide_eq_false_iff_not] at hp
    have hb : (decide (nI 1 ≤ p) && decide (p ≤ nI 14)) = true := by rw [decide_eq_true (Int32.not_lt.mp hp.1), decide_eq_true (Int32.not_lt.mp hp.2)]; rfl
    obtain ⟨j, hj1, hj2, rfl⟩ := pR hp.1 hp.2
    have tj := tn_nI (show j < 2 ^ 31 by omega)
    rw [show rs_reset S (nI j) = (0, nI S.1.1, ((j, fun _ => [], fun _ => []), (0, S.2.1.2), S.2.2.1, S.2.2.2.1, S.2.2.2.2.1, 0, S.2.2.2.2.2.2)) from by unfold rs_reset; rw [if_neg (by rw [decide_eq_false hp.1, decide_eq_false hp.2]; decide), tj]]
    refine CtP.of rfl (by simp [Value.category]) (Nat.le_of_ble_eq_true rfl) ?_
    have lp : ∀ b, b ≤ 14 → ∀ m1, m1 m 0 = nI 0 → m1 m 1 = nI j → (∀ c, c < b → m1 (m + 1) c = nI 0 ∧ m1 (m + 2) c = nI 0) → (∀ a i, ¬ (a = m ∧ (i = 0 ∨ i = 1)) → a ≠ m + 1 → a ≠ m + 2 → m1 a i = mi a i) → V κ (phiP κ mrX6_reset 24 0 0 (MRz σ mi ml m (0, nI S.1.1, ((j, fun _ => [], fun _ => []), (0, S.2.1.2), S.2.2.1, S.2.2.2.1, S.2.2.2.2.1, 0, S.2.2.2.2.2.2)))) 0 0 37 [some (.ref m), some (.int (nI j)), some (.int (nI S.1.1)), some (.int (nI b))] [] (MM σ m1 ml) := loop_up _ (fun b hb ih m1 g0 g1 g2 g3 => by
      refine V_iload_n dX6_reset_37 rfl rfl ?_
      refine V_bipush (v := nI 14) dX6_reset_38 (by decide) ?_
      refine V_N_ge (by omega) (by omega) 63 dX6_reset_40 (by decide) (fun h40 => ?_) (fun h40 => ?_)
      · refine V_aload_n dX6_reset_63 rfl rfl ?_
        refine V_iconst (v := nI 0) dX6_reset_64 (by decide) ?_
        refine V_putI fpX6_90 rfl rfl hM.1 rfl dX6_reset_65 ?_
        refine V_aload_n dX6_reset_68 rfl rfl ?_
        refine V_iconst (v := nI 0) dX6_reset_69 (by decide) ?_
        refine V_putI fpX6_97 rfl rfl hM.1 rfl dX6_reset_70 ?_
        refine V_iload_n dX6_reset_73 rfl rfl ?_
        exact V_iretP rfl ⟨rfl, _, rfl, hA.new ⟨((u2_n _ _ (by omega)).trans (u2_n _ _ (by omega))).trans g1, fun c hc => ⟨((u2_n _ _ (by omega)).trans (u2_n _ _ (by omega))).trans (g2 c (by omega)).1, ((u2_n _ _ (by omega)).trans (u2_n _ _ (by omega))).trans (g2 c (by omega)).2, fun k hk => absurd hk (Nat.not_lt_zero k), fun k hk => absurd hk (Nat.not_lt_zero k)⟩⟩ ⟨(u2_n _ _ (by omega)).trans (u2_s _ _ _ _), fun i hi => absurd hi (Nat.not_lt_zero i)⟩ (u2_s _ _ _ _) (hA.inp (fun a i q => ((u2_n _ _ (by omega)).trans (u2_n _ _ (by omega))).trans (g3 a i (by omega) (by omega) (by omega)))) ((((u2_n _ _ (by omega)).trans (u2_n _ _ (by omega))).trans (g3 _ _ (by omega) (by omega) (by omega))).trans hA.2.2.2.2.1) (fun a i q => ((u2_n _ _ (by omega)).trans (u2_n _ _ (by omega))).trans (g3 a i (by omega) (by omega) (by omega))), ((u2_n _ _ (by omega)).trans (u2_n _ _ (by omega))).trans g0, fun a i q => ((u2_n _ _ (by omega)).trans (u2_n _ _ (by omega))).trans (g3 a i (by omega) (by omega) (by omega))⟩ ⟨Nat.le_of_ble_eq_true rfl, Nat.le_of_ble_eq_true rfl⟩ dX6_reset_74
      · refine V_aload_n dX6_reset_43 rfl rfl ?_
        refine V_getR frX6_13 hM.1 rfl dX6_reset_44 ?_
        refine V_iload_n dX6_reset_47 rfl rfl ?_
        refine V_iconst (v := nI 0) dX6_reset_48 (by decide) ?_
        refine V_iastN hM.2.1 b rfl (by omega) (by decide) dX6_reset_49 ?_
        refine V_aload_n dX6_reset_50 rfl rfl ?_
        refine V_getR frX6_17 hM.1 rfl dX6_reset_51 ?_
        refine V_iload_n dX6_reset_54 rfl rfl ?_
        refine V_iconst (v := nI 0) dX6_reset_55 (by decide) ?_
        refine V_iastN hM.2.2.1 b rfl (by omega) (by decide) dX6_reset_56 ?_
        refine V_iinc1 dX6_reset_57 rfl (Nat.le_of_ble_eq_true rfl) ?_
        refine V_goto 37 dX6_reset_60 (by decide) ?_
        exact ih h40 _ (((u2_n _ _ (by omega)).trans (u2_n _ _ (by omega))).trans g0) (((u2_n _ _ (by omega)).trans (u2_n _ _ (by omega))).trans g1) (fun c hc => by
          by_cases e : c = b
          · subst e; exact ⟨(u2_n _ _ (by omega)).trans (u2_s _ _ _ _), u2_s _ _ _ _⟩
          · exact ⟨((u2_n _ _ (by omega)).trans (u2_n _ _ (by omega))).trans (g2 c (by omega)).1, ((u2_n _ _ (by omega)).trans (u2_n _ _ (by omega))).trans (g2 c (by omega)).2⟩) (fun a i q1 q2 q3 => ((u2_n _ _ (by omega)).trans (u2_n _ _ (by omega))).trans (g3 a i q1 q2 q3))
      )
    refine V_aload_n dX6_reset_0 rfl rfl ?_
    refine V_iconst (v := nI 1) dX6_reset_1 (by decide) ?_
    refine V_iload_n dX6_reset_2 rfl rfl ?_
    refine V_iconst (v := nI 1) dX6_reset_3 (by decide) ?_
    refine V_bipush (v := nI 14) dX6_reset_4 (by decide) ?_
    refine V_cs1 (ctX6_isBetween) msX6_isBetween lkX6_86 rfl rfl (Nat.le_of_ble_eq_true rfl) ⟨⟨Nat.le_of_ble_eq_true rfl, Nat.le_of_ble_eq_true rfl⟩, Nat.le_of_ble_eq_true rfl, Nat.le_of_ble_eq_true rfl⟩ dX6_reset_6 ?_
    refine V_ifneB 16 dX6_reset_9 (by decide) (fun h9 => ?_) (fun h9 => absurd (h9.symm.trans hb) (by decide))
    refine V_iconst (v := nI 0) dX6_reset_16 (by decide) ?_
    refine V_cv1 (ctX6_fails hM (k := nI 1) (c := false)) mvX6_fails lkX6_100 hM.1 rfl rfl rfl (Nat.le_of_ble_eq_true rfl) ⟨⟨Nat.le_of_ble_eq_true rfl, Nat.le_of_ble_eq_true rfl⟩, Nat.le_of_ble_eq_true rfl, Nat.le_of_ble_eq_true rfl⟩ dX6_reset_17 ?_
    refine V_ifeqB 25 dX6_reset_20 (by decide) (fun h20 => ?_) (fun h20 => absurd (h20.symm.trans rfl) (by decide))
    refine V_aload_n dX6_reset_25 rfl rfl ?_
    refine V_getE frX6_7 hM.1 rfl (hG.z.1) dX6_reset_26 ?_
    refine V_istore_n dX6_reset_29 rfl (Nat.le_of_ble_eq_true rfl) ?_
    refine V_aload_n dX6_reset_30 rfl rfl ?_
    refine V_iload_n dX6_reset_31 rfl rfl ?_
    refine V_putI fpX6_7 rfl rfl hM.1 rfl dX6_reset_32 ?_
    refine V_iconst (v := nI 0) dX6_reset_35 (by decide) ?_
    refine V_istore_n dX6_reset_36 rfl (Nat.le_of_ble_eq_true rfl) ?_
    exact lp 0 (Nat.zero_le _) _ ((u2_n _ _ (by omega)).trans (u2_s _ _ _ _)) (u2_s _ _ _ _) (fun c hc => absurd hc (Nat.not_lt_zero c)) (fun a i q1 q2 q3 => (u2_n _ _ (by omega)).trans (u2_n _ _ (by omega)))

theorem ctX6_append (hM : ML σ m) (hA : MA mi m S) (hS : SOK S) {c : Nat} (hc : c < 65536) : CtP κ 0 0 24 mrX6_append [.ref m, .int (nI c)] (MM σ mi ml) (MRz σ mi ml m (rs_append S c)) := by
  have hw := hS.1
  have h14 := hw.2.1
  have hG := hA.1
  have h30 := hS.2.2.2.1.1
  have hbt : (decide (nI 32 ≤ nI c) && decide (nI c ≤ nI 126)) = !(decide (c < 32) || decide (126 < c)) := by
    rw [show decide (nI 32 ≤ nI c) = decide (32 ≤ c) from decide_eq_decide.mpr (nI_leI (by omega) (by omega)), show decide (nI c ≤ nI 126) = decide (c ≤ 126) from decide_eq_decide.mpr (nI_leI (by omega) (by omega))]
    by_cases q1 : c < 32
    · rw [decide_eq_true q1, decide_eq_false (by omega : ¬ 32 ≤ c)]; rfl
    · by_cases q2 : 126 < c
      · rw [decide_eq_true q2, decide_eq_false (by omega : ¬ c ≤ 126), Bool.and_false, Bool.or_true]; rfl
      · rw [decide_eq_false q1, decide_eq_false q2, decide_eq_true (by omega : 32 ≤ c), decide_eq_true (by omega : c ≤ 126)]; rfl
  cases hp : (decide (c < 32) || decide (126 < c)) with
  | true =>
    rw [hp] at hbt
    rw [show rs_append S c = (1, 0, S) from by unfold rs_append; rw [if_pos hp]]
    refine CtP.of rfl (by simp [Value.category]) (Nat.le_of_ble_eq_true rfl) ?_
    refine V_aload_n dX6_append_0 rfl rfl ?_
    refine V_iconst (v := nI 1) dX6_append_1 (by decide) ?_
    refine V_iload_n dX6_append_2 rfl rfl ?_
    refine V_bipush (v := nI 32) dX6_append_3 (by decide) ?_
    refine V_bipush (v := nI 126) dX6_append_5 (by decide) ?_
    refine V_cs1 (ctX6_isBetween) msX6_isBetween lkX6_86 rfl rfl (Nat.le_of_ble_eq_true rfl) ⟨⟨Nat.le_of_ble_eq_true rfl, Nat.le_of_ble_eq_true rfl⟩, Nat.le_of_ble_eq_true rfl, Nat.le_of_ble_eq_true rfl⟩ dX6_append_7 ?_
    refine V_ifneB 17 dX6_append_10 (by decide) (fun h10 => absurd (h10.symm.trans hbt) (by decide)) (fun h10 => ?_)
    refine V_iconst (v := nI 1) dX6_append_13 (by decide) ?_
    refine V_goto 18 dX6_append_14 (by decide) ?_
    refine V_cv1 (ctX6_fails hM (k := nI 1) (c := true)) mvX6_fails lkX6_100 hM.1 rfl rfl rfl (Nat.le_of_ble_eq_true rfl) ⟨⟨Nat.le_of_ble_eq_true rfl, Nat.le_of_ble_eq_true rfl⟩, Nat.le_of_ble_eq_true rfl, Nat.le_of_ble_eq_true rfl⟩ dX6_append_18 ?_
    refine V_ifneB 46 dX6_append_21 (by decide) (fun h21 => ?_) (fun h21 => absurd (h21.symm.trans rfl) (by decide))
    refine V_iconst (v := nI 0) dX6_append_46 (by decide) ?_
    exact V_iretP rfl ⟨rfl, MQz hA hS (by first | exact kep.rf.z | exact kep.rf.z.z | exact kep.rf.z.z.z) (u2_s _ _ _ _)⟩ ⟨Nat.le_of_ble_eq_true rfl, Nat.le_of_ble_eq_true rfl⟩ dX6_append_47

  | false =>
    rw [hp] at hbt
    by_cases hl : 30 ≤ S.2.2.2.1.length
    · rw [show rs_append S c = (2, 0, S) from by unfold rs_append; rw [if_neg (by rw [hp]; decide), if_pos hl]]
      refine CtP.of rfl (by simp [Value.category]) (Nat.le_of_ble_eq_true rfl) ?_
      refine V_aload_n dX6_append_0 rfl rfl ?_
      refine V_iconst (v := nI 1) dX6_append_1 (by decide) ?_
      refine V_iload_n dX6_append_2 rfl rfl ?_
      refine V_bipush (v := nI 32) dX6_append_3 (by decide) ?_
      refine V_bipush (v := nI 126) dX6_append_5 (by decide) ?_
      refine V_cs1 (ctX6_isBetween) msX6_isBetween lkX6_86 rfl rfl (Nat.le_of_ble_eq_true rfl) ⟨⟨Nat.le_of_ble_eq_true rfl, Nat.le_of_ble_eq_true rfl⟩, Nat.le_of_ble_eq_true rfl, Nat.le_of_ble_eq_true rfl⟩ dX6_append_7 ?_
      refine V_ifneB 17 dX6_append_10 (by decide) (fun h10 => ?_) (fun h10 => absurd (h10.symm.trans hbt) (by decide))
      refine V_iconst (v := nI 0) dX6_append_17 (by decide) ?_
      refine V_cv1 (ctX6_fails hM (k := nI 1) (c := false)) mvX6_fails lkX6_100 hM.1 rfl rfl rfl (Nat.le_of_ble_eq_true rfl) ⟨⟨Nat.le_of_ble_eq_true rfl, Nat.le_of_ble_eq_true rfl⟩, Nat.le_of_ble_eq_true rfl, Nat.le_of_ble_eq_true rfl⟩ dX6_append_18 ?_
      refine V_ifneB 46 dX6_append_21 (by decide) (fun h21 => absurd (h21.symm.trans rfl) (by decide)) (fun h21 => ?_)
      refine V_aload_n dX6_append_24 rfl rfl ?_
      refine V_iconst (v := nI 2) dX6_append_25 (by decide) ?_
      refine V_aload_n dX6_append_26 rfl rfl ?_
      refine V_getE frX6_104 hM.1 rfl ((u2_n _ _ (by omega)).trans hA.2.2.2.1.1) dX6_append_27 ?_
      refine V_bipush (v := nI 30) dX6_append_30 (by decide) ?_
      refine V_N_ne (by omega) (by omega) 39 dX6_append_32 (by decide) (fun h32 => ?_) (fun h32 => ?_)
      · exfalso
        omega
      · refine V_iconst (v := nI 1) dX6_append_35 (by decide) ?_
        refine V_goto 40 dX6_append_36 (by decide) ?_
        refine V_cv1 (ctX6_fails hM (k := nI 2) (c := true)) mvX6_fails lkX6_100 hM.1 rfl rfl rfl (Nat.le_of_ble_eq_true rfl) ⟨⟨Nat.le_of_ble_eq_true rfl, Nat.le_of_ble_eq_true rfl⟩, Nat.le_of_ble_eq_true rfl, Nat.le_of_ble_eq_true rfl⟩ dX6_append_40 ?_
        refine V_ifeqB 48 dX6_append_43 (by decide) (fun h43 => absurd (h43.symm.trans rfl) (by decide)) (fun h43 => ?_)
        refine V_iconst (v := nI 0) dX6_append_46 (by decide) ?_
        exact V_iretP rfl ⟨rfl, MQz hA hS (by first | exact kep.rf.z | exact kep.rf.z.z | exact kep.rf.z.z.z) (u2_s _ _ _ _)⟩ ⟨Nat.le_of_ble_eq_true rfl, Nat.le_of_ble_eq_true rfl⟩ dX6_append_47

    · rw [show rs_append S c = (0, nI (S.2.2.2.1.length + 1), (S.1, S.2.1, S.2.2.1, S.2.2.2.1 ++ [c], S.2.2.2.2)) from by unfold rs_append; rw [if_neg (by rw [hp]; decide), if_neg hl]]
      refine CtP.of rfl (by simp [Value.category]) (Nat.le_of_ble_eq_true rfl) ?_
      refine V_aload_n dX6_append_0 rfl rfl ?_
      refine V_iconst (v := nI 1) dX6_append_1 (by decide) ?_
      refine V_iload_n dX6_append_2 rfl rfl ?_
      refine V_bipush (v := nI 32) dX6_append_3 (by decide) ?_
      refine V_bipush (v := nI 126) dX6_append_5 (by decide) ?_
      refine V_cs1 (ctX6_isBetween) msX6_isBetween lkX6_86 rfl rfl (Nat.le_of_ble_eq_true rfl) ⟨⟨Nat.le_of_ble_eq_true rfl, Nat.le_of_ble_eq_true rfl⟩, Nat.le_of_ble_eq_true rfl, Nat.le_of_ble_eq_true rfl⟩ dX6_append_7 ?_
      refine V_ifneB 17 dX6_append_10 (by decide) (fun h10 => ?_) (fun h10 => absurd (h10.symm.trans hbt) (by decide))
      refine V_iconst (v := nI 0) dX6_append_17 (by decide) ?_
      refine V_cv1 (ctX6_fails hM (k := nI 1) (c := false)) mvX6_fails lkX6_100 hM.1 rfl rfl rfl (Nat.le_of_ble_eq_true rfl) ⟨⟨Nat.le_of_ble_eq_true rfl, Nat.le_of_ble_eq_true rfl⟩, Nat.le_of_ble_eq_true rfl, Nat.le_of_ble_eq_true rfl⟩ dX6_append_18 ?_
      refine V_ifneB 46 dX6_append_21 (by decide) (fun h21 => absurd (h21.symm.trans rfl) (by decide)) (fun h21 => ?_)
      refine V_aload_n dX6_append_24 rfl rfl ?_
      refine V_iconst (v := nI 2) dX6_append_25 (by decide) ?_
      refine V_aload_n dX6_append_26 rfl rfl ?_
      refine V_getE frX6_104 hM.1 rfl ((u2_n _ _ (by omega)).trans hA.2.2.2.1.1) dX6_append_27 ?_
      refine V_bipush (v := nI 30) dX6_append_30 (by decide) ?_
      refine V_N_ne (by omega) (by omega) 39 dX6_append_32 (by decide) (fun h32 => ?_) (fun h32 => ?_)
      · refine V_iconst (v := nI 0) dX6_append_39 (by decide) ?_
        refine V_cv1 (ctX6_fails hM (k := nI 2) (c := false)) mvX6_fails lkX6_100 hM.1 rfl rfl rfl (Nat.le_of_ble_eq_true rfl) ⟨⟨Nat.le_of_ble_eq_true rfl, Nat.le_of_ble_eq_true rfl⟩, Nat.le_of_ble_eq_true rfl, Nat.le_of_ble_eq_true rfl⟩ dX6_append_40 ?_
        refine V_ifeqB 48 dX6_append_43 (by decide) (fun h43 => ?_) (fun h43 => absurd (h43.symm.trans rfl) (by decide))
        refine V_aload_n dX6_append_48 rfl rfl ?_
        refine V_getR frX6_34 hM.1 rfl dX6_append_49 ?_
        refine V_aload_n dX6_append_52 rfl rfl ?_
        refine V_getE frX6_104 hM.1 rfl (((u2_n _ _ (by omega)).trans (u2_n _ _ (by omega))).trans hA.2.2.2.1.1) dX6_append_53 ?_
        refine V_iload_n dX6_append_56 rfl rfl ?_
        refine V_castN hM.2.2.2.2.2.2.2.2.2.2.2.2.2.2.2.1 S.2.2.2.1.length rfl (by omega) (by decide) (nI_nar hc) dX6_append_57 ?_
        refine V_aload_n dX6_append_58 rfl rfl ?_
        refine V_dup dX6_append_59 rfl ?_
        refine V_getE frX6_104 hM.1 rfl ((u2_n _ _ (by omega)).trans (((u2_n _ _ (by omega)).trans (u2_n _ _ (by omega))).trans hA.2.2.2.1.1)) dX6_append_60 ?_
        refine V_iconst (v := nI 1) dX6_append_63 (by decide) ?_
        refine V_iadd dX6_append_64 ?_
        refine V_top (nI_add _ 1) ?_
        refine V_putI fpX6_104 rfl rfl hM.1 rfl dX6_append_65 ?_
        refine V_aload_n dX6_append_68 rfl rfl ?_
        refine V_getE frX6_104 hM.1 rfl (u2_s _ _ _ _) dX6_append_69 ?_
        exact V_iretP rfl ⟨rfl, _, rfl, by
              obtain ⟨a1, ⟨a2, a3⟩, ⟨a4, a5⟩, ⟨a6, a7⟩, a8, a9, a10⟩ := hA
              have h8' := hS.2.1.1
              exact ⟨a1.keep (fun a i q => ((u2_n _ _ (by omega)).trans ((u2_n _ _ (by omega)).trans ((u2_n _ _ (by omega)).trans (u2_n _ _ (by omega)))))), ⟨((u2_n _ _ (by omega)).trans ((u2_n _ _ (by omega)).trans ((u2_n _ _ (by omega)).trans (u2_n _ _ (by omega))))).trans a2, fun i hi => (a3 i hi).keep (fun j => ((u2_n _ _ (by omega)).trans ((u2_n _ _ (by omega)).trans ((u2_n _ _ (by omega)).trans (u2_n _ _ (by omega))))))⟩, ⟨((u2_n _ _ (by omega)).trans ((u2_n _ _ (by omega)).trans ((u2_n _ _ (by omega)).trans (u2_n _ _ (by omega))))).trans a4, fun g hg => (a5 g hg).keep (fun j => ((u2_n _ _ (by omega)).trans ((u2_n _ _ (by omega)).trans ((u2_n _ _ (by omega)).trans (u2_n _ _ (by omega))))))⟩, ⟨(u2_s _ _ _ _).trans (by simp), fun i hi => by
                have hi' : i < S.2.2.2.1.length + 1 := by simpa using hi
                by_cases e : i = S.2.2.2.1.length
                · subst e
                  refine (u2_n _ _ (by omega)).trans ((u2_s _ _ _ _).trans ?_)
                  simp [ch]
                · refine ((u2_n _ _ (by omega)).trans ((u2_n _ _ (by omega)).trans ((u2_n _ _ (by omega)).trans (u2_n _ _ (by omega))))).trans ((a7 i (by omega)).trans ?_)
                  simp [ch, List.getElem?_append_left (show i < S.2.2.2.1.length by omega)]⟩, ((u2_n _ _ (by omega)).trans ((u2_n _ _ (by omega)).trans ((u2_n _ _ (by omega)).trans (u2_n _ _ (by omega))))).trans a8, ((u2_n _ _ (by omega)).trans ((u2_n _ _ (by omega)).trans ((u2_n _ _ (by omega)).trans (u2_n _ _ (by omega))))).trans a9, fun i q1 q2 => ((u2_n _ _ (by omega)).trans ((u2_n _ _ (by omega)).trans ((u2_n _ _ (by omega)).trans (u2_n _ _ (by omega))))).trans (a10 i q1 q2)⟩, ((u2_n _ _ (by omega)).trans (u2_n _ _ (by omega))).trans (u2_s _ _ _ _), fun a i q => ((u2_n _ _ (by omega)).trans ((u2_n _ _ (by omega)).trans ((u2_n _ _ (by omega)).trans (u2_n _ _ (by omega)))))⟩ ⟨Nat.le_of_ble_eq_true rfl, Nat.le_of_ble_eq_true rfl⟩ dX6_append_72
      · exfalso
        omega

theorem ctX6_undo (hM : ML σ m) (hA : MA mi m S) (hS : SOK S)  : CtP κ 0 0 24 mrX6_undo [.ref m] (MM σ mi ml) (MRz σ mi ml m (rs_undo S)) := by
  have hw := hS.1
  have h14 := hw.2.1
  have hG := hA.1
  have h8 := hS.2.1.1
  by_cases h0 : S.2.1.1 = 0
  · rw [show rs_undo S = (1, 0, S) from by unfold rs_undo; rw [if_pos h0]]
    refine CtP.of rfl (by simp [Value.category]) (Nat.le_of_ble_eq_true rfl) ?_
    refine V_aload_n dX6_undo_0 rfl rfl ?_
    refine V_iconst (v := nI 1) dX6_undo_1 (by decide) ?_
    refine V_aload_n dX6_undo_2 rfl rfl ?_
    refine V_getE frX6_90 hM.1 rfl hA.2.1.1 dX6_undo_3 ?_
    refine V_Z_ne (by omega) 13 dX6_undo_6 (by decide) (fun h6 => absurd h6 (fun q => q h0)) (fun h6 => ?_)
    refine V_iconst (v := nI 1) dX6_undo_9 (by decide) ?_
    refine V_goto 14 dX6_undo_10 (by decide) ?_
    refine V_cv1 (ctX6_fails hM (k := nI 1) (c := true)) mvX6_fails lkX6_100 hM.1 rfl rfl rfl (Nat.le_of_ble_eq_true rfl) ⟨⟨Nat.le_of_ble_eq_true rfl, Nat.le_of_ble_eq_true rfl⟩, Nat.le_of_ble_eq_true rfl, Nat.le_of_ble_eq_true rfl⟩ dX6_undo_14 ?_
    refine V_ifeqB 22 dX6_undo_17 (by decide) (fun h17 => absurd (h17.symm.trans rfl) (by decide)) (fun h17 => ?_)
    refine V_iconst (v := nI 0) dX6_undo_20 (by decide) ?_
    exact V_iretP rfl ⟨rfl, MQz hA hS (by first | exact kep.rf.z | exact kep.rf.z.z | exact kep.rf.z.z.z) (u2_s _ _ _ _)⟩ ⟨Nat.le_of_ble_eq_true rfl, Nat.le_of_ble_eq_true rfl⟩ dX6_undo_21

  · have hw0 := hS.2.1.2 0 (by omega)
    have hrow := hA.2.1.2 0 (by omega)
    rw [show S.2.1.1 - 1 - 0 = S.2.1.1 - 1 by omega] at hrow
    rw [show rs_undo S = (0, nI (S.2.1.1 - 1), (S.2.1.2 0, (S.2.1.1 - 1, fun i => S.2.1.2 (i + 1)), S.2.2.1, S.2.2.2.1, S.2.2.2.2.1, 0, S.2.2.2.2.2.2)) from by unfold rs_undo; rw [if_neg h0]]
    refine CtP.of rfl (by simp [Value.category]) (Nat.le_of_ble_eq_true rfl) ?_
    refine V_aload_n dX6_undo_0 rfl rfl ?_
    refine V_iconst (v := nI 1) dX6_undo_1 (by decide) ?_
    refine V_aload_n dX6_undo_2 rfl rfl ?_
    refine V_getE frX6_90 hM.1 rfl hA.2.1.1 dX6_undo_3 ?_
    refine V_Z_ne (by omega) 13 dX6_undo_6 (by decide) (fun h6 => ?_) (fun h6 => absurd h6 h0)
    refine V_iconst (v := nI 0) dX6_undo_13 (by decide) ?_
    refine V_cv1 (ctX6_fails hM (k := nI 1) (c := false)) mvX6_fails lkX6_100 hM.1 rfl rfl rfl (Nat.le_of_ble_eq_true rfl) ⟨⟨Nat.le_of_ble_eq_true rfl, Nat.le_of_ble_eq_true rfl⟩, Nat.le_of_ble_eq_true rfl, Nat.le_of_ble_eq_true rfl⟩ dX6_undo_14 ?_
    refine V_ifeqB 22 dX6_undo_17 (by decide) (fun h17 => ?_) (fun h17 => absurd (h17.symm.trans rfl) (by decide))
    refine V_aload_n dX6_undo_22 rfl rfl ?_
    refine V_dup dX6_undo_23 rfl ?_
    refine V_getE frX6_90 hM.1 rfl ((u2_n _ _ (by omega)).trans hA.2.1.1) dX6_undo_24 ?_
    refine V_iconst (v := nI 1) dX6_undo_27 (by decide) ?_
    refine V_isub dX6_undo_28 ?_
    refine V_top (nI_subN (by omega)) ?_
    refine V_putI fpX6_90 rfl rfl hM.1 rfl dX6_undo_29 ?_
    refine V_aload_n dX6_undo_32 rfl rfl ?_
    refine V_aload_n dX6_undo_33 rfl rfl ?_
    refine V_getR frX6_28 hM.1 rfl dX6_undo_34 ?_
    refine V_aload_n dX6_undo_37 rfl rfl ?_
    refine V_getE frX6_90 hM.1 rfl (u2_s _ _ _ _) dX6_undo_38 ?_
    refine V_aaldR hM.2.2.2.2.2.2.2.2.2.2.2.2.2.2.2.2.2.2.1 (S.2.1.1 - 1) rfl (show S.2.1.1 - 1 < 9 by omega) (by decide) dX6_undo_41 ?_
    refine V_cp0 (ctX6_take hM (hrow.keep (fun j => (u2_n _ _ (Or.inl (by omega))).trans (u2_n _ _ (Or.inl (by omega))))) hw0 (hM.2.2.2.2.2.2.2.2.2.2.2.2.2.2.2.2.2.2.1.row (j := S.2.1.1 - 1) (by omega)) (by omega)) mvX6_take lkX6_235 hM.1 rfl rfl rfl (Nat.le_of_ble_eq_true rfl) ⟨⟨Nat.le_of_ble_eq_true rfl, Nat.le_of_ble_eq_true rfl⟩, Nat.le_of_ble_eq_true rfl, Nat.le_of_ble_eq_true rfl⟩ dX6_undo_42 (fun μ2 hx => ?_)
    obtain ⟨m2, rfl, g2, o2⟩ := hx
    have oo : ∀ a i, ¬ (a = m ∧ (i = 0 ∨ i = 1 ∨ i = 8 ∨ i = 34)) → (a < m + 1 ∨ m + 33 ≤ a) → u2 m2 m 34 (nI 0) a i = mi a i := fun a i q1 q2 => (u2_n _ _ (by omega)).trans ((o2 a i (by omega) q2).trans ((u2_n _ _ (by omega)).trans (u2_n _ _ (by omega))))
    refine V_aload_n dX6_undo_45 rfl rfl ?_
    refine V_iconst (v := nI 0) dX6_undo_46 (by decide) ?_
    refine V_putI fpX6_97 rfl rfl hM.1 rfl dX6_undo_47 ?_
    refine V_aload_n dX6_undo_50 rfl rfl ?_
    refine V_getE frX6_90 hM.1 rfl ((u2_n _ _ (by omega)).trans ((o2 _ _ (by omega) (by omega)).trans (u2_s _ _ _ _))) dX6_undo_51 ?_
    exact V_iretP rfl ⟨rfl, _, rfl, hA.new (g2.keep (fun a i q => u2_n _ _ (by omega))) ⟨(u2_n _ _ (by omega)).trans ((o2 _ _ (by omega) (by omega)).trans (u2_s _ _ _ _)), fun i hi => by
          have hr1 := hA.2.1.2 (i + 1) (by omega)
          rw [show S.2.1.1 - 1 - (i + 1) = S.2.1.1 - 1 - 1 - i by omega] at hr1
          exact hr1.keep (fun j => oo _ _ (by omega) (by omega))⟩ (u2_s _ _ _ _) (hA.inp (fun a i q => oo a i (by omega) (by omega))) ((oo _ _ (by omega) (by omega)).trans hA.2.2.2.2.1) (fun a i q => oo a i (by omega) (by omega)), (u2_n _ _ (by omega)).trans ((o2 _ _ (by omega) (by omega)).trans ((u2_n _ _ (by omega)).trans (u2_s _ _ _ _))), fun a i q => oo a i (by omega) (by omega)⟩ ⟨Nat.le_of_ble_eq_true rfl, Nat.le_of_ble_eq_true rfl⟩ dX6_undo_54

theorem ctX6_save (hM : ML σ m) (hA : MA mi m S) (hS : SOK S)  : CtP κ 0 0 24 mrX6_save [.ref m] (MM σ mi ml) (MRz σ mi ml m (rs_save S)) := by
  have hw := hS.1
  have h14 := hw.2.1
  have hG := hA.1
  rw [show rs_save S = (0, nI S.1.1, (S.1, S.2.1, some S.1, S.2.2.2)) from by unfold rs_save; rfl]
  refine CtP.of rfl (by simp [Value.category]) (Nat.le_of_ble_eq_true rfl) ?_
  refine V_aload_n dX6_save_0 rfl rfl ?_
  refine V_iconst (v := nI 0) dX6_save_1 (by decide) ?_
  refine V_putI fpX6_83 rfl rfl hM.1 rfl dX6_save_2 ?_
  refine V_aload_n dX6_save_5 rfl rfl ?_
  refine V_iconst (v := nI 1) dX6_save_6 (by decide) ?_
  refine V_putI fpX6_248 rfl rfl hM.1 rfl dX6_save_7 ?_
  refine V_aload_n dX6_save_10 rfl rfl ?_
  refine V_aload_n dX6_save_11 rfl rfl ?_
  refine V_getR frX6_31 hM.1 rfl dX6_save_12 ?_
  refine V_cp0 (ctX6_write hM (hG.keep (fun a i q => (u2_n _ _ (by omega)).trans (u2_n _ _ (by omega)))) hw hM.2.2.2.1 (by omega)) mvX6_write lkX6_93 hM.1 rfl rfl rfl (Nat.le_of_ble_eq_true rfl) ⟨⟨Nat.le_of_ble_eq_true rfl, Nat.le_of_ble_eq_true rfl⟩, Nat.le_of_ble_eq_true rfl, Nat.le_of_ble_eq_true rfl⟩ dX6_save_15 (fun μ2 hx => ?_)
  obtain ⟨m2, rfl, kr, o2⟩ := hx
  have oo : ∀ a i, ¬ (a = m ∧ (i = 0 ∨ i = 9)) → a ≠ m + 43 → m2 a i = mi a i := fun a i q1 q2 => (o2 a i q2).trans ((u2_n _ _ (by omega)).trans (u2_n _ _ (by omega)))
  refine V_aload_n dX6_save_18 rfl rfl ?_
  refine V_getE frX6_7 hM.1 rfl ((oo _ _ (by omega) (by omega)).trans hG.1) dX6_save_19 ?_
  exact V_iretP rfl ⟨rfl, _, rfl, by
      obtain ⟨a1, ⟨a2, a3⟩, ⟨a4, a5⟩, ⟨a6, a7⟩, a8, a9, a10⟩ := hA
      have h8' := hS.2.1.1
      exact ⟨a1.keep (fun a i q => oo a i (by omega) (by omega)), ⟨(oo _ _ (by omega) (by omega)).trans a2, fun i hi => (a3 i hi).keep (fun j => oo _ _ (by omega) (by omega))⟩, ⟨(o2 _ _ (by omega)).trans (u2_s _ _ _ _), fun g hg => by cases hg; exact kr⟩, ⟨(oo _ _ (by omega) (by omega)).trans a6, fun i hi => (oo _ _ (by omega) (by omega)).trans (a7 i hi)⟩, (oo _ _ (by omega) (by omega)).trans a8, (oo _ _ (by omega) (by omega)).trans a9, fun i q1 q2 => (oo _ _ (by omega) (by omega)).trans (a10 i q1 q2)⟩, (o2 _ _ (by omega)).trans ((u2_n _ _ (by omega)).trans (u2_s _ _ _ _)), fun a i q => oo a i (by omega) (by omega)⟩ ⟨Nat.le_of_ble_eq_true rfl, Nat.le_of_ble_eq_true rfl⟩ dX6_save_22

theorem ctX6_restore (hM : ML σ m) (hA : MA mi m S) (hS : SOK S)  : CtP κ 0 0 24 mrX6_restore [.ref m] (MM σ mi ml) (MRz σ mi ml m (rs_restore S)) := by
  have hw := hS.1
  have h14 := hw.2.1
  have hG := hA.1
  have h9 := hA.2.2.1.1
  cases hs : S.2.2.1 with
  | none =>
    rw [hs] at h9
    rw [show rs_restore S = (1, 0, S) from by unfold rs_restore; rw [hs]]
    refine CtP.of rfl (by simp [Value.category]) (Nat.le_of_ble_eq_true rfl) ?_
    refine V_aload_n dX6_restore_0 rfl rfl ?_
    refine V_iconst (v := nI 1) dX6_restore_1 (by decide) ?_
    refine V_aload_n dX6_restore_2 rfl rfl ?_
    refine V_getE frX6_248 hM.1 rfl h9 dX6_restore_3 ?_
    refine V_if_ne 13 dX6_restore_6 (by decide) (fun h6 => absurd h6 (fun q => q rfl)) (fun h6 => ?_)
    refine V_iconst (v := nI 1) dX6_restore_9 (by decide) ?_
    refine V_goto 14 dX6_restore_10 (by decide) ?_
    refine V_cv1 (ctX6_fails hM (k := nI 1) (c := true)) mvX6_fails lkX6_100 hM.1 rfl rfl rfl (Nat.le_of_ble_eq_true rfl) ⟨⟨Nat.le_of_ble_eq_true rfl, Nat.le_of_ble_eq_true rfl⟩, Nat.le_of_ble_eq_true rfl, Nat.le_of_ble_eq_true rfl⟩ dX6_restore_14 ?_
    refine V_ifeqB 22 dX6_restore_17 (by decide) (fun h17 => absurd (h17.symm.trans rfl) (by decide)) (fun h17 => ?_)
    refine V_iconst (v := nI 0) dX6_restore_20 (by decide) ?_
    exact V_iretP rfl ⟨rfl, MQz hA hS (by first | exact kep.rf.z | exact kep.rf.z.z | exact kep.rf.z.z.z) (u2_s _ _ _ _)⟩ ⟨Nat.le_of_ble_eq_true rfl, Nat.le_of_ble_eq_true rfl⟩ dX6_restore_21

  | some g =>
    have hwg := hS.2.2.1 g hs
    have hrow := hA.2.2.1.2 g hs
    rw [hs] at h9
    rw [show rs_restore S = (0, nI g.1, (g, (0, S.2.1.2), S.2.2.1, S.2.2.2.1, S.2.2.2.2.1, 0, S.2.2.2.2.2.2)) from by unfold rs_restore; rw [hs]]
    refine CtP.of rfl (by simp [Value.category]) (Nat.le_of_ble_eq_true rfl) ?_
    refine V_aload_n dX6_restore_0 rfl rfl ?_
    refine V_iconst (v := nI 1) dX6_restore_1 (by decide) ?_
    refine V_aload_n dX6_restore_2 rfl rfl ?_
    refine V_getE frX6_248 hM.1 rfl h9 dX6_restore_3 ?_
    refine V_if_ne 13 dX6_restore_6 (by decide) (fun h6 => ?_) (fun h6 => absurd h6 (show ¬ nI 1 = 0 by decide))
    refine V_iconst (v := nI 0) dX6_restore_13 (by decide) ?_
    refine V_cv1 (ctX6_fails hM (k := nI 1) (c := false)) mvX6_fails lkX6_100 hM.1 rfl rfl rfl (Nat.le_of_ble_eq_true rfl) ⟨⟨Nat.le_of_ble_eq_true rfl, Nat.le_of_ble_eq_true rfl⟩, Nat.le_of_ble_eq_true rfl, Nat.le_of_ble_eq_true rfl⟩ dX6_restore_14 ?_
    refine V_ifeqB 22 dX6_restore_17 (by decide) (fun h17 => ?_) (fun h17 => absurd (h17.symm.trans rfl) (by decide))
    refine V_aload_n dX6_restore_22 rfl rfl ?_
    refine V_aload_n dX6_restore_23 rfl rfl ?_
    refine V_getR frX6_31 hM.1 rfl dX6_restore_24 ?_
    refine V_cp0 (ctX6_take hM (hrow.keep (fun j => u2_n _ _ (Or.inl (by omega)))) hwg hM.2.2.2.1 (by omega)) mvX6_take lkX6_235 hM.1 rfl rfl rfl (Nat.le_of_ble_eq_true rfl) ⟨⟨Nat.le_of_ble_eq_true rfl, Nat.le_of_ble_eq_true rfl⟩, Nat.le_of_ble_eq_true rfl, Nat.le_of_ble_eq_true rfl⟩ dX6_restore_27 (fun μ2 hx => ?_)
    obtain ⟨m2, rfl, g2, o2⟩ := hx
    have oo : ∀ a i, ¬ (a = m ∧ (i = 0 ∨ i = 1 ∨ i = 8 ∨ i = 34)) → (a < m + 1 ∨ m + 33 ≤ a) → u2 (u2 m2 m 8 (nI 0)) m 34 (nI 0) a i = mi a i := fun a i q1 q2 => ((u2_n _ _ (by omega)).trans (u2_n _ _ (by omega))).trans ((o2 a i (by omega) q2).trans (u2_n _ _ (by omega)))
    refine V_aload_n dX6_restore_30 rfl rfl ?_
    refine V_iconst (v := nI 0) dX6_restore_31 (by decide) ?_
    refine V_putI fpX6_90 rfl rfl hM.1 rfl dX6_restore_32 ?_
    refine V_aload_n dX6_restore_35 rfl rfl ?_
    refine V_iconst (v := nI 0) dX6_restore_36 (by decide) ?_
    refine V_putI fpX6_97 rfl rfl hM.1 rfl dX6_restore_37 ?_
    refine V_aload_n dX6_restore_40 rfl rfl ?_
    refine V_getE frX6_7 hM.1 rfl (((u2_n _ _ (by omega)).trans (u2_n _ _ (by omega))).trans g2.1) dX6_restore_41 ?_
    exact V_iretP rfl ⟨rfl, _, rfl, hA.new (g2.keep (fun a i q => ((u2_n _ _ (by omega)).trans (u2_n _ _ (by omega))))) ⟨(u2_n _ _ (by omega)).trans (u2_s _ _ _ _), fun i hi => absurd hi (Nat.not_lt_zero i)⟩ (u2_s _ _ _ _) (hA.inp (fun a i q => oo a i (by omega) (by omega))) ((oo _ _ (by omega) (by omega)).trans hA.2.2.2.2.1) (fun a i q => oo a i (by omega) (by omega)), ((u2_n _ _ (by omega)).trans (u2_n _ _ (by omega))).trans ((o2 _ _ (by omega) (by omega)).trans (u2_s _ _ _ _)), fun a i q => oo a i (by omega) (by omega)⟩ ⟨Nat.le_of_ble_eq_true rfl, Nat.le_of_ble_eq_true rfl⟩ dX6_restore_44

end Mdl8
