/-! SsaRepairModel: walks, thrown -/
section Mdl13
variable {κ : K0} {σ : Nat → Option Kd} {mi : Nat → Nat → Int32} {ml : Nat → Nat → Int64} {m : Nat} {G : Gr} {S : SS} {μ : Mem}
theorem OutL.ext {σ σ' : Nat → Option Kd} {a n k base : Nat} (e : ∀ a kd, σ a = some kd → σ' a = some kd) (h : OutL σ a n k base) : OutL σ' a n k base := by
  obtain ⟨r, h1, h2⟩ := h
  exact ⟨r, e _ _ h1, fun j hj => ⟨(h2 j hj).1, e _ _ (h2 j hj).2⟩⟩
theorem ML.ext {σ σ' : Nat → Option Kd} (e : ∀ a kd, σ a = some kd → σ' a = some kd) (h : ML σ m) : ML σ' m := ⟨(e _ _ h.1), (e _ _ h.2.1), (e _ _ h.2.2.1), (e _ _ h.2.2.2.1), (e _ _ h.2.2.2.2.1), (e _ _ h.2.2.2.2.2.1), (e _ _ h.2.2.2.2.2.2.1), (e _ _ h.2.2.2.2.2.2.2.1), (e _ _ h.2.2.2.2.2.2.2.2.1), (e _ _ h.2.2.2.2.2.2.2.2.2.1), (e _ _ h.2.2.2.2.2.2.2.2.2.2.1), (e _ _ h.2.2.2.2.2.2.2.2.2.2.2.1), (e _ _ h.2.2.2.2.2.2.2.2.2.2.2.2.1), (e _ _ h.2.2.2.2.2.2.2.2.2.2.2.2.2.1), (e _ _ h.2.2.2.2.2.2.2.2.2.2.2.2.2.2.1), (e _ _ h.2.2.2.2.2.2.2.2.2.2.2.2.2.2.2.1), (OutL.ext e h.2.2.2.2.2.2.2.2.2.2.2.2.2.2.2.2.1), (OutL.ext e h.2.2.2.2.2.2.2.2.2.2.2.2.2.2.2.2.2.1), (OutL.ext e h.2.2.2.2.2.2.2.2.2.2.2.2.2.2.2.2.2.2.1), (OutL.ext e h.2.2.2.2.2.2.2.2.2.2.2.2.2.2.2.2.2.2.2.1), (OutL.ext e h.2.2.2.2.2.2.2.2.2.2.2.2.2.2.2.2.2.2.2.2.1), (OutL.ext e h.2.2.2.2.2.2.2.2.2.2.2.2.2.2.2.2.2.2.2.2.2)⟩
theorem ML.some (h : ML σ m) {a : Nat} (h1 : m ≤ a) (h2 : a < m + 101) : ∃ kd, σ a = some kd := by
  rcases (by omega : a = m + 0 ∨ a = m + 1 ∨ a = m + 2 ∨ a = m + 43 ∨ a = m + 45 ∨ a = m + 46 ∨ a = m + 47 ∨ a = m + 48 ∨ a = m + 49 ∨ a = m + 50 ∨ a = m + 51 ∨ a = m + 52 ∨ a = m + 53 ∨ a = m + 84 ∨ a = m + 100 ∨ a = m + 44 ∨ (m + 4 ≤ a ∧ a < m + 18) ∨ (m + 19 ≤ a ∧ a < m + 33) ∨ (m + 34 ≤ a ∧ a < m + 43) ∨ (m + 55 ≤ a ∧ a < m + 69) ∨ (m + 70 ≤ a ∧ a < m + 84) ∨ (m + 86 ≤ a ∧ a < m + 100) ∨ a = m + 3 ∨ a = m + 18 ∨ a = m + 33 ∨ a = m + 54 ∨ a = m + 69 ∨ a = m + 85) with q | q | q | q | q | q | q | q | q | q | q | q | q | q | q | q | q | q | q | q | q | q | q | q | q | q | q | q
  · rw [q]; exact ⟨_, h.1⟩
  · rw [q]; exact ⟨_, h.2.1⟩
  · rw [q]; exact ⟨_, h.2.2.1⟩
  · rw [q]; exact ⟨_, h.2.2.2.1⟩
  · rw [q]; exact ⟨_, h.2.2.2.2.1⟩
  · rw [q]; exact ⟨_, h.2.2.2.2.2.1⟩
  · rw [q]; exact ⟨_, h.2.2.2.2.2.2.1⟩
  · rw [q]; exact ⟨_, h.2.2.2.2.2.2.2.1⟩
  · rw [q]; exact ⟨_, h.2.2.2.2.2.2.2.2.1⟩
  · rw [q]; exact ⟨_, h.2.2.2.2.2.2.2.2.2.1⟩
  · rw [q]; exact ⟨_, h.2.2.2.2.2.2.2.2.2.2.1⟩
  · rw [q]; exact ⟨_, h.2.2.2.2.2.2.2.2.2.2.2.1⟩
  · rw [q]; exact ⟨_, h.2.2.2.2.2.2.2.2.2.2.2.2.1⟩
  · rw [q]; exact ⟨_, h.2.2.2.2.2.2.2.2.2.2.2.2.2.1⟩
  · rw [q]; exact ⟨_, h.2.2.2.2.2.2.2.2.2.2.2.2.2.2.1⟩
  · rw [q]; exact ⟨_, h.2.2.2.2.2.2.2.2.2.2.2.2.2.2.2.1⟩
  · have hr := OutL.row (j := a - (m + 4)) h.2.2.2.2.2.2.2.2.2.2.2.2.2.2.2.2.1 (by omega)
    rw [show m + 4 + (a - (m + 4)) = a by omega] at hr
    exact ⟨_, hr⟩
  · have hr := OutL.row (j := a - (m + 19)) h.2.2.2.2.2.2.2.2.2.2.2.2.2.2.2.2.2.1 (by omega)
    rw [show m + 19 + (a - (m + 19)) = a by omega] at hr
    exact ⟨_, hr⟩
  · have hr := OutL.row (j := a - (m + 34)) h.2.2.2.2.2.2.2.2.2.2.2.2.2.2.2.2.2.2.1 (by omega)
    rw [show m + 34 + (a - (m + 34)) = a by omega] at hr
    exact ⟨_, hr⟩
  · have hr := OutL.row (j := a - (m + 55)) h.2.2.2.2.2.2.2.2.2.2.2.2.2.2.2.2.2.2.2.1 (by omega)
    rw [show m + 55 + (a - (m + 55)) = a by omega] at hr
    exact ⟨_, hr⟩
  · have hr := OutL.row (j := a - (m + 70)) h.2.2.2.2.2.2.2.2.2.2.2.2.2.2.2.2.2.2.2.2.1 (by omega)
    rw [show m + 70 + (a - (m + 70)) = a by omega] at hr
    exact ⟨_, hr⟩
  · have hr := OutL.row (j := a - (m + 86)) h.2.2.2.2.2.2.2.2.2.2.2.2.2.2.2.2.2.2.2.2.2 (by omega)
    rw [show m + 86 + (a - (m + 86)) = a by omega] at hr
    exact ⟨_, hr⟩
  · rw [q]; obtain ⟨r, h1, _⟩ := h.2.2.2.2.2.2.2.2.2.2.2.2.2.2.2.2.1; exact ⟨_, h1⟩
  · rw [q]; obtain ⟨r, h1, _⟩ := h.2.2.2.2.2.2.2.2.2.2.2.2.2.2.2.2.2.1; exact ⟨_, h1⟩
  · rw [q]; obtain ⟨r, h1, _⟩ := h.2.2.2.2.2.2.2.2.2.2.2.2.2.2.2.2.2.2.1; exact ⟨_, h1⟩
  · rw [q]; obtain ⟨r, h1, _⟩ := h.2.2.2.2.2.2.2.2.2.2.2.2.2.2.2.2.2.2.2.1; exact ⟨_, h1⟩
  · rw [q]; obtain ⟨r, h1, _⟩ := h.2.2.2.2.2.2.2.2.2.2.2.2.2.2.2.2.2.2.2.2.1; exact ⟨_, h1⟩
  · rw [q]; obtain ⟨r, h1, _⟩ := h.2.2.2.2.2.2.2.2.2.2.2.2.2.2.2.2.2.2.2.2.2; exact ⟨_, h1⟩
theorem ctX6_thrown (hM : ML σ m) {x : Int32} (h0 : mi m 0 = x) : Ct κ 0 0 1 mrX6_thrown [.ref m] (MM σ mi ml) (.inl (some (.int x))) (MM σ mi ml) := by
  refine Ct.of rfl (by simp [Value.category]) (Nat.le_of_ble_eq_true rfl) ?_
  refine V_aload_n dX6_thrown_0 rfl rfl ?_
  refine V_getE frX6_83 hM.1 rfl h0 dX6_thrown_1 ?_
  exact V_iret rfl rfl rfl ⟨Nat.le_of_ble_eq_true rfl, Nat.le_of_ble_eq_true rfl⟩ dX6_thrown_4

theorem ctX6_walks (hM : ML σ m) (hA : MA mi m S) (hS : SOK S) {b n : Int32} : CtP κ 31 434 24 mrX6_walks [.ref m, .int b, .int n] (MM σ mi ml) (fun o μ' => o = .inl (some (.long (if rk_walks S b n = 0 then rv_walks S b n else 0))) ∧ ∃ m', μ' = MM σ m' ml ∧ MA m' m S ∧ m' m 0 = nI (rk_walks S b n) ∧ ∀ a i, (a < m ∨ m + 101 ≤ a) → m' a i = mi a i) := by
  have hw := hS.1
  have h14 := hw.2.1
  have hG := hA.1
  cases hb : inR b S.1.1 with
  | false =>
    have hk : rk_walks S b n = 1 := by unfold rk_walks; rw [if_pos hb]
    rw [hk]
    refine CtP.of rfl (by simp [Value.category]) (Nat.le_of_ble_eq_true rfl) ?_
    refine V_aload_n dX6_walks_0 rfl rfl ?_
    refine V_iconst (v := nI 1) dX6_walks_1 (by decide) ?_
    refine V_aload_n dX6_walks_2 rfl rfl ?_
    refine V_iload_n dX6_walks_3 rfl rfl ?_
    refine V_cv1 (ctX6_isBlock hM (show S.1.1 < 2 ^ 31 by omega) hG.1) mvX6_isBlock lkX6_144 hM.1 rfl rfl rfl (Nat.le_of_ble_eq_true rfl) ⟨⟨Nat.le_of_ble_eq_true rfl, Nat.le_of_ble_eq_true rfl⟩, Nat.le_of_ble_eq_true rfl, Nat.le_of_ble_eq_true rfl⟩ dX6_walks_4 ?_
    refine V_ifneB 14 dX6_walks_7 (by decide) (fun h7 => absurd (h7.symm.trans hb) (by decide)) (fun h7 => ?_)
    refine V_iconst (v := nI 1) dX6_walks_10 (by decide) ?_
    refine V_goto 15 dX6_walks_11 (by decide) ?_
    refine V_cv1 (ctX6_fails hM (k := nI 1) (c := true)) mvX6_fails lkX6_100 hM.1 rfl rfl rfl (Nat.le_of_ble_eq_true rfl) ⟨⟨Nat.le_of_ble_eq_true rfl, Nat.le_of_ble_eq_true rfl⟩, Nat.le_of_ble_eq_true rfl, Nat.le_of_ble_eq_true rfl⟩ dX6_walks_15 ?_
    refine V_ifneB 44 dX6_walks_18 (by decide) (fun h18 => ?_) (fun h18 => absurd (h18.symm.trans rfl) (by decide))
    refine V_lconst (v := 0) dX6_walks_44 (by decide) ?_
    exact V_lretP rfl ⟨rfl, MQz hA hS kep.rf.z (u2_s _ _ _ _)⟩ ⟨Nat.le_of_ble_eq_true rfl, Nat.le_of_ble_eq_true rfl⟩ dX6_walks_45

  | true =>
    obtain ⟨j, hj, rfl⟩ := inR_t (by omega) hb
    have tj := tn_nI (show j < 2 ^ 31 by omega)
    have h1 : ¬ inR (nI j) S.1.1 = false := by rw [hb]; decide
    have hbt : (decide (nI 0 ≤ n) && decide (n ≤ nI 30)) = inR n 31 := by
      unfold inR
      show (decide (0 ≤ n) && _) = _
      congr 1
      exact decide_eq_decide.mpr le30
    cases hn : inR n 31 with
    | false =>
      rw [hn] at hbt
      have hk : rk_walks S (nI j) n = 2 := by unfold rk_walks; rw [if_neg h1, if_pos hn]
      rw [hk]
      refine CtP.of rfl (by simp [Value.category]) (Nat.le_of_ble_eq_true rfl) ?_
      refine V_aload_n dX6_walks_0 rfl rfl ?_
      refine V_iconst (v := nI 1) dX6_walks_1 (by decide) ?_
      refine V_aload_n dX6_walks_2 rfl rfl ?_
      refine V_iload_n dX6_walks_3 rfl rfl ?_
      refine V_cv1 (ctX6_isBlock hM (show S.1.1 < 2 ^ 31 by omega) hG.1) mvX6_isBlock lkX6_144 hM.1 rfl rfl rfl (Nat.le_of_ble_eq_true rfl) ⟨⟨Nat.le_of_ble_eq_true rfl, Nat.le_of_ble_eq_true rfl⟩, Nat.le_of_ble_eq_true rfl, Nat.le_of_ble_eq_true rfl⟩ dX6_walks_4 ?_
      refine V_ifneB 14 dX6_walks_7 (by decide) (fun h7 => ?_) (fun h7 => absurd (h7.symm.trans hb) (by decide))
      refine V_iconst (v := nI 0) dX6_walks_14 (by decide) ?_
      refine V_cv1 (ctX6_fails hM (k := nI 1) (c := false)) mvX6_fails lkX6_100 hM.1 rfl rfl rfl (Nat.le_of_ble_eq_true rfl) ⟨⟨Nat.le_of_ble_eq_true rfl, Nat.le_of_ble_eq_true rfl⟩, Nat.le_of_ble_eq_true rfl, Nat.le_of_ble_eq_true rfl⟩ dX6_walks_15 ?_
      refine V_ifneB 44 dX6_walks_18 (by decide) (fun h18 => absurd (h18.symm.trans rfl) (by decide)) (fun h18 => ?_)
      refine V_aload_n dX6_walks_21 rfl rfl ?_
      refine V_iconst (v := nI 2) dX6_walks_22 (by decide) ?_
      refine V_iload_n dX6_walks_23 rfl rfl ?_
      refine V_iconst (v := nI 0) dX6_walks_24 (by decide) ?_
      refine V_bipush (v := nI 30) dX6_walks_25 (by decide) ?_
      refine V_cs1 (ctX6_isBetween) msX6_isBetween lkX6_86 rfl rfl (Nat.le_of_ble_eq_true rfl) ⟨⟨Nat.le_of_ble_eq_true rfl, Nat.le_of_ble_eq_true rfl⟩, Nat.le_of_ble_eq_true rfl, Nat.le_of_ble_eq_true rfl⟩ dX6_walks_27 ?_
      refine V_ifneB 37 dX6_walks_30 (by decide) (fun h30 => absurd (h30.symm.trans hbt) (by decide)) (fun h30 => ?_)
      refine V_iconst (v := nI 1) dX6_walks_33 (by decide) ?_
      refine V_goto 38 dX6_walks_34 (by decide) ?_
      refine V_cv1 (ctX6_fails hM (k := nI 2) (c := true)) mvX6_fails lkX6_100 hM.1 rfl rfl rfl (Nat.le_of_ble_eq_true rfl) ⟨⟨Nat.le_of_ble_eq_true rfl, Nat.le_of_ble_eq_true rfl⟩, Nat.le_of_ble_eq_true rfl, Nat.le_of_ble_eq_true rfl⟩ dX6_walks_38 ?_
      refine V_ifeqB 46 dX6_walks_41 (by decide) (fun h41 => absurd (h41.symm.trans rfl) (by decide)) (fun h41 => ?_)
      refine V_lconst (v := 0) dX6_walks_44 (by decide) ?_
      exact V_lretP rfl ⟨rfl, MQz hA hS kep.rf.z.z (u2_s _ _ _ _)⟩ ⟨Nat.le_of_ble_eq_true rfl, Nat.le_of_ble_eq_true rfl⟩ dX6_walks_45

    | true =>
      rw [hn] at hbt
      obtain ⟨i, hi, rfl⟩ := inR_t (by omega) hn
      have ti := tn_nI (show i < 2 ^ 31 by omega)
      have hk : rk_walks S (nI j) (nI i) = 0 := by unfold rk_walks; rw [if_neg h1, if_neg (by rw [hn]; decide)]
      have hv : rv_walks S (nI j) (nI i) = wkN S.1 i j := by unfold rv_walks; rw [ti, tj]
      rw [hk, hv]
      refine CtP.of rfl (by simp [Value.category]) (Nat.le_of_ble_eq_true rfl) ?_
      have hGM : ∀ M, (∀ a kd, σ a = some kd → M a = (u2 (u2 mi m 0 (nI 0)) m 0 (nI 0)) a) → GM M m S.1 := fun M hM1 => hG.z.z.keep (fun a i q => by
        obtain ⟨kd, hkd⟩ := hM.some (a := a) (by omega) (by omega)
        exact congrFun (hM1 a kd hkd) i)
      have lp : ∀ k, k ≤ i → ∀ q M L o5 o6 o7, σ q = none → (∀ a kd, σ a = some kd → M a = (u2 (u2 mi m 0 (nI 0)) m 0 (nI 0)) a) → (∀ a kd, σ a = some kd → L a = ml a) → (∀ z, z < 14 → L q z = wkN S.1 k z) → V κ (phiP κ mrX6_walks 24 31 434 (fun o μ' => o = .inl (some (.long (if (0 : Nat) = 0 then wkN S.1 i j else 0))) ∧ ∃ m', μ' = MM σ m' ml ∧ MA m' m S ∧ m' m 0 = nI 0 ∧ ∀ a i, (a < m ∨ m + 101 ≤ a) → m' a i = mi a i)) (k + 1) (14 * (k + 1)) 58 [some (.ref m), some (.int (nI j)), some (.int (nI i)), some (.ref q), some (.int (nI k)), o5, o6, o7] [] (va_up σ q (lngs 14), M, L, none) := loop_up _ (fun k hk2 ih q M L o5 o6 o7 hq hM1 hL1 hv1 => by
        have hq1 : va_up σ q (lngs 14) q = lngs 14 := va_up_self _ _ _
        have hMq : ML (va_up σ q (lngs 14)) m := hM.ext (fun a kd h => by rw [va_up_ne _ _ (fun e => by rw [e, hq] at h; cases h)]; exact h)
        have inner : k < i → ∀ q2, va_up σ q (lngs 14) q2 = none → ∀ f, f ≤ S.1.1 → ∀ M L o7, (∀ a kd, σ a = some kd → M a = (u2 (u2 mi m 0 (nI 0)) m 0 (nI 0)) a) → (∀ a kd, σ a = some kd → L a = ml a) → (∀ z, z < 14 → L q z = wkN S.1 k z) → (∀ z, z < 14 → L q2 z = wrow S.1 (wkN S.1 k) f z) → V κ (phiP κ mrX6_walks 24 31 434 (fun o μ' => o = .inl (some (.long (if (0 : Nat) = 0 then wkN S.1 i j else 0))) ∧ ∃ m', μ' = MM σ m' ml ∧ MA m' m S ∧ m' m 0 = nI 0 ∧ ∀ a i, (a < m ∨ m + 101 ≤ a) → m' a i = mi a i)) (k + 1 + 1) (14 * (k + 1) + 14) 73 [some (.ref m), some (.int (nI j)), some (.int (nI i)), some (.ref q), some (.int (nI k)), some (.ref q2), some (.int (nI f)), o7] [] (va_up (va_up σ q (lngs 14)) q2 (lngs 14), M, L, none) := fun hki q2 hq2 => loop_up _ (fun f hf ih2 M L o7 hM1 hL1 hv1 hv2 => by
          have hne : q2 ≠ q := fun e => by rw [e, va_up_self] at hq2; cases hq2
          have hs2 : σ q2 = none := by rw [va_up_ne _ _ hne] at hq2; exact hq2
          have hq2' : va_up (va_up σ q (lngs 14)) q2 (lngs 14) q2 = lngs 14 := va_up_self _ _ _
          have hq1' : va_up (va_up σ q (lngs 14)) q2 (lngs 14) q = lngs 14 := by rw [va_up_ne _ _ (fun e => hne e.symm)]; exact va_up_self _ _ _
          have hM2 : ML (va_up (va_up σ q (lngs 14)) q2 (lngs 14)) m := hMq.ext (fun a kd h => by rw [va_up_ne _ _ (fun e => by rw [e, hq2] at h; cases h)]; exact h)
          have hoff : ∀ a kd, σ a = some kd → a ≠ q ∧ a ≠ q2 := fun a kd h => ⟨(fun e => by rw [e, hq] at h; cases h), (fun e => by rw [e, hs2] at h; cases h)⟩
          have lpE : f < S.1.1 → ∀ e, e ≤ (S.1.2.2 f).length → ∀ L, (∀ a kd, σ a = some kd → L a = ml a) → (∀ z, z < 14 → L q z = wkN S.1 k z) → (∀ z, z < 14 → L q2 z = wadd (wkN S.1 k f) ((S.1.2.2 f).take e) (wrow S.1 (wkN S.1 k) f) z) → V κ (phiP κ mrX6_walks 24 31 434 (fun o μ' => o = .inl (some (.long (if (0 : Nat) = 0 then wkN S.1 i j else 0))) ∧ ∃ m', μ' = MM σ m' ml ∧ MA m' m S ∧ m' m 0 = nI 0 ∧ ∀ a i, (a < m ∨ m + 101 ≤ a) → m' a i = mi a i)) (k + 1 + 1) (14 * (k + 1) + 14) 85 [some (.ref m), some (.int (nI j)), some (.int (nI i)), some (.ref q), some (.int (nI k)), some (.ref q2), some (.int (nI f)), some (.int (nI e))] [] (va_up (va_up σ q (lngs 14)) q2 (lngs 14), M, L, none) := fun hf2 => loop_up _ (fun e he ih3 L hL1 hv1 hv2 => by
            have hg := hGM M hM1
            have h3 := (hw.2.2.2.1 f).1
            refine V_iload dX6_walks_85 rfl ?_
            refine V_aload_n dX6_walks_87 rfl rfl ?_
            refine V_getR frX6_17 hM2.1 rfl dX6_walks_88 ?_
            refine V_iload dX6_walks_91 rfl ?_
            refine V_ialdE hM2.2.2.1 f rfl (by omega) (by decide) ((hg.2 f (by omega)).2.1) dX6_walks_93 ?_
            refine V_N_ge (by omega) (by omega) 123 dX6_walks_94 (by decide) (fun h94 => ?_) (fun h94 => ?_)
            · refine V_iinc1 dX6_walks_123 rfl (Nat.le_of_ble_eq_true rfl) ?_
              refine V_goto 73 dX6_walks_126 (by decide) ?_
              exact ih2 hf2 M L _ hM1 hL1 hv1 (fun z hz => by rw [hv2 z hz, List.take_of_length_le h94]; rfl)
            · obtain ⟨e1, e2, e3⟩ := edg14 hw h94
              refine V_aload dX6_walks_97 rfl ?_
              refine V_aload_n dX6_walks_99 rfl rfl ?_
              refine V_getR frX6_25 hM2.1 rfl dX6_walks_100 ?_
              refine V_iload dX6_walks_103 rfl ?_
              refine V_aaldR hM2.2.2.2.2.2.2.2.2.2.2.2.2.2.2.2.2.2.1 (f) rfl (show f < 14 by omega) (by decide) dX6_walks_105 ?_
              refine V_iload dX6_walks_106 rfl ?_
              refine V_ialdE (hM2.2.2.2.2.2.2.2.2.2.2.2.2.2.2.2.2.2.1.row (j := f) (show f < 14 by omega)) e rfl (by omega) (by decide) ((hg.2 f (by omega)).2.2.2 e h94) dX6_walks_108 ?_
              refine V_dup2 dX6_walks_109 rfl rfl ?_
              refine V_laldN hq2' ((S.1.2.2 f).getD e 0) rfl (by omega) (by decide) dX6_walks_110 ?_
              refine V_aload_n dX6_walks_111 rfl rfl ?_
              refine V_iload dX6_walks_112 rfl ?_
              refine V_laldN hq1' f rfl (by omega) (by decide) dX6_walks_114 ?_
              refine V_ladd dX6_walks_115 ?_
              refine V_lastN hq2' ((S.1.2.2 f).getD e 0) rfl (by omega) (by decide) dX6_walks_116 ?_
              refine V_iinc1 dX6_walks_117 rfl (Nat.le_of_ble_eq_true rfl) ?_
              refine V_goto 85 dX6_walks_120 (by decide) ?_
              refine ih3 h94 _ (fun a kd h => ?_) (fun z hz => (u2_n _ _ (Or.inl (fun w => hne w.symm))).trans (hv1 z hz)) (fun z hz => ?_)
              · funext z
                exact (u2_n _ _ (Or.inl (hoff a kd h).2)).trans (congrFun (hL1 a kd h) z)
              · rw [take_getD h94, wadd_app]
                show u2 L q2 ((S.1.2.2 f).getD e 0) _ q2 z = if z = (S.1.2.2 f).getD e 0 then _ else _
                by_cases w : z = (S.1.2.2 f).getD e 0
                · rw [if_pos w, w, u2_s, ← hv2 _ (by omega), ← hv1 f (by omega)]
                · rw [if_neg w, u2_n _ _ (Or.inr w)]; exact hv2 z hz
            )
          refine V_iload dX6_walks_73 rfl ?_
          refine V_aload_n dX6_walks_75 rfl rfl ?_
          refine V_getE frX6_7 hM2.1 rfl ((hGM M hM1).1) dX6_walks_76 ?_
          refine V_N_ge (by omega) (by omega) 129 dX6_walks_79 (by decide) (fun h79 => ?_) (fun h79 => ?_)
          · refine V_aload dX6_walks_129 rfl ?_
            refine V_astore_n dX6_walks_131 rfl (Nat.le_of_ble_eq_true rfl) ?_
            refine V_iinc1 dX6_walks_132 rfl (Nat.le_of_ble_eq_true rfl) ?_
            refine V_goto 58 dX6_walks_135 (by decide) ?_
            refine V.drop (μ' := (va_up σ q2 (lngs 14), M, L, none)) (fun a kd h => ⟨?_, rfl, rfl⟩) rfl (ih hki q2 M L _ _ _ hs2 hM1 hL1 (fun z hz => by rw [hv2 z hz, show f = S.1.1 by omega]; rfl))
            have h0 : va_up σ q2 (lngs 14) a = some kd := h
            show va_up (va_up σ q (lngs 14)) q2 (lngs 14) a = some kd
            by_cases e : a = q2
            · rw [e, va_up_self] at h0
              rw [e, va_up_self]; exact h0
            · have h' : σ a = some kd := by rw [← va_up_ne σ (lngs 14) e]; exact h0
              show va_up (va_up σ q (lngs 14)) q2 (lngs 14) a = some kd
              rw [va_up_ne _ _ e, va_up_ne _ _ (hoff a kd h').1]
              exact h'
          · refine V_iconst (v := nI 0) dX6_walks_82 (by decide) ?_
            refine V_istore dX6_walks_83 (Nat.le_of_ble_eq_true rfl) ?_
            exact lpE h79 0 (Nat.zero_le _) L hL1 hv1 (fun z hz => by rw [hv2 z hz]; rfl)
          )
        refine V_iload dX6_walks_58 rfl ?_
        refine V_iload_n dX6_walks_60 rfl rfl ?_
        refine V_N_ge (by omega) (by omega) 138 dX6_walks_61 (by decide) (fun h61 => ?_) (fun h61 => ?_)
        · refine V_aload_n dX6_walks_138 rfl rfl ?_
          refine V_iload_n dX6_walks_139 rfl rfl ?_
          refine V_laldN hq1 j rfl (by omega) (by decide) dX6_walks_140 ?_
          rw [show (va_up σ q (lngs 14), M, L, (none : Option Nat)).2.2.1 q j = wkN S.1 i j from (hv1 j (by omega)).trans (by rw [show k = i by omega])]
          refine V.drop (μ' := MM σ (u2 (u2 mi m 0 (nI 0)) m 0 (nI 0)) ml) (fun a kd h => ⟨?_, (hM1 a kd h).symm, (hL1 a kd h).symm⟩) rfl ?_
          · have h0 : σ a = some kd := h
            show va_up σ q (lngs 14) a = some kd
            rw [va_up_ne _ _ (fun e => by rw [e, hq] at h0; cases h0)]; exact h0
          exact V_lretP rfl ⟨rfl, MQz hA hS kep.rf.z.z (u2_s _ _ _ _)⟩ ⟨by show k + 1 ≤ 31; omega, by show 14 * (k + 1) ≤ 434; omega⟩ dX6_walks_141
        · refine V_bipush (v := nI 14) dX6_walks_64 (by decide) ?_
          refine V_newL (N := 14) ac_long (by decide) (by decide) (by decide) ⟨by show k + 1 + 1 ≤ 31; omega, by show 14 * (k + 1) + 14 ≤ 434; omega⟩ dX6_walks_66 (fun q2 hq2 _ => ?_)
          refine V_astore dX6_walks_68 (Nat.le_of_ble_eq_true rfl) ?_
          refine V_iconst (v := nI 0) dX6_walks_70 (by decide) ?_
          refine V_istore dX6_walks_71 (Nat.le_of_ble_eq_true rfl) ?_
          have hne : q2 ≠ q := fun e => by rw [e] at hq2; exact absurd (hq2.symm.trans hq1) (by decide)
          exact inner h61 q2 hq2 0 (Nat.zero_le _) _ _ _ (fun a kd h => by
            show va_up M q2 _ a = _
            rw [va_up_ne _ _ (fun e => by
              rw [e] at h
              have hq2' : va_up σ q (lngs 14) q2 = none := hq2
              rw [va_up_ne _ _ hne, h] at hq2'; cases hq2')]; exact hM1 a kd h) (fun a kd h => by
            show va_up L q2 _ a = _
            rw [va_up_ne _ _ (fun e => by
              rw [e] at h
              have hq2' : va_up σ q (lngs 14) q2 = none := hq2
              rw [va_up_ne _ _ hne, h] at hq2'; cases hq2')]; exact hL1 a kd h) (fun z hz => by
            show va_up L q2 _ q z = _
            rw [va_up_ne _ _ (fun e => hne e.symm)]; exact hv1 z hz) (fun z hz => by
            show va_up L q2 _ q2 z = _
            rw [va_up_self]; rfl)
        )
      refine V_aload_n dX6_walks_0 rfl rfl ?_
      refine V_iconst (v := nI 1) dX6_walks_1 (by decide) ?_
      refine V_aload_n dX6_walks_2 rfl rfl ?_
      refine V_iload_n dX6_walks_3 rfl rfl ?_
      refine V_cv1 (ctX6_isBlock hM (show S.1.1 < 2 ^ 31 by omega) hG.1) mvX6_isBlock lkX6_144 hM.1 rfl rfl rfl (Nat.le_of_ble_eq_true rfl) ⟨⟨Nat.le_of_ble_eq_true rfl, Nat.le_of_ble_eq_true rfl⟩, Nat.le_of_ble_eq_true rfl, Nat.le_of_ble_eq_true rfl⟩ dX6_walks_4 ?_
      refine V_ifneB 14 dX6_walks_7 (by decide) (fun h7 => ?_) (fun h7 => absurd (h7.symm.trans hb) (by decide))
      refine V_iconst (v := nI 0) dX6_walks_14 (by decide) ?_
      refine V_cv1 (ctX6_fails hM (k := nI 1) (c := false)) mvX6_fails lkX6_100 hM.1 rfl rfl rfl (Nat.le_of_ble_eq_true rfl) ⟨⟨Nat.le_of_ble_eq_true rfl, Nat.le_of_ble_eq_true rfl⟩, Nat.le_of_ble_eq_true rfl, Nat.le_of_ble_eq_true rfl⟩ dX6_walks_15 ?_
      refine V_ifneB 44 dX6_walks_18 (by decide) (fun h18 => absurd (h18.symm.trans rfl) (by decide)) (fun h18 => ?_)
      refine V_aload_n dX6_walks_21 rfl rfl ?_
      refine V_iconst (v := nI 2) dX6_walks_22 (by decide) ?_
      refine V_iload_n dX6_walks_23 rfl rfl ?_
      refine V_iconst (v := nI 0) dX6_walks_24 (by decide) ?_
      refine V_bipush (v := nI 30) dX6_walks_25 (by decide) ?_
      refine V_cs1 (ctX6_isBetween) msX6_isBetween lkX6_86 rfl rfl (Nat.le_of_ble_eq_true rfl) ⟨⟨Nat.le_of_ble_eq_true rfl, Nat.le_of_ble_eq_true rfl⟩, Nat.le_of_ble_eq_true rfl, Nat.le_of_ble_eq_true rfl⟩ dX6_walks_27 ?_
      refine V_ifneB 37 dX6_walks_30 (by decide) (fun h30 => ?_) (fun h30 => absurd (h30.symm.trans hbt) (by decide))
      refine V_iconst (v := nI 0) dX6_walks_37 (by decide) ?_
      refine V_cv1 (ctX6_fails hM (k := nI 2) (c := false)) mvX6_fails lkX6_100 hM.1 rfl rfl rfl (Nat.le_of_ble_eq_true rfl) ⟨⟨Nat.le_of_ble_eq_true rfl, Nat.le_of_ble_eq_true rfl⟩, Nat.le_of_ble_eq_true rfl, Nat.le_of_ble_eq_true rfl⟩ dX6_walks_38 ?_
      refine V_ifeqB 46 dX6_walks_41 (by decide) (fun h41 => ?_) (fun h41 => absurd (h41.symm.trans rfl) (by decide))
      refine V_bipush (v := nI 14) dX6_walks_46 (by decide) ?_
      refine V_newL (N := 14) ac_long (by decide) (by decide) (by decide) ⟨Nat.le_of_ble_eq_true rfl, Nat.le_of_ble_eq_true rfl⟩ dX6_walks_48 (fun q hq _ => ?_)
      refine V_astore_n dX6_walks_50 rfl (Nat.le_of_ble_eq_true rfl) ?_
      refine V_aload_n dX6_walks_51 rfl rfl ?_
      refine V_iconst (v := nI 0) dX6_walks_52 (by decide) ?_
      refine V_lconst (v := 1) dX6_walks_53 (by decide) ?_
      refine V_lastN (show va_up σ q (lngs 14) q = lngs 14 from va_up_self _ _ _) 0 rfl (by omega) (by decide) dX6_walks_54 ?_
      refine V_iconst (v := nI 0) dX6_walks_55 (by decide) ?_
      refine V_istore dX6_walks_56 (Nat.le_of_ble_eq_true rfl) ?_
      have hq' : σ q = none := hq
      exact lp 0 (Nat.zero_le _) q _ _ _ _ _ hq' (fun a kd h => by
        have hne : a ≠ q := fun e => by rw [e, hq'] at h; cases h
        exact va_up_ne _ _ hne) (fun a kd h => by
        have hne : a ≠ q := fun e => by rw [e, hq'] at h; cases h
        funext z
        show u2 (va_up ml q _) q 0 _ a z = _
        rw [u2_n _ _ (Or.inl hne), va_up_ne _ _ hne]) (fun z hz => by
        show u2 (va_up ml q _) q 0 _ q z = _
        by_cases e : z = 0
        · subst e; rw [u2_s]; rfl
        · rw [u2_n _ _ (Or.inr e), va_up_self]
          show (0 : Int64) = if z = 0 then 1 else 0
          rw [if_neg e])

end Mdl13
