/-! the law's beginning -/
section Begin
variable {σ σ' : Nat → Option Kd}
theorem FlowL.fr {f : Nat} (h : FlowL σ f) (e : ∀ a, f ≤ a → a < f + 17 → σ' a = σ a) : FlowL σ' f := by
  obtain ⟨h0, hg, h1, h2, h3, h4, h5, h6, h7, h8, h9, h10, h11⟩ := h
  exact ⟨(e _ (by omega) (by omega)).trans h0, hg.keep (fun a q1 q2 => e a (by omega) (by omega)), (e _ (by omega) (by omega)).trans h1, (e _ (by omega) (by omega)).trans h2, (e _ (by omega) (by omega)).trans h3, (e _ (by omega) (by omega)).trans h4, (e _ (by omega) (by omega)).trans h5, (e _ (by omega) (by omega)).trans h6, (e _ (by omega) (by omega)).trans h7, (e _ (by omega) (by omega)).trans h8, (e _ (by omega) (by omega)).trans h9, (e _ (by omega) (by omega)).trans h10, (e _ (by omega) (by omega)).trans h11⟩
theorem HistL.fr {x : Nat} (h : HistL σ x) (e : ∀ a, x ≤ a → a < x + 42 → σ' a = σ a) : HistL σ' x := by
  obtain ⟨h1, ⟨r, h2, h3⟩, h4⟩ := h
  exact ⟨(e _ (by omega) (by omega)).trans h1, ⟨r, (e _ (by omega) (by omega)).trans h2, h3⟩, fun j hj => (h4 j hj).keep (fun a q1 q2 => e a (by omega) (by omega))⟩
theorem XL.fr {x : Nat} (h : XL σ x) (e : ∀ a, x ≤ a → a < x + 90 → σ' a = σ a) : XL σ' x := by
  obtain ⟨h0, h1, h2, h3, h4, ⟨l1, l2, l3, l4⟩, w1, w2, w3, w4⟩ := h
  exact ⟨(e _ (by omega) (by omega)).trans h0, h1.fr (fun a q1 q2 => e a (by omega) (by omega)), h2.fr (fun a q1 q2 => e a (by omega) (by omega)), h3.keep (fun a q1 q2 => e a (by omega) (by omega)), h4.fr (fun a q1 q2 => e a (by omega) (by omega)), ⟨(e _ (by omega) (by omega)).trans l1, (e _ (by omega) (by omega)).trans l2, (e _ (by omega) (by omega)).trans l3, (e _ (by omega) (by omega)).trans l4⟩, (e _ (by omega) (by omega)).trans w1, (e _ (by omega) (by omega)).trans w2, (e _ (by omega) (by omega)).trans w3, (e _ (by omega) (by omega)).trans w4⟩
theorem OutL.fr {a n k base : Nat} (h : OutL σ a n k base) (e0 : σ' a = σ a) (e : ∀ j, j < n → σ' (base + j) = σ (base + j)) : OutL σ' a n k base := by
  obtain ⟨r, h1, h2⟩ := h
  exact ⟨r, e0.trans h1, fun j hj => ⟨(h2 j hj).1, (e j hj).trans (h2 j hj).2⟩⟩
theorem ML.fr {m : Nat} (h : ML σ m) (e : ∀ a, m ≤ a → a < m + 101 → σ' a = σ a) : ML σ' m := by
  obtain ⟨h0, h1, h2, h3, h4, h5, h6, h7, h8, h9, h10, h11, h12, h13, h14, h15, o1, o2, o3, o4, o5, o6⟩ := h
  exact ⟨(e _ (by omega) (by omega)).trans h0, (e _ (by omega) (by omega)).trans h1, (e _ (by omega) (by omega)).trans h2, (e _ (by omega) (by omega)).trans h3, (e _ (by omega) (by omega)).trans h4, (e _ (by omega) (by omega)).trans h5, (e _ (by omega) (by omega)).trans h6, (e _ (by omega) (by omega)).trans h7, (e _ (by omega) (by omega)).trans h8, (e _ (by omega) (by omega)).trans h9, (e _ (by omega) (by omega)).trans h10, (e _ (by omega) (by omega)).trans h11, (e _ (by omega) (by omega)).trans h12, (e _ (by omega) (by omega)).trans h13, (e _ (by omega) (by omega)).trans h14, (e _ (by omega) (by omega)).trans h15, o1.fr (e _ (by omega) (by omega)) (fun j hj => e _ (by omega) (by omega)), o2.fr (e _ (by omega) (by omega)) (fun j hj => e _ (by omega) (by omega)), o3.fr (e _ (by omega) (by omega)) (fun j hj => e _ (by omega) (by omega)), o4.fr (e _ (by omega) (by omega)) (fun j hj => e _ (by omega) (by omega)), o5.fr (e _ (by omega) (by omega)) (fun j hj => e _ (by omega) (by omega)), o6.fr (e _ (by omega) (by omega)) (fun j hj => e _ (by omega) (by omega))⟩
end Begin
theorem law_begin {κ : K0} {b Ln x0 : Nat} {xs : Nat → Int32} {nm : String} {hh : List (Nat × Nat × Nat × Nat)} (hL : Ln ≤ 2048) : V κ (phiL κ b Ln xs nm hh) 0 0 0 (entL [.ref b] 9) [] (fun _ => none, fun _ _ => 0, fun _ _ => 0, some x0) := by
  refine V_new (ci := 5) (sl := slD5) rfl clL_8 insX5 iniX5 (fun k hk ty h => by
      have hd : ∀ k, k < 10 → (parseFieldDescriptor (TX5 k).2.2.1).map defaultValue = some (slV slD5 (fun _ => 0) k) := by decide +kernel
      have h1 := hd k hk
      rw [h] at h1
      exact Option.some.inj h1) ⟨Nat.le_of_ble_eq_true rfl, Nat.le_of_ble_eq_true rfl⟩ dL_law_0 (fun q hq hz => ?_)
  have e : q = x0 := hz _ rfl
  subst e
  refine V_dup dL_law_3 rfl ?_
  refine V_callIP (as := []) (ctX5_init (o := q) (va_up_self _ _ _) (va_up_self _ _ _) (fun a ha => va_up_ne _ _ (by omega))) miX5_init lkL_128 rfl rfl (Nat.le_of_ble_eq_true rfl) ⟨⟨Nat.le_of_ble_eq_true rfl, Nat.le_of_ble_eq_true rfl⟩, Nat.le_of_ble_eq_true rfl, Nat.le_of_ble_eq_true rfl⟩ dL_law_4 (fun o μ' h => h.1) (fun μ' h => ?_)
  obtain ⟨-, σ1, m1, l1, rfl, hXL, hXA⟩ := h
  refine V_astore_n dL_law_7 rfl (Nat.le_of_ble_eq_true rfl) ?_
  refine V.learn rfl (fun n hn _ => ?_)
  have hxn : q + 90 ≤ n := by
    rcases Nat.lt_or_ge (q + 89) n with h | h
    · omega
    · have h1 : σ1 (q + 89) = none := hn (q + 89) h
      have h2 : σ1 (q + 89) = lngs 14 := hXL.2.2.2.2.2.2.2.2.2
      rw [h1] at h2
      cases h2
  refine V_new (ci := 6) (sl := slD6) rfl clL_129 insX6 iniX6 (fun k hk ty h => by
      have hd : ∀ k, k < 36 → (parseFieldDescriptor (TX6 k).2.2.1).map defaultValue = some (slV slD6 (fun _ => 0) k) := by decide +kernel
      have h1 := hd k hk
      rw [h] at h1
      exact Option.some.inj h1) ⟨Nat.le_of_ble_eq_true rfl, Nat.le_of_ble_eq_true rfl⟩ dL_law_8 (fun m hm hz => ?_)
  have e : m = n := hz _ rfl
  subst e
  refine V_dup dL_law_11 rfl ?_
  refine V_callIP (as := []) (ctX6_init (o := m) (va_up_self _ _ _) (va_up_self _ _ _) (fun a ha => (va_up_ne _ _ (by omega)).trans (hn a (by omega)))) miX6_init lkL_131 rfl rfl (Nat.le_of_ble_eq_true rfl) ⟨⟨Nat.le_of_ble_eq_true rfl, Nat.le_of_ble_eq_true rfl⟩, Nat.le_of_ble_eq_true rfl, Nat.le_of_ble_eq_true rfl⟩ dL_law_12 (fun o μ' h => h.1) (fun μ' h => ?_)
  obtain ⟨-, σ2, m2, l2, rfl, ⟨hML, hMA⟩, hb2, hn2⟩ := h
  refine V_astore_n dL_law_15 rfl (Nat.le_of_ble_eq_true rfl) ?_
  refine V_iconst (v := nI 1) dL_law_16 (by decide) ?_
  refine V_newL (N := 1) ac_long (by decide) (by decide) (by decide) ⟨Nat.le_of_ble_eq_true rfl, Nat.le_of_ble_eq_true rfl⟩ dL_law_17 (fun o ho hz => ?_)
  have e : o = m + 101 := hz _ rfl
  subst e
  refine V_astore_n dL_law_19 rfl (Nat.le_of_ble_eq_true rfl) ?_
  refine V_iconst (v := nI 0) dL_law_20 (by decide) ?_
  refine V_istore dL_law_21 (Nat.le_of_ble_eq_true rfl) ?_
  obtain ⟨σ3, e3⟩ : ∃ z, z = va_up σ2 (m + 101) (lngs 1) := ⟨_, rfl⟩
  obtain ⟨m3, f3⟩ : ∃ z, z = va_up m2 (m + 101) (fun _ => 0) := ⟨_, rfl⟩
  obtain ⟨l3, g3⟩ : ∃ z, z = va_up l2 (m + 101) (fun _ => 0) := ⟨_, rfl⟩
  refine V.drop (μ' := MM σ3 m3 l3) (fun a kd h => ⟨by rw [e3] at h; exact h, by rw [f3], by rw [g3]⟩) rfl ?_
  have hσ : ∀ a, a < m + 101 → σ3 a = σ2 a := fun a ha => by rw [e3]; exact va_up_ne _ _ (by omega)
  have hm3 : ∀ a i, a < m + 101 → m3 a i = m2 a i := fun a i ha => by rw [f3, va_up_ne _ _ (by omega)]
  have hσ1 : ∀ a, a < m → σ2 a = σ1 a := fun a ha => (hb2 a ha).1.trans (va_up_ne _ _ (by omega))
  have hm1 : ∀ a i, a < m → m2 a i = m1 a i := fun a i ha => congrFun ((hb2 a ha).2.1.trans (va_up_ne _ _ (by omega))) i
  refine V.widen (k := 200 + 32 * 0) (n := 5000 + 440 * 0) (Nat.le_of_ble_eq_true rfl) (Nat.le_of_ble_eq_true rfl) ?_
  exact law_loop (σ := σ3) (x := q) (m := m) (o := m + 101) ⟨hXL.fr (fun a q1 q2 => (hσ a (by omega)).trans (hσ1 a (by omega))), hML.fr (fun a q1 q2 => hσ a (by omega)), by rw [e3]; exact va_up_self _ _ _, hxn, Nat.le_refl _⟩ hL Ln 0 S0 m3 l3 (hXA.fr (fun a i q1 q2 => (hm3 a i (by omega)).trans (hm1 a i (by omega)))) (hMA.fr SOK_S0 (fun a i q1 q2 => hm3 a i (by omega))) SOK_S0 (by omega) (by omega)
