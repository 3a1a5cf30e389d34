/-! SsaRepair: further questions -/
section Cls2
variable {κ : K0} {σ : Nat → Option Kd} {mi : Nat → Nat → Int32} {ml : Nat → Nat → Int64} {x : Nat} {S : SS} {μ : Mem}
theorem mAt_spec {P : Nat → Bool} {i : Nat} : ∀ n b, cnt P b ≤ i → i < cnt P (b + n) → P (mAt P i b n) = true ∧ mAt P i b n < b + n
  | 0, b, h1, h2 => absurd (show i < cnt P b from h2) (by omega)
  | n + 1, b, h1, h2 => by
    have e : b + (n + 1) = b + 1 + n := by omega
    rw [mAt]
    rw [e] at h2
    split
    · next hp =>
      split
      · exact ⟨hp, by omega⟩
      · next h =>
        have := mAt_spec (P := P) n (b + 1) (by rw [← cnt_t hp]; omega) h2
        exact ⟨this.1, by omega⟩
    · next hp =>
      have := mAt_spec (P := P) n (b + 1) (by rw [← cnt_f (by simpa using hp)]; exact h1) h2
      exact ⟨this.1, by omega⟩
theorem nI_m1 {a : Nat} (h : a < 2 ^ 31) : ¬ nI a = -1 := fun q => by
  have h2 := congrArg Int32.toInt q
  rw [nI_toInt h] at h2
  have h3 : (-1 : Int32).toInt = -1 := by decide
  omega
theorem cnt_mono {P : Nat → Bool} {a : Nat} : ∀ n, cnt P a ≤ cnt P (a + n)
  | 0 => Nat.le_refl _
  | n + 1 => by
    have := cnt_mono (P := P) (a := a) n
    rw [← Nat.add_assoc, cnt]
    split <;> omega
theorem ctX5_memberAt_in {P : Nat → Bool} {i : Nat} (hi : i < cnt P 14) : Ct κ 0 0 2 mrX5_memberAt [.int (msk P), .int (nI i)] μ (.inl (some (.int (nI (mAt P i 0 14))))) μ := by
  refine Ct.of rfl (by simp [Value.category]) (Nat.le_of_ble_eq_true rfl) ?_
  have h15 := cnt_le P 14
  have lp : ∀ b, b ≤ 14 → cnt P b ≤ i → mAt P i b (14 - b) = mAt P i 0 14 → V κ (phi κ mrX5_memberAt 2 0 0 (.inl (some (.int (nI (mAt P i 0 14))))) (μ)) 0 0 4 [some (.int (msk P)), some (.int (nI i)), some (.int (nI (i - cnt P b))), some (.int (nI b))] [] μ := loop_up _ (fun b hb ih h1 h2 => by
    have en : b < 14 → 14 - b = (14 - (b + 1)) + 1 := fun _ => by omega
    refine V_iload_n dX5_memberAt_4 rfl rfl ?_
    refine V_bipush (v := nI 14) dX5_memberAt_5 (by decide) ?_
    refine V_N_ge (by omega) (by omega) 33 dX5_memberAt_7 (by decide) (fun h7 => ?_) (fun h7 => ?_)
    · exfalso
      rw [show b = 14 by omega] at h1
      omega
    · refine V_iload_n dX5_memberAt_10 rfl rfl ?_
      refine V_iload_n dX5_memberAt_11 rfl rfl ?_
      refine V_cs1 (ctX5_hasM (by omega)) msX5_has lkX5_183 rfl rfl (Nat.le_of_ble_eq_true rfl) ⟨⟨Nat.le_of_ble_eq_true rfl, Nat.le_of_ble_eq_true rfl⟩, Nat.le_of_ble_eq_true rfl, Nat.le_of_ble_eq_true rfl⟩ dX5_memberAt_12 ?_
      refine V_ifeqB 27 dX5_memberAt_15 (by decide) (fun h15b => ?_) (fun h15b => ?_)
      · refine V_iinc1 dX5_memberAt_27 rfl (Nat.le_of_ble_eq_true rfl) ?_
        refine V_goto 4 dX5_memberAt_30 (by decide) ?_
        exact V.cL (ih h7 (by rw [← cnt_f h15b]; exact h1) (by rw [← h2, en h7, mAt, if_neg (by rw [h15b]; decide)])) (by rw [cnt_f h15b]; rfl)
      · refine V_iload_n dX5_memberAt_18 rfl rfl ?_
        refine V_Z_ne (by omega) 24 dX5_memberAt_19 (by decide) (fun h19 => ?_) (fun h19 => ?_)
        · refine V_iinc (v := nI (i - cnt P b - 1)) dX5_memberAt_24 rfl ((dec1 _).trans (nI_subN (by omega))) (Nat.le_of_ble_eq_true rfl) ?_
          refine V_iinc1 dX5_memberAt_27 rfl (Nat.le_of_ble_eq_true rfl) ?_
          refine V_goto 4 dX5_memberAt_30 (by decide) ?_
          exact V.cL (ih h7 (by rw [← cnt_t h15b]; omega) (by rw [← h2, en h7, mAt, if_pos h15b, if_neg (by omega)])) (by rw [← cnt_t h15b, Nat.sub_sub]; rfl)
        · refine V_iload_n dX5_memberAt_22 rfl rfl ?_
          exact V_iret rfl (oI (by rw [← h2, en h7, mAt, if_pos h15b, if_pos (by omega)])) rfl ⟨Nat.le_of_ble_eq_true rfl, Nat.le_of_ble_eq_true rfl⟩ dX5_memberAt_23
    )
  refine V_iload_n dX5_memberAt_0 rfl rfl ?_
  refine V_istore_n dX5_memberAt_1 rfl (Nat.le_of_ble_eq_true rfl) ?_
  refine V_iconst (v := nI 0) dX5_memberAt_2 (by decide) ?_
  refine V_istore_n dX5_memberAt_3 rfl (Nat.le_of_ble_eq_true rfl) ?_
  exact lp 0 (Nat.zero_le _) (Nat.zero_le _) rfl

theorem ctX5_memberAt_out {P : Nat → Bool} {y : Int32} (hy : inR y (cnt P 14) = false) : Ct κ 0 0 2 mrX5_memberAt [.int (msk P), .int y] μ (.inl (some (.int (-1)))) μ := by
  refine Ct.of rfl (by simp [Value.category]) (Nat.le_of_ble_eq_true rfl) ?_
  have h15 := cnt_le P 14
  have lp : ∀ b, b ≤ 14 → ∀ z, z + nI (cnt P b) = y → V κ (phi κ mrX5_memberAt 2 0 0 (.inl (some (.int (-1)))) (μ)) 0 0 4 [some (.int (msk P)), some (.int y), some (.int z), some (.int (nI b))] [] μ := loop_up _ (fun b hb ih z h1 => by
    refine V_iload_n dX5_memberAt_4 rfl rfl ?_
    refine V_bipush (v := nI 14) dX5_memberAt_5 (by decide) ?_
    refine V_N_ge (by omega) (by omega) 33 dX5_memberAt_7 (by decide) (fun h7 => ?_) (fun h7 => ?_)
    · refine V_iconst (v := (-1)) dX5_memberAt_33 (by decide) ?_
      exact V_iret rfl rfl rfl ⟨Nat.le_of_ble_eq_true rfl, Nat.le_of_ble_eq_true rfl⟩ dX5_memberAt_34
    · refine V_iload_n dX5_memberAt_10 rfl rfl ?_
      refine V_iload_n dX5_memberAt_11 rfl rfl ?_
      refine V_cs1 (ctX5_hasM (by omega)) msX5_has lkX5_183 rfl rfl (Nat.le_of_ble_eq_true rfl) ⟨⟨Nat.le_of_ble_eq_true rfl, Nat.le_of_ble_eq_true rfl⟩, Nat.le_of_ble_eq_true rfl, Nat.le_of_ble_eq_true rfl⟩ dX5_memberAt_12 ?_
      refine V_ifeqB 27 dX5_memberAt_15 (by decide) (fun h15b => ?_) (fun h15b => ?_)
      · refine V_iinc1 dX5_memberAt_27 rfl (Nat.le_of_ble_eq_true rfl) ?_
        refine V_goto 4 dX5_memberAt_30 (by decide) ?_
        exact ih h7 z (by rw [← cnt_f h15b]; exact h1)
      · refine V_iload_n dX5_memberAt_18 rfl rfl ?_
        refine V_if_ne 24 dX5_memberAt_19 (by decide) (fun h19 => ?_) (fun h19 => ?_)
        · refine V_iinc (v := z - nI 1) dX5_memberAt_24 rfl (dec1 _) (Nat.le_of_ble_eq_true rfl) ?_
          refine V_iinc1 dX5_memberAt_27 rfl (Nat.le_of_ble_eq_true rfl) ?_
          refine V_goto 4 dX5_memberAt_30 (by decide) ?_
          exact ih h7 _ (by rw [← cnt_t h15b, ← nI_add, Int32.add_comm (nI _) (nI 1), ← Int32.add_assoc, Int32.sub_add_cancel]; exact h1)
        · exfalso
          rw [h19, Int32.zero_add] at h1
          have h3 := cnt_t h15b
          have h4 := cnt_mono (P := P) (a := b + 1) (14 - (b + 1))
          rw [show b + 1 + (14 - (b + 1)) = 14 by omega] at h4
          rw [← h1, inR_nI (by omega) (by omega)] at hy
          cases hy
    )
  refine V_iload_n dX5_memberAt_0 rfl rfl ?_
  refine V_istore_n dX5_memberAt_1 rfl (Nat.le_of_ble_eq_true rfl) ?_
  refine V_iconst (v := nI 0) dX5_memberAt_2 (by decide) ?_
  refine V_istore_n dX5_memberAt_3 rfl (Nat.le_of_ble_eq_true rfl) ?_
  exact lp 0 (Nat.zero_le _) y (show y + 0 = y from Int32.add_zero y)

theorem ctX5_dominates (hL : XL σ x) (hX : XA mi x S) (hS : SOK S) {b t : Int32} : CtP κ 1 6 12 mrX5_dominates [.ref x, .int b, .int t] (MM σ mi ml) (XR σ mi ml x [EIOB, EISE] (rs_dominates S b t)) := by
  have hq := XQ (ml := ml) (σ := σ) hX
  have hw := hS.1
  have h14 := hw.2.1
  cases hb : inR b S.1.1 with
  | false =>
    rw [show rs_dominates S b t = (1, 0, S) from by unfold rs_dominates; rw [if_pos (by rw [hb]; rfl)]]
    refine CtP.of rfl (by simp [Value.category]) (Nat.le_of_ble_eq_true rfl) ?_
    refine V_aload_n dX5_dominates_0 rfl rfl ?_
    refine V_iload_n dX5_dominates_1 rfl rfl ?_
    refine V_callVX (ctX5_requireBlock_f hL hX hS hb) mvX5_requireBlock lkX5_132 hL.1 rfl rfl rfl (Nat.le_of_ble_eq_true rfl) ⟨⟨Nat.le_of_ble_eq_true rfl, Nat.le_of_ble_eq_true rfl⟩, Nat.le_of_ble_eq_true rfl, Nat.le_of_ble_eq_true rfl⟩ dX5_dominates_2 ?_
    exact VX_outP ⟨rfl, hq⟩ ⟨Nat.le_of_ble_eq_true rfl, Nat.le_of_ble_eq_true rfl⟩

  | true =>
    cases ht : inR t S.1.1 with
    | false =>
      rw [show rs_dominates S b t = (1, 0, S) from by unfold rs_dominates; rw [if_pos (by rw [ht, Bool.and_false])]]
      refine CtP.of rfl (by simp [Value.category]) (Nat.le_of_ble_eq_true rfl) ?_
      refine V_aload_n dX5_dominates_0 rfl rfl ?_
      refine V_iload_n dX5_dominates_1 rfl rfl ?_
      refine V_cv0 (ctX5_requireBlock_t hL hX hS hb) mvX5_requireBlock lkX5_132 hL.1 rfl rfl rfl (Nat.le_of_ble_eq_true rfl) ⟨⟨Nat.le_of_ble_eq_true rfl, Nat.le_of_ble_eq_true rfl⟩, Nat.le_of_ble_eq_true rfl, Nat.le_of_ble_eq_true rfl⟩ dX5_dominates_2 ?_
      refine V_aload_n dX5_dominates_5 rfl rfl ?_
      refine V_iload_n dX5_dominates_6 rfl rfl ?_
      refine V_callVX (ctX5_requireBlock_f hL hX hS ht) mvX5_requireBlock lkX5_132 hL.1 rfl rfl rfl (Nat.le_of_ble_eq_true rfl) ⟨⟨Nat.le_of_ble_eq_true rfl, Nat.le_of_ble_eq_true rfl⟩, Nat.le_of_ble_eq_true rfl, Nat.le_of_ble_eq_true rfl⟩ dX5_dominates_7 ?_
      exact VX_outP ⟨rfl, hq⟩ ⟨Nat.le_of_ble_eq_true rfl, Nat.le_of_ble_eq_true rfl⟩

    | true =>
      obtain ⟨j, hj, rfl⟩ := inR_t (by omega) hb
      have tj := tn_nI (show j < 2 ^ 31 by omega)
      obtain ⟨i, hi, rfl⟩ := inR_t (by omega) ht
      have ti := tn_nI (show i < 2 ^ 31 by omega)
      have h1 : ¬ (inR (nI j) S.1.1 && inR (nI i) S.1.1) = false := by rw [hb, ht]; decide
      cases hr : bp (Rc S.1 j) with
      | false =>
        rw [show rs_dominates S (nI j) (nI i) = (2, 0, S) from by unfold rs_dominates; rw [tj, if_neg h1, if_pos (by rw [hr]; rfl)]]
        refine CtP.of rfl (by simp [Value.category]) (Nat.le_of_ble_eq_true rfl) ?_
        refine V_aload_n dX5_dominates_0 rfl rfl ?_
        refine V_iload_n dX5_dominates_1 rfl rfl ?_
        refine V_cv0 (ctX5_requireBlock_t hL hX hS hb) mvX5_requireBlock lkX5_132 hL.1 rfl rfl rfl (Nat.le_of_ble_eq_true rfl) ⟨⟨Nat.le_of_ble_eq_true rfl, Nat.le_of_ble_eq_true rfl⟩, Nat.le_of_ble_eq_true rfl, Nat.le_of_ble_eq_true rfl⟩ dX5_dominates_2 ?_
        refine V_aload_n dX5_dominates_5 rfl rfl ?_
        refine V_iload_n dX5_dominates_6 rfl rfl ?_
        refine V_cv0 (ctX5_requireBlock_t hL hX hS ht) mvX5_requireBlock lkX5_132 hL.1 rfl rfl rfl (Nat.le_of_ble_eq_true rfl) ⟨⟨Nat.le_of_ble_eq_true rfl, Nat.le_of_ble_eq_true rfl⟩, Nat.le_of_ble_eq_true rfl, Nat.le_of_ble_eq_true rfl⟩ dX5_dominates_7 ?_
        refine V_aload_n dX5_dominates_10 rfl rfl ?_
        refine V_iload_n dX5_dominates_11 rfl rfl ?_
        refine V_callVX (ctX5_requireReachable_u hL hX hS hj hr) mvX5_requireReachable lkX5_186 hL.1 rfl rfl rfl (Nat.le_of_ble_eq_true rfl) ⟨⟨Nat.le_of_ble_eq_true rfl, Nat.le_of_ble_eq_true rfl⟩, Nat.le_of_ble_eq_true rfl, Nat.le_of_ble_eq_true rfl⟩ dX5_dominates_12 ?_
        exact VX_outP ⟨rfl, hq⟩ ⟨Nat.le_of_ble_eq_true rfl, Nat.le_of_ble_eq_true rfl⟩

      | true =>
        cases hr2 : bp (Rc S.1 i) with
        | false =>
          rw [show rs_dominates S (nI j) (nI i) = (2, 0, S) from by unfold rs_dominates; rw [tj, ti, if_neg h1, if_pos (by rw [hr2, Bool.and_false])]]
          refine CtP.of rfl (by simp [Value.category]) (Nat.le_of_ble_eq_true rfl) ?_
          refine V_aload_n dX5_dominates_0 rfl rfl ?_
          refine V_iload_n dX5_dominates_1 rfl rfl ?_
          refine V_cv0 (ctX5_requireBlock_t hL hX hS hb) mvX5_requireBlock lkX5_132 hL.1 rfl rfl rfl (Nat.le_of_ble_eq_true rfl) ⟨⟨Nat.le_of_ble_eq_true rfl, Nat.le_of_ble_eq_true rfl⟩, Nat.le_of_ble_eq_true rfl, Nat.le_of_ble_eq_true rfl⟩ dX5_dominates_2 ?_
          refine V_aload_n dX5_dominates_5 rfl rfl ?_
          refine V_iload_n dX5_dominates_6 rfl rfl ?_
          refine V_cv0 (ctX5_requireBlock_t hL hX hS ht) mvX5_requireBlock lkX5_132 hL.1 rfl rfl rfl (Nat.le_of_ble_eq_true rfl) ⟨⟨Nat.le_of_ble_eq_true rfl, Nat.le_of_ble_eq_true rfl⟩, Nat.le_of_ble_eq_true rfl, Nat.le_of_ble_eq_true rfl⟩ dX5_dominates_7 ?_
          refine V_aload_n dX5_dominates_10 rfl rfl ?_
          refine V_iload_n dX5_dominates_11 rfl rfl ?_
          refine V_cv0 (ctX5_requireReachable_t hL hX hS (bp_t.mp hr)) mvX5_requireReachable lkX5_186 hL.1 rfl rfl rfl (Nat.le_of_ble_eq_true rfl) ⟨⟨Nat.le_of_ble_eq_true rfl, Nat.le_of_ble_eq_true rfl⟩, Nat.le_of_ble_eq_true rfl, Nat.le_of_ble_eq_true rfl⟩ dX5_dominates_12 ?_
          refine V_aload_n dX5_dominates_15 rfl rfl ?_
          refine V_iload_n dX5_dominates_16 rfl rfl ?_
          refine V_callVX (ctX5_requireReachable_u hL hX hS hi hr2) mvX5_requireReachable lkX5_186 hL.1 rfl rfl rfl (Nat.le_of_ble_eq_true rfl) ⟨⟨Nat.le_of_ble_eq_true rfl, Nat.le_of_ble_eq_true rfl⟩, Nat.le_of_ble_eq_true rfl, Nat.le_of_ble_eq_true rfl⟩ dX5_dominates_17 ?_
          exact VX_outP ⟨rfl, hq⟩ ⟨Nat.le_of_ble_eq_true rfl, Nat.le_of_ble_eq_true rfl⟩

        | true =>
          rw [show rs_dominates S (nI j) (nI i) = (0, bI (bp (Dm S.1 j i)), S) from by unfold rs_dominates; rw [tj, ti, if_neg h1, if_neg (by rw [hr, hr2]; decide)]]
          refine CtP.of rfl (by simp [Value.category]) (Nat.le_of_ble_eq_true rfl) ?_
          refine V_aload_n dX5_dominates_0 rfl rfl ?_
          refine V_iload_n dX5_dominates_1 rfl rfl ?_
          refine V_cv0 (ctX5_requireBlock_t hL hX hS hb) mvX5_requireBlock lkX5_132 hL.1 rfl rfl rfl (Nat.le_of_ble_eq_true rfl) ⟨⟨Nat.le_of_ble_eq_true rfl, Nat.le_of_ble_eq_true rfl⟩, Nat.le_of_ble_eq_true rfl, Nat.le_of_ble_eq_true rfl⟩ dX5_dominates_2 ?_
          refine V_aload_n dX5_dominates_5 rfl rfl ?_
          refine V_iload_n dX5_dominates_6 rfl rfl ?_
          refine V_cv0 (ctX5_requireBlock_t hL hX hS ht) mvX5_requireBlock lkX5_132 hL.1 rfl rfl rfl (Nat.le_of_ble_eq_true rfl) ⟨⟨Nat.le_of_ble_eq_true rfl, Nat.le_of_ble_eq_true rfl⟩, Nat.le_of_ble_eq_true rfl, Nat.le_of_ble_eq_true rfl⟩ dX5_dominates_7 ?_
          refine V_aload_n dX5_dominates_10 rfl rfl ?_
          refine V_iload_n dX5_dominates_11 rfl rfl ?_
          refine V_cv0 (ctX5_requireReachable_t hL hX hS (bp_t.mp hr)) mvX5_requireReachable lkX5_186 hL.1 rfl rfl rfl (Nat.le_of_ble_eq_true rfl) ⟨⟨Nat.le_of_ble_eq_true rfl, Nat.le_of_ble_eq_true rfl⟩, Nat.le_of_ble_eq_true rfl, Nat.le_of_ble_eq_true rfl⟩ dX5_dominates_12 ?_
          refine V_aload_n dX5_dominates_15 rfl rfl ?_
          refine V_iload_n dX5_dominates_16 rfl rfl ?_
          refine V_cv0 (ctX5_requireReachable_t hL hX hS (bp_t.mp hr2)) mvX5_requireReachable lkX5_186 hL.1 rfl rfl rfl (Nat.le_of_ble_eq_true rfl) ⟨⟨Nat.le_of_ble_eq_true rfl, Nat.le_of_ble_eq_true rfl⟩, Nat.le_of_ble_eq_true rfl, Nat.le_of_ble_eq_true rfl⟩ dX5_dominates_17 ?_
          refine V_aload_n dX5_dominates_20 rfl rfl ?_
          refine V_getR frX5_10 hL.1 rfl dX5_dominates_21 ?_
          refine V_getR frX5_192 hL.2.1.1 rfl dX5_dominates_24 ?_
          refine V_iload_n dX5_dominates_27 rfl rfl ?_
          refine V_ialdE hL.2.1.2.2.2.2.1 j rfl (by omega) (by decide) (hX.2.1.2.1.1 j (by omega)) dX5_dominates_28 ?_
          refine V_iload_n dX5_dominates_29 rfl rfl ?_
          refine V_cs1 (ctX5_hasM (by omega)) msX5_has lkX5_183 rfl rfl (Nat.le_of_ble_eq_true rfl) ⟨⟨Nat.le_of_ble_eq_true rfl, Nat.le_of_ble_eq_true rfl⟩, Nat.le_of_ble_eq_true rfl, Nat.le_of_ble_eq_true rfl⟩ dX5_dominates_30 ?_
          exact V_zretP rfl (bI_nar _) ⟨rfl, hq⟩ ⟨Nat.le_of_ble_eq_true rfl, Nat.le_of_ble_eq_true rfl⟩ dX5_dominates_33

theorem ctX5_sourceOfUse (hL : XL σ x) (hX : XA mi x S) (hS : SOK S) {b k : Int32} : CtP κ 1 6 12 mrX5_sourceOfUse [.ref x, .int b, .int k] (MM σ mi ml) (XR σ mi ml x [EIOB, EISE, ENSE] (rs_sourceOfUse S b k)) := by
  have hq := XQ (ml := ml) (σ := σ) hX
  have hw := hS.1
  have h14 := hw.2.1
  cases hb : hasAct S.1 b k with
  | false =>
    rw [show rs_sourceOfUse S b k = (1, 0, S) from by unfold rs_sourceOfUse; rw [if_pos hb]]
    refine CtP.of rfl (by simp [Value.category]) (Nat.le_of_ble_eq_true rfl) ?_
    refine V_aload_n dX5_sourceOfUse_0 rfl rfl ?_
    refine V_iload_n dX5_sourceOfUse_1 rfl rfl ?_
    refine V_iload_n dX5_sourceOfUse_2 rfl rfl ?_
    refine V_callVX (ctX5_requireAction_f hL hX hS hb) mvX5_requireAction lkX5_121 hL.1 rfl rfl rfl (Nat.le_of_ble_eq_true rfl) ⟨⟨Nat.le_of_ble_eq_true rfl, Nat.le_of_ble_eq_true rfl⟩, Nat.le_of_ble_eq_true rfl, Nat.le_of_ble_eq_true rfl⟩ dX5_sourceOfUse_3 ?_
    exact VX_outP ⟨rfl, hq⟩ ⟨Nat.le_of_ble_eq_true rfl, Nat.le_of_ble_eq_true rfl⟩

  | true =>
    obtain ⟨j, i, hj, hi, rfl, rfl⟩ := hasAct_t hw hb
    have h6 := (hw.2.2.1 j).1
    have ha := act14 hw hi
    have tj := tn_nI (show j < 2 ^ 31 by omega)
    have ti := tn_nI (show i < 2 ^ 31 by omega)
    have h1 : ¬ hasAct S.1 (nI j) (nI i) = false := by rw [hb]; decide
    cases hr : bp (Rc S.1 j) with
    | false =>
      rw [show rs_sourceOfUse S (nI j) (nI i) = (2, 0, S) from by unfold rs_sourceOfUse; rw [tj, if_neg h1, if_pos hr]]
      refine CtP.of rfl (by simp [Value.category]) (Nat.le_of_ble_eq_true rfl) ?_
      refine V_aload_n dX5_sourceOfUse_0 rfl rfl ?_
      refine V_iload_n dX5_sourceOfUse_1 rfl rfl ?_
      refine V_iload_n dX5_sourceOfUse_2 rfl rfl ?_
      refine V_cv0 (ctX5_requireAction_t hL hX hS hb) mvX5_requireAction lkX5_121 hL.1 rfl rfl rfl (Nat.le_of_ble_eq_true rfl) ⟨⟨Nat.le_of_ble_eq_true rfl, Nat.le_of_ble_eq_true rfl⟩, Nat.le_of_ble_eq_true rfl, Nat.le_of_ble_eq_true rfl⟩ dX5_sourceOfUse_3 ?_
      refine V_aload_n dX5_sourceOfUse_6 rfl rfl ?_
      refine V_iload_n dX5_sourceOfUse_7 rfl rfl ?_
      refine V_callVX (ctX5_requireReachable_u hL hX hS hj hr) mvX5_requireReachable lkX5_186 hL.1 rfl rfl rfl (Nat.le_of_ble_eq_true rfl) ⟨⟨Nat.le_of_ble_eq_true rfl, Nat.le_of_ble_eq_true rfl⟩, Nat.le_of_ble_eq_true rfl, Nat.le_of_ble_eq_true rfl⟩ dX5_sourceOfUse_8 ?_
      exact VX_outP ⟨rfl, hq⟩ ⟨Nat.le_of_ble_eq_true rfl, Nat.le_of_ble_eq_true rfl⟩

    | true =>
      have hR := bp_t.mp hr
      have h2 : ¬ bp (Rc S.1 j) = false := by rw [hr]; decide
      by_cases hu : (S.1.2.1 j).getD i 0 < 10
      · rw [show rs_sourceOfUse S (nI j) (nI i) = (3, 0, S) from by unfold rs_sourceOfUse; rw [tj, ti, if_neg h1, if_neg h2, if_pos hu]]
        refine CtP.of rfl (by simp [Value.category]) (Nat.le_of_ble_eq_true rfl) ?_
        refine V_aload_n dX5_sourceOfUse_0 rfl rfl ?_
        refine V_iload_n dX5_sourceOfUse_1 rfl rfl ?_
        refine V_iload_n dX5_sourceOfUse_2 rfl rfl ?_
        refine V_cv0 (ctX5_requireAction_t hL hX hS hb) mvX5_requireAction lkX5_121 hL.1 rfl rfl rfl (Nat.le_of_ble_eq_true rfl) ⟨⟨Nat.le_of_ble_eq_true rfl, Nat.le_of_ble_eq_true rfl⟩, Nat.le_of_ble_eq_true rfl, Nat.le_of_ble_eq_true rfl⟩ dX5_sourceOfUse_3 ?_
        refine V_aload_n dX5_sourceOfUse_6 rfl rfl ?_
        refine V_iload_n dX5_sourceOfUse_7 rfl rfl ?_
        refine V_cv0 (ctX5_requireReachable_t hL hX hS hR) mvX5_requireReachable lkX5_186 hL.1 rfl rfl rfl (Nat.le_of_ble_eq_true rfl) ⟨⟨Nat.le_of_ble_eq_true rfl, Nat.le_of_ble_eq_true rfl⟩, Nat.le_of_ble_eq_true rfl, Nat.le_of_ble_eq_true rfl⟩ dX5_sourceOfUse_8 ?_
        refine V_aload_n dX5_sourceOfUse_11 rfl rfl ?_
        refine V_getR frX5_20 hL.1 rfl dX5_sourceOfUse_12 ?_
        refine V_iload_n dX5_sourceOfUse_15 rfl rfl ?_
        refine V_iload_n dX5_sourceOfUse_16 rfl rfl ?_
        refine V_cv1 (ctX1_actionAt hL.2.1.2.1 (by omega) (by omega)) mvX1_actionAt lkX5_165 hL.2.1.2.1.1 rfl rfl rfl (Nat.le_of_ble_eq_true rfl) ⟨⟨Nat.le_of_ble_eq_true rfl, Nat.le_of_ble_eq_true rfl⟩, Nat.le_of_ble_eq_true rfl, Nat.le_of_ble_eq_true rfl⟩ dX5_sourceOfUse_17 ?_
        refine V_top ((hX.1.2 j (by omega)).2.2.1 i hi) ?_
        refine V_cs1 (ctX5_isUse (by omega)) msX5_isUse lkX5_225 rfl rfl (Nat.le_of_ble_eq_true rfl) ⟨⟨Nat.le_of_ble_eq_true rfl, Nat.le_of_ble_eq_true rfl⟩, Nat.le_of_ble_eq_true rfl, Nat.le_of_ble_eq_true rfl⟩ dX5_sourceOfUse_20 ?_
        refine V_ifneB 36 dX5_sourceOfUse_23 (by decide) (fun h23 => absurd (h23.symm.trans (decide_eq_false (by omega))) (by decide)) (fun h23 => ?_)
        refine V_thrP ⟨rfl, hq⟩ ?_
        exact V_throwX nse0 nse1 nse2 nse5 thrNSE rfl str_229 rfl rfl rfl ⟨Nat.le_of_ble_eq_true rfl, Nat.le_of_ble_eq_true rfl⟩ (Nat.le_of_ble_eq_true rfl) (Nat.le_of_ble_eq_true rfl) dX5_sourceOfUse_26 dX5_sourceOfUse_29 dX5_sourceOfUse_30 dX5_sourceOfUse_32 dX5_sourceOfUse_35

      · rw [show rs_sourceOfUse S (nI j) (nI i) = (0, nI (srcU S.1 j i), S) from by unfold rs_sourceOfUse; rw [tj, ti, if_neg h1, if_neg h2, if_neg hu]]
        refine CtP.of rfl (by simp [Value.category]) (Nat.le_of_ble_eq_true rfl) ?_
        refine V_aload_n dX5_sourceOfUse_0 rfl rfl ?_
        refine V_iload_n dX5_sourceOfUse_1 rfl rfl ?_
        refine V_iload_n dX5_sourceOfUse_2 rfl rfl ?_
        refine V_cv0 (ctX5_requireAction_t hL hX hS hb) mvX5_requireAction lkX5_121 hL.1 rfl rfl rfl (Nat.le_of_ble_eq_true rfl) ⟨⟨Nat.le_of_ble_eq_true rfl, Nat.le_of_ble_eq_true rfl⟩, Nat.le_of_ble_eq_true rfl, Nat.le_of_ble_eq_true rfl⟩ dX5_sourceOfUse_3 ?_
        refine V_aload_n dX5_sourceOfUse_6 rfl rfl ?_
        refine V_iload_n dX5_sourceOfUse_7 rfl rfl ?_
        refine V_cv0 (ctX5_requireReachable_t hL hX hS hR) mvX5_requireReachable lkX5_186 hL.1 rfl rfl rfl (Nat.le_of_ble_eq_true rfl) ⟨⟨Nat.le_of_ble_eq_true rfl, Nat.le_of_ble_eq_true rfl⟩, Nat.le_of_ble_eq_true rfl, Nat.le_of_ble_eq_true rfl⟩ dX5_sourceOfUse_8 ?_
        refine V_aload_n dX5_sourceOfUse_11 rfl rfl ?_
        refine V_getR frX5_20 hL.1 rfl dX5_sourceOfUse_12 ?_
        refine V_iload_n dX5_sourceOfUse_15 rfl rfl ?_
        refine V_iload_n dX5_sourceOfUse_16 rfl rfl ?_
        refine V_cv1 (ctX1_actionAt hL.2.1.2.1 (by omega) (by omega)) mvX1_actionAt lkX5_165 hL.2.1.2.1.1 rfl rfl rfl (Nat.le_of_ble_eq_true rfl) ⟨⟨Nat.le_of_ble_eq_true rfl, Nat.le_of_ble_eq_true rfl⟩, Nat.le_of_ble_eq_true rfl, Nat.le_of_ble_eq_true rfl⟩ dX5_sourceOfUse_17 ?_
        refine V_top ((hX.1.2 j (by omega)).2.2.1 i hi) ?_
        refine V_cs1 (ctX5_isUse (by omega)) msX5_isUse lkX5_225 rfl rfl (Nat.le_of_ble_eq_true rfl) ⟨⟨Nat.le_of_ble_eq_true rfl, Nat.le_of_ble_eq_true rfl⟩, Nat.le_of_ble_eq_true rfl, Nat.le_of_ble_eq_true rfl⟩ dX5_sourceOfUse_20 ?_
        refine V_ifneB 36 dX5_sourceOfUse_23 (by decide) (fun h23 => ?_) (fun h23 => absurd (h23.symm.trans (decide_eq_true (by omega))) (by decide))
        refine V_aload_n dX5_sourceOfUse_36 rfl rfl ?_
        refine V_getR frX5_10 hL.1 rfl dX5_sourceOfUse_37 ?_
        refine V_iload_n dX5_sourceOfUse_40 rfl rfl ?_
        refine V_iload_n dX5_sourceOfUse_41 rfl rfl ?_
        refine V_cv1 (ctX0_sourceAtUse hL.2.1 hX.1 hS.1 hX.2.1 hR hi (by omega)) mvX0_sourceAtUse lkX5_231 hL.2.1.1 rfl rfl rfl (Nat.le_of_ble_eq_true rfl) ⟨⟨Nat.le_of_ble_eq_true rfl, Nat.le_of_ble_eq_true rfl⟩, Nat.le_of_ble_eq_true rfl, Nat.le_of_ble_eq_true rfl⟩ dX5_sourceOfUse_42 ?_
        exact V_iretP rfl ⟨rfl, hq⟩ ⟨Nat.le_of_ble_eq_true rfl, Nat.le_of_ble_eq_true rfl⟩ dX5_sourceOfUse_45

theorem ctX5_reaching (hL : XL σ x) (hX : XA mi x S) (hS : SOK S) {b v y : Int32} : CtP κ 1 6 12 mrX5_reaching [.ref x, .int b, .int v, .int y] (MM σ mi ml) (XR σ mi ml x [EIOB, EISE, ENSE] (rs_reaching S b v y)) := by
  have hq := XQ (ml := ml) (σ := σ) hX
  have hw := hS.1
  have h14 := hw.2.1
  cases hv : inR v 4 with
  | false =>
    rw [show rs_reaching S b v y = (1, 0, S) from by unfold rs_reaching; rw [if_pos (by rw [hv]; rfl)]]
    refine CtP.of rfl (by simp [Value.category]) (Nat.le_of_ble_eq_true rfl) ?_
    refine V_aload_n dX5_reaching_0 rfl rfl ?_
    refine V_iload_n dX5_reaching_1 rfl rfl ?_
    refine V_callVX (ctX5_requireVariable_f hL hX hS hv) mvX5_requireVariable lkX5_203 hL.1 rfl rfl rfl (Nat.le_of_ble_eq_true rfl) ⟨⟨Nat.le_of_ble_eq_true rfl, Nat.le_of_ble_eq_true rfl⟩, Nat.le_of_ble_eq_true rfl, Nat.le_of_ble_eq_true rfl⟩ dX5_reaching_2 ?_
    exact VX_outP ⟨rfl, hq⟩ ⟨Nat.le_of_ble_eq_true rfl, Nat.le_of_ble_eq_true rfl⟩

  | true =>
    obtain ⟨i, hi, rfl⟩ := inR_t (by omega) hv
    have ti := tn_nI (show i < 2 ^ 31 by omega)
    cases hb : inR b S.1.1 with
    | false =>
      rw [show rs_reaching S b (nI i) y = (1, 0, S) from by unfold rs_reaching; rw [if_pos (by rw [hb, Bool.and_false])]]
      refine CtP.of rfl (by simp [Value.category]) (Nat.le_of_ble_eq_true rfl) ?_
      refine V_aload_n dX5_reaching_0 rfl rfl ?_
      refine V_iload_n dX5_reaching_1 rfl rfl ?_
      refine V_cv0 (ctX5_requireVariable_t hL hX hS hv) mvX5_requireVariable lkX5_203 hL.1 rfl rfl rfl (Nat.le_of_ble_eq_true rfl) ⟨⟨Nat.le_of_ble_eq_true rfl, Nat.le_of_ble_eq_true rfl⟩, Nat.le_of_ble_eq_true rfl, Nat.le_of_ble_eq_true rfl⟩ dX5_reaching_2 ?_
      refine V_aload_n dX5_reaching_5 rfl rfl ?_
      refine V_iload_n dX5_reaching_6 rfl rfl ?_
      refine V_callVX (ctX5_requireReachable_f hL hX hS hb) mvX5_requireReachable lkX5_186 hL.1 rfl rfl rfl (Nat.le_of_ble_eq_true rfl) ⟨⟨Nat.le_of_ble_eq_true rfl, Nat.le_of_ble_eq_true rfl⟩, Nat.le_of_ble_eq_true rfl, Nat.le_of_ble_eq_true rfl⟩ dX5_reaching_7 ?_
      exact VX_outP ⟨rfl, hq⟩ ⟨Nat.le_of_ble_eq_true rfl, Nat.le_of_ble_eq_true rfl⟩

    | true =>
      obtain ⟨j, hj, rfl⟩ := inR_t (by omega) hb
      have tj := tn_nI (show j < 2 ^ 31 by omega)
      have h1 : ¬ (inR (nI i) 4 && inR (nI j) S.1.1) = false := by rw [hb, hv]; decide
      cases hr : bp (Rc S.1 j) with
      | false =>
        rw [show rs_reaching S (nI j) (nI i) y = (2, 0, S) from by unfold rs_reaching; rw [tj, if_neg h1, if_pos hr]]
        refine CtP.of rfl (by simp [Value.category]) (Nat.le_of_ble_eq_true rfl) ?_
        refine V_aload_n dX5_reaching_0 rfl rfl ?_
        refine V_iload_n dX5_reaching_1 rfl rfl ?_
        refine V_cv0 (ctX5_requireVariable_t hL hX hS hv) mvX5_requireVariable lkX5_203 hL.1 rfl rfl rfl (Nat.le_of_ble_eq_true rfl) ⟨⟨Nat.le_of_ble_eq_true rfl, Nat.le_of_ble_eq_true rfl⟩, Nat.le_of_ble_eq_true rfl, Nat.le_of_ble_eq_true rfl⟩ dX5_reaching_2 ?_
        refine V_aload_n dX5_reaching_5 rfl rfl ?_
        refine V_iload_n dX5_reaching_6 rfl rfl ?_
        refine V_callVX (ctX5_requireReachable_u hL hX hS hj hr) mvX5_requireReachable lkX5_186 hL.1 rfl rfl rfl (Nat.le_of_ble_eq_true rfl) ⟨⟨Nat.le_of_ble_eq_true rfl, Nat.le_of_ble_eq_true rfl⟩, Nat.le_of_ble_eq_true rfl, Nat.le_of_ble_eq_true rfl⟩ dX5_reaching_7 ?_
        exact VX_outP ⟨rfl, hq⟩ ⟨Nat.le_of_ble_eq_true rfl, Nat.le_of_ble_eq_true rfl⟩

      | true =>
        have hR := bp_t.mp hr
        have h2 : ¬ bp (Rc S.1 j) = false := by rw [hr]; decide
        have h15 := cnt_le (fun p => bp (RB S.1 i j p)) 14
        cases hy : inR y (cnt (fun p => bp (RB S.1 i j p)) 14) with
        | false =>
          rw [show rs_reaching S (nI j) (nI i) y = (3, 0, S) from by unfold rs_reaching; rw [tj, ti, if_neg h1, if_neg h2, if_pos hy]]
          refine CtP.of rfl (by simp [Value.category]) (Nat.le_of_ble_eq_true rfl) ?_
          refine V_aload_n dX5_reaching_0 rfl rfl ?_
          refine V_iload_n dX5_reaching_1 rfl rfl ?_
          refine V_cv0 (ctX5_requireVariable_t hL hX hS hv) mvX5_requireVariable lkX5_203 hL.1 rfl rfl rfl (Nat.le_of_ble_eq_true rfl) ⟨⟨Nat.le_of_ble_eq_true rfl, Nat.le_of_ble_eq_true rfl⟩, Nat.le_of_ble_eq_true rfl, Nat.le_of_ble_eq_true rfl⟩ dX5_reaching_2 ?_
          refine V_aload_n dX5_reaching_5 rfl rfl ?_
          refine V_iload_n dX5_reaching_6 rfl rfl ?_
          refine V_cv0 (ctX5_requireReachable_t hL hX hS hR) mvX5_requireReachable lkX5_186 hL.1 rfl rfl rfl (Nat.le_of_ble_eq_true rfl) ⟨⟨Nat.le_of_ble_eq_true rfl, Nat.le_of_ble_eq_true rfl⟩, Nat.le_of_ble_eq_true rfl, Nat.le_of_ble_eq_true rfl⟩ dX5_reaching_7 ?_
          refine V_aload_n dX5_reaching_10 rfl rfl ?_
          refine V_getR frX5_10 hL.1 rfl dX5_reaching_11 ?_
          refine V_iload_n dX5_reaching_14 rfl rfl ?_
          refine V_iload_n dX5_reaching_15 rfl rfl ?_
          refine V_cv1 (ctX0_reachingBlocks hL.2.1 hX.1 hS.1 hX.2.1 (by omega) hi) mvX0_reachingBlocks lkX5_251 hL.2.1.1 rfl rfl rfl (Nat.le_of_ble_eq_true rfl) ⟨⟨Nat.le_of_ble_eq_true rfl, Nat.le_of_ble_eq_true rfl⟩, Nat.le_of_ble_eq_true rfl, Nat.le_of_ble_eq_true rfl⟩ dX5_reaching_16 ?_
          refine V_iload_n dX5_reaching_19 rfl rfl ?_
          refine V_cs1 (ctX5_memberAt_out hy) msX5_memberAt lkX5_259 rfl rfl (Nat.le_of_ble_eq_true rfl) ⟨⟨Nat.le_of_ble_eq_true rfl, Nat.le_of_ble_eq_true rfl⟩, Nat.le_of_ble_eq_true rfl, Nat.le_of_ble_eq_true rfl⟩ dX5_reaching_20 ?_
          refine V_istore dX5_reaching_23 (Nat.le_of_ble_eq_true rfl) ?_
          refine V_iload dX5_reaching_25 rfl ?_
          refine V_iconst (v := (-1)) dX5_reaching_27 (by decide) ?_
          refine V_icmp_ne 42 dX5_reaching_28 (by decide) (fun h28 => absurd h28 (fun q => q rfl)) (fun h28 => ?_)
          refine V_thrP ⟨rfl, hq⟩ ?_
          exact V_throwXW nse0 nse1 nse2 nse5 thrNSE rfl str_262 rfl rfl rfl ⟨Nat.le_of_ble_eq_true rfl, Nat.le_of_ble_eq_true rfl⟩ (Nat.le_of_ble_eq_true rfl) (Nat.le_of_ble_eq_true rfl) dX5_reaching_31 dX5_reaching_34 dX5_reaching_35 dX5_reaching_38 dX5_reaching_41

        | true =>
          obtain ⟨q, hq2, rfl⟩ := inR_t (by omega) hy
          have tq := tn_nI (show q < 2 ^ 31 by omega)
          have hm := mAt_spec (P := fun p => bp (RB S.1 i j p)) 14 0 (Nat.zero_le _) (by rw [Nat.zero_add]; exact hq2)
          have hRm : Rc S.1 (mAt (fun p => bp (RB S.1 i j p)) q 0 14) := by obtain ⟨⟨y, _, hp⟩, _⟩ := bp_t.mp hm.1; exact hp.1
          rw [show rs_reaching S (nI j) (nI i) (nI q) = (0, nI (srcE S.1 i (mAt (fun p => bp (RB S.1 i j p)) q 0 14)), S) from by unfold rs_reaching; rw [tj, ti, tq, if_neg h1, if_neg h2, if_neg (by rw [hy]; decide)]]
          refine CtP.of rfl (by simp [Value.category]) (Nat.le_of_ble_eq_true rfl) ?_
          refine V_aload_n dX5_reaching_0 rfl rfl ?_
          refine V_iload_n dX5_reaching_1 rfl rfl ?_
          refine V_cv0 (ctX5_requireVariable_t hL hX hS hv) mvX5_requireVariable lkX5_203 hL.1 rfl rfl rfl (Nat.le_of_ble_eq_true rfl) ⟨⟨Nat.le_of_ble_eq_true rfl, Nat.le_of_ble_eq_true rfl⟩, Nat.le_of_ble_eq_true rfl, Nat.le_of_ble_eq_true rfl⟩ dX5_reaching_2 ?_
          refine V_aload_n dX5_reaching_5 rfl rfl ?_
          refine V_iload_n dX5_reaching_6 rfl rfl ?_
          refine V_cv0 (ctX5_requireReachable_t hL hX hS hR) mvX5_requireReachable lkX5_186 hL.1 rfl rfl rfl (Nat.le_of_ble_eq_true rfl) ⟨⟨Nat.le_of_ble_eq_true rfl, Nat.le_of_ble_eq_true rfl⟩, Nat.le_of_ble_eq_true rfl, Nat.le_of_ble_eq_true rfl⟩ dX5_reaching_7 ?_
          refine V_aload_n dX5_reaching_10 rfl rfl ?_
          refine V_getR frX5_10 hL.1 rfl dX5_reaching_11 ?_
          refine V_iload_n dX5_reaching_14 rfl rfl ?_
          refine V_iload_n dX5_reaching_15 rfl rfl ?_
          refine V_cv1 (ctX0_reachingBlocks hL.2.1 hX.1 hS.1 hX.2.1 (by omega) hi) mvX0_reachingBlocks lkX5_251 hL.2.1.1 rfl rfl rfl (Nat.le_of_ble_eq_true rfl) ⟨⟨Nat.le_of_ble_eq_true rfl, Nat.le_of_ble_eq_true rfl⟩, Nat.le_of_ble_eq_true rfl, Nat.le_of_ble_eq_true rfl⟩ dX5_reaching_16 ?_
          refine V_iload_n dX5_reaching_19 rfl rfl ?_
          refine V_cs1 (ctX5_memberAt_in hq2) msX5_memberAt lkX5_259 rfl rfl (Nat.le_of_ble_eq_true rfl) ⟨⟨Nat.le_of_ble_eq_true rfl, Nat.le_of_ble_eq_true rfl⟩, Nat.le_of_ble_eq_true rfl, Nat.le_of_ble_eq_true rfl⟩ dX5_reaching_20 ?_
          refine V_istore dX5_reaching_23 (Nat.le_of_ble_eq_true rfl) ?_
          refine V_iload dX5_reaching_25 rfl ?_
          refine V_iconst (v := (-1)) dX5_reaching_27 (by decide) ?_
          refine V_icmp_ne 42 dX5_reaching_28 (by decide) (fun h28 => ?_) (fun h28 => absurd h28 (nI_m1 (by have := hm.2; omega)))
          refine V_aload_n dX5_reaching_42 rfl rfl ?_
          refine V_getR frX5_10 hL.1 rfl dX5_reaching_43 ?_
          refine V_iload dX5_reaching_46 rfl ?_
          refine V_iload_n dX5_reaching_48 rfl rfl ?_
          refine V_cv1 (ctX0_sourceAtEnd hL.2.1 hX.1 hS.1 hX.2.1 hRm hi) mvX0_sourceAtEnd lkX5_219 hL.2.1.1 rfl rfl rfl (Nat.le_of_ble_eq_true rfl) ⟨⟨Nat.le_of_ble_eq_true rfl, Nat.le_of_ble_eq_true rfl⟩, Nat.le_of_ble_eq_true rfl, Nat.le_of_ble_eq_true rfl⟩ dX5_reaching_49 ?_
          exact V_iretP rfl ⟨rfl, hq⟩ ⟨Nat.le_of_ble_eq_true rfl, Nat.le_of_ble_eq_true rfl⟩ dX5_reaching_52

theorem walk_rc (hS : SOK S) : ∀ i, i ≤ S.2.2.2.2.2.1 → Rc S.1 (S.2.2.2.2.2.2 i)
  | 0, _ => by rw [hS.2.2.2.2.2.2.1]; exact Rc.zero
  | i + 1, h => (walk_rc hS i (by omega)).step (hS.2.2.2.2.2.2.2 i (by omega))
theorem ctX5_lastOnWalk (hL : XL σ x) (hX : XA mi x S) (hS : SOK S) {v : Int32} : CtP κ 1 6 12 mrX5_lastOnWalk [.ref x, .int v] (MM σ mi ml) (XR σ mi ml x [EIOB] (rs_lastOnWalk S v)) := by
  have hq := XQ (ml := ml) (σ := σ) hX
  have hw := hS.1
  have h14 := hw.2.1
  cases hv : inR v 4 with
  | false =>
    rw [show rs_lastOnWalk S v = (1, 0, S) from by unfold rs_lastOnWalk; rw [if_pos hv]]
    refine CtP.of rfl (by simp [Value.category]) (Nat.le_of_ble_eq_true rfl) ?_
    refine V_aload_n dX5_lastOnWalk_0 rfl rfl ?_
    refine V_iload_n dX5_lastOnWalk_1 rfl rfl ?_
    refine V_callVX (ctX5_requireVariable_f hL hX hS hv) mvX5_requireVariable lkX5_203 hL.1 rfl rfl rfl (Nat.le_of_ble_eq_true rfl) ⟨⟨Nat.le_of_ble_eq_true rfl, Nat.le_of_ble_eq_true rfl⟩, Nat.le_of_ble_eq_true rfl, Nat.le_of_ble_eq_true rfl⟩ dX5_lastOnWalk_2 ?_
    exact VX_outP ⟨rfl, hq⟩ ⟨Nat.le_of_ble_eq_true rfl, Nat.le_of_ble_eq_true rfl⟩

  | true =>
    obtain ⟨i, hi, rfl⟩ := inR_t (by omega) hv
    have ti := tn_nI (show i < 2 ^ 31 by omega)
    have h30 := hS.2.2.2.2.2.1
    rw [show rs_lastOnWalk S (nI i) = (0, nI (lwN S.1 i S.2.2.2.2.2.2 S.2.2.2.2.2.1), S) from by unfold rs_lastOnWalk; rw [ti, if_neg (by rw [hv]; decide)]]
    refine CtP.of rfl (by simp [Value.category]) (Nat.le_of_ble_eq_true rfl) ?_
    have lp : ∀ k, k ≤ S.2.2.2.2.2.1 → ∀ o3, lwN S.1 i S.2.2.2.2.2.2 k = lwN S.1 i S.2.2.2.2.2.2 S.2.2.2.2.2.1 → V κ (phiP κ mrX5_lastOnWalk 12 1 6 (XR σ mi ml x [EIOB] (0, nI (lwN S.1 i S.2.2.2.2.2.2 S.2.2.2.2.2.1), S))) 0 0 15 [some (.ref x), some (.int (nI i)), some (.int (nI k - nI 1)), o3] [] (MM σ mi ml) := by
      intro k
      induction k with
      | zero =>
        intro _ o3 he
        refine V_iload_n dX5_lastOnWalk_15 rfl rfl ?_
        refine V_if_lt 50 dX5_lastOnWalk_16 (by decide) (fun h16 => ?_) (fun h16 => absurd (by decide) h16)
        refine V_sipush (v := nI 2000) dX5_lastOnWalk_50 (by decide) ?_
        exact V_iretP rfl ⟨by rw [← he]; rfl, hq⟩ ⟨Nat.le_of_ble_eq_true rfl, Nat.le_of_ble_eq_true rfl⟩ dX5_lastOnWalk_53

      | succ k ih =>
        intro hk o3 he
        rw [show nI (k + 1) - nI 1 = nI k from nI_pred k]
        have hR := walk_rc hS k (by omega)
        have hR2 := hR.lt14 hw
        rw [lwN] at he
        refine V_iload_n dX5_lastOnWalk_15 rfl rfl ?_
        refine V_if_lt 50 dX5_lastOnWalk_16 (by decide) (fun h16 => absurd h16 (nI_pos (by omega))) (fun h16 => ?_)
        refine V_aload_n dX5_lastOnWalk_19 rfl rfl ?_
        refine V_getR frX5_10 hL.1 rfl dX5_lastOnWalk_20 ?_
        refine V_aload_n dX5_lastOnWalk_23 rfl rfl ?_
        refine V_getR frX5_58 hL.1 rfl dX5_lastOnWalk_24 ?_
        refine V_getR frX5_299 hL.2.2.2.2.2.2.1 rfl dX5_lastOnWalk_27 ?_
        refine V_iload_n dX5_lastOnWalk_30 rfl rfl ?_
        refine V_ialdE hL.2.2.2.2.2.2.2.1 k rfl (by omega) (by decide) (hX.2.2.2.2.2.2.2 k (by omega)) dX5_lastOnWalk_31 ?_
        refine V_iload_n dX5_lastOnWalk_32 rfl rfl ?_
        refine V_cv1 (ctX0_lastDefinition hL.2.1 hX.1 hS.1 hX.2.1 hR2 hi) mvX0_lastDefinition lkX5_301 hL.2.1.1 rfl rfl rfl (Nat.le_of_ble_eq_true rfl) ⟨⟨Nat.le_of_ble_eq_true rfl, Nat.le_of_ble_eq_true rfl⟩, Nat.le_of_ble_eq_true rfl, Nat.le_of_ble_eq_true rfl⟩ dX5_lastOnWalk_33 ?_
        refine V_top (lastD_rc hR) ?_
        refine V_istore_n dX5_lastOnWalk_36 rfl (Nat.le_of_ble_eq_true rfl) ?_
        refine V_iload_n dX5_lastOnWalk_37 rfl rfl ?_
        refine V_iconst (v := (-1)) dX5_lastOnWalk_38 (by decide) ?_
        refine V_icmp_eq 44 dX5_lastOnWalk_39 (by decide) (fun h39 => ?_) (fun h39 => ?_)
        · refine V_iinc (v := nI k - nI 1) dX5_lastOnWalk_44 rfl (dec1 _) (Nat.le_of_ble_eq_true rfl) ?_
          refine V_goto 15 dX5_lastOnWalk_47 (by decide) ?_
          exact ih (by omega) _ (by
            rw [← he, (ldI_ne hR2 (fun z hz => ldef6 hw (Nat.le_refl _) hz)).mp h39])
        · refine V_iload_n dX5_lastOnWalk_42 rfl rfl ?_
          exact V_iretP rfl ⟨by
                      obtain ⟨z, hz⟩ := ldI_s h39
                      rw [hz] at he
                      rw [hz, ← he]; rfl, hq⟩ ⟨Nat.le_of_ble_eq_true rfl, Nat.le_of_ble_eq_true rfl⟩ dX5_lastOnWalk_43

    refine V_aload_n dX5_lastOnWalk_0 rfl rfl ?_
    refine V_iload_n dX5_lastOnWalk_1 rfl rfl ?_
    refine V_cv0 (ctX5_requireVariable_t hL hX hS hv) mvX5_requireVariable lkX5_203 hL.1 rfl rfl rfl (Nat.le_of_ble_eq_true rfl) ⟨⟨Nat.le_of_ble_eq_true rfl, Nat.le_of_ble_eq_true rfl⟩, Nat.le_of_ble_eq_true rfl, Nat.le_of_ble_eq_true rfl⟩ dX5_lastOnWalk_2 ?_
    refine V_aload_n dX5_lastOnWalk_5 rfl rfl ?_
    refine V_getR frX5_58 hL.1 rfl dX5_lastOnWalk_6 ?_
    refine V_getE frX5_286 hL.2.2.2.2.2.2.1 rfl hX.2.2.2.2.2.2.1 dX5_lastOnWalk_9 ?_
    refine V_iconst (v := nI 1) dX5_lastOnWalk_12 (by decide) ?_
    refine V_isub dX5_lastOnWalk_13 ?_
    refine V_istore_n dX5_lastOnWalk_14 rfl (Nat.le_of_ble_eq_true rfl) ?_
    exact lp S.2.2.2.2.2.1 (Nat.le_refl _) _ rfl

theorem ctX5_mergesOnWalk (hL : XL σ x) (hX : XA mi x S) (hS : SOK S) {v : Int32} : CtP κ 1 6 12 mrX5_mergesOnWalk [.ref x, .int v] (MM σ mi ml) (XR σ mi ml x [EIOB] (rs_mergesOnWalk S v)) := by
  have hq := XQ (ml := ml) (σ := σ) hX
  have hw := hS.1
  have h14 := hw.2.1
  cases hv : inR v 4 with
  | false =>
    rw [show rs_mergesOnWalk S v = (1, 0, S) from by unfold rs_mergesOnWalk; rw [if_pos hv]]
    refine CtP.of rfl (by simp [Value.category]) (Nat.le_of_ble_eq_true rfl) ?_
    refine V_aload_n dX5_mergesOnWalk_0 rfl rfl ?_
    refine V_iload_n dX5_mergesOnWalk_1 rfl rfl ?_
    refine V_callVX (ctX5_requireVariable_f hL hX hS hv) mvX5_requireVariable lkX5_203 hL.1 rfl rfl rfl (Nat.le_of_ble_eq_true rfl) ⟨⟨Nat.le_of_ble_eq_true rfl, Nat.le_of_ble_eq_true rfl⟩, Nat.le_of_ble_eq_true rfl, Nat.le_of_ble_eq_true rfl⟩ dX5_mergesOnWalk_2 ?_
    exact VX_outP ⟨rfl, hq⟩ ⟨Nat.le_of_ble_eq_true rfl, Nat.le_of_ble_eq_true rfl⟩

  | true =>
    obtain ⟨i, hi, rfl⟩ := inR_t (by omega) hv
    have ti := tn_nI (show i < 2 ^ 31 by omega)
    have h30 := hS.2.2.2.2.2.1
    rw [show rs_mergesOnWalk S (nI i) = (0, nI (cnt (fun z => bp (PM S.1 i (S.2.2.2.2.2.2 z))) (S.2.2.2.2.2.1 + 1)), S) from by unfold rs_mergesOnWalk; rw [ti, if_neg (by rw [hv]; decide)]]
    refine CtP.of rfl (by simp [Value.category]) (Nat.le_of_ble_eq_true rfl) ?_
    have lp : ∀ k, k ≤ S.2.2.2.2.2.1 + 1 → V κ (phiP κ mrX5_mergesOnWalk 12 1 6 (XR σ mi ml x [EIOB] (0, nI (cnt (fun z => bp (PM S.1 i (S.2.2.2.2.2.2 z))) (S.2.2.2.2.2.1 + 1)), S))) 0 0 9 [some (.ref x), some (.int (nI i)), some (.int (nI (cnt (fun z => bp (PM S.1 i (S.2.2.2.2.2.2 z))) k))), some (.int (nI k))] [] (MM σ mi ml) := loop_up _ (fun k hk ih => by
      refine V_iload_n dX5_mergesOnWalk_9 rfl rfl ?_
      refine V_aload_n dX5_mergesOnWalk_10 rfl rfl ?_
      refine V_getR frX5_58 hL.1 rfl dX5_mergesOnWalk_11 ?_
      refine V_getE frX5_286 hL.2.2.2.2.2.2.1 rfl hX.2.2.2.2.2.2.1 dX5_mergesOnWalk_14 ?_
      refine V_N_gt (by omega) (by omega) 53 dX5_mergesOnWalk_17 (by decide) (fun h17 => ?_) (fun h17 => ?_)
      · refine V_iload_n dX5_mergesOnWalk_53 rfl rfl ?_
        exact V_iretP rfl ⟨by rw [show k = S.2.2.2.2.2.1 + 1 by omega]; rfl, hq⟩ ⟨Nat.le_of_ble_eq_true rfl, Nat.le_of_ble_eq_true rfl⟩ dX5_mergesOnWalk_54
      · have hR2 := (walk_rc hS k h17).lt14 hw
        refine V_aload_n dX5_mergesOnWalk_20 rfl rfl ?_
        refine V_getR frX5_10 hL.1 rfl dX5_mergesOnWalk_21 ?_
        refine V_getR frX5_212 hL.2.1.1 rfl dX5_mergesOnWalk_24 ?_
        refine V_iload_n dX5_mergesOnWalk_27 rfl rfl ?_
        refine V_ialdE hL.2.1.2.2.2.2.2.2.2.2.2.2.2.1 i rfl hi (by decide) ((hX.2.1.2.2 i hi).2.2.2) dX5_mergesOnWalk_28 ?_
        refine V_aload_n dX5_mergesOnWalk_29 rfl rfl ?_
        refine V_getR frX5_58 hL.1 rfl dX5_mergesOnWalk_30 ?_
        refine V_getR frX5_299 hL.2.2.2.2.2.2.1 rfl dX5_mergesOnWalk_33 ?_
        refine V_iload_n dX5_mergesOnWalk_36 rfl rfl ?_
        refine V_ialdE hL.2.2.2.2.2.2.2.1 k rfl (by omega) (by decide) (hX.2.2.2.2.2.2.2 k h17) dX5_mergesOnWalk_37 ?_
        refine V_cs1 (ctX5_hasM hR2) msX5_has lkX5_183 rfl rfl (Nat.le_of_ble_eq_true rfl) ⟨⟨Nat.le_of_ble_eq_true rfl, Nat.le_of_ble_eq_true rfl⟩, Nat.le_of_ble_eq_true rfl, Nat.le_of_ble_eq_true rfl⟩ dX5_mergesOnWalk_38 ?_
        refine V_ifeqB 47 dX5_mergesOnWalk_41 (by decide) (fun h41 => ?_) (fun h41 => ?_)
        · refine V_iinc1 dX5_mergesOnWalk_47 rfl (Nat.le_of_ble_eq_true rfl) ?_
          refine V_goto 9 dX5_mergesOnWalk_50 (by decide) ?_
          exact V.cL (ih (by omega)) (by rw [cnt_f (P := fun z => bp (PM S.1 i (S.2.2.2.2.2.2 z))) h41]; rfl)
        · refine V_iinc1 dX5_mergesOnWalk_44 rfl (Nat.le_of_ble_eq_true rfl) ?_
          refine V_iinc1 dX5_mergesOnWalk_47 rfl (Nat.le_of_ble_eq_true rfl) ?_
          refine V_goto 9 dX5_mergesOnWalk_50 (by decide) ?_
          exact V.cL (ih (by omega)) (by rw [← cnt_t (P := fun z => bp (PM S.1 i (S.2.2.2.2.2.2 z))) h41]; rfl)
      )
    refine V_aload_n dX5_mergesOnWalk_0 rfl rfl ?_
    refine V_iload_n dX5_mergesOnWalk_1 rfl rfl ?_
    refine V_cv0 (ctX5_requireVariable_t hL hX hS hv) mvX5_requireVariable lkX5_203 hL.1 rfl rfl rfl (Nat.le_of_ble_eq_true rfl) ⟨⟨Nat.le_of_ble_eq_true rfl, Nat.le_of_ble_eq_true rfl⟩, Nat.le_of_ble_eq_true rfl, Nat.le_of_ble_eq_true rfl⟩ dX5_mergesOnWalk_2 ?_
    refine V_iconst (v := nI 0) dX5_mergesOnWalk_5 (by decide) ?_
    refine V_istore_n dX5_mergesOnWalk_6 rfl (Nat.le_of_ble_eq_true rfl) ?_
    refine V_iconst (v := nI 0) dX5_mergesOnWalk_7 (by decide) ?_
    refine V_istore_n dX5_mergesOnWalk_8 rfl (Nat.le_of_ble_eq_true rfl) ?_
    exact lp 0 (Nat.zero_le _)

theorem ctX5_readPrevious (hL : XL σ x) (hX : XA mi x S) (hS : SOK S) : CtP κ 0 0 6 mrX5_readPrevious [.ref x] (MM σ mi ml) (fun o μ' => ∃ y, o = .inl (some (.int y)) ∧ y = bI (!decide (S.2.1.1 = 0)) ∧ ∃ m', μ' = MM σ m' ml ∧ (S.2.1.1 ≠ 0 → GA m' (x + 18 + 1) (S.2.1.2 0) ∧ FA m' (x + 18) (S.2.1.2 0)) ∧ ∀ a i, (a < x + 17 ∨ x + 35 ≤ a) → m' a i = mi a i) := by
  refine CtP.of rfl (by simp [Value.category]) (Nat.le_of_ble_eq_true rfl) ?_
  obtain ⟨ℓ, hH⟩ := hX.2.2.1
  have h8 := hS.2.1.1
  refine V_aload_n dX5_readPrevious_0 rfl rfl ?_
  refine V_getR frX5_40 hL.1 rfl dX5_readPrevious_1 ?_
  refine V_getE frX5_278 hL.2.2.2.2.1.1 rfl hH.2.2.1 dX5_readPrevious_4 ?_
  refine V_Z_ne (by omega) 12 dX5_readPrevious_7 (by decide) (fun h7 => ?_) (fun h7 => ?_)
  · have hw0 := hS.2.1.2 0 (by omega)
    have hl8 := hH.2.1
    refine V_aload_n dX5_readPrevious_12 rfl rfl ?_
    refine V_getR frX5_40 hL.1 rfl dX5_readPrevious_13 ?_
    refine V_aload_n dX5_readPrevious_16 rfl rfl ?_
    refine V_getR frX5_24 hL.1 rfl dX5_readPrevious_17 ?_
    refine V_cv0 (ctX2_copyLatest hL.2.2.2.2.1 hL.2.2.1.2.1 (by omega) hH) mvX2_copyLatest lkX5_337 hL.2.2.2.2.1.1 rfl rfl rfl (Nat.le_of_ble_eq_true rfl) ⟨⟨Nat.le_of_ble_eq_true rfl, Nat.le_of_ble_eq_true rfl⟩, Nat.le_of_ble_eq_true rfl, Nat.le_of_ble_eq_true rfl⟩ dX5_readPrevious_20 ?_
    have hA1 : GA (bcm mi (x + 18 + 1) (x + 40 + 2 + 5 * ℓ)) (x + 18 + 1) (S.2.1.2 0) := bcm_GA (hH.latest (by omega)) hw0
    refine V_aload_n dX5_readPrevious_23 rfl rfl ?_
    refine V_getR frX5_21 hL.1 rfl dX5_readPrevious_24 ?_
    refine V_cp0 (ctX0_analyse hL.2.2.1 hA1 hw0) mvX0_analyse lkX5_62 hL.2.2.1.1 rfl rfl rfl (Nat.le_of_ble_eq_true rfl) ⟨⟨Nat.le_of_ble_eq_true rfl, Nat.le_of_ble_eq_true rfl⟩, Nat.le_of_ble_eq_true rfl, Nat.le_of_ble_eq_true rfl⟩ dX5_readPrevious_27 (fun μ1 hx => ?_)
    obtain ⟨m1, rfl, hf, ho⟩ := hx
    refine V_iconst (v := nI 1) dX5_readPrevious_30 (by decide) ?_
    exact V_zretP rfl rfl ⟨_, rfl, by rw [decide_eq_false h7]; rfl, m1, rfl, fun _ => ⟨GA_off hA1 ho, hf⟩, fun a i q => (ho a i (by omega) (by omega)).trans (bcm_off _ _ (by omega))⟩ ⟨Nat.le_of_ble_eq_true rfl, Nat.le_of_ble_eq_true rfl⟩ dX5_readPrevious_31
  · refine V_iconst (v := nI 0) dX5_readPrevious_10 (by decide) ?_
    exact V_zretP rfl rfl ⟨_, rfl, by rw [decide_eq_true h7]; rfl, mi, rfl, fun q => absurd h7 q, fun _ _ _ => rfl⟩ ⟨Nat.le_of_ble_eq_true rfl, Nat.le_of_ble_eq_true rfl⟩ dX5_readPrevious_11

theorem ctX5_mergesMissing {f g : Nat} {G H : Gr} (hF : FlowL σ f) (hF2 : FlowL σ g) (hQ : FA mi f G) (hQ2 : FA mi g H) : Ct κ 0 0 2 mrX5_mergesMissing [.ref f, .ref g] (MM σ mi ml) (.inl (some (.int (nI (adN G H))))) (MM σ mi ml) := by
  refine Ct.of rfl (by simp [Value.category]) (Nat.le_of_ble_eq_true rfl) ?_
  have lp : ∀ i, i ≤ 4 → V κ (phi κ mrX5_mergesMissing 2 0 0 (.inl (some (.int (nI (adN G H))))) (MM σ mi ml)) 0 0 4 [some (.ref f), some (.ref g), some (.int (nI (sm (fun v => cnt (fun b => bp (PM G v b) && !bp (PM H v b)) 14) i))), some (.int (nI i))] [] (MM σ mi ml) := loop_up 4 (fun i hi ih => by
    refine V_iload_n dX5_mergesMissing_4 rfl rfl ?_
    refine V_iconst (v := nI 4) dX5_mergesMissing_5 (by decide) ?_
    refine V_N_ge (by omega) (by omega) 36 dX5_mergesMissing_6 (by decide) (fun h6 => ?_) (fun h6 => ?_)
    · refine V_iload_n dX5_mergesMissing_36 rfl rfl ?_
      exact V_iret rfl (oI (by unfold adN; rw [show i = 4 by omega])) rfl ⟨Nat.le_of_ble_eq_true rfl, Nat.le_of_ble_eq_true rfl⟩ dX5_mergesMissing_37
    · refine V_iload_n dX5_mergesMissing_9 rfl rfl ?_
      refine V_aload_n dX5_mergesMissing_10 rfl rfl ?_
      refine V_getR frX5_212 hF.1 rfl dX5_mergesMissing_11 ?_
      refine V_iload_n dX5_mergesMissing_14 rfl rfl ?_
      refine V_ialdE hF.2.2.2.2.2.2.2.2.2.2.2.1 i rfl (by omega) (by decide) ((hQ.2.2 i h6).2.2.2) dX5_mergesMissing_15 ?_
      refine V_aload_n dX5_mergesMissing_16 rfl rfl ?_
      refine V_getR frX5_212 hF2.1 rfl dX5_mergesMissing_17 ?_
      refine V_iload_n dX5_mergesMissing_20 rfl rfl ?_
      refine V_ialdE hF2.2.2.2.2.2.2.2.2.2.2.2.1 i rfl (by omega) (by decide) ((hQ2.2.2 i h6).2.2.2) dX5_mergesMissing_21 ?_
      refine V_iconst (v := (-1)) dX5_mergesMissing_22 (by decide) ?_
      refine V_ixor dX5_mergesMissing_23 ?_
      refine V_iand dX5_mergesMissing_24 ?_
      refine V_top (msk_andN _ _) ?_
      refine V_cs1 (ctJ6_M) msJ6_bitCount_0f7a4 lkX5_254 rfl rfl (Nat.le_of_ble_eq_true rfl) ⟨⟨Nat.le_of_ble_eq_true rfl, Nat.le_of_ble_eq_true rfl⟩, Nat.le_of_ble_eq_true rfl, Nat.le_of_ble_eq_true rfl⟩ dX5_mergesMissing_25 ?_
      refine V_iadd dX5_mergesMissing_28 ?_
      refine V_top (nI_add _ _) ?_
      refine V_istore_n dX5_mergesMissing_29 rfl (Nat.le_of_ble_eq_true rfl) ?_
      refine V_iinc1 dX5_mergesMissing_30 rfl (Nat.le_of_ble_eq_true rfl) ?_
      refine V_goto 4 dX5_mergesMissing_33 (by decide) ?_
      exact ih h6
    )
  refine V_iconst (v := nI 0) dX5_mergesMissing_0 (by decide) ?_
  refine V_istore_n dX5_mergesMissing_1 rfl (Nat.le_of_ble_eq_true rfl) ?_
  refine V_iconst (v := nI 0) dX5_mergesMissing_2 (by decide) ?_
  refine V_istore_n dX5_mergesMissing_3 rfl (Nat.le_of_ble_eq_true rfl) ?_
  exact lp 0 (Nat.zero_le _)

theorem ctX5_addedMerges (hL : XL σ x) (hX : XA mi x S) (hS : SOK S)  : CtP κ 1 6 12 mrX5_addedMerges [.ref x] (MM σ mi ml) (XR σ mi ml x [] (rs_addedMerges S)) := by
  have hq := XQ (ml := ml) (σ := σ) hX
  have hw := hS.1
  have h14 := hw.2.1
  unfold rs_addedMerges
  refine CtP.of rfl (by simp [Value.category]) (Nat.le_of_ble_eq_true rfl) ?_
  refine V_aload_n dX5_addedMerges_0 rfl rfl ?_
  refine V_cp1 (ctX5_readPrevious hL hX hS) mvX5_readPrevious lkX5_267 hL.1 rfl rfl rfl (Nat.le_of_ble_eq_true rfl) ⟨⟨Nat.le_of_ble_eq_true rfl, Nat.le_of_ble_eq_true rfl⟩, Nat.le_of_ble_eq_true rfl, Nat.le_of_ble_eq_true rfl⟩ dX5_addedMerges_1 (fun y μ1 hx => ?_)
  obtain ⟨rfl, m1, rfl, hg, ho⟩ := hx
  refine V_ifeqB 21 dX5_addedMerges_4 (by decide) (fun h4 => ?_) (fun h4 => ?_)
  · refine V_iconst (v := nI 0) dX5_addedMerges_21 (by decide) ?_
    exact V_iretP rfl ⟨by rw [if_pos (of_decide_eq_true (by simpa using h4))]; rfl, XQ.hid hX ho (fun _ _ _ => rfl)⟩ ⟨Nat.le_of_ble_eq_true rfl, Nat.le_of_ble_eq_true rfl⟩ dX5_addedMerges_22
  · refine V_aload_n dX5_addedMerges_7 rfl rfl ?_
    refine V_getR frX5_10 hL.1 rfl dX5_addedMerges_8 ?_
    refine V_aload_n dX5_addedMerges_11 rfl rfl ?_
    refine V_getR frX5_21 hL.1 rfl dX5_addedMerges_12 ?_
    refine V_cs1 (ctX5_mergesMissing hL.2.1 hL.2.2.1 (hX.2.1.keep (fun a i q => ho a i (by omega))) (hg (of_decide_eq_false (by simpa using h4))).2) msX5_mergesMissing lkX5_271 rfl rfl (Nat.le_of_ble_eq_true rfl) ⟨⟨Nat.le_of_ble_eq_true rfl, Nat.le_of_ble_eq_true rfl⟩, Nat.le_of_ble_eq_true rfl, Nat.le_of_ble_eq_true rfl⟩ dX5_addedMerges_15 ?_
    refine V_goto 22 dX5_addedMerges_18 (by decide) ?_
    exact V_iretP rfl ⟨by rw [if_neg (of_decide_eq_false (by simpa using h4))]; rfl, XQ.hid hX ho (fun _ _ _ => rfl)⟩ ⟨Nat.le_of_ble_eq_true rfl, Nat.le_of_ble_eq_true rfl⟩ dX5_addedMerges_22

theorem ctX5_removedMerges (hL : XL σ x) (hX : XA mi x S) (hS : SOK S)  : CtP κ 1 6 12 mrX5_removedMerges [.ref x] (MM σ mi ml) (XR σ mi ml x [] (rs_removedMerges S)) := by
  have hq := XQ (ml := ml) (σ := σ) hX
  have hw := hS.1
  have h14 := hw.2.1
  unfold rs_removedMerges
  refine CtP.of rfl (by simp [Value.category]) (Nat.le_of_ble_eq_true rfl) ?_
  refine V_aload_n dX5_removedMerges_0 rfl rfl ?_
  refine V_cp1 (ctX5_readPrevious hL hX hS) mvX5_readPrevious lkX5_267 hL.1 rfl rfl rfl (Nat.le_of_ble_eq_true rfl) ⟨⟨Nat.le_of_ble_eq_true rfl, Nat.le_of_ble_eq_true rfl⟩, Nat.le_of_ble_eq_true rfl, Nat.le_of_ble_eq_true rfl⟩ dX5_removedMerges_1 (fun y μ1 hx => ?_)
  obtain ⟨rfl, m1, rfl, hg, ho⟩ := hx
  refine V_ifeqB 21 dX5_removedMerges_4 (by decide) (fun h4 => ?_) (fun h4 => ?_)
  · refine V_iconst (v := nI 0) dX5_removedMerges_21 (by decide) ?_
    exact V_iretP rfl ⟨by rw [if_pos (of_decide_eq_true (by simpa using h4))]; rfl, XQ.hid hX ho (fun _ _ _ => rfl)⟩ ⟨Nat.le_of_ble_eq_true rfl, Nat.le_of_ble_eq_true rfl⟩ dX5_removedMerges_22
  · refine V_aload_n dX5_removedMerges_7 rfl rfl ?_
    refine V_getR frX5_21 hL.1 rfl dX5_removedMerges_8 ?_
    refine V_aload_n dX5_removedMerges_11 rfl rfl ?_
    refine V_getR frX5_10 hL.1 rfl dX5_removedMerges_12 ?_
    refine V_cs1 (ctX5_mergesMissing hL.2.2.1 hL.2.1 (hg (of_decide_eq_false (by simpa using h4))).2 (hX.2.1.keep (fun a i q => ho a i (by omega)))) msX5_mergesMissing lkX5_271 rfl rfl (Nat.le_of_ble_eq_true rfl) ⟨⟨Nat.le_of_ble_eq_true rfl, Nat.le_of_ble_eq_true rfl⟩, Nat.le_of_ble_eq_true rfl, Nat.le_of_ble_eq_true rfl⟩ dX5_removedMerges_15 ?_
    refine V_goto 22 dX5_removedMerges_18 (by decide) ?_
    exact V_iretP rfl ⟨by rw [if_neg (of_decide_eq_false (by simpa using h4))]; rfl, XQ.hid hX ho (fun _ _ _ => rfl)⟩ ⟨Nat.le_of_ble_eq_true rfl, Nat.le_of_ble_eq_true rfl⟩ dX5_removedMerges_22

theorem ctX5_newlyReachable (hL : XL σ x) (hX : XA mi x S) (hS : SOK S)  : CtP κ 1 6 12 mrX5_newlyReachable [.ref x] (MM σ mi ml) (XR σ mi ml x [] (rs_newlyReachable S)) := by
  have hq := XQ (ml := ml) (σ := σ) hX
  have hw := hS.1
  have h14 := hw.2.1
  unfold rs_newlyReachable
  refine CtP.of rfl (by simp [Value.category]) (Nat.le_of_ble_eq_true rfl) ?_
  refine V_aload_n dX5_newlyReachable_0 rfl rfl ?_
  refine V_cp1 (ctX5_readPrevious hL hX hS) mvX5_readPrevious lkX5_267 hL.1 rfl rfl rfl (Nat.le_of_ble_eq_true rfl) ⟨⟨Nat.le_of_ble_eq_true rfl, Nat.le_of_ble_eq_true rfl⟩, Nat.le_of_ble_eq_true rfl, Nat.le_of_ble_eq_true rfl⟩ dX5_newlyReachable_1 (fun y μ1 hx => ?_)
  obtain ⟨rfl, m1, rfl, hg, ho⟩ := hx
  refine V_ifeqB 27 dX5_newlyReachable_4 (by decide) (fun h4 => ?_) (fun h4 => ?_)
  · refine V_iconst (v := nI 0) dX5_newlyReachable_27 (by decide) ?_
    exact V_iretP rfl ⟨by rw [show msk (fun k => !decide (S.2.1.1 = 0) && (bp (Rc S.1 k) && !bp (Rc (S.2.1.2 0) k))) = nI 0 from msk_eq0.mpr (fun k _ => by rw [h4]; rfl)]; rfl, XQ.hid hX ho (fun _ _ _ => rfl)⟩ ⟨Nat.le_of_ble_eq_true rfl, Nat.le_of_ble_eq_true rfl⟩ dX5_newlyReachable_28
  · refine V_aload_n dX5_newlyReachable_7 rfl rfl ?_
    refine V_getR frX5_10 hL.1 rfl dX5_newlyReachable_8 ?_
    refine V_getE frX5_180 hL.2.1.1 rfl ((hX.2.1.keep (fun a i q => ho a i (by omega))).1.2.1) dX5_newlyReachable_11 ?_
    refine V_aload_n dX5_newlyReachable_14 rfl rfl ?_
    refine V_getR frX5_21 hL.1 rfl dX5_newlyReachable_15 ?_
    refine V_getE frX5_180 hL.2.2.1.1 rfl ((hg (of_decide_eq_false (by simpa using h4))).2.1.2.1) dX5_newlyReachable_18 ?_
    refine V_iconst (v := (-1)) dX5_newlyReachable_21 (by decide) ?_
    refine V_ixor dX5_newlyReachable_22 ?_
    refine V_iand dX5_newlyReachable_23 ?_
    refine V_top (msk_andN _ _) ?_
    refine V_goto 28 dX5_newlyReachable_24 (by decide) ?_
    exact V_iretP rfl ⟨by rw [show msk (fun k => !decide (S.2.1.1 = 0) && (bp (Rc S.1 k) && !bp (Rc (S.2.1.2 0) k))) = msk (fun k => bp (Rc S.1 k) && !bp (Rc (S.2.1.2 0) k)) from msk_congr (fun k _ => by rw [h4]; rfl)]; rfl, XQ.hid hX ho (fun _ _ _ => rfl)⟩ ⟨Nat.le_of_ble_eq_true rfl, Nat.le_of_ble_eq_true rfl⟩ dX5_newlyReachable_28

theorem minN {a b : Nat} (ha : a < 2 ^ 31) (hb : b < 2 ^ 31) : (if nI b < nI a then nI b else nI a) = nI (min a b) := by
  by_cases h : b < a
  · rw [if_pos ((nI_ltI hb ha).mpr h), Nat.min_eq_right (by omega)]
  · rw [if_neg (fun q => h ((nI_ltI hb ha).mp q)), Nat.min_eq_left (by omega)]
theorem ctX5_changedUsesIn (hL : XL σ x) {G H : Gr} (hw : Wf G) (hw2 : Wf H) (hA : GA mi (x + 1 + 1) G) (hQ : FA mi (x + 1) G) (hA2 : GA mi (x + 18 + 1) H) (hQ2 : FA mi (x + 18) H) {b : Nat} (hb : Rc G b) (hb2 : Rc H b) : Ct κ 0 0 4 mrX5_changedUsesIn [.ref x, .int (nI b)] (MM σ mi ml) (.inl (some (.int (nI (chB G H b))))) (MM σ mi ml) := by
  refine Ct.of rfl (by simp [Value.category]) (Nat.le_of_ble_eq_true rfl) ?_
  have h14 := hb.lt14 hw
  have h6 := (hw.2.2.1 b).1
  have h62 := (hw2.2.2.1 b).1
  have lp : ∀ i, i ≤ min (G.2.1 b).length (H.2.1 b).length → ∀ o5, V κ (phi κ mrX5_changedUsesIn 4 0 0 (.inl (some (.int (nI (chB G H b))))) (MM σ mi ml)) 0 0 27 [some (.ref x), some (.int (nI b)), some (.int (nI (min (G.2.1 b).length (H.2.1 b).length))), some (.int (nI (cnt (fun k => decide (10 ≤ (G.2.1 b).getD k 0) && (decide ((G.2.1 b).getD k 0 = (H.2.1 b).getD k 0) && decide (srcU G b k ≠ srcU H b k))) i))), some (.int (nI i)), o5] [] (MM σ mi ml) := loop_up _ (fun i hi ih o5 => by
    refine V_iload dX5_changedUsesIn_27 rfl ?_
    refine V_iload_n dX5_changedUsesIn_29 rfl rfl ?_
    refine V_N_ge (by omega) (by omega) 100 dX5_changedUsesIn_30 (by decide) (fun h30 => ?_) (fun h30 => ?_)
    · refine V_iload_n dX5_changedUsesIn_100 rfl rfl ?_
      exact V_iret rfl (oI (by unfold chB; rw [show i = min (G.2.1 b).length (H.2.1 b).length by omega])) rfl ⟨Nat.le_of_ble_eq_true rfl, Nat.le_of_ble_eq_true rfl⟩ dX5_changedUsesIn_101
    · have hi1 : i < (G.2.1 b).length := by omega
      have hi2 : i < (H.2.1 b).length := by omega
      have ha := act14 hw hi1
      have ha2 := act14 hw2 hi2
      have hs1 := srcU_le hw hb hi1
      have hs2 := srcU_le hw2 hb2 hi2
      refine V_aload_n dX5_changedUsesIn_33 rfl rfl ?_
      refine V_getR frX5_20 hL.1 rfl dX5_changedUsesIn_34 ?_
      refine V_iload_n dX5_changedUsesIn_37 rfl rfl ?_
      refine V_iload dX5_changedUsesIn_38 rfl ?_
      refine V_cv1 (ctX1_actionAt hL.2.1.2.1 (by omega) (by omega)) mvX1_actionAt lkX5_165 hL.2.1.2.1.1 rfl rfl rfl (Nat.le_of_ble_eq_true rfl) ⟨⟨Nat.le_of_ble_eq_true rfl, Nat.le_of_ble_eq_true rfl⟩, Nat.le_of_ble_eq_true rfl, Nat.le_of_ble_eq_true rfl⟩ dX5_changedUsesIn_40 ?_
      refine V_top ((hA.2 b (by omega)).2.2.1 i hi1) ?_
      refine V_istore dX5_changedUsesIn_43 (Nat.le_of_ble_eq_true rfl) ?_
      refine V_iload dX5_changedUsesIn_45 rfl ?_
      refine V_cs1 (ctX5_isUse (by omega)) msX5_isUse lkX5_225 rfl rfl (Nat.le_of_ble_eq_true rfl) ⟨⟨Nat.le_of_ble_eq_true rfl, Nat.le_of_ble_eq_true rfl⟩, Nat.le_of_ble_eq_true rfl, Nat.le_of_ble_eq_true rfl⟩ dX5_changedUsesIn_47 ?_
      refine V_ifeqB 94 dX5_changedUsesIn_50 (by decide) (fun h50 => ?_) (fun h50 => ?_)
      · refine V_iinc1 dX5_changedUsesIn_94 rfl (Nat.le_of_ble_eq_true rfl) ?_
        refine V_goto 27 dX5_changedUsesIn_97 (by decide) ?_
        exact V.cL (ih h30 _) (by rw [cnt_f (P := fun k => decide (10 ≤ (G.2.1 b).getD k 0) && (decide ((G.2.1 b).getD k 0 = (H.2.1 b).getD k 0) && decide (srcU G b k ≠ srcU H b k))) (by show (_ && _) = false; rw [h50]; rfl)]; rfl)
      · have hu := of_decide_eq_true h50
        refine V_iload dX5_changedUsesIn_53 rfl ?_
        refine V_aload_n dX5_changedUsesIn_55 rfl rfl ?_
        refine V_getR frX5_24 hL.1 rfl dX5_changedUsesIn_56 ?_
        refine V_iload_n dX5_changedUsesIn_59 rfl rfl ?_
        refine V_iload dX5_changedUsesIn_60 rfl ?_
        refine V_cv1 (ctX1_actionAt hL.2.2.1.2.1 (by omega) (by omega)) mvX1_actionAt lkX5_165 hL.2.2.1.2.1.1 rfl rfl rfl (Nat.le_of_ble_eq_true rfl) ⟨⟨Nat.le_of_ble_eq_true rfl, Nat.le_of_ble_eq_true rfl⟩, Nat.le_of_ble_eq_true rfl, Nat.le_of_ble_eq_true rfl⟩ dX5_changedUsesIn_62 ?_
        refine V_top ((hA2.2 b (by omega)).2.2.1 i hi2) ?_
        refine V_N_ne (by omega) (by omega) 94 dX5_changedUsesIn_65 (by decide) (fun h65 => ?_) (fun h65 => ?_)
        · refine V_iinc1 dX5_changedUsesIn_94 rfl (Nat.le_of_ble_eq_true rfl) ?_
          refine V_goto 27 dX5_changedUsesIn_97 (by decide) ?_
          exact V.cL (ih h30 _) (by rw [cnt_f (P := fun k => decide (10 ≤ (G.2.1 b).getD k 0) && (decide ((G.2.1 b).getD k 0 = (H.2.1 b).getD k 0) && decide (srcU G b k ≠ srcU H b k))) (by show (_ && (_ && _)) = false; rw [decide_eq_false h65, Bool.false_and, Bool.and_false])]; rfl)
        · refine V_aload_n dX5_changedUsesIn_68 rfl rfl ?_
          refine V_getR frX5_10 hL.1 rfl dX5_changedUsesIn_69 ?_
          refine V_iload_n dX5_changedUsesIn_72 rfl rfl ?_
          refine V_iload dX5_changedUsesIn_73 rfl ?_
          refine V_cv1 (ctX0_sourceAtUse hL.2.1 hA hw hQ hb hi1 hu) mvX0_sourceAtUse lkX5_231 hL.2.1.1 rfl rfl rfl (Nat.le_of_ble_eq_true rfl) ⟨⟨Nat.le_of_ble_eq_true rfl, Nat.le_of_ble_eq_true rfl⟩, Nat.le_of_ble_eq_true rfl, Nat.le_of_ble_eq_true rfl⟩ dX5_changedUsesIn_75 ?_
          refine V_aload_n dX5_changedUsesIn_78 rfl rfl ?_
          refine V_getR frX5_21 hL.1 rfl dX5_changedUsesIn_79 ?_
          refine V_iload_n dX5_changedUsesIn_82 rfl rfl ?_
          refine V_iload dX5_changedUsesIn_83 rfl ?_
          refine V_cv1 (ctX0_sourceAtUse hL.2.2.1 hA2 hw2 hQ2 hb2 hi2 (by omega)) mvX0_sourceAtUse lkX5_231 hL.2.2.1.1 rfl rfl rfl (Nat.le_of_ble_eq_true rfl) ⟨⟨Nat.le_of_ble_eq_true rfl, Nat.le_of_ble_eq_true rfl⟩, Nat.le_of_ble_eq_true rfl, Nat.le_of_ble_eq_true rfl⟩ dX5_changedUsesIn_85 ?_
          refine V_N_eq (by omega) (by omega) 94 dX5_changedUsesIn_88 (by decide) (fun h88 => ?_) (fun h88 => ?_)
          · refine V_iinc1 dX5_changedUsesIn_94 rfl (Nat.le_of_ble_eq_true rfl) ?_
            refine V_goto 27 dX5_changedUsesIn_97 (by decide) ?_
            exact V.cL (ih h30 _) (by rw [cnt_f (P := fun k => decide (10 ≤ (G.2.1 b).getD k 0) && (decide ((G.2.1 b).getD k 0 = (H.2.1 b).getD k 0) && decide (srcU G b k ≠ srcU H b k))) (by show (_ && (_ && _)) = false; rw [decide_eq_false (show ¬ srcU G b i ≠ srcU H b i from fun q => q h88), Bool.and_false, Bool.and_false])]; rfl)
          · refine V_iinc1 dX5_changedUsesIn_91 rfl (Nat.le_of_ble_eq_true rfl) ?_
            refine V_iinc1 dX5_changedUsesIn_94 rfl (Nat.le_of_ble_eq_true rfl) ?_
            refine V_goto 27 dX5_changedUsesIn_97 (by decide) ?_
            exact V.cL (ih h30 _) (by rw [← cnt_t (P := fun k => decide (10 ≤ (G.2.1 b).getD k 0) && (decide ((G.2.1 b).getD k 0 = (H.2.1 b).getD k 0) && decide (srcU G b k ≠ srcU H b k))) (by show (_ && (_ && _)) = true; rw [h50, decide_eq_true h65, decide_eq_true h88]; rfl)]; rfl)
    )
  refine V_aload_n dX5_changedUsesIn_0 rfl rfl ?_
  refine V_getR frX5_20 hL.1 rfl dX5_changedUsesIn_1 ?_
  refine V_getR frX5_128 hL.2.1.2.1.1 rfl dX5_changedUsesIn_4 ?_
  refine V_iload_n dX5_changedUsesIn_7 rfl rfl ?_
  refine V_ialdE hL.2.1.2.1.2.1 b rfl (by omega) (by decide) ((hA.2 b (by omega)).1) dX5_changedUsesIn_8 ?_
  refine V_aload_n dX5_changedUsesIn_9 rfl rfl ?_
  refine V_getR frX5_24 hL.1 rfl dX5_changedUsesIn_10 ?_
  refine V_getR frX5_128 hL.2.2.1.2.1.1 rfl dX5_changedUsesIn_13 ?_
  refine V_iload_n dX5_changedUsesIn_16 rfl rfl ?_
  refine V_ialdE hL.2.2.1.2.1.2.1 b rfl (by omega) (by decide) ((hA2.2 b (by omega)).1) dX5_changedUsesIn_17 ?_
  refine V_min minX5_340 (Nat.le_of_ble_eq_true rfl) (Nat.le_of_ble_eq_true rfl) ⟨Nat.le_of_ble_eq_true rfl, Nat.le_of_ble_eq_true rfl⟩ dX5_changedUsesIn_18 ?_
  refine V_top (minN (by omega) (by omega)) ?_
  refine V_istore_n dX5_changedUsesIn_21 rfl (Nat.le_of_ble_eq_true rfl) ?_
  refine V_iconst (v := nI 0) dX5_changedUsesIn_22 (by decide) ?_
  refine V_istore_n dX5_changedUsesIn_23 rfl (Nat.le_of_ble_eq_true rfl) ?_
  refine V_iconst (v := nI 0) dX5_changedUsesIn_24 (by decide) ?_
  refine V_istore dX5_changedUsesIn_25 (Nat.le_of_ble_eq_true rfl) ?_
  exact lp 0 (Nat.zero_le _) _

theorem ctX5_changedUses (hL : XL σ x) (hX : XA mi x S) (hS : SOK S)  : CtP κ 1 6 12 mrX5_changedUses [.ref x] (MM σ mi ml) (XR σ mi ml x [] (rs_changedUses S)) := by
  have hq := XQ (ml := ml) (σ := σ) hX
  have hw := hS.1
  have h14 := hw.2.1
  unfold rs_changedUses
  refine CtP.of rfl (by simp [Value.category]) (Nat.le_of_ble_eq_true rfl) ?_
  have lp : S.2.1.1 ≠ 0 → ∀ m1, XM σ mi ml x S (MM σ m1 ml) → GA m1 (x + 1 + 1) S.1 → FA m1 (x + 1) S.1 → GA m1 (x + 18 + 1) (S.2.1.2 0) → FA m1 (x + 18) (S.2.1.2 0) → ∀ i, i ≤ 14 → V κ (phiP κ mrX5_changedUses 12 1 6 (XR σ mi ml x [] (0, nI (if S.2.1.1 = 0 then 0 else chN S.1 (S.2.1.2 0)), S))) 0 0 29 [some (.ref x), some (.int (msk (fun k => bp (Rc S.1 k) && bp (Rc (S.2.1.2 0) k)))), some (.int (nI (sm (fun b => if (bp (Rc S.1 b) && bp (Rc (S.2.1.2 0) b)) = true then chB S.1 (S.2.1.2 0) b else 0) i))), some (.int (nI i))] [] (MM σ m1 ml) := fun hn m1 hM hA hQ hA2 hQ2 => loop_up _ (fun i hi ih => by
    have hw0 := hS.2.1.2 0 (by omega)
    refine V_iload_n dX5_changedUses_29 rfl rfl ?_
    refine V_bipush (v := nI 14) dX5_changedUses_30 (by decide) ?_
    refine V_N_ge (by omega) (by omega) 57 dX5_changedUses_32 (by decide) (fun h32 => ?_) (fun h32 => ?_)
    · refine V_iload_n dX5_changedUses_57 rfl rfl ?_
      exact V_iretP rfl ⟨by rw [if_neg hn]; unfold chN; rw [show i = 14 by omega]; rfl, hM⟩ ⟨Nat.le_of_ble_eq_true rfl, Nat.le_of_ble_eq_true rfl⟩ dX5_changedUses_58
    · refine V_iload_n dX5_changedUses_35 rfl rfl ?_
      refine V_iload_n dX5_changedUses_36 rfl rfl ?_
      refine V_cs1 (ctX5_hasM (by omega)) msX5_has lkX5_183 rfl rfl (Nat.le_of_ble_eq_true rfl) ⟨⟨Nat.le_of_ble_eq_true rfl, Nat.le_of_ble_eq_true rfl⟩, Nat.le_of_ble_eq_true rfl, Nat.le_of_ble_eq_true rfl⟩ dX5_changedUses_37 ?_
      refine V_ifeqB 51 dX5_changedUses_40 (by decide) (fun h40 => ?_) (fun h40 => ?_)
      · refine V_iinc1 dX5_changedUses_51 rfl (Nat.le_of_ble_eq_true rfl) ?_
        refine V_goto 29 dX5_changedUses_54 (by decide) ?_
        exact V.cL (ih h32) (by rw [sm, if_neg (by rw [h40]; decide)]; rfl)
      · have h40c := h40
        rw [Bool.and_eq_true, bp_t, bp_t] at h40c
        refine V_iload_n dX5_changedUses_43 rfl rfl ?_
        refine V_aload_n dX5_changedUses_44 rfl rfl ?_
        refine V_iload_n dX5_changedUses_45 rfl rfl ?_
        refine V_cv1 (ctX5_changedUsesIn hL hw hw0 hA hQ hA2 hQ2 h40c.1 h40c.2) mvX5_changedUsesIn lkX5_275 hL.1 rfl rfl rfl (Nat.le_of_ble_eq_true rfl) ⟨⟨Nat.le_of_ble_eq_true rfl, Nat.le_of_ble_eq_true rfl⟩, Nat.le_of_ble_eq_true rfl, Nat.le_of_ble_eq_true rfl⟩ dX5_changedUses_46 ?_
        refine V_iadd dX5_changedUses_49 ?_
        refine V_top (nI_add _ _) ?_
        refine V_istore_n dX5_changedUses_50 rfl (Nat.le_of_ble_eq_true rfl) ?_
        refine V_iinc1 dX5_changedUses_51 rfl (Nat.le_of_ble_eq_true rfl) ?_
        refine V_goto 29 dX5_changedUses_54 (by decide) ?_
        exact V.cL (ih h32) (by rw [sm, if_pos h40]; rfl)
    )
  refine V_aload_n dX5_changedUses_0 rfl rfl ?_
  refine V_cp1 (ctX5_readPrevious hL hX hS) mvX5_readPrevious lkX5_267 hL.1 rfl rfl rfl (Nat.le_of_ble_eq_true rfl) ⟨⟨Nat.le_of_ble_eq_true rfl, Nat.le_of_ble_eq_true rfl⟩, Nat.le_of_ble_eq_true rfl, Nat.le_of_ble_eq_true rfl⟩ dX5_changedUses_1 (fun y μ1 hx => ?_)
  obtain ⟨rfl, m1, rfl, hg, ho⟩ := hx
  refine V_ifneB 9 dX5_changedUses_4 (by decide) (fun h4 => ?_) (fun h4 => ?_)
  · have hn : S.2.1.1 ≠ 0 := of_decide_eq_false (by simpa using h4)
    refine V_aload_n dX5_changedUses_9 rfl rfl ?_
    refine V_getR frX5_10 hL.1 rfl dX5_changedUses_10 ?_
    refine V_getE frX5_180 hL.2.1.1 rfl ((hX.2.1.keep (fun a i q => ho a i (by omega))).1.2.1) dX5_changedUses_13 ?_
    refine V_aload_n dX5_changedUses_16 rfl rfl ?_
    refine V_getR frX5_21 hL.1 rfl dX5_changedUses_17 ?_
    refine V_getE frX5_180 hL.2.2.1.1 rfl ((hg hn).2.1.2.1) dX5_changedUses_20 ?_
    refine V_iand dX5_changedUses_23 ?_
    refine V_top (msk_and _ _) ?_
    refine V_istore_n dX5_changedUses_24 rfl (Nat.le_of_ble_eq_true rfl) ?_
    refine V_iconst (v := nI 0) dX5_changedUses_25 (by decide) ?_
    refine V_istore_n dX5_changedUses_26 rfl (Nat.le_of_ble_eq_true rfl) ?_
    refine V_iconst (v := nI 0) dX5_changedUses_27 (by decide) ?_
    refine V_istore_n dX5_changedUses_28 rfl (Nat.le_of_ble_eq_true rfl) ?_
    exact lp hn m1 (XQ.hid hX ho (fun _ _ _ => rfl)) (hX.1.keep (fun a i q1 q2 => ho a i (by omega))) (hX.2.1.keep (fun a i q => ho a i (by omega))) (hg hn).1 (hg hn).2 0 (Nat.zero_le _)
  · refine V_iconst (v := nI 0) dX5_changedUses_7 (by decide) ?_
    exact V_iretP rfl ⟨by rw [if_pos (of_decide_eq_true (by simpa using h4))]; rfl, XQ.hid hX ho (fun _ _ _ => rfl)⟩ ⟨Nat.le_of_ble_eq_true rfl, Nat.le_of_ble_eq_true rfl⟩ dX5_changedUses_8

end Cls2
