/-! SsaRepair.Flow: definitions, liveness, merges; analyse -/
section Flow3
variable {κ : K0} {σ : Nat → Option Kd} {mi : Nat → Nat → Int32} {ml : Nat → Nat → Int64} {f : Nat} {G : Gr} {μ : Mem}
theorem ldI_ne {b : Nat} {o : Option Nat} (hb : b < 14) (hk : ∀ k, o = some k → k < 6) : ldI b o = -1 ↔ o = none := by
  cases o with
  | none => exact ⟨fun _ => rfl, fun _ => rfl⟩
  | some k =>
    have := hk k rfl
    refine ⟨fun h => ?_, fun h => by cases h⟩
    exfalso
    have h2 : (nI (10 * b + k)).toInt = (-1 : Int32).toInt := congrArg Int32.toInt h
    rw [nI_toInt (by omega)] at h2
    have h3 : (-1 : Int32).toInt = -1 := by decide
    omega
theorem lastD_ne (hw : Wf G) {v b : Nat} (hb : b < 14) : lastD G v b = -1 ↔ ¬ (Rc G b ∧ Df G v b) := by
  have h6 := (hw.2.2.1 b).1
  unfold lastD
  by_cases hR : Rc G b
  · rw [if_pos (bp_pos hR), ldI_ne hb (fun k hk => by have := (ldef_some _ _ hk).1; omega)]
    rw [show (Rc G b ∧ Df G v b) ↔ Df G v b from ⟨fun h => h.2, fun h => ⟨hR, h⟩⟩, Df_iff]
    exact Decidable.not_not.symm
  · rw [if_neg (by rw [bp_neg hR]; decide)]
    exact ⟨fun _ h => hR h.1, fun _ => rfl⟩
theorem ctX0_findDefining (hF : FlowL σ f) (hA : GA mi (f + 1) G) (hw : Wf G) (hr : mi f 1 = msk (fun k => bp (Rc G k))) {v : Nat} (hv : v < 4) : CtP κ 0 0 3 mrX0_findDefining [.ref f, .int (nI v)] (MM σ mi ml) (fun o μ' => ∃ x, o = .inl (some (.int x)) ∧ x = msk (fun p => bp (Rc G p ∧ Df G v p)) ∧ ∃ m', μ' = MM σ m' ml ∧ (∀ b, b < 14 → m' (f + 12) (14 * v + b) = lastD G v b) ∧ ∀ a i, ¬ (a = f + 12 ∧ 14 * v ≤ i ∧ i < 14 * v + 14) → m' a i = mi a i) := by
  refine CtP.of rfl (by simp [Value.category]) (Nat.le_of_ble_eq_true rfl) ?_
  have lp : ∀ i, i ≤ 14 → ∀ m o4, (∀ b, b < i → m (f + 12) (14 * v + b) = lastD G v b) → (∀ a j, ¬ (a = f + 12 ∧ 14 * v ≤ j ∧ j < 14 * v + 14) → m a j = mi a j) → V κ (phiP κ mrX0_findDefining 3 0 0 (fun o μ' => ∃ x, o = .inl (some (.int x)) ∧ x = msk (fun p => bp (Rc G p ∧ Df G v p)) ∧ ∃ m', μ' = MM σ m' ml ∧ (∀ b, b < 14 → m' (f + 12) (14 * v + b) = lastD G v b) ∧ ∀ a i, ¬ (a = f + 12 ∧ 14 * v ≤ i ∧ i < 14 * v + 14) → m' a i = mi a i)) 0 0 4 [some (.ref f), some (.int (nI v)), some (.int (mU (fun p => bp (Rc G p ∧ Df G v p)) i)), some (.int (nI i)), o4] [] (MM σ m ml) := loop_up 14 (fun i hi ih m o4 h1 ho => by
    have hA' : GA m (f + 1) G := GA_off hA (fun a j _ _ => ho a j (by omega))
    have hr' : m f 1 = msk (fun k => bp (Rc G k)) := (ho f 1 (by omega)).trans hr
    have h6 := (hw.2.2.1 i).1
    have J : i < 14 → V κ (phiP κ mrX0_findDefining 3 0 0 (fun o μ' => ∃ x, o = .inl (some (.int x)) ∧ x = msk (fun p => bp (Rc G p ∧ Df G v p)) ∧ ∃ m', μ' = MM σ m' ml ∧ (∀ b, b < 14 → m' (f + 12) (14 * v + b) = lastD G v b) ∧ ∀ a i, ¬ (a = f + 12 ∧ 14 * v ≤ i ∧ i < 14 * v + 14) → m' a i = mi a i)) 0 0 43 [some (.ref f), some (.int (nI v)), some (.int (mU (fun p => bp (Rc G p ∧ Df G v p)) i)), some (.int (nI i)), o4] [.int (lastD G v i)] (MM σ m ml) := fun hi2 => by
      have k1 : ∀ b, b < i + 1 → u2 m (f + 12) (14 * v + i) (lastD G v i) (f + 12) (14 * v + b) = lastD G v b := fun b hb => by
        by_cases e : b = i
        · subst e; exact u2_s _ _ _ _
        · exact (u2_n _ _ (Or.inr (by omega))).trans (h1 b (by omega))
      have k2 : ∀ a j, ¬ (a = f + 12 ∧ 14 * v ≤ j ∧ j < 14 * v + 14) → u2 m (f + 12) (14 * v + i) (lastD G v i) a j = mi a j := fun a j h => (u2_n _ _ (by omega)).trans (ho a j h)
      refine V_istore dX0_findDefining_43 (Nat.le_of_ble_eq_true rfl) ?_
      refine V_aload_n dX0_findDefining_45 rfl rfl ?_
      refine V_getR frX0_41 hF.1 rfl dX0_findDefining_46 ?_
      refine V_iload_n dX0_findDefining_49 rfl rfl ?_
      refine V_bipush (v := nI 14) dX0_findDefining_50 (by decide) ?_
      refine V_imul dX0_findDefining_52 ?_
      refine V_iload_n dX0_findDefining_53 rfl rfl ?_
      refine V_iadd dX0_findDefining_54 ?_
      refine V_top (mulA v 14 i) ?_
      refine V_iload dX0_findDefining_55 rfl ?_
      refine V_iastN hF.2.2.2.2.2.2.2.2.1 (14 * v + i) rfl (by omega) (by decide) dX0_findDefining_57 ?_
      refine V_iload dX0_findDefining_58 rfl ?_
      refine V_iconst (v := (-1)) dX0_findDefining_60 (by decide) ?_
      refine V_icmp_eq 70 dX0_findDefining_61 (by decide) (fun h61 => ?_) (fun h61 => ?_)
      · refine V_iinc1 dX0_findDefining_70 rfl (Nat.le_of_ble_eq_true rfl) ?_
        refine V_goto 4 dX0_findDefining_73 (by decide) ?_
        exact V.cL (ih hi2 _ _ k1 k2) (by rw [mU_f (show bp (Rc G i ∧ Df G v i) = false from bp_neg ((lastD_ne hw hi2).mp h61))]; rfl)
      · refine V_iload_n dX0_findDefining_64 rfl rfl ?_
        refine V_iconst (v := nI 1) dX0_findDefining_65 (by decide) ?_
        refine V_iload_n dX0_findDefining_66 rfl rfl ?_
        refine V_ishl dX0_findDefining_67 ?_
        refine V_top (msk_one hi2) ?_
        refine V_ior dX0_findDefining_68 ?_
        refine V_top (mU_t hi2 (bp_pos (Classical.byContradiction (fun q => h61 ((lastD_ne hw hi2).mpr q))))) ?_
        refine V_istore_n dX0_findDefining_69 rfl (Nat.le_of_ble_eq_true rfl) ?_
        refine V_iinc1 dX0_findDefining_70 rfl (Nat.le_of_ble_eq_true rfl) ?_
        refine V_goto 4 dX0_findDefining_73 (by decide) ?_
        exact ih hi2 _ _ k1 k2

    refine V_iload_n dX0_findDefining_4 rfl rfl ?_
    refine V_bipush (v := nI 14) dX0_findDefining_5 (by decide) ?_
    refine V_N_ge (by omega) (by omega) 76 dX0_findDefining_7 (by decide) (fun h7 => ?_) (fun h7 => ?_)
    · refine V_iload_n dX0_findDefining_76 rfl rfl ?_
      exact V_iretP rfl ⟨_, rfl, by rw [show i = 14 by omega, mU_all], _, rfl, fun b hb => h1 b (by omega), ho⟩ ⟨Nat.le_of_ble_eq_true rfl, Nat.le_of_ble_eq_true rfl⟩ dX0_findDefining_77
    · refine V_aload_n dX0_findDefining_10 rfl rfl ?_
      refine V_getE frX0_18 hF.1 rfl hr' dX0_findDefining_11 ?_
      refine V_iload_n dX0_findDefining_14 rfl rfl ?_
      refine V_csn1 (ctX5_hasM (by omega)) msX5_has lnX0_85 rfl rfl (Nat.le_of_ble_eq_true rfl) ⟨⟨Nat.le_of_ble_eq_true rfl, Nat.le_of_ble_eq_true rfl⟩, Nat.le_of_ble_eq_true rfl, Nat.le_of_ble_eq_true rfl⟩ dX0_findDefining_15 ?_
      refine V_ifeqB 42 dX0_findDefining_18 (by decide) (fun h18 => ?_) (fun h18 => ?_)
      · refine V_iconst (v := (-1)) dX0_findDefining_42 (by decide) ?_
        exact V.cS (J h7) (by rw [show lastD G v i = -1 by unfold lastD; rw [if_neg (by rw [h18]; decide)]])
      · refine V_aload_n dX0_findDefining_21 rfl rfl ?_
        refine V_getR frX0_12 hF.1 rfl dX0_findDefining_22 ?_
        refine V_iload_n dX0_findDefining_25 rfl rfl ?_
        refine V_iload_n dX0_findDefining_26 rfl rfl ?_
        refine V_aload_n dX0_findDefining_27 rfl rfl ?_
        refine V_getR frX0_12 hF.1 rfl dX0_findDefining_28 ?_
        refine V_getR frX0_95 hF.2.1.1 rfl dX0_findDefining_31 ?_
        refine V_iload_n dX0_findDefining_34 rfl rfl ?_
        refine V_ialdE hF.2.1.2.1 i rfl (by omega) (by decide) (hA'.2 i h7).1 dX0_findDefining_35 ?_
        refine V_cv1 (ctX1_definitionBefore hF.2.1 hA' hw h7 (by omega) (Nat.le_refl _)) mvX1_definitionBefore lkX0_98 hF.2.1.1 rfl rfl rfl (Nat.le_of_ble_eq_true rfl) ⟨⟨Nat.le_of_ble_eq_true rfl, Nat.le_of_ble_eq_true rfl⟩, Nat.le_of_ble_eq_true rfl, Nat.le_of_ble_eq_true rfl⟩ dX0_findDefining_36 ?_
        refine V_goto 43 dX0_findDefining_39 (by decide) ?_
        exact V.cS (J h7) (by rw [show lastD G v i = ldI i (ldef (G.2.1 i) v (G.2.1 i).length) by unfold lastD; rw [if_pos h18]])
    )
  refine V_iconst (v := nI 0) dX0_findDefining_0 (by decide) ?_
  refine V_istore_n dX0_findDefining_1 rfl (Nat.le_of_ble_eq_true rfl) ?_
  refine V_iconst (v := nI 0) dX0_findDefining_2 (by decide) ?_
  refine V_istore_n dX0_findDefining_3 rfl (Nat.le_of_ble_eq_true rfl) ?_
  exact V.cL (lp 0 (Nat.zero_le _) mi _ (fun b hb => absurd hb (Nat.not_lt_zero b)) (fun a j _ => rfl)) (by rw [mU_0]; rfl)

theorem ctX0_isLiveGiven (hF : FlowL σ f) (hA : GA mi (f + 1) G) (hw : Wf G) (hs : ∀ a, a < 14 → mi (f + 6) a = msk (sbG G a)) {v b : Nat} {Q : Nat → Bool} (hv : v < 4) (hb : b < 14) (hd : mi (f + 11) v = msk (fun p => bp (Rc G p ∧ Df G v p))) : Ct κ 0 0 3 mrX0_isLiveGiven [.ref f, .int (msk Q), .int (nI b), .int (nI v)] (MM σ mi ml) (.inl (some (.int (bI (ufst (G.2.1 b) v || (!bp (Rc G b ∧ Df G v b) && decide (msk (fun k => sbG G b k && Q k) ≠ 0))))))) (MM σ mi ml) := by
  refine Ct.of rfl (by simp [Value.category]) (Nat.le_of_ble_eq_true rfl) ?_
  refine V_aload_n dX0_isLiveGiven_0 rfl rfl ?_
  refine V_getR frX0_38 hF.1 rfl dX0_isLiveGiven_1 ?_
  refine V_iload_n dX0_isLiveGiven_4 rfl rfl ?_
  refine V_ialdE hF.2.2.2.2.2.2.2.1 v rfl (by omega) (by decide) hd dX0_isLiveGiven_5 ?_
  refine V_iload_n dX0_isLiveGiven_6 rfl rfl ?_
  refine V_csn1 (ctX5_hasM hb) msX5_has lnX0_85 rfl rfl (Nat.le_of_ble_eq_true rfl) ⟨⟨Nat.le_of_ble_eq_true rfl, Nat.le_of_ble_eq_true rfl⟩, Nat.le_of_ble_eq_true rfl, Nat.le_of_ble_eq_true rfl⟩ dX0_isLiveGiven_7 ?_
  refine V_ifneB 17 dX0_isLiveGiven_10 (by decide) (fun h10 => ?_) (fun h10 => ?_)
  · refine V_iconst (v := nI 0) dX0_isLiveGiven_17 (by decide) ?_
    refine V_istore dX0_isLiveGiven_18 (Nat.le_of_ble_eq_true rfl) ?_
    refine V_aload_n dX0_isLiveGiven_20 rfl rfl ?_
    refine V_getR frX0_12 hF.1 rfl dX0_isLiveGiven_21 ?_
    refine V_iload_n dX0_isLiveGiven_24 rfl rfl ?_
    refine V_iload_n dX0_isLiveGiven_25 rfl rfl ?_
    refine V_cv1 (ctX1_usesFirst hF.2.1 hA hw hb hv) mvX1_usesFirst lkX0_106 hF.2.1.1 rfl rfl rfl (Nat.le_of_ble_eq_true rfl) ⟨⟨Nat.le_of_ble_eq_true rfl, Nat.le_of_ble_eq_true rfl⟩, Nat.le_of_ble_eq_true rfl, Nat.le_of_ble_eq_true rfl⟩ dX0_isLiveGiven_26 ?_
    refine V_ifneB 48 dX0_isLiveGiven_29 (by decide) (fun h29 => ?_) (fun h29 => ?_)
    · refine V_iconst (v := nI 1) dX0_isLiveGiven_48 (by decide) ?_
      refine V_goto 53 dX0_isLiveGiven_49 (by decide) ?_
      exact V_zret rfl rfl (oI (by rw [show (ufst (G.2.1 b) v || (!bp (Rc G b ∧ Df G v b) && decide (msk (fun k => sbG G b k && Q k) ≠ 0))) = true by rw [h29]; rfl]; rfl)) rfl ⟨Nat.le_of_ble_eq_true rfl, Nat.le_of_ble_eq_true rfl⟩ dX0_isLiveGiven_53
    · refine V_iload dX0_isLiveGiven_32 rfl ?_
      refine V_if_eq 52 dX0_isLiveGiven_34 (by decide) (fun h34 => ?_) (fun h34 => absurd (by decide) h34)
      refine V_iconst (v := nI 0) dX0_isLiveGiven_52 (by decide) ?_
      exact V_zret rfl rfl (oI (by rw [show (ufst (G.2.1 b) v || (!bp (Rc G b ∧ Df G v b) && decide (msk (fun k => sbG G b k && Q k) ≠ 0))) = false by rw [h29, h10]; rfl]; rfl)) rfl ⟨Nat.le_of_ble_eq_true rfl, Nat.le_of_ble_eq_true rfl⟩ dX0_isLiveGiven_53
  · refine V_iconst (v := nI 1) dX0_isLiveGiven_13 (by decide) ?_
    refine V_goto 18 dX0_isLiveGiven_14 (by decide) ?_
    refine V_istore dX0_isLiveGiven_18 (Nat.le_of_ble_eq_true rfl) ?_
    refine V_aload_n dX0_isLiveGiven_20 rfl rfl ?_
    refine V_getR frX0_12 hF.1 rfl dX0_isLiveGiven_21 ?_
    refine V_iload_n dX0_isLiveGiven_24 rfl rfl ?_
    refine V_iload_n dX0_isLiveGiven_25 rfl rfl ?_
    refine V_cv1 (ctX1_usesFirst hF.2.1 hA hw hb hv) mvX1_usesFirst lkX0_106 hF.2.1.1 rfl rfl rfl (Nat.le_of_ble_eq_true rfl) ⟨⟨Nat.le_of_ble_eq_true rfl, Nat.le_of_ble_eq_true rfl⟩, Nat.le_of_ble_eq_true rfl, Nat.le_of_ble_eq_true rfl⟩ dX0_isLiveGiven_26 ?_
    refine V_ifneB 48 dX0_isLiveGiven_29 (by decide) (fun h29 => ?_) (fun h29 => ?_)
    · refine V_iconst (v := nI 1) dX0_isLiveGiven_48 (by decide) ?_
      refine V_goto 53 dX0_isLiveGiven_49 (by decide) ?_
      exact V_zret rfl rfl (oI (by rw [show (ufst (G.2.1 b) v || (!bp (Rc G b ∧ Df G v b) && decide (msk (fun k => sbG G b k && Q k) ≠ 0))) = true by rw [h29]; rfl]; rfl)) rfl ⟨Nat.le_of_ble_eq_true rfl, Nat.le_of_ble_eq_true rfl⟩ dX0_isLiveGiven_53
    · refine V_iload dX0_isLiveGiven_32 rfl ?_
      refine V_if_eq 52 dX0_isLiveGiven_34 (by decide) (fun h34 => absurd h34 (by decide)) (fun h34 => ?_)
      refine V_aload_n dX0_isLiveGiven_37 rfl rfl ?_
      refine V_getR frX0_22 hF.1 rfl dX0_isLiveGiven_38 ?_
      refine V_iload_n dX0_isLiveGiven_41 rfl rfl ?_
      refine V_ialdE hF.2.2.1 b rfl (by omega) (by decide) (hs b hb) dX0_isLiveGiven_42 ?_
      refine V_iload_n dX0_isLiveGiven_43 rfl rfl ?_
      refine V_iand dX0_isLiveGiven_44 ?_
      refine V_top (msk_and (sbG G b) Q) ?_
      refine V_if_eq 52 dX0_isLiveGiven_45 (by decide) (fun h45 => ?_) (fun h45 => ?_)
      · refine V_iconst (v := nI 0) dX0_isLiveGiven_52 (by decide) ?_
        exact V_zret rfl rfl (oI (by rw [show (ufst (G.2.1 b) v || (!bp (Rc G b ∧ Df G v b) && decide (msk (fun k => sbG G b k && Q k) ≠ 0))) = false by rw [h29, h10, decide_eq_false (fun q => q h45)]; rfl]; rfl)) rfl ⟨Nat.le_of_ble_eq_true rfl, Nat.le_of_ble_eq_true rfl⟩ dX0_isLiveGiven_53
      · refine V_iconst (v := nI 1) dX0_isLiveGiven_48 (by decide) ?_
        refine V_goto 53 dX0_isLiveGiven_49 (by decide) ?_
        exact V_zret rfl rfl (oI (by rw [show (ufst (G.2.1 b) v || (!bp (Rc G b ∧ Df G v b) && decide (msk (fun k => sbG G b k && Q k) ≠ 0))) = true by rw [h29, h10, decide_eq_true h45]; rfl]; rfl)) rfl ⟨Nat.le_of_ble_eq_true rfl, Nat.le_of_ble_eq_true rfl⟩ dX0_isLiveGiven_53

theorem LV_in {v b : Nat} {Q : Nat → Bool} (hw : Wf G) (hb : b < 14) (hR : Rc G b) (h : (ufst (G.2.1 b) v || (!bp (Rc G b ∧ Df G v b) && decide (msk (fun k => sbG G b k && Q k) ≠ 0))) = true) (hQ : ∀ k, k < 14 → Q k = true → LV G v k) : LV G v b := by
  rw [Bool.or_eq_true] at h
  rcases h with h | h
  · exact Cl.base ⟨hR, h⟩
  · rw [Bool.and_eq_true, Bool.not_eq_true', bp_f, decide_eq_true_iff, any_msk] at h
    obtain ⟨h1, k, hk, h2, h3⟩ := h
    exact (hQ k hk h3).step ⟨hR, fun q => h1 ⟨hR, q⟩, sbG_t.mp h2⟩
theorem ctX0_findLive (hF : FlowL σ f) (hA : GA mi (f + 1) G) (hw : Wf G) (h1 : F1 mi f G) {v : Nat} (hv : v < 4) (hd : mi (f + 11) v = msk (fun p => bp (Rc G p ∧ Df G v p))) : Ct κ 0 0 4 mrX0_findLive [.ref f, .int (nI v)] (MM σ mi ml) (.inl (some (.int (msk (fun b => bp (LV G v b)))))) (MM σ mi ml) := by
  refine Ct.of rfl (by simp [Value.category]) (Nat.le_of_ble_eq_true rfl) ?_
  have lp : ∀ r, r ≤ 15 → ∀ (P : Nat → Bool) (o4 o5 : Option Value), (∀ k, k < 14 → P k = true → LV G v k) → r ≤ cnt P 14 → V κ (phi κ mrX0_findLive 4 0 0 (.inl (some (.int (msk (fun b => bp (LV G v b)))))) (MM σ mi ml)) 0 0 4 [some (.ref f), some (.int (nI v)), some (.int (msk P)), some (.int (nI r)), o4, o5] [] (MM σ mi ml) := loop_up 15 (fun r hr ih P o4 o5 i1 i2 => by
    have lp2 : ∀ i, i ≤ 14 → ∀ (Q : Nat → Bool), (∀ k, k < 14 → P k = true → Q k = true) → (∀ k, k < 14 → Q k = true → LV G v k) → (∀ b, b < 14 → i ≤ b → Rc G b → (ufst (G.2.1 b) v || (!bp (Rc G b ∧ Df G v b) && decide (msk (fun k => sbG G b k && P k) ≠ 0))) = true → Q b = true) → r < 15 → V κ (phi κ mrX0_findLive 4 0 0 (.inl (some (.int (msk (fun b => bp (LV G v b)))))) (MM σ mi ml)) 0 0 17 [some (.ref f), some (.int (nI v)), some (.int (msk Q)), some (.int (nI r)), some (.int (msk P)), some (.int (nI i - nI 1))] [] (MM σ mi ml) := by
      intro i
      induction i with
      | zero =>
        intro _ Q j1 j2 j3 hr15
        refine V_iload dX0_findLive_17 rfl ?_
        refine V_if_lt 58 dX0_findLive_19 (by decide) (fun h19 => ?_) (fun h19 => absurd (by decide) h19)
        refine V_iload_n dX0_findLive_58 rfl rfl ?_
        refine V_iload dX0_findLive_59 rfl ?_
        refine V_icmp_ne 67 dX0_findLive_61 (by decide) (fun h61 => ?_) (fun h61 => ?_)
        · refine V_iinc1 dX0_findLive_67 rfl (Nat.le_of_ble_eq_true rfl) ?_
          refine V_goto 4 dX0_findLive_70 (by decide) ?_
          refine ih hr15 Q _ _ j2 ?_
          obtain ⟨k, hk, hne⟩ := msk_ne h61
          have hkk : Q k = true ∧ P k = false := by
            cases hp : P k with
            | true => exact absurd ((j1 k hk hp).trans hp.symm) hne
            | false => exact ⟨by cases hq : Q k with | true => rfl | false => exact absurd (hq.trans hp.symm) hne, rfl⟩
          have hc := cnt_lt 14 j1 ⟨k, hk, hkk⟩
          omega
        · refine V_goto 73 dX0_findLive_64 (by decide) ?_
          refine V_iload_n dX0_findLive_73 rfl rfl ?_
          refine V_iret rfl (oI (Cl.mask (fun a h => (LV.rc h).lt14 hw) j2 (fun a ha h => j3 a ha (Nat.zero_le _) h.1 (by rw [h.2]; rfl)) (fun a b ha hb hq ht => j3 b hb (Nat.zero_le _) ht.1 ?_)).symm) rfl ⟨Nat.le_of_ble_eq_true rfl, Nat.le_of_ble_eq_true rfl⟩ dX0_findLive_74
          rw [Bool.or_eq_true]
          refine Or.inr ?_
          rw [Bool.and_eq_true, Bool.not_eq_true', bp_f, decide_eq_true_iff, any_msk]
          exact ⟨fun q => ht.2.1 q.2, a, ha, sbG_t.mpr ht.2.2, by rw [← msk_inj h61 a ha]; exact hq⟩

      | succ i ih2 =>
        intro hi Q j1 j2 j3 hr15
        rw [show nI (i + 1) - nI 1 = nI i from nI_pred i]
        refine V_iload dX0_findLive_17 rfl ?_
        refine V_if_lt 58 dX0_findLive_19 (by decide) (fun h19 => absurd h19 (nI_pos (by omega))) (fun h19 => ?_)
        refine V_aload_n dX0_findLive_22 rfl rfl ?_
        refine V_getE frX0_18 hF.1 rfl h1.2.1 dX0_findLive_23 ?_
        refine V_iload dX0_findLive_26 rfl ?_
        refine V_csn1 (ctX5_hasM (by omega)) msX5_has lnX0_85 rfl rfl (Nat.le_of_ble_eq_true rfl) ⟨⟨Nat.le_of_ble_eq_true rfl, Nat.le_of_ble_eq_true rfl⟩, Nat.le_of_ble_eq_true rfl, Nat.le_of_ble_eq_true rfl⟩ dX0_findLive_28 ?_
        refine V_ifeqB 52 dX0_findLive_31 (by decide) (fun h31 => ?_) (fun h31 => ?_)
        · refine V_iinc (v := nI i - nI 1) dX0_findLive_52 rfl (dec1 _) (Nat.le_of_ble_eq_true rfl) ?_
          refine V_goto 17 dX0_findLive_55 (by decide) ?_
          exact ih2 (by omega) Q j1 j2 (fun b hb hib hR h => by
            rcases Nat.lt_or_ge i b with q | q
            · exact j3 b hb q hR h
            · have e : b = i := by omega
              subst e
              exact absurd hR (bp_f.mp h31)) hr15
        · refine V_aload_n dX0_findLive_34 rfl rfl ?_
          refine V_iload_n dX0_findLive_35 rfl rfl ?_
          refine V_iload dX0_findLive_36 rfl ?_
          refine V_iload_n dX0_findLive_38 rfl rfl ?_
          refine V_cv1 (ctX0_isLiveGiven hF hA hw h1.1 hv (by omega) hd) mvX0_isLiveGiven lkX0_102 hF.1 rfl rfl rfl (Nat.le_of_ble_eq_true rfl) ⟨⟨Nat.le_of_ble_eq_true rfl, Nat.le_of_ble_eq_true rfl⟩, Nat.le_of_ble_eq_true rfl, Nat.le_of_ble_eq_true rfl⟩ dX0_findLive_39 ?_
          refine V_ifeqB 52 dX0_findLive_42 (by decide) (fun h42 => ?_) (fun h42 => ?_)
          · refine V_iinc (v := nI i - nI 1) dX0_findLive_52 rfl (dec1 _) (Nat.le_of_ble_eq_true rfl) ?_
            refine V_goto 17 dX0_findLive_55 (by decide) ?_
            have hmon : ∀ b, (ufst (G.2.1 b) v || (!bp (Rc G b ∧ Df G v b) && decide (msk (fun k => sbG G b k && P k) ≠ 0))) = true → (ufst (G.2.1 b) v || (!bp (Rc G b ∧ Df G v b) && decide (msk (fun k => sbG G b k && Q k) ≠ 0))) = true := fun b h => by
              rw [Bool.or_eq_true] at h ⊢
              rcases h with h | h
              · exact Or.inl h
              · refine Or.inr ?_
                rw [Bool.and_eq_true, decide_eq_true_iff, any_msk] at h ⊢
                obtain ⟨h1, k, hk, h2, h3⟩ := h
                exact ⟨h1, k, hk, h2, j1 k hk h3⟩
            exact ih2 (by omega) Q j1 j2 (fun b hb hib hR h => by
              rcases Nat.lt_or_ge i b with q | q
              · exact j3 b hb q hR h
              · have e : b = i := by omega
                subst e
                rw [hmon b h] at h42
                cases h42) hr15
          · refine V_iload_n dX0_findLive_45 rfl rfl ?_
            refine V_iconst (v := nI 1) dX0_findLive_46 (by decide) ?_
            refine V_iload dX0_findLive_47 rfl ?_
            refine V_ishl dX0_findLive_49 ?_
            refine V_top (msk_one (by omega)) ?_
            refine V_ior dX0_findLive_50 ?_
            refine V_top (msk_or Q _) ?_
            refine V_istore_n dX0_findLive_51 rfl (Nat.le_of_ble_eq_true rfl) ?_
            refine V_iinc (v := nI i - nI 1) dX0_findLive_52 rfl (dec1 _) (Nat.le_of_ble_eq_true rfl) ?_
            refine V_goto 17 dX0_findLive_55 (by decide) ?_
            exact ih2 (by omega) _ (fun k hk hp => by rw [j1 k hk hp]; rfl) (fun k hk hq => by
              rcases Bool.or_eq_true _ _ ▸ hq with q | q
              · exact j2 k hk q
              · rw [of_decide_eq_true q]
                exact LV_in hw (by omega) (bp_t.mp h31) h42 j2) (fun b hb hib hR h => by
              rcases Nat.lt_or_ge i b with q | q
              · rw [j3 b hb q hR h]; rfl
              · have e : b = i := by omega
                subst e
                simp) hr15

    refine V_iload_n dX0_findLive_4 rfl rfl ?_
    refine V_bipush (v := nI 14) dX0_findLive_5 (by decide) ?_
    refine V_N_gt (by omega) (by omega) 73 dX0_findLive_7 (by decide) (fun h7 => ?_) (fun h7 => ?_)
    · exfalso
      have := cnt_le P 14
      omega
    · refine V_iload_n dX0_findLive_10 rfl rfl ?_
      refine V_istore dX0_findLive_11 (Nat.le_of_ble_eq_true rfl) ?_
      refine V_bipush (v := nI 13) dX0_findLive_13 (by decide) ?_
      refine V_istore dX0_findLive_15 (Nat.le_of_ble_eq_true rfl) ?_
      exact lp2 14 (Nat.le_refl _) P (fun _ _ h => h) i1 (fun b hb h => absurd hb (by omega)) (by omega)
    )
  refine V_iconst (v := nI 0) dX0_findLive_0 (by decide) ?_
  refine V_istore_n dX0_findLive_1 rfl (Nat.le_of_ble_eq_true rfl) ?_
  refine V_iconst (v := nI 0) dX0_findLive_2 (by decide) ?_
  refine V_istore_n dX0_findLive_3 rfl (Nat.le_of_ble_eq_true rfl) ?_
  exact V.cL (lp 0 (Nat.zero_le _) (fun _ => false) _ _ (fun k _ h => by cases h) (Nat.zero_le _)) (by rw [msk_zero]; rfl)

theorem ctX0_findMinimal (hF : FlowL σ f) (hw : Wf G) (h2 : F2 mi f G) {v : Nat} (hv : v < 4) (hd : mi (f + 11) v = msk (fun p => bp (Rc G p ∧ Df G v p))) : Ct κ 0 0 2 mrX0_findMinimal [.ref f, .int (nI v)] (MM σ mi ml) (.inl (some (.int (msk (fun b => bp (MN G v b)))))) (MM σ mi ml) := by
  refine Ct.of rfl (by simp [Value.category]) (Nat.le_of_ble_eq_true rfl) ?_
  have hD0 : ∀ x, x < 14 → (bp (Rc G x ∧ Df G v x) || decide (x = 0)) = true → ∀ y, Fr' G x y → MN G v y := fun x _ h y hf => by
    rw [Bool.or_eq_true, bp_t, decide_eq_true_iff] at h
    exact Cl.base ⟨x, h.elim Or.inr Or.inl, hf⟩
  have lp : ∀ r, r ≤ 15 → ∀ (P : Nat → Bool) (o5 o6 : Option Value), (∀ k, k < 14 → P k = true → MN G v k) → r ≤ cnt P 14 → V κ (phi κ mrX0_findMinimal 2 0 0 (.inl (some (.int (msk (fun b => bp (MN G v b)))))) (MM σ mi ml)) 0 0 14 [some (.ref f), some (.int (nI v)), some (.int (msk (fun x => bp (Rc G x ∧ Df G v x) || decide (x = 0)))), some (.int (msk P)), some (.int (nI r)), o5, o6] [] (MM σ mi ml) := loop_up 15 (fun r hr ih P o5 o6 i1 i2 => by
    have lp2 : ∀ i, i ≤ 14 → ∀ (Q : Nat → Bool), (∀ k, k < 14 → P k = true → Q k = true) → (∀ k, k < 14 → Q k = true → MN G v k) → (∀ x, x < i → ((bp (Rc G x ∧ Df G v x) || decide (x = 0)) || P x) = true → ∀ y, y < 14 → Fr' G x y → Q y = true) → r < 15 → V κ (phi κ mrX0_findMinimal 2 0 0 (.inl (some (.int (msk (fun b => bp (MN G v b)))))) (MM σ mi ml)) 0 0 27 [some (.ref f), some (.int (nI v)), some (.int (msk (fun x => bp (Rc G x ∧ Df G v x) || decide (x = 0)))), some (.int (msk Q)), some (.int (nI r)), some (.int (msk P)), some (.int (nI i))] [] (MM σ mi ml) := loop_up 14 (fun i hi ih2 Q j1 j2 j3 hr15 => by
      refine V_iload dX0_findMinimal_27 rfl ?_
      refine V_bipush (v := nI 14) dX0_findMinimal_29 (by decide) ?_
      refine V_N_ge (by omega) (by omega) 61 dX0_findMinimal_31 (by decide) (fun h31 => ?_) (fun h31 => ?_)
      · refine V_iload_n dX0_findMinimal_61 rfl rfl ?_
        refine V_iload dX0_findMinimal_62 rfl ?_
        refine V_icmp_ne 70 dX0_findMinimal_64 (by decide) (fun h64 => ?_) (fun h64 => ?_)
        · refine V_iinc1 dX0_findMinimal_70 rfl (Nat.le_of_ble_eq_true rfl) ?_
          refine V_goto 14 dX0_findMinimal_73 (by decide) ?_
          refine ih hr15 Q _ _ j2 ?_
          obtain ⟨k, hk, hne⟩ := msk_ne h64
          have hkk : Q k = true ∧ P k = false := by
            cases hp : P k with
            | true => exact absurd ((j1 k hk hp).trans hp.symm) hne
            | false => exact ⟨by cases hq : Q k with | true => rfl | false => exact absurd (hq.trans hp.symm) hne, rfl⟩
          have hc := cnt_lt 14 j1 ⟨k, hk, hkk⟩
          omega
        · refine V_goto 76 dX0_findMinimal_67 (by decide) ?_
          refine V_iload_n dX0_findMinimal_76 rfl rfl ?_
          exact V_iret rfl (oI (Cl.mask (fun a h => (MN.rc h).lt14 hw) j2 (fun a ha h => by
            obtain ⟨x, hx, hf⟩ := h
            refine j3 x (by have := hf.rc.1.lt14 hw; omega) ?_ a ha hf
            rw [Bool.or_eq_true, Bool.or_eq_true, bp_t, decide_eq_true_iff]
            exact Or.inl (hx.elim Or.inr Or.inl)) (fun a b ha hb hq ht => j3 a (by omega) (by rw [Bool.or_eq_true]; exact Or.inr (by rw [← msk_inj h64 a ha]; exact hq)) b hb ht)).symm) rfl ⟨Nat.le_of_ble_eq_true rfl, Nat.le_of_ble_eq_true rfl⟩ dX0_findMinimal_77
      · refine V_iload_n dX0_findMinimal_34 rfl rfl ?_
        refine V_iload_n dX0_findMinimal_35 rfl rfl ?_
        refine V_ior dX0_findMinimal_36 ?_
        refine V_top (msk_or _ Q) ?_
        refine V_iload dX0_findMinimal_37 rfl ?_
        refine V_csn1 (ctX5_hasM h31) msX5_has lnX0_85 rfl rfl (Nat.le_of_ble_eq_true rfl) ⟨⟨Nat.le_of_ble_eq_true rfl, Nat.le_of_ble_eq_true rfl⟩, Nat.le_of_ble_eq_true rfl, Nat.le_of_ble_eq_true rfl⟩ dX0_findMinimal_39 ?_
        refine V_ifeqB 55 dX0_findMinimal_42 (by decide) (fun h42 => ?_) (fun h42 => ?_)
        · refine V_iinc1 dX0_findMinimal_55 rfl (Nat.le_of_ble_eq_true rfl) ?_
          refine V_goto 27 dX0_findMinimal_58 (by decide) ?_
          exact ih2 h31 Q j1 j2 (fun x hx h y hy hf => by
            rcases Nat.lt_or_ge x i with q | q
            · exact j3 x q h y hy hf
            · have e : x = i := by omega
              subst e
              exfalso
              have : ((bp (Rc G x ∧ Df G v x) || decide (x = 0)) || Q x) = true := by
                rw [Bool.or_eq_true] at h ⊢
                exact h.elim Or.inl (fun z => Or.inr (j1 x h31 z))
              rw [h42] at this
              cases this) hr15
        · refine V_iload_n dX0_findMinimal_45 rfl rfl ?_
          refine V_aload_n dX0_findMinimal_46 rfl rfl ?_
          refine V_getR frX0_35 hF.1 rfl dX0_findMinimal_47 ?_
          refine V_iload dX0_findMinimal_50 rfl ?_
          refine V_ialdE hF.2.2.2.2.2.2.1 i rfl (by omega) (by decide) (h2.2.2 i h31) dX0_findMinimal_52 ?_
          refine V_ior dX0_findMinimal_53 ?_
          refine V_top (msk_or Q _) ?_
          refine V_istore_n dX0_findMinimal_54 rfl (Nat.le_of_ble_eq_true rfl) ?_
          refine V_iinc1 dX0_findMinimal_55 rfl (Nat.le_of_ble_eq_true rfl) ?_
          refine V_goto 27 dX0_findMinimal_58 (by decide) ?_
          exact ih2 h31 _ (fun k hk hp => by rw [j1 k hk hp]; rfl) (fun k hk hq => by
            rcases Bool.or_eq_true _ _ ▸ hq with q | q
            · exact j2 k hk q
            · rcases Bool.or_eq_true _ _ ▸ h42 with z | z
              · exact hD0 i h31 z k (bp_t.mp q)
              · exact (j2 i h31 z).step (bp_t.mp q)) (fun x hx h y hy hf => by
            rcases Nat.lt_or_ge x i with q | q
            · rw [j3 x q h y hy hf]; rfl
            · have e : x = i := by omega
              subst e
              rw [bp_pos hf, Bool.or_true]) hr15
      )
    refine V_iload dX0_findMinimal_14 rfl ?_
    refine V_bipush (v := nI 14) dX0_findMinimal_16 (by decide) ?_
    refine V_N_gt (by omega) (by omega) 76 dX0_findMinimal_18 (by decide) (fun h18 => ?_) (fun h18 => ?_)
    · exfalso
      have := cnt_le P 14
      omega
    · refine V_iload_n dX0_findMinimal_21 rfl rfl ?_
      refine V_istore dX0_findMinimal_22 (Nat.le_of_ble_eq_true rfl) ?_
      refine V_iconst (v := nI 0) dX0_findMinimal_24 (by decide) ?_
      refine V_istore dX0_findMinimal_25 (Nat.le_of_ble_eq_true rfl) ?_
      exact lp2 0 (Nat.zero_le _) P (fun _ _ h => h) i1 (fun x hx => absurd hx (Nat.not_lt_zero x)) (by omega)
    )
  refine V_aload_n dX0_findMinimal_0 rfl rfl ?_
  refine V_getR frX0_38 hF.1 rfl dX0_findMinimal_1 ?_
  refine V_iload_n dX0_findMinimal_4 rfl rfl ?_
  refine V_ialdE hF.2.2.2.2.2.2.2.1 v rfl (by omega) (by decide) hd dX0_findMinimal_5 ?_
  refine V_iconst (v := nI 1) dX0_findMinimal_6 (by decide) ?_
  refine V_ior dX0_findMinimal_7 ?_
  refine V_top (show msk (fun p => bp (Rc G p ∧ Df G v p)) ||| nI 1 = msk (fun x => bp (Rc G x ∧ Df G v x) || decide (x = 0)) by
    rw [show nI 1 = msk (fun k => decide (k = 0)) by decide]; exact msk_or _ _) ?_
  refine V_istore_n dX0_findMinimal_8 rfl (Nat.le_of_ble_eq_true rfl) ?_
  refine V_iconst (v := nI 0) dX0_findMinimal_9 (by decide) ?_
  refine V_istore_n dX0_findMinimal_10 rfl (Nat.le_of_ble_eq_true rfl) ?_
  refine V_iconst (v := nI 0) dX0_findMinimal_11 (by decide) ?_
  refine V_istore dX0_findMinimal_12 (Nat.le_of_ble_eq_true rfl) ?_
  exact V.cL (lp 0 (Nat.zero_le _) (fun _ => false) _ _ (fun k _ h => by cases h) (Nat.zero_le _)) (by rw [msk_zero]; rfl)

theorem F1.keep {m m' : Nat → Nat → Int32} (h : F1 m f G) (hk : ∀ a i, a < f + 11 → m' a i = m a i) : F1 m' f G := ⟨fun a ha => (hk _ _ (by omega)).trans (h.1 a ha), (hk _ _ (by omega)).trans h.2.1, fun b hb => (hk _ _ (by omega)).trans (h.2.2 b hb)⟩
theorem F2.keep {m m' : Nat → Nat → Int32} (h : F2 m f G) (hk : ∀ a i, a < f + 11 → m' a i = m a i) : F2 m' f G := ⟨fun a ha => (hk _ _ (by omega)).trans (h.1 a ha), fun b hb hR h0 => (hk _ _ (by omega)).trans (h.2.1 b hb hR h0), fun b hb => (hk _ _ (by omega)).trans (h.2.2 b hb)⟩
theorem ctX0_analyse (hF : FlowL σ f) (hA : GA mi (f + 1) G) (hw : Wf G) : CtP κ 0 0 5 mrX0_analyse [.ref f] (MM σ mi ml) (fun o μ' => o = .inl none ∧ ∃ m', μ' = MM σ m' ml ∧ FA m' f G ∧ offF mi m' f) := by
  refine CtP.of rfl (by simp [Value.category]) (Nat.le_of_ble_eq_true rfl) ?_
  have lp : ∀ v, v ≤ 4 → ∀ m, offF mi m f → F1 m f G → F2 m f G → (∀ u, u < v → F3 m f G u) → V κ (phiP κ mrX0_analyse 5 0 0 (fun o μ' => o = .inl none ∧ ∃ m', μ' = MM σ m' ml ∧ FA m' f G ∧ offF mi m' f)) 0 0 10 [some (.ref f), some (.int (nI v))] [] (MM σ m ml) := loop_up 4 (fun v hv ih m ho h1 h2 h3 => by
    have hA' := GA_off hA ho
    refine V_iload_n dX0_analyse_10 rfl rfl ?_
    refine V_iconst (v := nI 4) dX0_analyse_11 (by decide) ?_
    refine V_N_ge (by omega) (by omega) 73 dX0_analyse_12 (by decide) (fun h12 => ?_) (fun h12 => ?_)
    · exact V_vretP rfl ⟨rfl, _, rfl, ⟨h1, h2, fun u hu => h3 u (by omega)⟩, ho⟩ ⟨Nat.le_of_ble_eq_true rfl, Nat.le_of_ble_eq_true rfl⟩ dX0_analyse_73
    · refine V_aload_n dX0_analyse_15 rfl rfl ?_
      refine V_getR frX0_38 hF.1 rfl dX0_analyse_16 ?_
      refine V_iload_n dX0_analyse_19 rfl rfl ?_
      refine V_aload_n dX0_analyse_20 rfl rfl ?_
      refine V_iload_n dX0_analyse_21 rfl rfl ?_
      refine V_cp1 (ctX0_findDefining hF hA' hw h1.2.1 h12) mvX0_findDefining lkX0_62 hF.1 rfl rfl rfl (Nat.le_of_ble_eq_true rfl) ⟨⟨Nat.le_of_ble_eq_true rfl, Nat.le_of_ble_eq_true rfl⟩, Nat.le_of_ble_eq_true rfl, Nat.le_of_ble_eq_true rfl⟩ dX0_analyse_22 (fun x μ1 hx => ?_)
      obtain ⟨rfl, m1, rfl, hl, hk⟩ := hx
      refine V_iastN hF.2.2.2.2.2.2.2.1 v rfl (by omega) (by decide) dX0_analyse_25 ?_
      have ho2 : offF mi (u2 m1 (f + 11) v (msk (fun p => bp (Rc G p ∧ Df G v p)))) f := fun a i q1 q2 => (u2_n _ _ (Or.inl (by omega))).trans ((hk a i (by omega)).trans (ho a i q1 q2))
      have h1b : F1 (u2 m1 (f + 11) v (msk (fun p => bp (Rc G p ∧ Df G v p)))) f G := h1.keep (fun a i q => (u2_n _ _ (Or.inl (by omega))).trans (hk a i (by omega)))
      have h2b : F2 (u2 m1 (f + 11) v (msk (fun p => bp (Rc G p ∧ Df G v p)))) f G := h2.keep (fun a i q => (u2_n _ _ (Or.inl (by omega))).trans (hk a i (by omega)))
      refine V_aload_n dX0_analyse_26 rfl rfl ?_
      refine V_getR frX0_44 hF.1 rfl dX0_analyse_27 ?_
      refine V_iload_n dX0_analyse_30 rfl rfl ?_
      refine V_aload_n dX0_analyse_31 rfl rfl ?_
      refine V_iload_n dX0_analyse_32 rfl rfl ?_
      refine V_cv1 (ctX0_findLive hF (GA_off hA ho2) hw h1b h12 (u2_s _ _ _ _)) mvX0_findLive lkX0_66 hF.1 rfl rfl rfl (Nat.le_of_ble_eq_true rfl) ⟨⟨Nat.le_of_ble_eq_true rfl, Nat.le_of_ble_eq_true rfl⟩, Nat.le_of_ble_eq_true rfl, Nat.le_of_ble_eq_true rfl⟩ dX0_analyse_33 ?_
      refine V_iastN hF.2.2.2.2.2.2.2.2.2.1 v rfl (by omega) (by decide) dX0_analyse_36 ?_
      refine V_aload_n dX0_analyse_37 rfl rfl ?_
      refine V_getR frX0_47 hF.1 rfl dX0_analyse_38 ?_
      refine V_iload_n dX0_analyse_41 rfl rfl ?_
      refine V_aload_n dX0_analyse_42 rfl rfl ?_
      refine V_iload_n dX0_analyse_43 rfl rfl ?_
      refine V_cv1 (ctX0_findMinimal hF hw (h2b.keep (fun a i q => u2_n _ _ (Or.inl (by omega)))) h12 ((u2_n _ _ (Or.inl (by omega))).trans (u2_s _ _ _ _))) mvX0_findMinimal lkX0_69 hF.1 rfl rfl rfl (Nat.le_of_ble_eq_true rfl) ⟨⟨Nat.le_of_ble_eq_true rfl, Nat.le_of_ble_eq_true rfl⟩, Nat.le_of_ble_eq_true rfl, Nat.le_of_ble_eq_true rfl⟩ dX0_analyse_44 ?_
      refine V_iastN hF.2.2.2.2.2.2.2.2.2.2.1 v rfl (by omega) (by decide) dX0_analyse_47 ?_
      refine V_aload_n dX0_analyse_48 rfl rfl ?_
      refine V_getR frX0_50 hF.1 rfl dX0_analyse_49 ?_
      refine V_iload_n dX0_analyse_52 rfl rfl ?_
      refine V_aload_n dX0_analyse_53 rfl rfl ?_
      refine V_getR frX0_47 hF.1 rfl dX0_analyse_54 ?_
      refine V_iload_n dX0_analyse_57 rfl rfl ?_
      refine V_ialdE hF.2.2.2.2.2.2.2.2.2.2.1 v rfl (by omega) (by decide) (u2_s _ _ _ _) dX0_analyse_58 ?_
      refine V_aload_n dX0_analyse_59 rfl rfl ?_
      refine V_getR frX0_44 hF.1 rfl dX0_analyse_60 ?_
      refine V_iload_n dX0_analyse_63 rfl rfl ?_
      refine V_ialdE hF.2.2.2.2.2.2.2.2.2.1 v rfl (by omega) (by decide) ((u2_n _ _ (Or.inl (by omega))).trans (u2_s _ _ _ _)) dX0_analyse_64 ?_
      refine V_iand dX0_analyse_65 ?_
      refine V_top (msk_and _ _) ?_
      refine V_iastN hF.2.2.2.2.2.2.2.2.2.2.2.1 v rfl (by omega) (by decide) dX0_analyse_66 ?_
      refine V_iinc1 dX0_analyse_67 rfl (Nat.le_of_ble_eq_true rfl) ?_
      refine V_goto 10 dX0_analyse_70 (by decide) ?_
      refine ih h12 _ (((ho2.u2 (Or.inr (by omega))).u2 (Or.inr (by omega))).u2 (Or.inr (by omega))) (((h1b.keep (fun a i q => u2_n _ _ (Or.inl (by omega)))).keep (fun a i q => u2_n _ _ (Or.inl (by omega)))).keep (fun a i q => u2_n _ _ (Or.inl (by omega)))) (((h2b.keep (fun a i q => u2_n _ _ (Or.inl (by omega)))).keep (fun a i q => u2_n _ _ (Or.inl (by omega)))).keep (fun a i q => u2_n _ _ (Or.inl (by omega)))) (fun u hu => ?_)
      by_cases e : u = v
      · subst e
        refine ⟨⟨?_, fun b hb => ?_⟩, ?_, ?_, ?_⟩
        · simp [u2]
        · simp [u2]; exact hl b hb
        · simp [u2]
        · simp [u2]
        · simp only [u2_s]
          exact msk_congr (fun b _ => bp_and _ _)
      · obtain ⟨⟨g1, g2⟩, g3, g4, g5⟩ := h3 u (by omega)
        refine ⟨⟨?_, fun b hb => ?_⟩, ?_, ?_, ?_⟩
        · simp [u2, e]; rw [hk _ _ (by omega)]; exact g1
        · simp [u2]; rw [hk _ _ (by omega)]; exact g2 b hb
        · simp [u2, e]; rw [hk _ _ (by omega)]; exact g3
        · simp [u2, e]; rw [hk _ _ (by omega)]; exact g4
        · simp [u2, e]; rw [hk _ _ (by omega)]; exact g5
    )
  refine V_aload_n dX0_analyse_0 rfl rfl ?_
  refine V_cp0 (ctX0_findReachable hF hA hw) mvX0_findReachable lkX0_56 hF.1 rfl rfl rfl (Nat.le_of_ble_eq_true rfl) ⟨⟨Nat.le_of_ble_eq_true rfl, Nat.le_of_ble_eq_true rfl⟩, Nat.le_of_ble_eq_true rfl, Nat.le_of_ble_eq_true rfl⟩ dX0_analyse_1 (fun μ1 hx => ?_)
  obtain ⟨m1, rfl, h1, ho1⟩ := hx
  refine V_aload_n dX0_analyse_4 rfl rfl ?_
  refine V_cp0 (ctX0_findDominators hF hw h1) mvX0_findDominators lkX0_59 hF.1 rfl rfl rfl (Nat.le_of_ble_eq_true rfl) ⟨⟨Nat.le_of_ble_eq_true rfl, Nat.le_of_ble_eq_true rfl⟩, Nat.le_of_ble_eq_true rfl, Nat.le_of_ble_eq_true rfl⟩ dX0_analyse_5 (fun μ2 hx => ?_)
  obtain ⟨m2, rfl, h1b, h2, ho2⟩ := hx
  refine V_iconst (v := nI 0) dX0_analyse_8 (by decide) ?_
  refine V_istore_n dX0_analyse_9 rfl (Nat.le_of_ble_eq_true rfl) ?_
  exact lp 0 (Nat.zero_le _) m2 (ho1.tr ho2) h1b h2 (fun u hu => absurd hu (Nat.not_lt_zero u))

end Flow3
