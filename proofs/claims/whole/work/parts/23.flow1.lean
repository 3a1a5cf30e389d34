/-! SsaRepair's own small ones; SsaRepair.Flow: reachable blocks, dominators, frontiers -/
def slF (f : Nat) : Nat → Option Value := fun k => match k with
  | 0 => some (.ref (f + 1))
  | 1 => none
  | 2 => some (.ref (f + 6))
  | 3 => some (.ref (f + 7))
  | 4 => some (.ref (f + 8))
  | 5 => some (.ref (f + 9))
  | 6 => some (.ref (f + 10))
  | 7 => some (.ref (f + 11))
  | 8 => some (.ref (f + 12))
  | 9 => some (.ref (f + 13))
  | 10 => some (.ref (f + 14))
  | 11 => some (.ref (f + 15))
  | 12 => some (.ref (f + 16))
  | _ => none
def FlowL (σ : Nat → Option Kd) (f : Nat) : Prop := σ f = some (.inr (0, 13, slF f)) ∧ GraphL σ (f + 1) ∧ σ (f + 6) = ints 14 ∧ σ (f + 7) = ints 14 ∧ σ (f + 8) = ints 14 ∧ σ (f + 9) = ints 14 ∧ σ (f + 10) = ints 14 ∧ σ (f + 11) = ints 4 ∧ σ (f + 12) = ints 56 ∧ σ (f + 13) = ints 4 ∧ σ (f + 14) = ints 4 ∧ σ (f + 15) = ints 4 ∧ σ (f + 16) = ints 14
/-- the members of P below i -/
def mU (P : Nat → Bool) (i : Nat) : Int32 := msk (fun k => decide (k < i) && P k)
theorem mU_0 (P : Nat → Bool) : mU P 0 = nI 0 := by
  unfold mU
  rw [show (fun k => decide (k < 0) && P k) = fun _ => false from funext fun k => by simp, msk_zero]; rfl
theorem mU_t {P : Nat → Bool} {i : Nat} (hi : i < 14) (h : P i = true) : mU P i ||| msk (fun j => decide (j = i)) = mU P (i + 1) := by
  unfold mU
  rw [msk_or]
  refine msk_congr (fun k _ => ?_)
  by_cases e : k = i
  · subst e; simp [h]
  · have : (k < i + 1) = (k < i) := by apply propext; omega
    simp [e, this]
theorem mU_f {P : Nat → Bool} {i : Nat} (h : P i = false) : mU P i = mU P (i + 1) := by
  unfold mU
  refine msk_congr (fun k _ => ?_)
  by_cases e : k = i
  · subst e; simp [h]
  · have : (k < i + 1) = (k < i) := by apply propext; omega
    simp [this]
theorem mU_all (P : Nat → Bool) : mU P 14 = msk P := by
  unfold mU
  refine msk_congr (fun k hk => ?_)
  simp [hk]
section Flow1
variable {κ : K0} {σ : Nat → Option Kd} {mi : Nat → Nat → Int32} {ml : Nat → Nat → Int64} {f : Nat} {G : Gr} {μ : Mem}
theorem ctX5_has {x k : Int32} : Ct κ 0 0 1 mrX5_has [.int x, .int k] μ (.inl (some (.int (bI (hasB x k))))) μ := by
  refine Ct.of rfl (by simp [Value.category]) (Nat.le_of_ble_eq_true rfl) ?_
  refine V_iload_n dX5_has_0 rfl rfl ?_
  refine V_iload_n dX5_has_1 rfl rfl ?_
  refine V_ishr dX5_has_2 ?_
  refine V_iconst (v := nI 1) dX5_has_3 (by decide) ?_
  refine V_iand dX5_has_4 ?_
  refine V_if_eq 12 dX5_has_5 (by decide) (fun h5 => ?_) (fun h5 => ?_)
  · refine V_iconst (v := nI 0) dX5_has_12 (by decide) ?_
    exact V_zret rfl rfl (oI (by rw [show hasB x k = false by unfold hasB; exact decide_eq_false (fun q => q h5)]; rfl)) rfl ⟨Nat.le_of_ble_eq_true rfl, Nat.le_of_ble_eq_true rfl⟩ dX5_has_13
  · refine V_iconst (v := nI 1) dX5_has_8 (by decide) ?_
    refine V_goto 13 dX5_has_9 (by decide) ?_
    exact V_zret rfl rfl (oI (by rw [show hasB x k = true by unfold hasB; exact decide_eq_true h5]; rfl)) rfl ⟨Nat.le_of_ble_eq_true rfl, Nat.le_of_ble_eq_true rfl⟩ dX5_has_13

theorem ctX5_hasM {P : Nat → Bool} {k : Nat} (hk : k < 14) : Ct κ 0 0 1 mrX5_has [.int (msk P), .int (nI k)] μ (.inl (some (.int (bI (P k))))) μ := by
  have h := ctX5_has (κ := κ) (μ := μ) (x := msk P) (k := nI k)
  rw [hasB_msk P hk] at h
  exact h
theorem ctX5_isUse {a : Nat} (ha : a < 2 ^ 31) : Ct κ 0 0 1 mrX5_isUse [.int (nI a)] μ (.inl (some (.int (bI (decide (10 ≤ a)))))) μ := by
  refine Ct.of rfl (by simp [Value.category]) (Nat.le_of_ble_eq_true rfl) ?_
  refine V_iload_n dX5_isUse_0 rfl rfl ?_
  refine V_bipush (v := nI 10) dX5_isUse_1 (by decide) ?_
  refine V_N_lt ha (by omega) 10 dX5_isUse_3 (by decide) (fun h3 => ?_) (fun h3 => ?_)
  · refine V_iconst (v := nI 0) dX5_isUse_10 (by decide) ?_
    exact V_zret rfl rfl (oI (by rw [decide_eq_false (by omega)]; rfl)) rfl ⟨Nat.le_of_ble_eq_true rfl, Nat.le_of_ble_eq_true rfl⟩ dX5_isUse_11
  · refine V_iconst (v := nI 1) dX5_isUse_6 (by decide) ?_
    refine V_goto 11 dX5_isUse_7 (by decide) ?_
    exact V_zret rfl rfl (oI (by rw [decide_eq_true (by omega)]; rfl)) rfl ⟨Nat.le_of_ble_eq_true rfl, Nat.le_of_ble_eq_true rfl⟩ dX5_isUse_11

theorem ctX0_reachedWithout (hF : FlowL σ f) {sb : Nat → Nat → Bool} {X : Nat → Bool} (hs : ∀ a, a < 14 → mi (f + 6) a = msk (sb a)) (hb : ∀ a b, sb a b = true → b < 14) : Ct κ 0 0 2 mrX0_reachedWithout [.ref f, .int (msk X)] (MM σ mi ml) (.inl (some (.int (msk (fun k => bp (Cl (fun a => a = 0 ∧ X a = false) (fun a b => sb a b = true ∧ X b = false) k)))))) (MM σ mi ml) := by
  refine Ct.of rfl (by simp [Value.category]) (Nat.le_of_ble_eq_true rfl) ?_
  have hlt : ∀ a, Cl (fun a => a = 0 ∧ X a = false) (fun a b => sb a b = true ∧ X b = false) a → a < 14 := fun a h => Cl.rec' (C := fun a => a < 14) (fun a ha => by omega) (fun a b _ _ ht => hb a b ht.1) h
  have lp : ∀ r, r ≤ 14 → ∀ (P : Nat → Bool) (o4 o5 : Option Value), (∀ k, k < 14 → P k = true → Cl (fun a => a = 0 ∧ X a = false) (fun a b => sb a b = true ∧ X b = false) k) → (X 0 = false → P 0 = true) → (r + 1 ≤ cnt P 14 ∨ ∀ k, k < 14 → P k = false) → V κ (phi κ mrX0_reachedWithout 2 0 0 (.inl (some (.int (msk (fun k => bp (Cl (fun a => a = 0 ∧ X a = false) (fun a b => sb a b = true ∧ X b = false) k)))))) (MM σ mi ml)) 0 0 8 [some (.ref f), some (.int (msk X)), some (.int (msk P)), some (.int (nI r)), o4, o5] [] (MM σ mi ml) := loop_up 14 (fun r hr ih P o4 o5 i1 i2 i3 => by
    have lp2 : ∀ i, i ≤ 14 → ∀ (Q : Nat → Bool), (∀ k, k < 14 → P k = true → Q k = true) → (∀ k, k < 14 → Q k = true → Cl (fun a => a = 0 ∧ X a = false) (fun a b => sb a b = true ∧ X b = false) k) → (∀ j, j < i → P j = true → ∀ b, b < 14 → sb j b = true → X b = false → Q b = true) → r < 14 → V κ (phi κ mrX0_reachedWithout 2 0 0 (.inl (some (.int (msk (fun k => bp (Cl (fun a => a = 0 ∧ X a = false) (fun a b => sb a b = true ∧ X b = false) k)))))) (MM σ mi ml)) 0 0 20 [some (.ref f), some (.int (msk X)), some (.int (msk Q)), some (.int (nI r)), some (.int (msk P)), some (.int (nI i))] [] (MM σ mi ml) := loop_up 14 (fun i hi ih2 Q j1 j2 j3 hr14 => by
      refine V_iload dX0_reachedWithout_20 rfl ?_
      refine V_bipush (v := nI 14) dX0_reachedWithout_22 (by decide) ?_
      refine V_N_ge (by omega) (by omega) 56 dX0_reachedWithout_24 (by decide) (fun h24 => ?_) (fun h24 => ?_)
      · refine V_iload_n dX0_reachedWithout_56 rfl rfl ?_
        refine V_iload dX0_reachedWithout_57 rfl ?_
        refine V_icmp_ne 65 dX0_reachedWithout_59 (by decide) (fun h59 => ?_) (fun h59 => ?_)
        · refine V_iinc1 dX0_reachedWithout_65 rfl (Nat.le_of_ble_eq_true rfl) ?_
          refine V_goto 8 dX0_reachedWithout_68 (by decide) ?_
          refine ih hr14 Q _ _ j2 (fun h => j1 0 (by omega) (i2 h)) ?_
          obtain ⟨k, hk, hne⟩ := msk_ne h59
          have hkk : Q k = true ∧ P k = false := by
            cases hp : P k with
            | true => exact absurd ((j1 k hk hp).trans hp.symm) hne
            | false => exact ⟨by cases hq : Q k with | true => rfl | false => exact absurd (hq.trans hp.symm) hne, rfl⟩
          have hc := cnt_lt 14 j1 ⟨k, hk, hkk⟩
          rcases i3 with q | q
          · exact Or.inl (by omega)
          · exfalso
            have h2 := j2 k hk hkk.1
            have : P 0 = true := i2 (Classical.byContradiction (fun hx => Cl.rec' (C := fun _ => False) (fun a ha => hx (by rw [← ha.1]; exact ha.2)) (fun a b _ h _ => h) h2))
            rw [q 0 (by omega)] at this
            cases this
        · refine V_goto 71 dX0_reachedWithout_62 (by decide) ?_
          refine V_iload_n dX0_reachedWithout_71 rfl rfl ?_
          exact V_iret rfl (oI (Cl.mask hlt j2 (fun a _ ha => j1 a (by omega) (by rw [ha.1]; exact i2 (by rw [← ha.1]; exact ha.2))) (fun a b ha hb' hq ht => j3 a (by omega) (by rw [msk_inj h59 a ha] at hq; exact hq) b hb' ht.1 ht.2)).symm) rfl ⟨Nat.le_of_ble_eq_true rfl, Nat.le_of_ble_eq_true rfl⟩ dX0_reachedWithout_72
      · refine V_iload_n dX0_reachedWithout_27 rfl rfl ?_
        refine V_iload dX0_reachedWithout_28 rfl ?_
        refine V_csn1 (ctX5_hasM (by omega)) msX5_has lnX0_85 rfl rfl (Nat.le_of_ble_eq_true rfl) ⟨⟨Nat.le_of_ble_eq_true rfl, Nat.le_of_ble_eq_true rfl⟩, Nat.le_of_ble_eq_true rfl, Nat.le_of_ble_eq_true rfl⟩ dX0_reachedWithout_30 ?_
        refine V_ifeqB 50 dX0_reachedWithout_33 (by decide) (fun h33 => ?_) (fun h33 => ?_)
        · refine V_iinc1 dX0_reachedWithout_50 rfl (Nat.le_of_ble_eq_true rfl) ?_
          refine V_goto 20 dX0_reachedWithout_53 (by decide) ?_
          exact ih2 h24 Q j1 j2 (fun j hj hp b hb' h1 h2 => by
            rcases Nat.lt_or_ge j i with q | q
            · exact j3 j q hp b hb' h1 h2
            · have e : j = i := by omega
              subst e
              rw [j1 j h24 hp] at h33
              cases h33) hr14
        · refine V_iload_n dX0_reachedWithout_36 rfl rfl ?_
          refine V_aload_n dX0_reachedWithout_37 rfl rfl ?_
          refine V_getR frX0_22 hF.1 rfl dX0_reachedWithout_38 ?_
          refine V_iload dX0_reachedWithout_41 rfl ?_
          refine V_ialdE hF.2.2.1 i rfl (by omega) (by decide) (hs i h24) dX0_reachedWithout_43 ?_
          refine V_iload_n dX0_reachedWithout_44 rfl rfl ?_
          refine V_iconst (v := (-1)) dX0_reachedWithout_45 (by decide) ?_
          refine V_ixor dX0_reachedWithout_46 ?_
          refine V_iand dX0_reachedWithout_47 ?_
          refine V_top (msk_andN (sb i) X) ?_
          refine V_ior dX0_reachedWithout_48 ?_
          refine V_top (msk_or Q _) ?_
          refine V_istore_n dX0_reachedWithout_49 rfl (Nat.le_of_ble_eq_true rfl) ?_
          refine V_iinc1 dX0_reachedWithout_50 rfl (Nat.le_of_ble_eq_true rfl) ?_
          refine V_goto 20 dX0_reachedWithout_53 (by decide) ?_
          exact ih2 h24 _ (fun k hk hp => by rw [j1 k hk hp]; rfl) (fun k hk hq => by
            rcases Bool.or_eq_true _ _ ▸ hq with q | q
            · exact j2 k hk q
            · rw [Bool.and_eq_true, Bool.not_eq_true'] at q
              exact (j2 i h24 h33).step ⟨q.1, q.2⟩) (fun j hj hp b hb' h1 h2 => by
            rcases Nat.lt_or_ge j i with q | q
            · rw [j3 j q hp b hb' h1 h2]; rfl
            · have e : j = i := by omega
              subst e
              rw [h1, h2]; simp) hr14
      )
    refine V_iload_n dX0_reachedWithout_8 rfl rfl ?_
    refine V_bipush (v := nI 14) dX0_reachedWithout_9 (by decide) ?_
    refine V_N_ge (by omega) (by omega) 71 dX0_reachedWithout_11 (by decide) (fun h11 => ?_) (fun h11 => ?_)
    · refine V_iload_n dX0_reachedWithout_71 rfl rfl ?_
      have hP : ∀ k, k < 14 → P k = false := by
        rcases i3 with q | q
        · have := cnt_le P 14; omega
        · exact q
      exact V_iret rfl (oI (Cl.mask hlt i1 (fun a _ ha => by rw [ha.1]; exact i2 (by rw [← ha.1]; exact ha.2)) (fun a b ha _ hq _ => by rw [hP a ha] at hq; cases hq)).symm) rfl ⟨Nat.le_of_ble_eq_true rfl, Nat.le_of_ble_eq_true rfl⟩ dX0_reachedWithout_72
    · refine V_iload_n dX0_reachedWithout_14 rfl rfl ?_
      refine V_istore dX0_reachedWithout_15 (Nat.le_of_ble_eq_true rfl) ?_
      refine V_iconst (v := nI 0) dX0_reachedWithout_17 (by decide) ?_
      refine V_istore dX0_reachedWithout_18 (Nat.le_of_ble_eq_true rfl) ?_
      exact lp2 0 (Nat.zero_le _) P (fun _ _ h => h) i1 (fun j hj => absurd hj (Nat.not_lt_zero j)) h11
    )
  refine V_iconst (v := nI 1) dX0_reachedWithout_0 (by decide) ?_
  refine V_iload_n dX0_reachedWithout_1 rfl rfl ?_
  refine V_iconst (v := (-1)) dX0_reachedWithout_2 (by decide) ?_
  refine V_ixor dX0_reachedWithout_3 ?_
  refine V_iand dX0_reachedWithout_4 ?_
  refine V_top (show nI 1 &&& (msk X ^^^ (-1)) = msk (fun k => decide (k = 0) && !X k) by
    rw [show nI 1 = msk (fun k => decide (k = 0)) by decide]; exact msk_andN _ X) ?_
  refine V_istore_n dX0_reachedWithout_5 rfl (Nat.le_of_ble_eq_true rfl) ?_
  refine V_iconst (v := nI 0) dX0_reachedWithout_6 (by decide) ?_
  refine V_istore_n dX0_reachedWithout_7 rfl (Nat.le_of_ble_eq_true rfl) ?_
  refine lp 0 (Nat.zero_le _) (fun k => decide (k = 0) && !X k) _ _ (fun k hk h => ?_) (fun h => by simp [h]) ?_
  · simp only [Bool.and_eq_true, decide_eq_true_eq, Bool.not_eq_true'] at h
    exact Cl.base h
  · cases hx : X 0 with
    | false => exact Or.inl (cnt_pos 14 0 (by omega) (by simp [hx]))
    | true => refine Or.inr (fun k _ => ?_)
              by_cases e : k = 0
              · subst e; simp [hx]
              · simp [e]

theorem ctX0_findSourcesOfEdges (hF : FlowL σ f) {Rp : Nat → Bool} {sb : Nat → Nat → Bool} {b : Nat} (hr : mi f 1 = msk Rp) (hs : ∀ a, a < 14 → mi (f + 6) a = msk (sb a)) (hb : b < 14) : Ct κ 0 0 2 mrX0_findSourcesOfEdges [.ref f, .int (nI b)] (MM σ mi ml) (.inl (some (.int (msk (fun p => Rp p && sb p b))))) (MM σ mi ml) := by
  refine Ct.of rfl (by simp [Value.category]) (Nat.le_of_ble_eq_true rfl) ?_
  have lp : ∀ i, i ≤ 14 → V κ (phi κ mrX0_findSourcesOfEdges 2 0 0 (.inl (some (.int (msk (fun p => Rp p && sb p b))))) (MM σ mi ml)) 0 0 4 [some (.ref f), some (.int (nI b)), some (.int (mU (fun p => Rp p && sb p b) i)), some (.int (nI i))] [] (MM σ mi ml) := loop_up 14 (fun i hi ih => by
    refine V_iload_n dX0_findSourcesOfEdges_4 rfl rfl ?_
    refine V_bipush (v := nI 14) dX0_findSourcesOfEdges_5 (by decide) ?_
    refine V_N_ge (by omega) (by omega) 46 dX0_findSourcesOfEdges_7 (by decide) (fun h7 => ?_) (fun h7 => ?_)
    · refine V_iload_n dX0_findSourcesOfEdges_46 rfl rfl ?_
      exact V_iret rfl (oI (by rw [show i = 14 by omega, mU_all])) rfl ⟨Nat.le_of_ble_eq_true rfl, Nat.le_of_ble_eq_true rfl⟩ dX0_findSourcesOfEdges_47
    · refine V_aload_n dX0_findSourcesOfEdges_10 rfl rfl ?_
      refine V_getE frX0_18 hF.1 rfl hr dX0_findSourcesOfEdges_11 ?_
      refine V_iload_n dX0_findSourcesOfEdges_14 rfl rfl ?_
      refine V_csn1 (ctX5_hasM (by omega)) msX5_has lnX0_85 rfl rfl (Nat.le_of_ble_eq_true rfl) ⟨⟨Nat.le_of_ble_eq_true rfl, Nat.le_of_ble_eq_true rfl⟩, Nat.le_of_ble_eq_true rfl, Nat.le_of_ble_eq_true rfl⟩ dX0_findSourcesOfEdges_15 ?_
      refine V_ifeqB 40 dX0_findSourcesOfEdges_18 (by decide) (fun h18 => ?_) (fun h18 => ?_)
      · refine V_iinc1 dX0_findSourcesOfEdges_40 rfl (Nat.le_of_ble_eq_true rfl) ?_
        refine V_goto 4 dX0_findSourcesOfEdges_43 (by decide) ?_
        exact V.cL (ih h7) (by rw [mU_f (show (Rp i && sb i b) = false by rw [h18]; rfl)]; rfl)
      · refine V_aload_n dX0_findSourcesOfEdges_21 rfl rfl ?_
        refine V_getR frX0_22 hF.1 rfl dX0_findSourcesOfEdges_22 ?_
        refine V_iload_n dX0_findSourcesOfEdges_25 rfl rfl ?_
        refine V_ialdE hF.2.2.1 i rfl (by omega) (by decide) (hs i h7) dX0_findSourcesOfEdges_26 ?_
        refine V_iload_n dX0_findSourcesOfEdges_27 rfl rfl ?_
        refine V_csn1 (ctX5_hasM hb) msX5_has lnX0_85 rfl rfl (Nat.le_of_ble_eq_true rfl) ⟨⟨Nat.le_of_ble_eq_true rfl, Nat.le_of_ble_eq_true rfl⟩, Nat.le_of_ble_eq_true rfl, Nat.le_of_ble_eq_true rfl⟩ dX0_findSourcesOfEdges_28 ?_
        refine V_ifeqB 40 dX0_findSourcesOfEdges_31 (by decide) (fun h31 => ?_) (fun h31 => ?_)
        · refine V_iinc1 dX0_findSourcesOfEdges_40 rfl (Nat.le_of_ble_eq_true rfl) ?_
          refine V_goto 4 dX0_findSourcesOfEdges_43 (by decide) ?_
          exact V.cL (ih h7) (by rw [mU_f (show (Rp i && sb i b) = false by rw [h18, h31]; rfl)]; rfl)
        · refine V_iload_n dX0_findSourcesOfEdges_34 rfl rfl ?_
          refine V_iconst (v := nI 1) dX0_findSourcesOfEdges_35 (by decide) ?_
          refine V_iload_n dX0_findSourcesOfEdges_36 rfl rfl ?_
          refine V_ishl dX0_findSourcesOfEdges_37 ?_
          refine V_top (msk_one h7) ?_
          refine V_ior dX0_findSourcesOfEdges_38 ?_
          refine V_top (mU_t h7 (by rw [h18, h31]; rfl)) ?_
          refine V_istore_n dX0_findSourcesOfEdges_39 rfl (Nat.le_of_ble_eq_true rfl) ?_
          refine V_iinc1 dX0_findSourcesOfEdges_40 rfl (Nat.le_of_ble_eq_true rfl) ?_
          refine V_goto 4 dX0_findSourcesOfEdges_43 (by decide) ?_
          exact ih h7
    )
  refine V_iconst (v := nI 0) dX0_findSourcesOfEdges_0 (by decide) ?_
  refine V_istore_n dX0_findSourcesOfEdges_1 rfl (Nat.le_of_ble_eq_true rfl) ?_
  refine V_iconst (v := nI 0) dX0_findSourcesOfEdges_2 (by decide) ?_
  refine V_istore_n dX0_findSourcesOfEdges_3 rfl (Nat.le_of_ble_eq_true rfl) ?_
  exact V.cL (lp 0 (Nat.zero_le _)) (by rw [mU_0]; rfl)

def parF (dm : Nat → Nat → Bool) (b : Nat) : Nat → Nat
  | 0 => 0
  | n + 1 => if (n ≠ b ∧ dm n b = true ∧ dm (parF dm b n) n = true) ∧ 1 ≤ n then n else parF dm b n
theorem parF_lt (dm : Nat → Nat → Bool) (b : Nat) : ∀ n, parF dm b n < n + 1
  | 0 => Nat.one_pos
  | n + 1 => by
    have := parF_lt dm b n
    rw [parF]; split <;> omega
theorem ctX0_findParent (hF : FlowL σ f) {dm : Nat → Nat → Bool} {b : Nat} (hd : ∀ a, a < 14 → mi (f + 8) a = msk (dm a)) (hb : b < 14) : Ct κ 0 0 2 mrX0_findParent [.ref f, .int (nI b)] (MM σ mi ml) (.inl (some (.int (nI (parF dm b 14))))) (MM σ mi ml) := by
  refine Ct.of rfl (by simp [Value.category]) (Nat.le_of_ble_eq_true rfl) ?_
  have lp : ∀ i, i ≤ 14 → 1 ≤ i → V κ (phi κ mrX0_findParent 2 0 0 (.inl (some (.int (nI (parF dm b 14))))) (MM σ mi ml)) 0 0 4 [some (.ref f), some (.int (nI b)), some (.int (nI (parF dm b i))), some (.int (nI i))] [] (MM σ mi ml) := loop_up 14 (fun i hi ih h1 => by
    have hpl := parF_lt dm b i
    refine V_iload_n dX0_findParent_4 rfl rfl ?_
    refine V_bipush (v := nI 14) dX0_findParent_5 (by decide) ?_
    refine V_N_ge (by omega) (by omega) 49 dX0_findParent_7 (by decide) (fun h7 => ?_) (fun h7 => ?_)
    · refine V_iload_n dX0_findParent_49 rfl rfl ?_
      exact V_iret rfl (oI (by rw [show i = 14 by omega])) rfl ⟨Nat.le_of_ble_eq_true rfl, Nat.le_of_ble_eq_true rfl⟩ dX0_findParent_50
    · refine V_iload_n dX0_findParent_10 rfl rfl ?_
      refine V_iload_n dX0_findParent_11 rfl rfl ?_
      refine V_N_eq (by omega) (by omega) 43 dX0_findParent_12 (by decide) (fun h12 => ?_) (fun h12 => ?_)
      · refine V_iinc1 dX0_findParent_43 rfl (Nat.le_of_ble_eq_true rfl) ?_
        refine V_goto 4 dX0_findParent_46 (by decide) ?_
        exact V.cL (ih h7 (by omega)) (by rw [show parF dm b (i + 1) = parF dm b i by rw [parF, if_neg (fun q => q.1.1 h12)]]; rfl)
      · refine V_aload_n dX0_findParent_15 rfl rfl ?_
        refine V_getR frX0_29 hF.1 rfl dX0_findParent_16 ?_
        refine V_iload_n dX0_findParent_19 rfl rfl ?_
        refine V_ialdE hF.2.2.2.2.1 i rfl (by omega) (by decide) (hd i h7) dX0_findParent_20 ?_
        refine V_iload_n dX0_findParent_21 rfl rfl ?_
        refine V_csn1 (ctX5_hasM hb) msX5_has lnX0_85 rfl rfl (Nat.le_of_ble_eq_true rfl) ⟨⟨Nat.le_of_ble_eq_true rfl, Nat.le_of_ble_eq_true rfl⟩, Nat.le_of_ble_eq_true rfl, Nat.le_of_ble_eq_true rfl⟩ dX0_findParent_22 ?_
        refine V_ifeqB 43 dX0_findParent_25 (by decide) (fun h25 => ?_) (fun h25 => ?_)
        · refine V_iinc1 dX0_findParent_43 rfl (Nat.le_of_ble_eq_true rfl) ?_
          refine V_goto 4 dX0_findParent_46 (by decide) ?_
          exact V.cL (ih h7 (by omega)) (by rw [show parF dm b (i + 1) = parF dm b i by rw [parF, if_neg (fun q => by rw [h25] at q; cases q.1.2.1)]]; rfl)
        · refine V_aload_n dX0_findParent_28 rfl rfl ?_
          refine V_getR frX0_29 hF.1 rfl dX0_findParent_29 ?_
          refine V_iload_n dX0_findParent_32 rfl rfl ?_
          refine V_ialdE hF.2.2.2.2.1 (parF dm b i) rfl (by omega) (by decide) (hd _ (by omega)) dX0_findParent_33 ?_
          refine V_iload_n dX0_findParent_34 rfl rfl ?_
          refine V_csn1 (ctX5_hasM h7) msX5_has lnX0_85 rfl rfl (Nat.le_of_ble_eq_true rfl) ⟨⟨Nat.le_of_ble_eq_true rfl, Nat.le_of_ble_eq_true rfl⟩, Nat.le_of_ble_eq_true rfl, Nat.le_of_ble_eq_true rfl⟩ dX0_findParent_35 ?_
          refine V_ifeqB 43 dX0_findParent_38 (by decide) (fun h38 => ?_) (fun h38 => ?_)
          · refine V_iinc1 dX0_findParent_43 rfl (Nat.le_of_ble_eq_true rfl) ?_
            refine V_goto 4 dX0_findParent_46 (by decide) ?_
            exact V.cL (ih h7 (by omega)) (by rw [show parF dm b (i + 1) = parF dm b i by rw [parF, if_neg (fun q => by rw [h38] at q; cases q.1.2.2)]]; rfl)
          · refine V_iload_n dX0_findParent_41 rfl rfl ?_
            refine V_istore_n dX0_findParent_42 rfl (Nat.le_of_ble_eq_true rfl) ?_
            refine V_iinc1 dX0_findParent_43 rfl (Nat.le_of_ble_eq_true rfl) ?_
            refine V_goto 4 dX0_findParent_46 (by decide) ?_
            exact V.cL (ih h7 (by omega)) (by rw [show parF dm b (i + 1) = i by rw [parF, if_pos ⟨⟨h12, h25, h38⟩, h1⟩]]; rfl)
    )
  refine V_iconst (v := nI 0) dX0_findParent_0 (by decide) ?_
  refine V_istore_n dX0_findParent_1 rfl (Nat.le_of_ble_eq_true rfl) ?_
  refine V_iconst (v := nI 1) dX0_findParent_2 (by decide) ?_
  refine V_istore_n dX0_findParent_3 rfl (Nat.le_of_ble_eq_true rfl) ?_
  exact V.cL (lp 1 (by omega) (Nat.le_refl 1)) (by rw [show parF dm b 1 = 0 by rw [parF, if_neg (by omega)]; rfl]; rfl)

theorem ctX0_findFrontier (hF : FlowL σ f) {dm pd : Nat → Nat → Bool} {b : Nat} (hd : ∀ a, a < 14 → mi (f + 8) a = msk (dm a)) (hp : ∀ a, a < 14 → mi (f + 7) a = msk (pd a)) (hb : b < 14) : Ct κ 0 0 2 mrX0_findFrontier [.ref f, .int (nI b)] (MM σ mi ml) (.inl (some (.int (msk (fun y => decide (msk (fun k => pd y k && dm b k) ≠ 0) && (decide (y = b) || !dm b y)))))) (MM σ mi ml) := by
  refine Ct.of rfl (by simp [Value.category]) (Nat.le_of_ble_eq_true rfl) ?_
  have lp : ∀ i, i ≤ 14 → ∀ o4, V κ (phi κ mrX0_findFrontier 2 0 0 (.inl (some (.int (msk (fun y => decide (msk (fun k => pd y k && dm b k) ≠ 0) && (decide (y = b) || !dm b y)))))) (MM σ mi ml)) 0 0 4 [some (.ref f), some (.int (nI b)), some (.int (mU (fun y => decide (msk (fun k => pd y k && dm b k) ≠ 0) && (decide (y = b) || !dm b y)) i)), some (.int (nI i)), o4] [] (MM σ mi ml) := loop_up 14 (fun i hi ih o4 => by
    refine V_iload_n dX0_findFrontier_4 rfl rfl ?_
    refine V_bipush (v := nI 14) dX0_findFrontier_5 (by decide) ?_
    refine V_N_ge (by omega) (by omega) 68 dX0_findFrontier_7 (by decide) (fun h7 => ?_) (fun h7 => ?_)
    · refine V_iload_n dX0_findFrontier_68 rfl rfl ?_
      exact V_iret rfl (oI (by rw [show i = 14 by omega, mU_all])) rfl ⟨Nat.le_of_ble_eq_true rfl, Nat.le_of_ble_eq_true rfl⟩ dX0_findFrontier_69
    · refine V_aload_n dX0_findFrontier_10 rfl rfl ?_
      refine V_getR frX0_26 hF.1 rfl dX0_findFrontier_11 ?_
      refine V_iload_n dX0_findFrontier_14 rfl rfl ?_
      refine V_ialdE hF.2.2.2.1 i rfl (by omega) (by decide) (hp i h7) dX0_findFrontier_15 ?_
      refine V_aload_n dX0_findFrontier_16 rfl rfl ?_
      refine V_getR frX0_29 hF.1 rfl dX0_findFrontier_17 ?_
      refine V_iload_n dX0_findFrontier_20 rfl rfl ?_
      refine V_ialdE hF.2.2.2.2.1 b rfl (by omega) (by decide) (hd b hb) dX0_findFrontier_21 ?_
      refine V_iand dX0_findFrontier_22 ?_
      refine V_top (msk_and (pd i) (dm b)) ?_
      refine V_if_eq 30 dX0_findFrontier_23 (by decide) (fun h23 => ?_) (fun h23 => ?_)
      · refine V_iconst (v := nI 0) dX0_findFrontier_30 (by decide) ?_
        refine V_istore dX0_findFrontier_31 (Nat.le_of_ble_eq_true rfl) ?_
        refine V_iload dX0_findFrontier_33 rfl ?_
        refine V_if_eq 62 dX0_findFrontier_35 (by decide) (fun h35 => ?_) (fun h35 => absurd (by decide) h35)
        refine V_iinc1 dX0_findFrontier_62 rfl (Nat.le_of_ble_eq_true rfl) ?_
        refine V_goto 4 dX0_findFrontier_65 (by decide) ?_
        exact V.cL (ih h7 _) (by rw [mU_f (show (decide (msk (fun k => pd i k && dm b k) ≠ 0) && (decide (i = b) || !dm b i)) = false by rw [decide_eq_false (fun q => q h23)]; rfl)]; rfl)
      · refine V_iconst (v := nI 1) dX0_findFrontier_26 (by decide) ?_
        refine V_goto 31 dX0_findFrontier_27 (by decide) ?_
        refine V_istore dX0_findFrontier_31 (Nat.le_of_ble_eq_true rfl) ?_
        refine V_iload dX0_findFrontier_33 rfl ?_
        refine V_if_eq 62 dX0_findFrontier_35 (by decide) (fun h35 => absurd h35 (by decide)) (fun h35 => ?_)
        refine V_iload_n dX0_findFrontier_38 rfl rfl ?_
        refine V_iload_n dX0_findFrontier_39 rfl rfl ?_
        refine V_N_eq (by omega) (by omega) 56 dX0_findFrontier_40 (by decide) (fun h40 => ?_) (fun h40 => ?_)
        · refine V_iload_n dX0_findFrontier_56 rfl rfl ?_
          refine V_iconst (v := nI 1) dX0_findFrontier_57 (by decide) ?_
          refine V_iload_n dX0_findFrontier_58 rfl rfl ?_
          refine V_ishl dX0_findFrontier_59 ?_
          refine V_top (msk_one h7) ?_
          refine V_ior dX0_findFrontier_60 ?_
          refine V_top (mU_t h7 (show (decide (msk (fun k => pd i k && dm b k) ≠ 0) && (decide (i = b) || !dm b i)) = true by rw [decide_eq_true h23, decide_eq_true h40]; rfl)) ?_
          refine V_istore_n dX0_findFrontier_61 rfl (Nat.le_of_ble_eq_true rfl) ?_
          refine V_iinc1 dX0_findFrontier_62 rfl (Nat.le_of_ble_eq_true rfl) ?_
          refine V_goto 4 dX0_findFrontier_65 (by decide) ?_
          exact ih h7 _
        · refine V_aload_n dX0_findFrontier_43 rfl rfl ?_
          refine V_getR frX0_29 hF.1 rfl dX0_findFrontier_44 ?_
          refine V_iload_n dX0_findFrontier_47 rfl rfl ?_
          refine V_ialdE hF.2.2.2.2.1 b rfl (by omega) (by decide) (hd b hb) dX0_findFrontier_48 ?_
          refine V_iload_n dX0_findFrontier_49 rfl rfl ?_
          refine V_csn1 (ctX5_hasM h7) msX5_has lnX0_85 rfl rfl (Nat.le_of_ble_eq_true rfl) ⟨⟨Nat.le_of_ble_eq_true rfl, Nat.le_of_ble_eq_true rfl⟩, Nat.le_of_ble_eq_true rfl, Nat.le_of_ble_eq_true rfl⟩ dX0_findFrontier_50 ?_
          refine V_ifneB 62 dX0_findFrontier_53 (by decide) (fun h53 => ?_) (fun h53 => ?_)
          · refine V_iinc1 dX0_findFrontier_62 rfl (Nat.le_of_ble_eq_true rfl) ?_
            refine V_goto 4 dX0_findFrontier_65 (by decide) ?_
            exact V.cL (ih h7 _) (by rw [mU_f (show (decide (msk (fun k => pd i k && dm b k) ≠ 0) && (decide (i = b) || !dm b i)) = false by rw [decide_eq_false h40, h53]; simp)]; rfl)
          · refine V_iload_n dX0_findFrontier_56 rfl rfl ?_
            refine V_iconst (v := nI 1) dX0_findFrontier_57 (by decide) ?_
            refine V_iload_n dX0_findFrontier_58 rfl rfl ?_
            refine V_ishl dX0_findFrontier_59 ?_
            refine V_top (msk_one h7) ?_
            refine V_ior dX0_findFrontier_60 ?_
            refine V_top (mU_t h7 (show (decide (msk (fun k => pd i k && dm b k) ≠ 0) && (decide (i = b) || !dm b i)) = true by rw [decide_eq_true h23, h53]; simp)) ?_
            refine V_istore_n dX0_findFrontier_61 rfl (Nat.le_of_ble_eq_true rfl) ?_
            refine V_iinc1 dX0_findFrontier_62 rfl (Nat.le_of_ble_eq_true rfl) ?_
            refine V_goto 4 dX0_findFrontier_65 (by decide) ?_
            exact ih h7 _
    )
  refine V_iconst (v := nI 0) dX0_findFrontier_0 (by decide) ?_
  refine V_istore_n dX0_findFrontier_1 rfl (Nat.le_of_ble_eq_true rfl) ?_
  refine V_iconst (v := nI 0) dX0_findFrontier_2 (by decide) ?_
  refine V_istore_n dX0_findFrontier_3 rfl (Nat.le_of_ble_eq_true rfl) ?_
  exact V.cL (lp 0 (Nat.zero_le _) _) (by rw [mU_0]; rfl)

end Flow1
