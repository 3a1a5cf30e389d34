/-! mergeDensity -/
def denV (n r : Nat) : UInt64 := FP.ddiv (FP.i2d (nI n)) (FP.i2d (nI (4 * r)))
theorem denK : ∀ r, r < 15 → 0 < r → ∀ n, n < 57 → vf_n64 (denV n r) ∧ Op.cmpValue (FP.dcmp (denV n r) (denV n r)) .l = 0 := by
  unfold vf_n64
  decide +kernel
noncomputable def rcN (G : Gr) : Nat := cnt (fun b => bp (Rc G b)) 14
theorem mcN_le (G : Gr) : mcN G < 57 := by
  have := sm_le (f := fun v => cnt (fun b => bp (PM G v b)) 14) (c := 14) 4 (fun k _ => cnt_le _ 14)
  unfold mcN
  omega
theorem rcN_pos (G : Gr) : 0 < rcN G := cnt_pos 14 0 (by decide) (bp_pos Rc.zero)
theorem rcN_le (G : Gr) : rcN G < 15 := by have := cnt_le (fun b => bp (Rc G b)) 14; unfold rcN; omega
section Cls5
variable {κ : K0} {σ : Nat → Option Kd} {mi : Nat → Nat → Int32} {ml : Nat → Nat → Int64} {x : Nat} {S : SS} {μ : Mem}
theorem ctX5_mergeDensity (hL : XL σ x) (hX : XA mi x S) (hS : SOK S) : Ct κ 0 0 12 mrX5_mergeDensity [.ref x] (MM σ mi ml) (.inl (some (.double (denV (mcN S.1) (rcN S.1))))) (MM σ mi ml) := by
  refine Ct.of rfl (by simp [Value.category]) (Nat.le_of_ble_eq_true rfl) ?_
  have h1 := rcN_pos S.1
  have h2 := rcN_le S.1
  have h3 := mcN_le S.1
  refine V_iconst (v := nI 1) dX5_mergeDensity_0 (by decide) ?_
  refine V_aload_n dX5_mergeDensity_1 rfl rfl ?_
  refine V_getR frX5_10 hL.1 rfl dX5_mergeDensity_2 ?_
  refine V_getE frX5_180 hL.2.1.1 rfl hX.2.1.1.2.1 dX5_mergeDensity_5 ?_
  refine V_cs1 (ctJ6_M) msJ6_bitCount_0f7a4 lkX5_254 rfl rfl (Nat.le_of_ble_eq_true rfl) ⟨⟨Nat.le_of_ble_eq_true rfl, Nat.le_of_ble_eq_true rfl⟩, Nat.le_of_ble_eq_true rfl, Nat.le_of_ble_eq_true rfl⟩ dX5_mergeDensity_8 ?_
  refine V_max maxX5_314 (Nat.le_of_ble_eq_true rfl) (Nat.le_of_ble_eq_true rfl) ⟨Nat.le_of_ble_eq_true rfl, Nat.le_of_ble_eq_true rfl⟩ dX5_mergeDensity_11 ?_
  refine V_top (show (if nI 1 < nI (rcN S.1) then nI (rcN S.1) else nI 1) = nI (rcN S.1) by
    by_cases h : 1 < rcN S.1
    · rw [if_pos ((nI_ltI (by omega) (by omega)).mpr h)]
    · rw [if_neg (fun q => h ((nI_ltI (by omega) (by omega)).mp q)), show rcN S.1 = 1 by omega]) ?_
  refine V_istore_n dX5_mergeDensity_14 rfl (Nat.le_of_ble_eq_true rfl) ?_
  refine V_aload_n dX5_mergeDensity_15 rfl rfl ?_
  refine V_getR frX5_10 hL.1 rfl dX5_mergeDensity_16 ?_
  refine V_cv1 (ctX0_countMerges hL.2.1 hX.1 hS.1 hX.2.1) mvX0_countMerges lkX5_215 hL.2.1.1 rfl rfl rfl (Nat.le_of_ble_eq_true rfl) ⟨⟨Nat.le_of_ble_eq_true rfl, Nat.le_of_ble_eq_true rfl⟩, Nat.le_of_ble_eq_true rfl, Nat.le_of_ble_eq_true rfl⟩ dX5_mergeDensity_19 ?_
  refine V_i2d dX5_mergeDensity_22 ?_
  refine V_iconst (v := nI 4) dX5_mergeDensity_23 (by decide) ?_
  refine V_iload_n dX5_mergeDensity_24 rfl rfl ?_
  refine V_imul dX5_mergeDensity_25 ?_
  refine V_top (pk_mul 4 _) ?_
  refine V_i2d dX5_mergeDensity_26 ?_
  refine V_ddiv dX5_mergeDensity_27 ((denK _ h2 h1 _ h3).1) ?_
  exact V_dret rfl rfl rfl ⟨Nat.le_of_ble_eq_true rfl, Nat.le_of_ble_eq_true rfl⟩ dX5_mergeDensity_28

end Cls5
