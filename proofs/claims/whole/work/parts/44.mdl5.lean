/-! SsaRepairModel: counts, uses, reaching definitions -/
section Mdl5
variable {κ : K0} {σ : Nat → Option Kd} {mi : Nat → Nat → Int32} {ml : Nat → Nat → Int64} {m : Nat} {G : Gr} {S : SS} {μ : Mem}
theorem ctX6_countBits {P : Nat → Bool} : Ct κ 0 0 1 mrX6_countBits [.int (msk P)] μ (.inl (some (.int (nI (cnt P 14))))) μ := by
  refine Ct.of rfl (by simp [Value.category]) (Nat.le_of_ble_eq_true rfl) ?_
  have lp : ∀ r, r < 16384 → ∀ c, c + pcN r = cnt P 14 → V κ (phi κ mrX6_countBits 1 0 0 (.inl (some (.int (nI (cnt P 14))))) (μ)) 0 0 4 [some (.int (msk P)), some (.int (nI c)), some (.int (nI r))] [] μ := by
    intro r
    induction r using Nat.strongRecOn with
    | ind r ih =>
      intro hr c hc
      refine V_iload_n dX6_countBits_4 rfl rfl ?_
      refine V_Z_eq (by omega) 20 dX6_countBits_5 (by decide) (fun h5 => ?_) (fun h5 => ?_)
      · refine V_iload_n dX6_countBits_20 rfl rfl ?_
        exact V_iret rfl (oI (by rw [← hc, h5, pcN_0]; rfl)) rfl ⟨Nat.le_of_ble_eq_true rfl, Nat.le_of_ble_eq_true rfl⟩ dX6_countBits_21
      · obtain ⟨k1, k2, k3⟩ := cb_ok hr h5
        refine V_iinc1 dX6_countBits_8 rfl (Nat.le_of_ble_eq_true rfl) ?_
        refine V_iload_n dX6_countBits_11 rfl rfl ?_
        refine V_iload_n dX6_countBits_12 rfl rfl ?_
        refine V_iconst (v := nI 1) dX6_countBits_13 (by decide) ?_
        refine V_isub dX6_countBits_14 ?_
        refine V_iand dX6_countBits_15 ?_
        refine V_top k1 ?_
        refine V_istore_n dX6_countBits_16 rfl (Nat.le_of_ble_eq_true rfl) ?_
        refine V_goto 4 dX6_countBits_17 (by decide) ?_
        exact ih _ k2 (by omega) _ (by omega)

  refine V_iconst (v := nI 0) dX6_countBits_0 (by decide) ?_
  refine V_istore_n dX6_countBits_1 rfl (Nat.le_of_ble_eq_true rfl) ?_
  refine V_iload_n dX6_countBits_2 rfl rfl ?_
  refine V_istore_n dX6_countBits_3 rfl (Nat.le_of_ble_eq_true rfl) ?_
  exact lp (mskN P 14) (mskN_lt P 14) 0 (by rw [pcN_msk, Nat.zero_add])

theorem ctX6_countMerges (hM : ML σ m) (hG : GM mi m G) (hw : Wf G) (hn : AN mi m G) : Ct κ 0 0 2 mrX6_countMerges [.ref m] (MM σ mi ml) (.inl (some (.int (nI (mcN G))))) (MM σ mi ml) := by
  refine Ct.of rfl (by simp [Value.category]) (Nat.le_of_ble_eq_true rfl) ?_
  have lp : ∀ i, i ≤ 4 → V κ (phi κ mrX6_countMerges 2 0 0 (.inl (some (.int (nI (mcN G))))) (MM σ mi ml)) 0 0 4 [some (.ref m), some (.int (nI (sm (fun v => cnt (fun b => bp (PM G v b)) 14) i))), some (.int (nI i))] [] (MM σ mi ml) := loop_up 4 (fun i hi ih => by
    refine V_iload_n dX6_countMerges_4 rfl rfl ?_
    refine V_iconst (v := nI 4) dX6_countMerges_5 (by decide) ?_
    refine V_N_ge (by omega) (by omega) 27 dX6_countMerges_6 (by decide) (fun h6 => ?_) (fun h6 => ?_)
    · refine V_iload_n dX6_countMerges_27 rfl rfl ?_
      exact V_iret rfl (oI (by unfold mcN; rw [show i = 4 by omega])) rfl ⟨Nat.le_of_ble_eq_true rfl, Nat.le_of_ble_eq_true rfl⟩ dX6_countMerges_28
    · refine V_iload_n dX6_countMerges_9 rfl rfl ?_
      refine V_aload_n dX6_countMerges_10 rfl rfl ?_
      refine V_getR frX6_65 hM.1 rfl dX6_countMerges_11 ?_
      refine V_iload_n dX6_countMerges_14 rfl rfl ?_
      refine V_ialdE hM.2.2.2.2.2.2.2.2.2.2.2.2.1 i rfl (by omega) (by decide) ((hn.2.2.2 i h6).2.2.1) dX6_countMerges_15 ?_
      refine V_cs1 (ctX6_countBits) msX6_countBits lkX6_208 rfl rfl (Nat.le_of_ble_eq_true rfl) ⟨⟨Nat.le_of_ble_eq_true rfl, Nat.le_of_ble_eq_true rfl⟩, Nat.le_of_ble_eq_true rfl, Nat.le_of_ble_eq_true rfl⟩ dX6_countMerges_16 ?_
      refine V_iadd dX6_countMerges_19 ?_
      refine V_top (nI_add _ _) ?_
      refine V_istore_n dX6_countMerges_20 rfl (Nat.le_of_ble_eq_true rfl) ?_
      refine V_iinc1 dX6_countMerges_21 rfl (Nat.le_of_ble_eq_true rfl) ?_
      refine V_goto 4 dX6_countMerges_24 (by decide) ?_
      exact ih h6
    )
  refine V_iconst (v := nI 0) dX6_countMerges_0 (by decide) ?_
  refine V_istore_n dX6_countMerges_1 rfl (Nat.le_of_ble_eq_true rfl) ?_
  refine V_iconst (v := nI 0) dX6_countMerges_2 (by decide) ?_
  refine V_istore_n dX6_countMerges_3 rfl (Nat.le_of_ble_eq_true rfl) ?_
  exact lp 0 (Nat.zero_le _)

theorem ctX6_mergeCount (hM : ML σ m) (hA : MA mi m S) (hS : SOK S)  : CtP κ 0 0 24 mrX6_mergeCount [.ref m] (MM σ mi ml) (MRz σ mi ml m (rs_mergeCount S)) := by
  have hw := hS.1
  have h14 := hw.2.1
  have hG := hA.1
  rw [show rs_mergeCount S = (0, nI (mcN S.1), S) from by unfold rs_mergeCount; rfl]
  refine CtP.of rfl (by simp [Value.category]) (Nat.le_of_ble_eq_true rfl) ?_
  refine V_aload_n dX6_mergeCount_0 rfl rfl ?_
  refine V_iconst (v := nI 0) dX6_mergeCount_1 (by decide) ?_
  refine V_putI fpX6_83 rfl rfl hM.1 rfl dX6_mergeCount_2 ?_
  refine V_aload_n dX6_mergeCount_5 rfl rfl ?_
  refine V_cp0 (ctX6_analyze hM hG.z hw) mvX6_analyze lkX6_196 hM.1 rfl rfl rfl (Nat.le_of_ble_eq_true rfl) ⟨⟨Nat.le_of_ble_eq_true rfl, Nat.le_of_ble_eq_true rfl⟩, Nat.le_of_ble_eq_true rfl, Nat.le_of_ble_eq_true rfl⟩ dX6_mergeCount_6 (fun μ1 hx => ?_)
  obtain ⟨m1, rfl, hn, ho⟩ := hx
  have hG1 := GM_off hG.z ho
  have h01 : m1 m 0 = nI 0 := (ho _ _ (by omega) (by omega)).trans (u2_s _ _ _ _)
  refine V_aload_n dX6_mergeCount_9 rfl rfl ?_
  refine V_cv1 (ctX6_countMerges hM hG1 hw hn) mvX6_countMerges lkX6_212 hM.1 rfl rfl rfl (Nat.le_of_ble_eq_true rfl) ⟨⟨Nat.le_of_ble_eq_true rfl, Nat.le_of_ble_eq_true rfl⟩, Nat.le_of_ble_eq_true rfl, Nat.le_of_ble_eq_true rfl⟩ dX6_mergeCount_10 ?_
  exact V_iretP rfl ⟨rfl, MQz hA hS (kep.rf.z.an ho) h01⟩ ⟨Nat.le_of_ble_eq_true rfl, Nat.le_of_ble_eq_true rfl⟩ dX6_mergeCount_13

theorem V_dretP {mr : MR} {dd mc ms cells slots pc : Nat} {L : List (Option Value)} {Ψ : Oc → Mem → Prop} {x : UInt64} (hr : mr.2.2.2 = some .double) (h : Ψ (.inl (some (.double x))) μ) (hc : cells ≤ mc ∧ slots ≤ ms) (d : decode mr.2.1 pc = .ok (.dreturn, 1)) : V κ (phiP κ mr dd mc ms Ψ) cells slots pc L [.double x] μ := by
  intro p e s m args below meth c B H locs ls hl hR hS
  exact vx_ret (W.widen hc.1 hc.2 (W.dret B.1 B.2.1 (B.2.2.2.2.2.1.trans hr) (fun t ht hW => ⟨⟨_, μ, h, rfl, by rw [ht]; exact hR⟩, hS.F ht⟩) hS.2.2 d B.2.2.2.2.2.2.1))
theorem ctX6_mergeDensity (hM : ML σ m) (hA : MA mi m S) (hS : SOK S) : CtP κ 0 0 24 mrX6_mergeDensity [.ref m] (MM σ mi ml) (fun o μ' => o = .inl (some (.double (denV (mcN S.1) (rcN S.1)))) ∧ ∃ m', μ' = MM σ m' ml ∧ MA m' m S ∧ m' m 0 = nI 0 ∧ ∀ a i, (a < m ∨ m + 101 ≤ a) → m' a i = mi a i) := by
  have hw := hS.1
  have h14 := hw.2.1
  have hG := hA.1
  refine CtP.of rfl (by simp [Value.category]) (Nat.le_of_ble_eq_true rfl) ?_
  refine V_aload_n dX6_mergeDensity_0 rfl rfl ?_
  refine V_iconst (v := nI 0) dX6_mergeDensity_1 (by decide) ?_
  refine V_putI fpX6_83 rfl rfl hM.1 rfl dX6_mergeDensity_2 ?_
  refine V_aload_n dX6_mergeDensity_5 rfl rfl ?_
  refine V_cp0 (ctX6_analyze hM hG.z hw) mvX6_analyze lkX6_196 hM.1 rfl rfl rfl (Nat.le_of_ble_eq_true rfl) ⟨⟨Nat.le_of_ble_eq_true rfl, Nat.le_of_ble_eq_true rfl⟩, Nat.le_of_ble_eq_true rfl, Nat.le_of_ble_eq_true rfl⟩ dX6_mergeDensity_6 (fun μ1 hx => ?_)
  obtain ⟨m1, rfl, hn, ho⟩ := hx
  have hG1 := GM_off hG.z ho
  have h01 : m1 m 0 = nI 0 := (ho _ _ (by omega) (by omega)).trans (u2_s _ _ _ _)
  refine V_aload_n dX6_mergeDensity_9 rfl rfl ?_
  refine V_cv1 (ctX6_countMerges hM hG1 hw hn) mvX6_countMerges lkX6_212 hM.1 rfl rfl rfl (Nat.le_of_ble_eq_true rfl) ⟨⟨Nat.le_of_ble_eq_true rfl, Nat.le_of_ble_eq_true rfl⟩, Nat.le_of_ble_eq_true rfl, Nat.le_of_ble_eq_true rfl⟩ dX6_mergeDensity_10 ?_
  refine V_i2d dX6_mergeDensity_13 ?_
  refine V_iconst (v := nI 4) dX6_mergeDensity_14 (by decide) ?_
  refine V_aload_n dX6_mergeDensity_15 rfl rfl ?_
  refine V_getE frX6_155 hM.1 rfl hn.1.1 dX6_mergeDensity_16 ?_
  refine V_cs1 (ctX6_countBits) msX6_countBits lkX6_208 rfl rfl (Nat.le_of_ble_eq_true rfl) ⟨⟨Nat.le_of_ble_eq_true rfl, Nat.le_of_ble_eq_true rfl⟩, Nat.le_of_ble_eq_true rfl, Nat.le_of_ble_eq_true rfl⟩ dX6_mergeDensity_19 ?_
  refine V_imul dX6_mergeDensity_22 ?_
  refine V_top (pk_mul 4 _) ?_
  refine V_i2d dX6_mergeDensity_23 ?_
  refine V_ddiv dX6_mergeDensity_24 ((denK _ (rcN_le S.1) (rcN_pos S.1) _ (mcN_le S.1)).1) ?_
  exact V_dretP rfl ⟨rfl, MQz hA hS (kep.rf.z.an ho) h01⟩ ⟨Nat.le_of_ble_eq_true rfl, Nat.le_of_ble_eq_true rfl⟩ dX6_mergeDensity_25

theorem ctX6_useSource (hM : ML σ m) (hG : GM mi m G) (hw : Wf G) (hn : AN mi m G) {b k : Nat} (hb : Rc G b) (hk : k < (G.2.1 b).length) (hu : 10 ≤ (G.2.1 b).getD k 0) : Ct κ 0 0 2 mrX6_useSource [.ref m, .int (nI b), .int (nI k)] (MM σ mi ml) (.inl (some (.int (nI (srcU G b k))))) (MM σ mi ml) := by
  refine Ct.of rfl (by simp [Value.category]) (Nat.le_of_ble_eq_true rfl) ?_
  have hb2 := hb.lt14 hw
  have h6 := (hw.2.2.1 b).1
  have ha := act14 hw hk
  cases hd : ldef (G.2.1 b) ((G.2.1 b).getD k 0 - 10) k with
  | none =>
    have hx : srcU G b k = srcB G ((G.2.1 b).getD k 0 - 10) b := by unfold srcU; rw [hd]
    have hlx := (lxI_lt (Nat.le_of_lt hk) (by omega)).mpr hd
    refine V_aload_n dX6_useSource_0 rfl rfl ?_
    refine V_getR frX6_22 hM.1 rfl dX6_useSource_1 ?_
    refine V_iload_n dX6_useSource_4 rfl rfl ?_
    refine V_aaldR hM.2.2.2.2.2.2.2.2.2.2.2.2.2.2.2.2.1 (b) rfl hb2 (by decide) dX6_useSource_5 ?_
    refine V_iload_n dX6_useSource_6 rfl rfl ?_
    refine V_ialdE (hM.2.2.2.2.2.2.2.2.2.2.2.2.2.2.2.2.1.row (j := b) hb2) k rfl (by omega) (by decide) ((hG.2 b hb2).2.2.1 k hk) dX6_useSource_7 ?_
    refine V_bipush (v := nI 10) dX6_useSource_8 (by decide) ?_
    refine V_isub dX6_useSource_10 ?_
    refine V_top (nI_subN hu) ?_
    refine V_istore_n dX6_useSource_11 rfl (Nat.le_of_ble_eq_true rfl) ?_
    refine V_aload_n dX6_useSource_12 rfl rfl ?_
    refine V_iload_n dX6_useSource_13 rfl rfl ?_
    refine V_iload_n dX6_useSource_14 rfl rfl ?_
    refine V_iload_n dX6_useSource_15 rfl rfl ?_
    refine V_cv1 (ctX6_lastDefinition hM hG hw hb2 (by omega) (Nat.le_of_lt hk)) mvX6_lastDefinition lkX6_164 hM.1 rfl rfl rfl (Nat.le_of_ble_eq_true rfl) ⟨⟨Nat.le_of_ble_eq_true rfl, Nat.le_of_ble_eq_true rfl⟩, Nat.le_of_ble_eq_true rfl, Nat.le_of_ble_eq_true rfl⟩ dX6_useSource_16 ?_
    refine V_istore dX6_useSource_19 (Nat.le_of_ble_eq_true rfl) ?_
    refine V_iload dX6_useSource_21 rfl ?_
    refine V_if_ge 37 dX6_useSource_23 (by decide) (fun h23 => absurd h23 (Int32.not_le.mpr hlx)) (fun h23 => ?_)
    refine V_aload_n dX6_useSource_26 rfl rfl ?_
    refine V_getR frX6_68 hM.1 rfl dX6_useSource_27 ?_
    refine V_iload_n dX6_useSource_30 rfl rfl ?_
    refine V_aaldR hM.2.2.2.2.2.2.2.2.2.2.2.2.2.2.2.2.2.2.2.1 (b) rfl hb2 (by decide) dX6_useSource_31 ?_
    refine V_iload_n dX6_useSource_32 rfl rfl ?_
    refine V_ialdE (hM.2.2.2.2.2.2.2.2.2.2.2.2.2.2.2.2.2.2.2.1.row (j := b) hb2) ((G.2.1 b).getD k 0 - 10) rfl (by omega) (by decide) (((hn.2.2.2 _ (by omega)).2.2.2 b hb).1) dX6_useSource_33 ?_
    refine V_goto 44 dX6_useSource_34 (by decide) ?_
    exact V_iret rfl (oI (by rw [hx])) rfl ⟨Nat.le_of_ble_eq_true rfl, Nat.le_of_ble_eq_true rfl⟩ dX6_useSource_44

  | some j =>
    have hx : srcU G b k = 10 * b + j := by unfold srcU; rw [hd]
    have hj := ldef6 hw (Nat.le_of_lt hk) hd
    refine V_aload_n dX6_useSource_0 rfl rfl ?_
    refine V_getR frX6_22 hM.1 rfl dX6_useSource_1 ?_
    refine V_iload_n dX6_useSource_4 rfl rfl ?_
    refine V_aaldR hM.2.2.2.2.2.2.2.2.2.2.2.2.2.2.2.2.1 (b) rfl hb2 (by decide) dX6_useSource_5 ?_
    refine V_iload_n dX6_useSource_6 rfl rfl ?_
    refine V_ialdE (hM.2.2.2.2.2.2.2.2.2.2.2.2.2.2.2.2.1.row (j := b) hb2) k rfl (by omega) (by decide) ((hG.2 b hb2).2.2.1 k hk) dX6_useSource_7 ?_
    refine V_bipush (v := nI 10) dX6_useSource_8 (by decide) ?_
    refine V_isub dX6_useSource_10 ?_
    refine V_top (nI_subN hu) ?_
    refine V_istore_n dX6_useSource_11 rfl (Nat.le_of_ble_eq_true rfl) ?_
    refine V_aload_n dX6_useSource_12 rfl rfl ?_
    refine V_iload_n dX6_useSource_13 rfl rfl ?_
    refine V_iload_n dX6_useSource_14 rfl rfl ?_
    refine V_iload_n dX6_useSource_15 rfl rfl ?_
    refine V_cv1 (ctX6_lastDefinition hM hG hw hb2 (by omega) (Nat.le_of_lt hk)) mvX6_lastDefinition lkX6_164 hM.1 rfl rfl rfl (Nat.le_of_ble_eq_true rfl) ⟨⟨Nat.le_of_ble_eq_true rfl, Nat.le_of_ble_eq_true rfl⟩, Nat.le_of_ble_eq_true rfl, Nat.le_of_ble_eq_true rfl⟩ dX6_useSource_16 ?_
    refine V_top (lxI_s hd) ?_
    refine V_istore dX6_useSource_19 (Nat.le_of_ble_eq_true rfl) ?_
    refine V_iload dX6_useSource_21 rfl ?_
    refine V_if_ge 37 dX6_useSource_23 (by decide) (fun h23 => ?_) (fun h23 => absurd (Int32.not_lt.mp (nI_pos (show j < 2 ^ 31 by omega))) h23)
    refine V_bipush (v := nI 10) dX6_useSource_37 (by decide) ?_
    refine V_iload_n dX6_useSource_39 rfl rfl ?_
    refine V_imul dX6_useSource_40 ?_
    refine V_iload dX6_useSource_41 rfl ?_
    refine V_iadd dX6_useSource_43 ?_
    refine V_top (show nI 10 * nI b + nI j = nI (10 * b + j) by rw [pk_mul, nI_add]) ?_
    exact V_iret rfl (oI (by rw [hx])) rfl ⟨Nat.le_of_ble_eq_true rfl, Nat.le_of_ble_eq_true rfl⟩ dX6_useSource_44

theorem ctX6_sourceOfUse (hM : ML σ m) (hA : MA mi m S) (hS : SOK S) {b k : Int32} : CtP κ 0 0 24 mrX6_sourceOfUse [.ref m, .int b, .int k] (MM σ mi ml) (MRz σ mi ml m (rs_sourceOfUse S b k)) := by
  have hw := hS.1
  have h14 := hw.2.1
  have hG := hA.1
  cases hb : hasAct S.1 b k with
  | false =>
    rw [show rs_sourceOfUse S b k = (1, 0, S) from by unfold rs_sourceOfUse; rw [if_pos hb]]
    refine CtP.of rfl (by simp [Value.category]) (Nat.le_of_ble_eq_true rfl) ?_
    refine V_aload_n dX6_sourceOfUse_0 rfl rfl ?_
    refine V_iconst (v := nI 1) dX6_sourceOfUse_1 (by decide) ?_
    refine V_aload_n dX6_sourceOfUse_2 rfl rfl ?_
    refine V_iload_n dX6_sourceOfUse_3 rfl rfl ?_
    refine V_iload_n dX6_sourceOfUse_4 rfl rfl ?_
    refine V_cv1 (ctX6_isAction hM hG hw) mvX6_isAction lkX6_147 hM.1 rfl rfl rfl (Nat.le_of_ble_eq_true rfl) ⟨⟨Nat.le_of_ble_eq_true rfl, Nat.le_of_ble_eq_true rfl⟩, Nat.le_of_ble_eq_true rfl, Nat.le_of_ble_eq_true rfl⟩ dX6_sourceOfUse_5 ?_
    refine V_ifneB 15 dX6_sourceOfUse_8 (by decide) (fun h8 => absurd (h8.symm.trans hb) (by decide)) (fun h8 => ?_)
    refine V_iconst (v := nI 1) dX6_sourceOfUse_11 (by decide) ?_
    refine V_goto 16 dX6_sourceOfUse_12 (by decide) ?_
    refine V_cv1 (ctX6_fails hM (k := nI 1) (c := true)) mvX6_fails lkX6_100 hM.1 rfl rfl rfl (Nat.le_of_ble_eq_true rfl) ⟨⟨Nat.le_of_ble_eq_true rfl, Nat.le_of_ble_eq_true rfl⟩, Nat.le_of_ble_eq_true rfl, Nat.le_of_ble_eq_true rfl⟩ dX6_sourceOfUse_16 ?_
    refine V_ifneB 61 dX6_sourceOfUse_19 (by decide) (fun h19 => ?_) (fun h19 => absurd (h19.symm.trans rfl) (by decide))
    refine V_iconst (v := nI 0) dX6_sourceOfUse_61 (by decide) ?_
    exact V_iretP rfl ⟨rfl, MQz hA hS (by first | exact kep.rf.z | exact kep.rf.z.z | exact kep.rf.z.z.z) (u2_s _ _ _ _)⟩ ⟨Nat.le_of_ble_eq_true rfl, Nat.le_of_ble_eq_true rfl⟩ dX6_sourceOfUse_62

  | true =>
    obtain ⟨j, i, hj, hi, rfl, rfl⟩ := hasAct_t hw hb
    have h6 := (hw.2.2.1 j).1
    have ha := act14 hw hi
    have tj := tn_nI (show j < 2 ^ 31 by omega)
    have ti := tn_nI (show i < 2 ^ 31 by omega)
    have h1 : ¬ hasAct S.1 (nI j) (nI i) = false := by rw [hb]; decide
    cases hr : bp (Rc S.1 j) with
    | false =>
      rw [show rs_sourceOfUse S (nI j) (nI i) = (2, 0, S) from by unfold rs_sourceOfUse; rw [tj, if_neg h1, if_pos hr]]
      refine CtP.of rfl (by simp [Value.category]) (Nat.le_of_ble_eq_true rfl) ?_
      refine V_aload_n dX6_sourceOfUse_0 rfl rfl ?_
      refine V_iconst (v := nI 1) dX6_sourceOfUse_1 (by decide) ?_
      refine V_aload_n dX6_sourceOfUse_2 rfl rfl ?_
      refine V_iload_n dX6_sourceOfUse_3 rfl rfl ?_
      refine V_iload_n dX6_sourceOfUse_4 rfl rfl ?_
      refine V_cv1 (ctX6_isAction hM hG hw) mvX6_isAction lkX6_147 hM.1 rfl rfl rfl (Nat.le_of_ble_eq_true rfl) ⟨⟨Nat.le_of_ble_eq_true rfl, Nat.le_of_ble_eq_true rfl⟩, Nat.le_of_ble_eq_true rfl, Nat.le_of_ble_eq_true rfl⟩ dX6_sourceOfUse_5 ?_
      refine V_ifneB 15 dX6_sourceOfUse_8 (by decide) (fun h8 => ?_) (fun h8 => absurd (h8.symm.trans hb) (by decide))
      refine V_iconst (v := nI 0) dX6_sourceOfUse_15 (by decide) ?_
      refine V_cv1 (ctX6_fails hM (k := nI 1) (c := false)) mvX6_fails lkX6_100 hM.1 rfl rfl rfl (Nat.le_of_ble_eq_true rfl) ⟨⟨Nat.le_of_ble_eq_true rfl, Nat.le_of_ble_eq_true rfl⟩, Nat.le_of_ble_eq_true rfl, Nat.le_of_ble_eq_true rfl⟩ dX6_sourceOfUse_16 ?_
      refine V_ifneB 61 dX6_sourceOfUse_19 (by decide) (fun h19 => absurd (h19.symm.trans rfl) (by decide)) (fun h19 => ?_)
      refine V_aload_n dX6_sourceOfUse_22 rfl rfl ?_
      refine V_iconst (v := nI 2) dX6_sourceOfUse_23 (by decide) ?_
      refine V_aload_n dX6_sourceOfUse_24 rfl rfl ?_
      refine V_iload_n dX6_sourceOfUse_25 rfl rfl ?_
      refine V_cp1 (ctX6_isUnreached hM hG.z hw (show j < 14 by omega)) mvX6_isUnreached lkX6_199 hM.1 rfl rfl rfl (Nat.le_of_ble_eq_true rfl) ⟨⟨Nat.le_of_ble_eq_true rfl, Nat.le_of_ble_eq_true rfl⟩, Nat.le_of_ble_eq_true rfl, Nat.le_of_ble_eq_true rfl⟩ dX6_sourceOfUse_26 (fun y μ1 hx => ?_)
      obtain ⟨rfl, m1, rfl, hn, ho⟩ := hx
      have hG1 := GM_off hG.z ho
      rw [hr]
      refine V_cv1 (ctX6_fails hM (k := nI 2) (c := true)) mvX6_fails lkX6_100 hM.1 rfl rfl rfl (Nat.le_of_ble_eq_true rfl) ⟨⟨Nat.le_of_ble_eq_true rfl, Nat.le_of_ble_eq_true rfl⟩, Nat.le_of_ble_eq_true rfl, Nat.le_of_ble_eq_true rfl⟩ dX6_sourceOfUse_29 ?_
      refine V_ifneB 61 dX6_sourceOfUse_32 (by decide) (fun h32 => ?_) (fun h32 => absurd (h32.symm.trans rfl) (by decide))
      refine V_iconst (v := nI 0) dX6_sourceOfUse_61 (by decide) ?_
      exact V_iretP rfl ⟨rfl, MQz hA hS (kep.rf.z.an ho).z (u2_s _ _ _ _)⟩ ⟨Nat.le_of_ble_eq_true rfl, Nat.le_of_ble_eq_true rfl⟩ dX6_sourceOfUse_62

    | true =>
      have hR := bp_t.mp hr
      have h2 : ¬ bp (Rc S.1 j) = false := by rw [hr]; decide
      by_cases hu : (S.1.2.1 j).getD i 0 < 10
      · rw [show rs_sourceOfUse S (nI j) (nI i) = (3, 0, S) from by unfold rs_sourceOfUse; rw [tj, ti, if_neg h1, if_neg h2, if_pos hu]]
        refine CtP.of rfl (by simp [Value.category]) (Nat.le_of_ble_eq_true rfl) ?_
        refine V_aload_n dX6_sourceOfUse_0 rfl rfl ?_
        refine V_iconst (v := nI 1) dX6_sourceOfUse_1 (by decide) ?_
        refine V_aload_n dX6_sourceOfUse_2 rfl rfl ?_
        refine V_iload_n dX6_sourceOfUse_3 rfl rfl ?_
        refine V_iload_n dX6_sourceOfUse_4 rfl rfl ?_
        refine V_cv1 (ctX6_isAction hM hG hw) mvX6_isAction lkX6_147 hM.1 rfl rfl rfl (Nat.le_of_ble_eq_true rfl) ⟨⟨Nat.le_of_ble_eq_true rfl, Nat.le_of_ble_eq_true rfl⟩, Nat.le_of_ble_eq_true rfl, Nat.le_of_ble_eq_true rfl⟩ dX6_sourceOfUse_5 ?_
        refine V_ifneB 15 dX6_sourceOfUse_8 (by decide) (fun h8 => ?_) (fun h8 => absurd (h8.symm.trans hb) (by decide))
        refine V_iconst (v := nI 0) dX6_sourceOfUse_15 (by decide) ?_
        refine V_cv1 (ctX6_fails hM (k := nI 1) (c := false)) mvX6_fails lkX6_100 hM.1 rfl rfl rfl (Nat.le_of_ble_eq_true rfl) ⟨⟨Nat.le_of_ble_eq_true rfl, Nat.le_of_ble_eq_true rfl⟩, Nat.le_of_ble_eq_true rfl, Nat.le_of_ble_eq_true rfl⟩ dX6_sourceOfUse_16 ?_
        refine V_ifneB 61 dX6_sourceOfUse_19 (by decide) (fun h19 => absurd (h19.symm.trans rfl) (by decide)) (fun h19 => ?_)
        refine V_aload_n dX6_sourceOfUse_22 rfl rfl ?_
        refine V_iconst (v := nI 2) dX6_sourceOfUse_23 (by decide) ?_
        refine V_aload_n dX6_sourceOfUse_24 rfl rfl ?_
        refine V_iload_n dX6_sourceOfUse_25 rfl rfl ?_
        refine V_cp1 (ctX6_isUnreached hM hG.z hw (show j < 14 by omega)) mvX6_isUnreached lkX6_199 hM.1 rfl rfl rfl (Nat.le_of_ble_eq_true rfl) ⟨⟨Nat.le_of_ble_eq_true rfl, Nat.le_of_ble_eq_true rfl⟩, Nat.le_of_ble_eq_true rfl, Nat.le_of_ble_eq_true rfl⟩ dX6_sourceOfUse_26 (fun y μ1 hx => ?_)
        obtain ⟨rfl, m1, rfl, hn, ho⟩ := hx
        have hG1 := GM_off hG.z ho
        rw [hr]
        refine V_cv1 (ctX6_fails hM (k := nI 2) (c := false)) mvX6_fails lkX6_100 hM.1 rfl rfl rfl (Nat.le_of_ble_eq_true rfl) ⟨⟨Nat.le_of_ble_eq_true rfl, Nat.le_of_ble_eq_true rfl⟩, Nat.le_of_ble_eq_true rfl, Nat.le_of_ble_eq_true rfl⟩ dX6_sourceOfUse_29 ?_
        refine V_ifneB 61 dX6_sourceOfUse_32 (by decide) (fun h32 => absurd (h32.symm.trans rfl) (by decide)) (fun h32 => ?_)
        refine V_aload_n dX6_sourceOfUse_35 rfl rfl ?_
        refine V_iconst (v := nI 3) dX6_sourceOfUse_36 (by decide) ?_
        refine V_aload_n dX6_sourceOfUse_37 rfl rfl ?_
        refine V_getR frX6_22 hM.1 rfl dX6_sourceOfUse_38 ?_
        refine V_iload_n dX6_sourceOfUse_41 rfl rfl ?_
        refine V_aaldR hM.2.2.2.2.2.2.2.2.2.2.2.2.2.2.2.2.1 (j) rfl (show j < 14 by omega) (by decide) dX6_sourceOfUse_42 ?_
        refine V_iload_n dX6_sourceOfUse_43 rfl rfl ?_
        refine V_ialdE (hM.2.2.2.2.2.2.2.2.2.2.2.2.2.2.2.2.1.row (j := j) (show j < 14 by omega)) i rfl (by omega) (by decide) ((hG1.z.2 j (by omega)).2.2.1 i hi) dX6_sourceOfUse_44 ?_
        refine V_bipush (v := nI 10) dX6_sourceOfUse_45 (by decide) ?_
        refine V_N_ge (by omega) (by omega) 54 dX6_sourceOfUse_47 (by decide) (fun h47 => ?_) (fun h47 => ?_)
        · exfalso
          omega
        · refine V_iconst (v := nI 1) dX6_sourceOfUse_50 (by decide) ?_
          refine V_goto 55 dX6_sourceOfUse_51 (by decide) ?_
          refine V_cv1 (ctX6_fails hM (k := nI 3) (c := true)) mvX6_fails lkX6_100 hM.1 rfl rfl rfl (Nat.le_of_ble_eq_true rfl) ⟨⟨Nat.le_of_ble_eq_true rfl, Nat.le_of_ble_eq_true rfl⟩, Nat.le_of_ble_eq_true rfl, Nat.le_of_ble_eq_true rfl⟩ dX6_sourceOfUse_55 ?_
          refine V_ifeqB 63 dX6_sourceOfUse_58 (by decide) (fun h58 => absurd (h58.symm.trans rfl) (by decide)) (fun h58 => ?_)
          refine V_iconst (v := nI 0) dX6_sourceOfUse_61 (by decide) ?_
          exact V_iretP rfl ⟨rfl, MQz hA hS (kep.rf.z.an ho).z.z (u2_s _ _ _ _)⟩ ⟨Nat.le_of_ble_eq_true rfl, Nat.le_of_ble_eq_true rfl⟩ dX6_sourceOfUse_62

      · rw [show rs_sourceOfUse S (nI j) (nI i) = (0, nI (srcU S.1 j i), S) from by unfold rs_sourceOfUse; rw [tj, ti, if_neg h1, if_neg h2, if_neg hu]]
        refine CtP.of rfl (by simp [Value.category]) (Nat.le_of_ble_eq_true rfl) ?_
        refine V_aload_n dX6_sourceOfUse_0 rfl rfl ?_
        refine V_iconst (v := nI 1) dX6_sourceOfUse_1 (by decide) ?_
        refine V_aload_n dX6_sourceOfUse_2 rfl rfl ?_
        refine V_iload_n dX6_sourceOfUse_3 rfl rfl ?_
        refine V_iload_n dX6_sourceOfUse_4 rfl rfl ?_
        refine V_cv1 (ctX6_isAction hM hG hw) mvX6_isAction lkX6_147 hM.1 rfl rfl rfl (Nat.le_of_ble_eq_true rfl) ⟨⟨Nat.le_of_ble_eq_true rfl, Nat.le_of_ble_eq_true rfl⟩, Nat.le_of_ble_eq_true rfl, Nat.le_of_ble_eq_true rfl⟩ dX6_sourceOfUse_5 ?_
        refine V_ifneB 15 dX6_sourceOfUse_8 (by decide) (fun h8 => ?_) (fun h8 => absurd (h8.symm.trans hb) (by decide))
        refine V_iconst (v := nI 0) dX6_sourceOfUse_15 (by decide) ?_
        refine V_cv1 (ctX6_fails hM (k := nI 1) (c := false)) mvX6_fails lkX6_100 hM.1 rfl rfl rfl (Nat.le_of_ble_eq_true rfl) ⟨⟨Nat.le_of_ble_eq_true rfl, Nat.le_of_ble_eq_true rfl⟩, Nat.le_of_ble_eq_true rfl, Nat.le_of_ble_eq_true rfl⟩ dX6_sourceOfUse_16 ?_
        refine V_ifneB 61 dX6_sourceOfUse_19 (by decide) (fun h19 => absurd (h19.symm.trans rfl) (by decide)) (fun h19 => ?_)
        refine V_aload_n dX6_sourceOfUse_22 rfl rfl ?_
        refine V_iconst (v := nI 2) dX6_sourceOfUse_23 (by decide) ?_
        refine V_aload_n dX6_sourceOfUse_24 rfl rfl ?_
        refine V_iload_n dX6_sourceOfUse_25 rfl rfl ?_
        refine V_cp1 (ctX6_isUnreached hM hG.z hw (show j < 14 by omega)) mvX6_isUnreached lkX6_199 hM.1 rfl rfl rfl (Nat.le_of_ble_eq_true rfl) ⟨⟨Nat.le_of_ble_eq_true rfl, Nat.le_of_ble_eq_true rfl⟩, Nat.le_of_ble_eq_true rfl, Nat.le_of_ble_eq_true rfl⟩ dX6_sourceOfUse_26 (fun y μ1 hx => ?_)
        obtain ⟨rfl, m1, rfl, hn, ho⟩ := hx
        have hG1 := GM_off hG.z ho
        rw [hr]
        refine V_cv1 (ctX6_fails hM (k := nI 2) (c := false)) mvX6_fails lkX6_100 hM.1 rfl rfl rfl (Nat.le_of_ble_eq_true rfl) ⟨⟨Nat.le_of_ble_eq_true rfl, Nat.le_of_ble_eq_true rfl⟩, Nat.le_of_ble_eq_true rfl, Nat.le_of_ble_eq_true rfl⟩ dX6_sourceOfUse_29 ?_
        refine V_ifneB 61 dX6_sourceOfUse_32 (by decide) (fun h32 => absurd (h32.symm.trans rfl) (by decide)) (fun h32 => ?_)
        refine V_aload_n dX6_sourceOfUse_35 rfl rfl ?_
        refine V_iconst (v := nI 3) dX6_sourceOfUse_36 (by decide) ?_
        refine V_aload_n dX6_sourceOfUse_37 rfl rfl ?_
        refine V_getR frX6_22 hM.1 rfl dX6_sourceOfUse_38 ?_
        refine V_iload_n dX6_sourceOfUse_41 rfl rfl ?_
        refine V_aaldR hM.2.2.2.2.2.2.2.2.2.2.2.2.2.2.2.2.1 (j) rfl (show j < 14 by omega) (by decide) dX6_sourceOfUse_42 ?_
        refine V_iload_n dX6_sourceOfUse_43 rfl rfl ?_
        refine V_ialdE (hM.2.2.2.2.2.2.2.2.2.2.2.2.2.2.2.2.1.row (j := j) (show j < 14 by omega)) i rfl (by omega) (by decide) ((hG1.z.2 j (by omega)).2.2.1 i hi) dX6_sourceOfUse_44 ?_
        refine V_bipush (v := nI 10) dX6_sourceOfUse_45 (by decide) ?_
        refine V_N_ge (by omega) (by omega) 54 dX6_sourceOfUse_47 (by decide) (fun h47 => ?_) (fun h47 => ?_)
        · refine V_iconst (v := nI 0) dX6_sourceOfUse_54 (by decide) ?_
          refine V_cv1 (ctX6_fails hM (k := nI 3) (c := false)) mvX6_fails lkX6_100 hM.1 rfl rfl rfl (Nat.le_of_ble_eq_true rfl) ⟨⟨Nat.le_of_ble_eq_true rfl, Nat.le_of_ble_eq_true rfl⟩, Nat.le_of_ble_eq_true rfl, Nat.le_of_ble_eq_true rfl⟩ dX6_sourceOfUse_55 ?_
          refine V_ifeqB 63 dX6_sourceOfUse_58 (by decide) (fun h58 => ?_) (fun h58 => absurd (h58.symm.trans rfl) (by decide))
          refine V_aload_n dX6_sourceOfUse_63 rfl rfl ?_
          refine V_iload_n dX6_sourceOfUse_64 rfl rfl ?_
          refine V_iload_n dX6_sourceOfUse_65 rfl rfl ?_
          refine V_cv1 (ctX6_useSource hM hG1.z.z hw ((hn.z hw).z hw) hR hi (by omega)) mvX6_useSource lkX6_216 hM.1 rfl rfl rfl (Nat.le_of_ble_eq_true rfl) ⟨⟨Nat.le_of_ble_eq_true rfl, Nat.le_of_ble_eq_true rfl⟩, Nat.le_of_ble_eq_true rfl, Nat.le_of_ble_eq_true rfl⟩ dX6_sourceOfUse_66 ?_
          exact V_iretP rfl ⟨rfl, MQz hA hS (kep.rf.z.an ho).z.z (u2_s _ _ _ _)⟩ ⟨Nat.le_of_ble_eq_true rfl, Nat.le_of_ble_eq_true rfl⟩ dX6_sourceOfUse_69
        · exfalso
          omega

theorem sm_cut (hw : Wf G) {f : Nat → Nat} : sm (fun b => if bp (Rc G b) = true then f b else 0) 14 = sm (fun b => if bp (Rc G b) = true then f b else 0) G.1 := by
  have h14 := hw.2.1
  have key : ∀ d, G.1 + d ≤ 14 → sm (fun b => if bp (Rc G b) = true then f b else 0) (G.1 + d) = sm (fun b => if bp (Rc G b) = true then f b else 0) G.1 := by
    intro d
    induction d with
    | zero => intro _; rfl
    | succ d ih =>
      intro h
      rw [← Nat.add_assoc, sm, ih (by omega), if_neg (fun q => by have := (bp_t.mp q).lt hw; omega), Nat.add_zero]
  have := key (14 - G.1) (by omega)
  rw [show G.1 + (14 - G.1) = 14 by omega] at this
  exact this
theorem ctX6_countUses (hM : ML σ m) (hG : GM mi m G) (hw : Wf G) (hn : AN mi m G) {v : Nat} {s : Int32} (hv : v < 4) : Ct κ 0 0 3 mrX6_countUses [.ref m, .int (nI v), .int s] (MM σ mi ml) (.inl (some (.int (nI (usA G v s))))) (MM σ mi ml) := by
  refine Ct.of rfl (by simp [Value.category]) (Nat.le_of_ble_eq_true rfl) ?_
  have h14 := hw.2.1
  have lp : ∀ b, b ≤ G.1 → ∀ o5, V κ (phi κ mrX6_countUses 3 0 0 (.inl (some (.int (nI (usA G v s))))) (MM σ mi ml)) 0 0 5 [some (.ref m), some (.int (nI v)), some (.int s), some (.int (nI (sm (fun b => if bp (Rc G b) = true then usN G v s b else 0) b))), some (.int (nI b)), o5] [] (MM σ mi ml) := loop_up _ (fun b hb ih o5 => by
    have h6 := (hw.2.2.1 b).1
    have lpK : b < G.1 → ∀ k, k ≤ (G.2.1 b).length → V κ (phi κ mrX6_countUses 3 0 0 (.inl (some (.int (nI (usA G v s))))) (MM σ mi ml)) 0 0 17 [some (.ref m), some (.int (nI v)), some (.int s), some (.int (nI (sm (fun b => if bp (Rc G b) = true then usN G v s b else 0) b + if bp (Rc G b) = true then cnt (fun k => decide ((G.2.1 b).getD k 0 = 10 + v) && decide (nI (srcU G b k) = s)) k else 0))), some (.int (nI b)), some (.int (nI k))] [] (MM σ mi ml) := fun hb2 => loop_up _ (fun k hk ih2 => by
      refine V_iload dX6_countUses_17 rfl ?_
      refine V_aload_n dX6_countUses_19 rfl rfl ?_
      refine V_getR frX6_13 hM.1 rfl dX6_countUses_20 ?_
      refine V_iload dX6_countUses_23 rfl ?_
      refine V_ialdE hM.2.1 b rfl (by omega) (by decide) ((hG.2 b (by omega)).1) dX6_countUses_25 ?_
      refine V_N_ge (by omega) (by omega) 84 dX6_countUses_26 (by decide) (fun h26 => ?_) (fun h26 => ?_)
      · refine V_iinc1 dX6_countUses_84 rfl (Nat.le_of_ble_eq_true rfl) ?_
        refine V_goto 5 dX6_countUses_87 (by decide) ?_
        exact V.cL (ih hb2 _) (by rw [show k = (G.2.1 b).length by omega]; rfl)
      · have ha := act14 hw h26
        refine V_aload_n dX6_countUses_29 rfl rfl ?_
        refine V_getE frX6_155 hM.1 rfl hn.1.1 dX6_countUses_30 ?_
        refine V_iload dX6_countUses_33 rfl ?_
        refine V_cs1 (ctX6_hasM (by omega)) msX6_has lkX6_158 rfl rfl (Nat.le_of_ble_eq_true rfl) ⟨⟨Nat.le_of_ble_eq_true rfl, Nat.le_of_ble_eq_true rfl⟩, Nat.le_of_ble_eq_true rfl, Nat.le_of_ble_eq_true rfl⟩ dX6_countUses_35 ?_
        refine V_ifeqB 84 dX6_countUses_38 (by decide) (fun h38 => ?_) (fun h38 => ?_)
        · refine V_iinc1 dX6_countUses_84 rfl (Nat.le_of_ble_eq_true rfl) ?_
          refine V_goto 5 dX6_countUses_87 (by decide) ?_
          exact V.cL (ih hb2 _) (by rw [show (if bp (Rc G b) = true then cnt (fun k => decide ((G.2.1 b).getD k 0 = 10 + v) && decide (nI (srcU G b k) = s)) k else 0) = 0 from if_neg (by rw [h38]; decide), sm, if_neg (by rw [h38]; decide)]; rfl)
        · refine V_iload_n dX6_countUses_41 rfl rfl ?_
          refine V_aload_n dX6_countUses_42 rfl rfl ?_
          refine V_getR frX6_22 hM.1 rfl dX6_countUses_43 ?_
          refine V_iload dX6_countUses_46 rfl ?_
          refine V_aaldR hM.2.2.2.2.2.2.2.2.2.2.2.2.2.2.2.2.1 (b) rfl (show b < 14 by omega) (by decide) dX6_countUses_48 ?_
          refine V_iload dX6_countUses_49 rfl ?_
          refine V_ialdE (hM.2.2.2.2.2.2.2.2.2.2.2.2.2.2.2.2.1.row (j := b) (show b < 14 by omega)) k rfl (by omega) (by decide) ((hG.2 b (by omega)).2.2.1 k h26) dX6_countUses_51 ?_
          refine V_bipush (v := nI 10) dX6_countUses_52 (by decide) ?_
          refine V_iload_n dX6_countUses_54 rfl rfl ?_
          refine V_iadd dX6_countUses_55 ?_
          refine V_top (nI_add 10 v) ?_
          refine V_N_ne (by omega) (by omega) 75 dX6_countUses_56 (by decide) (fun h56 => ?_) (fun h56 => ?_)
          · refine V_iconst (v := nI 0) dX6_countUses_75 (by decide) ?_
            refine V_iadd dX6_countUses_76 ?_
            refine V_top (nI_add _ _) ?_
            refine V_istore_n dX6_countUses_77 rfl (Nat.le_of_ble_eq_true rfl) ?_
            refine V_iinc1 dX6_countUses_78 rfl (Nat.le_of_ble_eq_true rfl) ?_
            refine V_goto 17 dX6_countUses_81 (by decide) ?_
            exact V.cL (ih2 h26) (by rw [if_pos h38, if_pos h38, ← cnt_f (P := fun k => decide ((G.2.1 b).getD k 0 = 10 + v) && decide (nI (srcU G b k) = s)) (by show (_ && _) = false; rw [decide_eq_false h56]; rfl), Nat.add_zero]; rfl)
          · refine V_aload_n dX6_countUses_59 rfl rfl ?_
            refine V_iload dX6_countUses_60 rfl ?_
            refine V_iload dX6_countUses_62 rfl ?_
            refine V_cv1 (ctX6_useSource hM hG hw hn (bp_t.mp h38) h26 (by omega)) mvX6_useSource lkX6_216 hM.1 rfl rfl rfl (Nat.le_of_ble_eq_true rfl) ⟨⟨Nat.le_of_ble_eq_true rfl, Nat.le_of_ble_eq_true rfl⟩, Nat.le_of_ble_eq_true rfl, Nat.le_of_ble_eq_true rfl⟩ dX6_countUses_64 ?_
            refine V_iload_n dX6_countUses_67 rfl rfl ?_
            refine V_icmp_ne 75 dX6_countUses_68 (by decide) (fun h68 => ?_) (fun h68 => ?_)
            · refine V_iconst (v := nI 0) dX6_countUses_75 (by decide) ?_
              refine V_iadd dX6_countUses_76 ?_
              refine V_top (nI_add _ _) ?_
              refine V_istore_n dX6_countUses_77 rfl (Nat.le_of_ble_eq_true rfl) ?_
              refine V_iinc1 dX6_countUses_78 rfl (Nat.le_of_ble_eq_true rfl) ?_
              refine V_goto 17 dX6_countUses_81 (by decide) ?_
              exact V.cL (ih2 h26) (by rw [if_pos h38, if_pos h38, ← cnt_f (P := fun k => decide ((G.2.1 b).getD k 0 = 10 + v) && decide (nI (srcU G b k) = s)) (by show (_ && _) = false; rw [decide_eq_false h68, Bool.and_false]), Nat.add_zero]; rfl)
            · refine V_iconst (v := nI 1) dX6_countUses_71 (by decide) ?_
              refine V_goto 76 dX6_countUses_72 (by decide) ?_
              refine V_iadd dX6_countUses_76 ?_
              refine V_top (nI_add _ _) ?_
              refine V_istore_n dX6_countUses_77 rfl (Nat.le_of_ble_eq_true rfl) ?_
              refine V_iinc1 dX6_countUses_78 rfl (Nat.le_of_ble_eq_true rfl) ?_
              refine V_goto 17 dX6_countUses_81 (by decide) ?_
              exact V.cL (ih2 h26) (by rw [if_pos h38, if_pos h38, ← cnt_t (P := fun k => decide ((G.2.1 b).getD k 0 = 10 + v) && decide (nI (srcU G b k) = s)) (by show (_ && _) = true; rw [decide_eq_true h56, decide_eq_true h68]; rfl), ← Nat.add_assoc]; rfl)
      )
    refine V_iload dX6_countUses_5 rfl ?_
    refine V_aload_n dX6_countUses_7 rfl rfl ?_
    refine V_getE frX6_7 hM.1 rfl hG.1 dX6_countUses_8 ?_
    refine V_N_ge (by omega) (by omega) 90 dX6_countUses_11 (by decide) (fun h11 => ?_) (fun h11 => ?_)
    · refine V_iload_n dX6_countUses_90 rfl rfl ?_
      exact V_iret rfl (oI (by unfold usA; rw [sm_cut hw, show b = G.1 by omega])) rfl ⟨Nat.le_of_ble_eq_true rfl, Nat.le_of_ble_eq_true rfl⟩ dX6_countUses_91
    · refine V_iconst (v := nI 0) dX6_countUses_14 (by decide) ?_
      refine V_istore dX6_countUses_15 (Nat.le_of_ble_eq_true rfl) ?_
      exact V.cL (lpK h11 0 (Nat.zero_le _)) (by rw [show (if bp (Rc G b) = true then cnt (fun k => decide ((G.2.1 b).getD k 0 = 10 + v) && decide (nI (srcU G b k) = s)) 0 else 0) = 0 by split <;> rfl, Nat.add_zero]; rfl)
    )
  refine V_iconst (v := nI 0) dX6_countUses_0 (by decide) ?_
  refine V_istore_n dX6_countUses_1 rfl (Nat.le_of_ble_eq_true rfl) ?_
  refine V_iconst (v := nI 0) dX6_countUses_2 (by decide) ?_
  refine V_istore dX6_countUses_3 (Nat.le_of_ble_eq_true rfl) ?_
  exact lp 0 (Nat.zero_le _) _

theorem ctX6_usesOf (hM : ML σ m) (hA : MA mi m S) (hS : SOK S) {v s : Int32} : CtP κ 0 0 24 mrX6_usesOf [.ref m, .int v, .int s] (MM σ mi ml) (MRz σ mi ml m (rs_usesOf S v s)) := by
  have hw := hS.1
  have h14 := hw.2.1
  have hG := hA.1
  cases hv : inR v 4 with
  | false =>
    rw [show rs_usesOf S v s = (1, 0, S) from by unfold rs_usesOf; rw [if_pos hv]]
    refine CtP.of rfl (by simp [Value.category]) (Nat.le_of_ble_eq_true rfl) ?_
    refine V_aload_n dX6_usesOf_0 rfl rfl ?_
    refine V_iconst (v := nI 1) dX6_usesOf_1 (by decide) ?_
    refine V_iload_n dX6_usesOf_2 rfl rfl ?_
    refine V_cs1 (ctX6_isVariable) msX6_isVariable lkX6_202 rfl rfl (Nat.le_of_ble_eq_true rfl) ⟨⟨Nat.le_of_ble_eq_true rfl, Nat.le_of_ble_eq_true rfl⟩, Nat.le_of_ble_eq_true rfl, Nat.le_of_ble_eq_true rfl⟩ dX6_usesOf_3 ?_
    refine V_ifneB 13 dX6_usesOf_6 (by decide) (fun h6 => absurd (h6.symm.trans hv) (by decide)) (fun h6 => ?_)
    refine V_iconst (v := nI 1) dX6_usesOf_9 (by decide) ?_
    refine V_goto 14 dX6_usesOf_10 (by decide) ?_
    refine V_cv1 (ctX6_fails hM (k := nI 1) (c := true)) mvX6_fails lkX6_100 hM.1 rfl rfl rfl (Nat.le_of_ble_eq_true rfl) ⟨⟨Nat.le_of_ble_eq_true rfl, Nat.le_of_ble_eq_true rfl⟩, Nat.le_of_ble_eq_true rfl, Nat.le_of_ble_eq_true rfl⟩ dX6_usesOf_14 ?_
    refine V_ifeqB 22 dX6_usesOf_17 (by decide) (fun h17 => absurd (h17.symm.trans rfl) (by decide)) (fun h17 => ?_)
    refine V_iconst (v := nI 0) dX6_usesOf_20 (by decide) ?_
    exact V_iretP rfl ⟨rfl, MQz hA hS (by first | exact kep.rf.z | exact kep.rf.z.z | exact kep.rf.z.z.z) (u2_s _ _ _ _)⟩ ⟨Nat.le_of_ble_eq_true rfl, Nat.le_of_ble_eq_true rfl⟩ dX6_usesOf_21

  | true =>
    obtain ⟨i, hi, rfl⟩ := inR_t (by omega) hv
    have ti := tn_nI (show i < 2 ^ 31 by omega)
    rw [show rs_usesOf S (nI i) s = (0, nI (usA S.1 i s), S) from by unfold rs_usesOf; rw [ti, if_neg (by rw [hv]; decide)]]
    refine CtP.of rfl (by simp [Value.category]) (Nat.le_of_ble_eq_true rfl) ?_
    refine V_aload_n dX6_usesOf_0 rfl rfl ?_
    refine V_iconst (v := nI 1) dX6_usesOf_1 (by decide) ?_
    refine V_iload_n dX6_usesOf_2 rfl rfl ?_
    refine V_cs1 (ctX6_isVariable) msX6_isVariable lkX6_202 rfl rfl (Nat.le_of_ble_eq_true rfl) ⟨⟨Nat.le_of_ble_eq_true rfl, Nat.le_of_ble_eq_true rfl⟩, Nat.le_of_ble_eq_true rfl, Nat.le_of_ble_eq_true rfl⟩ dX6_usesOf_3 ?_
    refine V_ifneB 13 dX6_usesOf_6 (by decide) (fun h6 => ?_) (fun h6 => absurd (h6.symm.trans hv) (by decide))
    refine V_iconst (v := nI 0) dX6_usesOf_13 (by decide) ?_
    refine V_cv1 (ctX6_fails hM (k := nI 1) (c := false)) mvX6_fails lkX6_100 hM.1 rfl rfl rfl (Nat.le_of_ble_eq_true rfl) ⟨⟨Nat.le_of_ble_eq_true rfl, Nat.le_of_ble_eq_true rfl⟩, Nat.le_of_ble_eq_true rfl, Nat.le_of_ble_eq_true rfl⟩ dX6_usesOf_14 ?_
    refine V_ifeqB 22 dX6_usesOf_17 (by decide) (fun h17 => ?_) (fun h17 => absurd (h17.symm.trans rfl) (by decide))
    refine V_aload_n dX6_usesOf_22 rfl rfl ?_
    refine V_cp0 (ctX6_analyze hM hG.z hw) mvX6_analyze lkX6_196 hM.1 rfl rfl rfl (Nat.le_of_ble_eq_true rfl) ⟨⟨Nat.le_of_ble_eq_true rfl, Nat.le_of_ble_eq_true rfl⟩, Nat.le_of_ble_eq_true rfl, Nat.le_of_ble_eq_true rfl⟩ dX6_usesOf_23 (fun μ1 hx => ?_)
    obtain ⟨m1, rfl, hn, ho⟩ := hx
    have hG1 := GM_off hG.z ho
    have h01 : m1 m 0 = nI 0 := (ho _ _ (by omega) (by omega)).trans (u2_s _ _ _ _)
    refine V_aload_n dX6_usesOf_26 rfl rfl ?_
    refine V_iload_n dX6_usesOf_27 rfl rfl ?_
    refine V_iload_n dX6_usesOf_28 rfl rfl ?_
    refine V_cv1 (ctX6_countUses hM hG1 hw hn hi) mvX6_countUses lkX6_219 hM.1 rfl rfl rfl (Nat.le_of_ble_eq_true rfl) ⟨⟨Nat.le_of_ble_eq_true rfl, Nat.le_of_ble_eq_true rfl⟩, Nat.le_of_ble_eq_true rfl, Nat.le_of_ble_eq_true rfl⟩ dX6_usesOf_29 ?_
    exact V_iretP rfl ⟨rfl, MQz hA hS (kep.rf.z.an ho) h01⟩ ⟨Nat.le_of_ble_eq_true rfl, Nat.le_of_ble_eq_true rfl⟩ dX6_usesOf_32

theorem ctX6_isOperand (hM : ML σ m) (hG : GM mi m G) (hw : Wf G) (hn : AN mi m G) {v : Nat} {s : Int32} (hv : v < 4) : Ct κ 0 0 2 mrX6_isOperand [.ref m, .int (nI v), .int s] (MM σ mi ml) (.inl (some (.int (bI (bp (∃ b p, PM G v b ∧ Pd G p b ∧ nI (srcE G v p) = s)))))) (MM σ mi ml) := by
  refine Ct.of rfl (by simp [Value.category]) (Nat.le_of_ble_eq_true rfl) ?_
  have h14 := hw.2.1
  have lp : ∀ b, b ≤ G.1 → ∀ o4, (∀ c p, c < b → PM G v c → Pd G p c → nI (srcE G v p) ≠ s) → V κ (phi κ mrX6_isOperand 2 0 0 (.inl (some (.int (bI (bp (∃ b p, PM G v b ∧ Pd G p b ∧ nI (srcE G v p) = s)))))) (MM σ mi ml)) 0 0 2 [some (.ref m), some (.int (nI v)), some (.int s), some (.int (nI b)), o4] [] (MM σ mi ml) := loop_up _ (fun b hb ih o4 j1 => by
    have lpK : b < G.1 → ∀ f, f ≤ G.1 → (∀ p, p < f → PM G v b → Pd G p b → nI (srcE G v p) ≠ s) → V κ (phi κ mrX6_isOperand 2 0 0 (.inl (some (.int (bI (bp (∃ b p, PM G v b ∧ Pd G p b ∧ nI (srcE G v p) = s)))))) (MM σ mi ml)) 0 0 13 [some (.ref m), some (.int (nI v)), some (.int s), some (.int (nI b)), some (.int (nI f))] [] (MM σ mi ml) := fun hb2 => loop_up _ (fun f hf ih2 j2 => by
      refine V_iload dX6_isOperand_13 rfl ?_
      refine V_aload_n dX6_isOperand_15 rfl rfl ?_
      refine V_getE frX6_7 hM.1 rfl hG.1 dX6_isOperand_16 ?_
      refine V_N_ge (by omega) (by omega) 70 dX6_isOperand_19 (by decide) (fun h19 => ?_) (fun h19 => ?_)
      · refine V_iinc1 dX6_isOperand_70 rfl (Nat.le_of_ble_eq_true rfl) ?_
        refine V_goto 2 dX6_isOperand_73 (by decide) ?_
        exact ih hb2 _ (fun c p hc hp hd => by
          rcases Nat.lt_or_ge c b with q | q
          · exact j1 c p q hp hd
          · have e : c = b := by omega
            subst e
            exact j2 p (by have := hd.1.lt hw; omega) hp hd)
      · refine V_aload_n dX6_isOperand_22 rfl rfl ?_
        refine V_getR frX6_65 hM.1 rfl dX6_isOperand_23 ?_
        refine V_iload_n dX6_isOperand_26 rfl rfl ?_
        refine V_ialdE hM.2.2.2.2.2.2.2.2.2.2.2.2.1 v rfl (by omega) (by decide) ((hn.2.2.2 v hv).2.2.1) dX6_isOperand_27 ?_
        refine V_iload_n dX6_isOperand_28 rfl rfl ?_
        refine V_cs1 (ctX6_hasM (by omega)) msX6_has lkX6_158 rfl rfl (Nat.le_of_ble_eq_true rfl) ⟨⟨Nat.le_of_ble_eq_true rfl, Nat.le_of_ble_eq_true rfl⟩, Nat.le_of_ble_eq_true rfl, Nat.le_of_ble_eq_true rfl⟩ dX6_isOperand_29 ?_
        refine V_ifeqB 70 dX6_isOperand_32 (by decide) (fun h32 => ?_) (fun h32 => ?_)
        · refine V_iinc1 dX6_isOperand_70 rfl (Nat.le_of_ble_eq_true rfl) ?_
          refine V_goto 2 dX6_isOperand_73 (by decide) ?_
          exact ih hb2 _ (fun c p hc hp hd => by
            rcases Nat.lt_or_ge c b with q | q
            · exact j1 c p q hp hd
            · have e : c = b := by omega
              subst e
              exact absurd hp (bp_f.mp h32))
        · refine V_aload_n dX6_isOperand_35 rfl rfl ?_
          refine V_getR frX6_47 hM.1 rfl dX6_isOperand_36 ?_
          refine V_iload_n dX6_isOperand_39 rfl rfl ?_
          refine V_ialdE hM.2.2.2.2.2.2.1 b rfl (by omega) (by decide) (hn.1.2 b hb2) dX6_isOperand_40 ?_
          refine V_iload dX6_isOperand_41 rfl ?_
          refine V_cs1 (ctX6_hasM (by omega)) msX6_has lkX6_158 rfl rfl (Nat.le_of_ble_eq_true rfl) ⟨⟨Nat.le_of_ble_eq_true rfl, Nat.le_of_ble_eq_true rfl⟩, Nat.le_of_ble_eq_true rfl, Nat.le_of_ble_eq_true rfl⟩ dX6_isOperand_43 ?_
          refine V_ifeqB 64 dX6_isOperand_46 (by decide) (fun h46 => ?_) (fun h46 => ?_)
          · refine V_iinc1 dX6_isOperand_64 rfl (Nat.le_of_ble_eq_true rfl) ?_
            refine V_goto 13 dX6_isOperand_67 (by decide) ?_
            exact ih2 h19 (fun p hp hm hd => by
              rcases Nat.lt_or_ge p f with q | q
              · exact j2 p q hm hd
              · have e : p = f := by omega
                subst e
                exact absurd hd (bp_f.mp h46))
          · refine V_aload_n dX6_isOperand_49 rfl rfl ?_
            refine V_getR frX6_71 hM.1 rfl dX6_isOperand_50 ?_
            refine V_iload dX6_isOperand_53 rfl ?_
            refine V_aaldR hM.2.2.2.2.2.2.2.2.2.2.2.2.2.2.2.2.2.2.2.2.1 (f) rfl (show f < 14 by omega) (by decide) dX6_isOperand_55 ?_
            refine V_iload_n dX6_isOperand_56 rfl rfl ?_
            refine V_ialdE (hM.2.2.2.2.2.2.2.2.2.2.2.2.2.2.2.2.2.2.2.2.1.row (j := f) (show f < 14 by omega)) v rfl (by omega) (by decide) (((hn.2.2.2 v hv).2.2.2 f (bp_t.mp h46).1).2) dX6_isOperand_57 ?_
            refine V_iload_n dX6_isOperand_58 rfl rfl ?_
            refine V_icmp_ne 64 dX6_isOperand_59 (by decide) (fun h59 => ?_) (fun h59 => ?_)
            · refine V_iinc1 dX6_isOperand_64 rfl (Nat.le_of_ble_eq_true rfl) ?_
              refine V_goto 13 dX6_isOperand_67 (by decide) ?_
              exact ih2 h19 (fun p hp hm hd => by
                rcases Nat.lt_or_ge p f with q | q
                · exact j2 p q hm hd
                · have e : p = f := by omega
                  subst e
                  exact h59)
            · refine V_iconst (v := nI 1) dX6_isOperand_62 (by decide) ?_
              exact V_zret rfl rfl (oI (by rw [bp_pos ⟨b, f, bp_t.mp h32, bp_t.mp h46, h59⟩]; rfl)) rfl ⟨Nat.le_of_ble_eq_true rfl, Nat.le_of_ble_eq_true rfl⟩ dX6_isOperand_63
      )
    refine V_iload_n dX6_isOperand_2 rfl rfl ?_
    refine V_aload_n dX6_isOperand_3 rfl rfl ?_
    refine V_getE frX6_7 hM.1 rfl hG.1 dX6_isOperand_4 ?_
    refine V_N_ge (by omega) (by omega) 76 dX6_isOperand_7 (by decide) (fun h7 => ?_) (fun h7 => ?_)
    · refine V_iconst (v := nI 0) dX6_isOperand_76 (by decide) ?_
      exact V_zret rfl rfl (oI (by rw [bp_neg (fun ⟨c, p, q1, q2, q3⟩ => j1 c p (by have := q1.1.rc.lt hw; omega) q1 q2 q3)]; rfl)) rfl ⟨Nat.le_of_ble_eq_true rfl, Nat.le_of_ble_eq_true rfl⟩ dX6_isOperand_77
    · refine V_iconst (v := nI 0) dX6_isOperand_10 (by decide) ?_
      refine V_istore dX6_isOperand_11 (Nat.le_of_ble_eq_true rfl) ?_
      exact lpK h7 0 (Nat.zero_le _) (fun p hp => absurd hp (Nat.not_lt_zero p))
    )
  refine V_iconst (v := nI 0) dX6_isOperand_0 (by decide) ?_
  refine V_istore_n dX6_isOperand_1 rfl (Nat.le_of_ble_eq_true rfl) ?_
  exact lp 0 (Nat.zero_le _) _ (fun c p hc => absurd hc (Nat.not_lt_zero c))

theorem sBg_act (hw : Wf G) {v : Nat} : ∀ n b c k, Rc G b → sBg G v n b = 10 * c + k → c < 14 → k < 6 → k < (G.2.1 c).length ∧ (G.2.1 c).getD k 0 = v
  | 0, b, c, k, _, h, hc, hk => by have h' : 2000 = 10 * c + k := h; omega
  | n + 1, b, c, k, hb, h, hc, hk => by
    have hb2 := hb.lt14 hw
    rw [sBg] at h
    split at h
    · omega
    · split at h
      · omega
      · next h0 =>
        have hp := par14 hw hb h0
        split at h
        · next z hz =>
          have h6 := ldef6 hw (Nat.le_refl _) hz
          have e1 : par G b = c := by omega
          have e2 : z = k := by omega
          have hs := ldef_some _ _ hz
          rw [e1, e2] at hs
          exact hs
        · exact sBg_act hw n _ c k (par_rc hw hb h0) h hc hk
theorem srcE_act (hw : Wf G) {v b c k : Nat} (hb : Rc G b) (h : srcE G v b = 10 * c + k) (hc : c < 14) (hk : k < 6) : (G.2.1 c).getD k 0 = v := by
  have hb2 := hb.lt14 hw
  unfold srcE at h
  split at h
  · next z hz =>
    have h6 := ldef6 hw (Nat.le_refl _) hz
    have e1 : b = c := by omega
    have e2 : z = k := by omega
    have hs := ldef_some _ _ hz
    rw [e1, e2] at hs
    exact hs.2
  · exact (sBg_act hw 14 b c k hb h hc hk).2
theorem srcU_act (hw : Wf G) {b j c k : Nat} (hb : Rc G b) (hj : j < (G.2.1 b).length) (h : srcU G b j = 10 * c + k) (hc : c < 14) (hk : k < 6) : (G.2.1 c).getD k 0 = (G.2.1 b).getD j 0 - 10 := by
  have hb2 := hb.lt14 hw
  unfold srcU at h
  split at h
  · next z hz =>
    have h6 := ldef6 hw (Nat.le_of_lt hj) hz
    have e1 : b = c := by omega
    have e2 : z = k := by omega
    have hs := ldef_some _ _ hz
    rw [e1] at hs
    rw [e2] at hs
    rw [e1]
    exact hs.2
  · exact (sBg_act hw 14 b c k hb h hc hk).2
theorem sm_pos {f : Nat → Nat} : ∀ n, 0 < sm f n ↔ ∃ k, k < n ∧ 0 < f k
  | 0 => ⟨fun h => absurd h (Nat.lt_irrefl 0), fun ⟨k, hk, _⟩ => absurd hk (Nat.not_lt_zero k)⟩
  | n + 1 => by
    rw [sm]
    constructor
    · intro h
      by_cases h1 : 0 < sm f n
      · obtain ⟨k, hk, h2⟩ := (sm_pos n).mp h1
        exact ⟨k, by omega, h2⟩
      · exact ⟨n, by omega, by omega⟩
    · rintro ⟨k, hk, h2⟩
      by_cases e : k = n
      · subst e; omega
      · have := (sm_pos (f := f) n).mpr ⟨k, by omega, h2⟩; omega
theorem cnt_pos' {P : Nat → Bool} : ∀ n, 0 < cnt P n ↔ ∃ k, k < n ∧ P k = true
  | 0 => ⟨fun h => absurd h (Nat.lt_irrefl 0), fun ⟨k, hk, _⟩ => absurd hk (Nat.not_lt_zero k)⟩
  | n + 1 => by
    refine ⟨fun h => ?_, fun ⟨k, hk, h2⟩ => cnt_pos _ k hk h2⟩
    rw [cnt] at h
    by_cases hp : P n = true
    · exact ⟨n, by omega, hp⟩
    · rw [if_neg hp] at h
      obtain ⟨k, hk, h2⟩ := (cnt_pos' n).mp h
      exact ⟨k, by omega, h2⟩
theorem usA_pos (hw : Wf G) {v : Nat} {s : Int32} : 0 < usA G v s ↔ ∃ b k, Rc G b ∧ k < (G.2.1 b).length ∧ (G.2.1 b).getD k 0 = 10 + v ∧ nI (srcU G b k) = s := by
  unfold usA
  rw [sm_pos]
  constructor
  · rintro ⟨b, hb, h⟩
    split at h
    · next hR =>
      unfold usN at h
      obtain ⟨k, hk, h2⟩ := (cnt_pos' _).mp h
      rw [Bool.and_eq_true, decide_eq_true_iff, decide_eq_true_iff] at h2
      exact ⟨b, k, bp_t.mp hR, hk, h2.1, h2.2⟩
    · exact absurd h (Nat.lt_irrefl 0)
  · rintro ⟨b, k, hR, hk, h1, h2⟩
    refine ⟨b, hR.lt14 hw, ?_⟩
    rw [if_pos (bp_pos hR)]
    exact (cnt_pos' _).mpr ⟨k, hk, by rw [decide_eq_true h1, decide_eq_true h2]; rfl⟩
theorem usA_le (hw : Wf G) {v : Nat} {s : Int32} : usA G v s ≤ 84 := by
  have := sm_le (f := fun b => if bp (Rc G b) = true then usN G v s b else 0) (c := 6) 14 (fun b _ => by
    show (if bp (Rc G b) = true then usN G v s b else 0) ≤ 6
    by_cases h : bp (Rc G b) = true
    · rw [if_pos h]; exact Nat.le_trans (cnt_le _ _) (hw.2.2.1 b).1
    · rw [if_neg h]; omega)
  unfold usA
  omega
theorem Need_M (hw : Wf G) {c k : Nat} (hc : c < 14) (hk : k < (G.2.1 c).length) (hd : (G.2.1 c).getD k 0 < 10) : Need G (10 * c + k) ↔ (0 < usA G ((G.2.1 c).getD k 0) (nI (10 * c + k)) ∨ ∃ b p, PM G ((G.2.1 c).getD k 0) b ∧ Pd G p b ∧ nI (srcE G ((G.2.1 c).getD k 0) p) = nI (10 * c + k)) := by
  have h6 := (hw.2.2.1 c).1
  have ha := act14 hw hk
  rw [usA_pos hw]
  constructor
  · rintro ⟨b, hb, ⟨j, hj, hu, hs⟩ | ⟨v, hv, ⟨y, he, hm⟩, hs⟩⟩
    · have h2 := srcU_act hw hb hj hs.symm hc (by omega)
      exact Or.inl ⟨b, j, hb, hj, by omega, by rw [hs]⟩
    · have h2 := srcE_act hw hb hs.symm hc (by omega)
      rw [h2]
      exact Or.inr ⟨y, b, hm, ⟨hb, he⟩, by rw [hs]⟩
  · rintro (⟨b, j, hb, hj, h1, h2⟩ | ⟨b, p, h1, h2, h3⟩)
    · have hle := srcU_le hw hb hj
      exact ⟨b, hb, Or.inl ⟨j, hj, by omega, ((nI_eq (by omega) (by omega)).mp h2).symm⟩⟩
    · have hle := srcE_le hw (v := (G.2.1 c).getD k 0) h2.1
      exact ⟨p, h2.1, Or.inr ⟨_, by omega, ⟨b, h2.2, h1⟩, ((nI_eq (by omega) (by omega)).mp h3).symm⟩⟩
theorem ctX6_unneeded (hM : ML σ m) (hA : MA mi m S) (hS : SOK S)  : CtP κ 0 0 24 mrX6_unneeded [.ref m] (MM σ mi ml) (MRz σ mi ml m (rs_unneeded S)) := by
  have hw := hS.1
  have h14 := hw.2.1
  have hG := hA.1
  unfold rs_unneeded
  refine CtP.of rfl (by simp [Value.category]) (Nat.le_of_ble_eq_true rfl) ?_
  have lp : ∀ m1, GM m1 m S.1 → AN m1 m S.1 → (∃ m', MM σ m1 ml = MM σ m' ml ∧ MA m' m S ∧ m' m 0 = nI 0 ∧ ∀ a i, (a < m ∨ m + 101 ≤ a) → m' a i = mi a i) → ∀ b, b ≤ S.1.1 → ∀ o3 o4 o5, V κ (phiP κ mrX6_unneeded 24 0 0 (MRz σ mi ml m (0, nI (unN S.1), S))) 0 0 13 [some (.ref m), some (.int (nI (sm (fun b => if bp (Rc S.1 b) = true then unB S.1 b else 0) b))), some (.int (nI b)), o3, o4, o5] [] (MM σ m1 ml) := fun m1 hG hn hq => loop_up _ (fun b hb ih o3 o4 o5 => by
    have h6 := (hw.2.2.1 b).1
    have lpK : b < S.1.1 → ∀ k, k ≤ (S.1.2.1 b).length → ∀ o4 o5, V κ (phiP κ mrX6_unneeded 24 0 0 (MRz σ mi ml m (0, nI (unN S.1), S))) 0 0 23 [some (.ref m), some (.int (nI (sm (fun b => if bp (Rc S.1 b) = true then unB S.1 b else 0) b + if bp (Rc S.1 b) = true then cnt (fun k => decide ((S.1.2.1 b).getD k 0 < 10) && !bp (Need S.1 (10 * b + k))) k else 0))), some (.int (nI b)), some (.int (nI k)), o4, o5] [] (MM σ m1 ml) := fun hb2 => loop_up _ (fun k hk ih2 o4 o5 => by
      have hus : ∀ v s, usA S.1 v s ≤ 84 := fun v s => usA_le hw
      refine V_iload_n dX6_unneeded_23 rfl rfl ?_
      refine V_aload_n dX6_unneeded_24 rfl rfl ?_
      refine V_getR frX6_13 hM.1 rfl dX6_unneeded_25 ?_
      refine V_iload_n dX6_unneeded_28 rfl rfl ?_
      refine V_ialdE hM.2.1 b rfl (by omega) (by decide) ((hG.2 b (by omega)).1) dX6_unneeded_29 ?_
      refine V_N_ge (by omega) (by omega) 117 dX6_unneeded_30 (by decide) (fun h30 => ?_) (fun h30 => ?_)
      · refine V_iinc1 dX6_unneeded_117 rfl (Nat.le_of_ble_eq_true rfl) ?_
        refine V_goto 13 dX6_unneeded_120 (by decide) ?_
        exact V.cL (ih hb2 _ _ _) (by rw [show k = (S.1.2.1 b).length by omega]; rfl)
      · have ha := act14 hw h30
        refine V_aload_n dX6_unneeded_33 rfl rfl ?_
        refine V_getE frX6_155 hM.1 rfl hn.1.1 dX6_unneeded_34 ?_
        refine V_iload_n dX6_unneeded_37 rfl rfl ?_
        refine V_cs1 (ctX6_hasM (by omega)) msX6_has lkX6_158 rfl rfl (Nat.le_of_ble_eq_true rfl) ⟨⟨Nat.le_of_ble_eq_true rfl, Nat.le_of_ble_eq_true rfl⟩, Nat.le_of_ble_eq_true rfl, Nat.le_of_ble_eq_true rfl⟩ dX6_unneeded_38 ?_
        refine V_ifeqB 117 dX6_unneeded_41 (by decide) (fun h41 => ?_) (fun h41 => ?_)
        · refine V_iinc1 dX6_unneeded_117 rfl (Nat.le_of_ble_eq_true rfl) ?_
          refine V_goto 13 dX6_unneeded_120 (by decide) ?_
          exact V.cL (ih hb2 _ _ _) (by rw [show (if bp (Rc S.1 b) = true then cnt (fun k => decide ((S.1.2.1 b).getD k 0 < 10) && !bp (Need S.1 (10 * b + k))) k else 0) = 0 from if_neg (by rw [h41]; decide), sm, if_neg (by rw [h41]; decide)]; rfl)
        · refine V_aload_n dX6_unneeded_44 rfl rfl ?_
          refine V_getR frX6_22 hM.1 rfl dX6_unneeded_45 ?_
          refine V_iload_n dX6_unneeded_48 rfl rfl ?_
          refine V_aaldR hM.2.2.2.2.2.2.2.2.2.2.2.2.2.2.2.2.1 (b) rfl (show b < 14 by omega) (by decide) dX6_unneeded_49 ?_
          refine V_iload_n dX6_unneeded_50 rfl rfl ?_
          refine V_ialdE (hM.2.2.2.2.2.2.2.2.2.2.2.2.2.2.2.2.1.row (j := b) (show b < 14 by omega)) k rfl (by omega) (by decide) ((hG.2 b (by omega)).2.2.1 k h30) dX6_unneeded_51 ?_
          refine V_istore dX6_unneeded_52 (Nat.le_of_ble_eq_true rfl) ?_
          refine V_iload dX6_unneeded_54 rfl ?_
          refine V_bipush (v := nI 10) dX6_unneeded_56 (by decide) ?_
          refine V_N_ge (by omega) (by omega) 95 dX6_unneeded_58 (by decide) (fun h58 => ?_) (fun h58 => ?_)
          · refine V_iconst (v := nI 0) dX6_unneeded_95 (by decide) ?_
            refine V_istore dX6_unneeded_96 (Nat.le_of_ble_eq_true rfl) ?_
            refine V_iload_n dX6_unneeded_98 rfl rfl ?_
            refine V_iload dX6_unneeded_99 rfl ?_
            refine V_if_eq 108 dX6_unneeded_101 (by decide) (fun h101 => ?_) (fun h101 => absurd rfl h101)
            refine V_iconst (v := nI 0) dX6_unneeded_108 (by decide) ?_
            refine V_iadd dX6_unneeded_109 ?_
            refine V_top (nI_add _ _) ?_
            refine V_istore_n dX6_unneeded_110 rfl (Nat.le_of_ble_eq_true rfl) ?_
            refine V_iinc1 dX6_unneeded_111 rfl (Nat.le_of_ble_eq_true rfl) ?_
            refine V_goto 23 dX6_unneeded_114 (by decide) ?_
            exact V.cL (ih2 h30 _ _) (by rw [if_pos h41, if_pos h41, ← cnt_f (P := fun k => decide ((S.1.2.1 b).getD k 0 < 10) && !bp (Need S.1 (10 * b + k))) (by show (_ && _) = false; rw [decide_eq_false (by omega)]; rfl), Nat.add_zero]; rfl)
          · have hNd := Need_M hw (show b < 14 by omega) h30 h58
            have hu84 := hus ((S.1.2.1 b).getD k 0) (nI (10 * b + k))
            refine V_aload_n dX6_unneeded_61 rfl rfl ?_
            refine V_iload dX6_unneeded_62 rfl ?_
            refine V_bipush (v := nI 10) dX6_unneeded_64 (by decide) ?_
            refine V_iload_n dX6_unneeded_66 rfl rfl ?_
            refine V_imul dX6_unneeded_67 ?_
            refine V_iload_n dX6_unneeded_68 rfl rfl ?_
            refine V_iadd dX6_unneeded_69 ?_
            refine V_top (show nI 10 * nI b + nI k = nI (10 * b + k) by rw [pk_mul, nI_add]) ?_
            refine V_cv1 (ctX6_countUses hM hG hw hn (by omega)) mvX6_countUses lkX6_219 hM.1 rfl rfl rfl (Nat.le_of_ble_eq_true rfl) ⟨⟨Nat.le_of_ble_eq_true rfl, Nat.le_of_ble_eq_true rfl⟩, Nat.le_of_ble_eq_true rfl, Nat.le_of_ble_eq_true rfl⟩ dX6_unneeded_70 ?_
            refine V_Z_ne (by omega) 95 dX6_unneeded_73 (by decide) (fun h73 => ?_) (fun h73 => ?_)
            · refine V_iconst (v := nI 0) dX6_unneeded_95 (by decide) ?_
              refine V_istore dX6_unneeded_96 (Nat.le_of_ble_eq_true rfl) ?_
              refine V_iload_n dX6_unneeded_98 rfl rfl ?_
              refine V_iload dX6_unneeded_99 rfl ?_
              refine V_if_eq 108 dX6_unneeded_101 (by decide) (fun h101 => ?_) (fun h101 => absurd rfl h101)
              refine V_iconst (v := nI 0) dX6_unneeded_108 (by decide) ?_
              refine V_iadd dX6_unneeded_109 ?_
              refine V_top (nI_add _ _) ?_
              refine V_istore_n dX6_unneeded_110 rfl (Nat.le_of_ble_eq_true rfl) ?_
              refine V_iinc1 dX6_unneeded_111 rfl (Nat.le_of_ble_eq_true rfl) ?_
              refine V_goto 23 dX6_unneeded_114 (by decide) ?_
              exact V.cL (ih2 h30 _ _) (by rw [if_pos h41, if_pos h41, ← cnt_f (P := fun k => decide ((S.1.2.1 b).getD k 0 < 10) && !bp (Need S.1 (10 * b + k))) (by show (_ && _) = false; rw [bp_pos (hNd.mpr (Or.inl (by omega)))]; exact Bool.and_false _), Nat.add_zero]; rfl)
            · refine V_aload_n dX6_unneeded_76 rfl rfl ?_
              refine V_iload dX6_unneeded_77 rfl ?_
              refine V_bipush (v := nI 10) dX6_unneeded_79 (by decide) ?_
              refine V_iload_n dX6_unneeded_81 rfl rfl ?_
              refine V_imul dX6_unneeded_82 ?_
              refine V_iload_n dX6_unneeded_83 rfl rfl ?_
              refine V_iadd dX6_unneeded_84 ?_
              refine V_top (show nI 10 * nI b + nI k = nI (10 * b + k) by rw [pk_mul, nI_add]) ?_
              refine V_cv1 (ctX6_isOperand hM hG hw hn (by omega)) mvX6_isOperand lkX6_222 hM.1 rfl rfl rfl (Nat.le_of_ble_eq_true rfl) ⟨⟨Nat.le_of_ble_eq_true rfl, Nat.le_of_ble_eq_true rfl⟩, Nat.le_of_ble_eq_true rfl, Nat.le_of_ble_eq_true rfl⟩ dX6_unneeded_85 ?_
              refine V_ifneB 95 dX6_unneeded_88 (by decide) (fun h88 => ?_) (fun h88 => ?_)
              · refine V_iconst (v := nI 0) dX6_unneeded_95 (by decide) ?_
                refine V_istore dX6_unneeded_96 (Nat.le_of_ble_eq_true rfl) ?_
                refine V_iload_n dX6_unneeded_98 rfl rfl ?_
                refine V_iload dX6_unneeded_99 rfl ?_
                refine V_if_eq 108 dX6_unneeded_101 (by decide) (fun h101 => ?_) (fun h101 => absurd rfl h101)
                refine V_iconst (v := nI 0) dX6_unneeded_108 (by decide) ?_
                refine V_iadd dX6_unneeded_109 ?_
                refine V_top (nI_add _ _) ?_
                refine V_istore_n dX6_unneeded_110 rfl (Nat.le_of_ble_eq_true rfl) ?_
                refine V_iinc1 dX6_unneeded_111 rfl (Nat.le_of_ble_eq_true rfl) ?_
                refine V_goto 23 dX6_unneeded_114 (by decide) ?_
                exact V.cL (ih2 h30 _ _) (by rw [if_pos h41, if_pos h41, ← cnt_f (P := fun k => decide ((S.1.2.1 b).getD k 0 < 10) && !bp (Need S.1 (10 * b + k))) (by show (_ && _) = false; rw [bp_pos (hNd.mpr (Or.inr (bp_t.mp h88)))]; exact Bool.and_false _), Nat.add_zero]; rfl)
              · refine V_iconst (v := nI 1) dX6_unneeded_91 (by decide) ?_
                refine V_goto 96 dX6_unneeded_92 (by decide) ?_
                refine V_istore dX6_unneeded_96 (Nat.le_of_ble_eq_true rfl) ?_
                refine V_iload_n dX6_unneeded_98 rfl rfl ?_
                refine V_iload dX6_unneeded_99 rfl ?_
                refine V_if_eq 108 dX6_unneeded_101 (by decide) (fun h101 => absurd h101 (by decide)) (fun h101 => ?_)
                refine V_iconst (v := nI 1) dX6_unneeded_104 (by decide) ?_
                refine V_goto 109 dX6_unneeded_105 (by decide) ?_
                refine V_iadd dX6_unneeded_109 ?_
                refine V_top (nI_add _ _) ?_
                refine V_istore_n dX6_unneeded_110 rfl (Nat.le_of_ble_eq_true rfl) ?_
                refine V_iinc1 dX6_unneeded_111 rfl (Nat.le_of_ble_eq_true rfl) ?_
                refine V_goto 23 dX6_unneeded_114 (by decide) ?_
                exact V.cL (ih2 h30 _ _) (by rw [if_pos h41, if_pos h41, ← cnt_t (P := fun k => decide ((S.1.2.1 b).getD k 0 < 10) && !bp (Need S.1 (10 * b + k))) (by show (_ && _) = true; rw [decide_eq_true h58, bp_neg (fun q => (hNd.mp q).elim (fun z => by omega) (bp_f.mp h88))]; rfl), ← Nat.add_assoc]; rfl)
      )
    refine V_iload_n dX6_unneeded_13 rfl rfl ?_
    refine V_aload_n dX6_unneeded_14 rfl rfl ?_
    refine V_getE frX6_7 hM.1 rfl hG.1 dX6_unneeded_15 ?_
    refine V_N_ge (by omega) (by omega) 123 dX6_unneeded_18 (by decide) (fun h18 => ?_) (fun h18 => ?_)
    · refine V_iload_n dX6_unneeded_123 rfl rfl ?_
      exact V_iretP rfl ⟨by rw [show b = S.1.1 by omega]; show _ = Sum.inl (some (Value.int (nI (unN S.1)))); unfold unN; rw [sm_cut hw], hq⟩ ⟨Nat.le_of_ble_eq_true rfl, Nat.le_of_ble_eq_true rfl⟩ dX6_unneeded_124
    · refine V_iconst (v := nI 0) dX6_unneeded_21 (by decide) ?_
      refine V_istore_n dX6_unneeded_22 rfl (Nat.le_of_ble_eq_true rfl) ?_
      exact V.cL (lpK h18 0 (Nat.zero_le _) _ _) (by rw [show (if bp (Rc S.1 b) = true then cnt (fun k => decide ((S.1.2.1 b).getD k 0 < 10) && !bp (Need S.1 (10 * b + k))) 0 else 0) = 0 by split <;> rfl, Nat.add_zero]; rfl)
    )
  refine V_aload_n dX6_unneeded_0 rfl rfl ?_
  refine V_iconst (v := nI 0) dX6_unneeded_1 (by decide) ?_
  refine V_putI fpX6_83 rfl rfl hM.1 rfl dX6_unneeded_2 ?_
  refine V_aload_n dX6_unneeded_5 rfl rfl ?_
  refine V_cp0 (ctX6_analyze hM hG.z hw) mvX6_analyze lkX6_196 hM.1 rfl rfl rfl (Nat.le_of_ble_eq_true rfl) ⟨⟨Nat.le_of_ble_eq_true rfl, Nat.le_of_ble_eq_true rfl⟩, Nat.le_of_ble_eq_true rfl, Nat.le_of_ble_eq_true rfl⟩ dX6_unneeded_6 (fun μ1 hx => ?_)
  obtain ⟨m1, rfl, hn, ho⟩ := hx
  have hG1 := GM_off hG.z ho
  have h01 : m1 m 0 = nI 0 := (ho _ _ (by omega) (by omega)).trans (u2_s _ _ _ _)
  refine V_iconst (v := nI 0) dX6_unneeded_9 (by decide) ?_
  refine V_istore_n dX6_unneeded_10 rfl (Nat.le_of_ble_eq_true rfl) ?_
  refine V_iconst (v := nI 0) dX6_unneeded_11 (by decide) ?_
  refine V_istore_n dX6_unneeded_12 rfl (Nat.le_of_ble_eq_true rfl) ?_
  exact lp m1 hG1 hn (MQz hA hS (kep.rf.z.an ho) h01) 0 (Nat.zero_le _) _ _ _

end Mdl5
