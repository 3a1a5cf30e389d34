/-! SsaRepairModel: the walk, the rows of the history -/
section Mdl7
variable {κ : K0} {σ : Nat → Option Kd} {mi : Nat → Nat → Int32} {ml : Nat → Nat → Int64} {m : Nat} {G : Gr} {S : SS} {μ : Mem}
theorem ctX6_end (hM : ML σ m) {c : Nat} {Wk : Nat → Nat} (hc : c ≤ 30) (h0 : mi m 34 = nI c) (h1 : ∀ i, 1 ≤ i → i ≤ c → mi (m + 100) i = nI (Wk i)) (hz : Wk 0 = 0) : Ct κ 0 0 1 mrX6_end [.ref m] (MM σ mi ml) (.inl (some (.int (nI (Wk c))))) (MM σ mi ml) := by
  refine Ct.of rfl (by simp [Value.category]) (Nat.le_of_ble_eq_true rfl) ?_
  refine V_aload_n dX6_end_0 rfl rfl ?_
  refine V_getE frX6_97 hM.1 rfl h0 dX6_end_1 ?_
  refine V_Z_ne (by omega) 11 dX6_end_4 (by decide) (fun h4 => ?_) (fun h4 => ?_)
  · refine V_aload_n dX6_end_11 rfl rfl ?_
    refine V_getR frX6_80 hM.1 rfl dX6_end_12 ?_
    refine V_aload_n dX6_end_15 rfl rfl ?_
    refine V_getE frX6_97 hM.1 rfl h0 dX6_end_16 ?_
    refine V_ialdE hM.2.2.2.2.2.2.2.2.2.2.2.2.2.2.1 c rfl (by omega) (by decide) (h1 c (by omega) (Nat.le_refl c)) dX6_end_19 ?_
    exact V_iret rfl rfl rfl ⟨Nat.le_of_ble_eq_true rfl, Nat.le_of_ble_eq_true rfl⟩ dX6_end_20
  · refine V_iconst (v := nI 0) dX6_end_7 (by decide) ?_
    refine V_goto 20 dX6_end_8 (by decide) ?_
    exact V_iret rfl (oI (by rw [h4, hz])) rfl ⟨Nat.le_of_ble_eq_true rfl, Nat.le_of_ble_eq_true rfl⟩ dX6_end_20

theorem ctX6_walkEnd (hM : ML σ m) (hA : MA mi m S) (hS : SOK S)  : CtP κ 0 0 24 mrX6_walkEnd [.ref m] (MM σ mi ml) (MRz σ mi ml m (rs_walkEnd S)) := by
  have hw := hS.1
  have h14 := hw.2.1
  have hG := hA.1
  rw [show rs_walkEnd S = (0, nI (S.2.2.2.2.2.2 S.2.2.2.2.2.1), S) from by unfold rs_walkEnd; rfl]
  refine CtP.of rfl (by simp [Value.category]) (Nat.le_of_ble_eq_true rfl) ?_
  refine V_aload_n dX6_walkEnd_0 rfl rfl ?_
  refine V_iconst (v := nI 0) dX6_walkEnd_1 (by decide) ?_
  refine V_putI fpX6_83 rfl rfl hM.1 rfl dX6_walkEnd_2 ?_
  refine V_aload_n dX6_walkEnd_5 rfl rfl ?_
  refine V_cv1 (ctX6_end hM hS.2.2.2.2.2.1 ((u2_n _ _ (Or.inr (by decide))).trans hA.2.2.2.2.2.1) (fun i q1 q2 => (u2_n _ _ (Or.inl (by omega))).trans (hA.2.2.2.2.2.2 i q1 q2)) hS.2.2.2.2.2.2.1) mvX6_end lkX6_245 hM.1 rfl rfl rfl (Nat.le_of_ble_eq_true rfl) ⟨⟨Nat.le_of_ble_eq_true rfl, Nat.le_of_ble_eq_true rfl⟩, Nat.le_of_ble_eq_true rfl, Nat.le_of_ble_eq_true rfl⟩ dX6_walkEnd_6 ?_
  exact V_iretP rfl ⟨rfl, MQz hA hS (by first | exact kep.rf.z | exact kep.rf.z.z | exact kep.rf.z.z.z) (u2_s _ _ _ _)⟩ ⟨Nat.le_of_ble_eq_true rfl, Nat.le_of_ble_eq_true rfl⟩ dX6_walkEnd_9

theorem ctX6_errorPosition (hM : ML σ m) (hA : MA mi m S) (hS : SOK S)  : CtP κ 0 0 24 mrX6_errorPosition [.ref m] (MM σ mi ml) (MRz σ mi ml m (rs_errorPosition S)) := by
  have hw := hS.1
  have h14 := hw.2.1
  have hG := hA.1
  rcases hS.2.2.2.2.1 with he | ⟨e, he1, he⟩
  · rw [show rs_errorPosition S = (1, 0, S) from by unfold rs_errorPosition; rw [if_pos he]]
    refine CtP.of rfl (by simp [Value.category]) (Nat.le_of_ble_eq_true rfl) ?_
    refine V_aload_n dX6_errorPosition_0 rfl rfl ?_
    refine V_iconst (v := nI 1) dX6_errorPosition_1 (by decide) ?_
    refine V_aload_n dX6_errorPosition_2 rfl rfl ?_
    refine V_getE frX6_38 hM.1 rfl (hA.2.2.2.2.1.trans he) dX6_errorPosition_3 ?_
    refine V_if_ge 13 dX6_errorPosition_6 (by decide) (fun h6 => absurd h6 (by decide)) (fun h6 => ?_)
    refine V_iconst (v := nI 1) dX6_errorPosition_9 (by decide) ?_
    refine V_goto 14 dX6_errorPosition_10 (by decide) ?_
    refine V_cv1 (ctX6_fails hM (k := nI 1) (c := true)) mvX6_fails lkX6_100 hM.1 rfl rfl rfl (Nat.le_of_ble_eq_true rfl) ⟨⟨Nat.le_of_ble_eq_true rfl, Nat.le_of_ble_eq_true rfl⟩, Nat.le_of_ble_eq_true rfl, Nat.le_of_ble_eq_true rfl⟩ dX6_errorPosition_14 ?_
    refine V_ifeqB 24 dX6_errorPosition_17 (by decide) (fun h17 => absurd (h17.symm.trans rfl) (by decide)) (fun h17 => ?_)
    refine V_iconst (v := nI 0) dX6_errorPosition_20 (by decide) ?_
    refine V_goto 28 dX6_errorPosition_21 (by decide) ?_
    exact V_iretP rfl ⟨rfl, MQz hA hS (by first | exact kep.rf.z | exact kep.rf.z.z | exact kep.rf.z.z.z) (u2_s _ _ _ _)⟩ ⟨Nat.le_of_ble_eq_true rfl, Nat.le_of_ble_eq_true rfl⟩ dX6_errorPosition_28

  · rw [show rs_errorPosition S = (0, S.2.2.2.2.1, S) from by unfold rs_errorPosition; rw [if_neg (by rw [he]; exact nI_m1 (by omega))]]
    refine CtP.of rfl (by simp [Value.category]) (Nat.le_of_ble_eq_true rfl) ?_
    refine V_aload_n dX6_errorPosition_0 rfl rfl ?_
    refine V_iconst (v := nI 1) dX6_errorPosition_1 (by decide) ?_
    refine V_aload_n dX6_errorPosition_2 rfl rfl ?_
    refine V_getE frX6_38 hM.1 rfl (hA.2.2.2.2.1.trans he) dX6_errorPosition_3 ?_
    refine V_if_ge 13 dX6_errorPosition_6 (by decide) (fun h6 => ?_) (fun h6 => absurd (Int32.not_lt.mp (nI_pos (show e < 2 ^ 31 by omega))) h6)
    refine V_iconst (v := nI 0) dX6_errorPosition_13 (by decide) ?_
    refine V_cv1 (ctX6_fails hM (k := nI 1) (c := false)) mvX6_fails lkX6_100 hM.1 rfl rfl rfl (Nat.le_of_ble_eq_true rfl) ⟨⟨Nat.le_of_ble_eq_true rfl, Nat.le_of_ble_eq_true rfl⟩, Nat.le_of_ble_eq_true rfl, Nat.le_of_ble_eq_true rfl⟩ dX6_errorPosition_14 ?_
    refine V_ifeqB 24 dX6_errorPosition_17 (by decide) (fun h17 => ?_) (fun h17 => absurd (h17.symm.trans rfl) (by decide))
    refine V_aload_n dX6_errorPosition_24 rfl rfl ?_
    refine V_getE frX6_38 hM.1 rfl ((u2_n _ _ (Or.inr (by decide))).trans hA.2.2.2.2.1) dX6_errorPosition_25 ?_
    exact V_iretP rfl ⟨rfl, MQz hA hS (by first | exact kep.rf.z | exact kep.rf.z.z | exact kep.rf.z.z.z) (u2_s _ _ _ _)⟩ ⟨Nat.le_of_ble_eq_true rfl, Nat.le_of_ble_eq_true rfl⟩ dX6_errorPosition_28

theorem ctX6_lastOnWalk (hM : ML σ m) (hA : MA mi m S) (hS : SOK S) {v : Int32} : CtP κ 0 0 24 mrX6_lastOnWalk [.ref m, .int v] (MM σ mi ml) (MRz σ mi ml m (rs_lastOnWalk S v)) := by
  have hw := hS.1
  have h14 := hw.2.1
  have hG := hA.1
  cases hv : inR v 4 with
  | false =>
    rw [show rs_lastOnWalk S v = (1, 0, S) from by unfold rs_lastOnWalk; rw [if_pos hv]]
    refine CtP.of rfl (by simp [Value.category]) (Nat.le_of_ble_eq_true rfl) ?_
    refine V_aload_n dX6_lastOnWalk_0 rfl rfl ?_
    refine V_iconst (v := nI 1) dX6_lastOnWalk_1 (by decide) ?_
    refine V_iload_n dX6_lastOnWalk_2 rfl rfl ?_
    refine V_cs1 (ctX6_isVariable) msX6_isVariable lkX6_202 rfl rfl (Nat.le_of_ble_eq_true rfl) ⟨⟨Nat.le_of_ble_eq_true rfl, Nat.le_of_ble_eq_true rfl⟩, Nat.le_of_ble_eq_true rfl, Nat.le_of_ble_eq_true rfl⟩ dX6_lastOnWalk_3 ?_
    refine V_ifneB 13 dX6_lastOnWalk_6 (by decide) (fun h6 => absurd (h6.symm.trans hv) (by decide)) (fun h6 => ?_)
    refine V_iconst (v := nI 1) dX6_lastOnWalk_9 (by decide) ?_
    refine V_goto 14 dX6_lastOnWalk_10 (by decide) ?_
    refine V_cv1 (ctX6_fails hM (k := nI 1) (c := true)) mvX6_fails lkX6_100 hM.1 rfl rfl rfl (Nat.le_of_ble_eq_true rfl) ⟨⟨Nat.le_of_ble_eq_true rfl, Nat.le_of_ble_eq_true rfl⟩, Nat.le_of_ble_eq_true rfl, Nat.le_of_ble_eq_true rfl⟩ dX6_lastOnWalk_14 ?_
    refine V_ifeqB 22 dX6_lastOnWalk_17 (by decide) (fun h17 => absurd (h17.symm.trans rfl) (by decide)) (fun h17 => ?_)
    refine V_iconst (v := nI 0) dX6_lastOnWalk_20 (by decide) ?_
    exact V_iretP rfl ⟨rfl, MQz hA hS (by first | exact kep.rf.z | exact kep.rf.z.z | exact kep.rf.z.z.z) (u2_s _ _ _ _)⟩ ⟨Nat.le_of_ble_eq_true rfl, Nat.le_of_ble_eq_true rfl⟩ dX6_lastOnWalk_21

  | true =>
    obtain ⟨i, hi, rfl⟩ := inR_t (by omega) hv
    have ti := tn_nI (show i < 2 ^ 31 by omega)
    have h30 := hS.2.2.2.2.2.1
    rw [show rs_lastOnWalk S (nI i) = (0, nI (lwN S.1 i S.2.2.2.2.2.2 S.2.2.2.2.2.1), S) from by unfold rs_lastOnWalk; rw [ti, if_neg (by rw [hv]; decide)]]
    refine CtP.of rfl (by simp [Value.category]) (Nat.le_of_ble_eq_true rfl) ?_
    have lp : ∀ k, k ≤ S.2.2.2.2.2.1 → ∀ o4 o5, V κ (phiP κ mrX6_lastOnWalk 24 0 0 (MRz σ mi ml m (0, nI (lwN S.1 i S.2.2.2.2.2.2 S.2.2.2.2.2.1), S))) 0 0 28 [some (.ref m), some (.int (nI i)), some (.int (nI (lwN S.1 i S.2.2.2.2.2.2 k))), some (.int (nI k)), o4, o5] [] (MM σ (u2 mi m 0 (nI 0)) ml) := loop_up _ (fun k hk ih o4 o5 => by
      have hR := walk_rc hS k hk
      have hR2 := hR.lt14 hw
      have J : k < S.2.2.2.2.2.1 → V κ (phiP κ mrX6_lastOnWalk 24 0 0 (MRz σ mi ml m (0, nI (lwN S.1 i S.2.2.2.2.2.2 S.2.2.2.2.2.1), S))) 0 0 50 [some (.ref m), some (.int (nI i)), some (.int (nI (lwN S.1 i S.2.2.2.2.2.2 k))), some (.int (nI k)), o4, o5] [.int (nI (S.2.2.2.2.2.2 k))] (MM σ (u2 mi m 0 (nI 0)) ml) := fun hk2 => by
        cases hd : ldef (S.1.2.1 (S.2.2.2.2.2.2 k)) i (S.1.2.1 (S.2.2.2.2.2.2 k)).length with
        | none =>
          have hx : lwN S.1 i S.2.2.2.2.2.2 (k + 1) = lwN S.1 i S.2.2.2.2.2.2 k := by rw [lwN, hd]
          have hlx := (lxI_lt (Nat.le_refl _) (by have := (hw.2.2.1 (S.2.2.2.2.2.2 k)).1; omega)).mpr hd
          refine V_istore dX6_lastOnWalk_50 (Nat.le_of_ble_eq_true rfl) ?_
          refine V_aload_n dX6_lastOnWalk_52 rfl rfl ?_
          refine V_iload dX6_lastOnWalk_53 rfl ?_
          refine V_iload_n dX6_lastOnWalk_55 rfl rfl ?_
          refine V_aload_n dX6_lastOnWalk_56 rfl rfl ?_
          refine V_getR frX6_13 hM.1 rfl dX6_lastOnWalk_57 ?_
          refine V_iload dX6_lastOnWalk_60 rfl ?_
          refine V_ialdE hM.2.1 (S.2.2.2.2.2.2 k) rfl (by omega) (by decide) ((hG.z.2 (S.2.2.2.2.2.2 k) hR2).1) dX6_lastOnWalk_62 ?_
          refine V_cv1 (ctX6_lastDefinition hM hG.z hw hR2 (by omega) (Nat.le_refl _)) mvX6_lastDefinition lkX6_164 hM.1 rfl rfl rfl (Nat.le_of_ble_eq_true rfl) ⟨⟨Nat.le_of_ble_eq_true rfl, Nat.le_of_ble_eq_true rfl⟩, Nat.le_of_ble_eq_true rfl, Nat.le_of_ble_eq_true rfl⟩ dX6_lastOnWalk_63 ?_
          refine V_istore dX6_lastOnWalk_66 (Nat.le_of_ble_eq_true rfl) ?_
          refine V_iload dX6_lastOnWalk_68 rfl ?_
          refine V_if_ge 77 dX6_lastOnWalk_70 (by decide) (fun h70 => absurd h70 (Int32.not_le.mpr hlx)) (fun h70 => ?_)
          refine V_iload_n dX6_lastOnWalk_73 rfl rfl ?_
          refine V_goto 85 dX6_lastOnWalk_74 (by decide) ?_
          refine V_istore_n dX6_lastOnWalk_85 rfl (Nat.le_of_ble_eq_true rfl) ?_
          refine V_iinc1 dX6_lastOnWalk_86 rfl (Nat.le_of_ble_eq_true rfl) ?_
          refine V_goto 28 dX6_lastOnWalk_89 (by decide) ?_
          exact V.cL (ih hk2 _ _) (by rw [hx]; rfl)

        | some z =>
          have hx : lwN S.1 i S.2.2.2.2.2.2 (k + 1) = 10 * S.2.2.2.2.2.2 k + z := by rw [lwN, hd]
          have hz := ldef6 hw (Nat.le_refl _) hd
          refine V_istore dX6_lastOnWalk_50 (Nat.le_of_ble_eq_true rfl) ?_
          refine V_aload_n dX6_lastOnWalk_52 rfl rfl ?_
          refine V_iload dX6_lastOnWalk_53 rfl ?_
          refine V_iload_n dX6_lastOnWalk_55 rfl rfl ?_
          refine V_aload_n dX6_lastOnWalk_56 rfl rfl ?_
          refine V_getR frX6_13 hM.1 rfl dX6_lastOnWalk_57 ?_
          refine V_iload dX6_lastOnWalk_60 rfl ?_
          refine V_ialdE hM.2.1 (S.2.2.2.2.2.2 k) rfl (by omega) (by decide) ((hG.z.2 (S.2.2.2.2.2.2 k) hR2).1) dX6_lastOnWalk_62 ?_
          refine V_cv1 (ctX6_lastDefinition hM hG.z hw hR2 (by omega) (Nat.le_refl _)) mvX6_lastDefinition lkX6_164 hM.1 rfl rfl rfl (Nat.le_of_ble_eq_true rfl) ⟨⟨Nat.le_of_ble_eq_true rfl, Nat.le_of_ble_eq_true rfl⟩, Nat.le_of_ble_eq_true rfl, Nat.le_of_ble_eq_true rfl⟩ dX6_lastOnWalk_63 ?_
          refine V_top (lxI_s hd) ?_
          refine V_istore dX6_lastOnWalk_66 (Nat.le_of_ble_eq_true rfl) ?_
          refine V_iload dX6_lastOnWalk_68 rfl ?_
          refine V_if_ge 77 dX6_lastOnWalk_70 (by decide) (fun h70 => ?_) (fun h70 => absurd (Int32.not_lt.mp (nI_pos (show z < 2 ^ 31 by omega))) h70)
          refine V_bipush (v := nI 10) dX6_lastOnWalk_77 (by decide) ?_
          refine V_iload dX6_lastOnWalk_79 rfl ?_
          refine V_imul dX6_lastOnWalk_81 ?_
          refine V_iload dX6_lastOnWalk_82 rfl ?_
          refine V_iadd dX6_lastOnWalk_84 ?_
          refine V_top (show nI 10 * nI (S.2.2.2.2.2.2 k) + nI z = nI (10 * S.2.2.2.2.2.2 k + z) by rw [pk_mul, nI_add]) ?_
          refine V_istore_n dX6_lastOnWalk_85 rfl (Nat.le_of_ble_eq_true rfl) ?_
          refine V_iinc1 dX6_lastOnWalk_86 rfl (Nat.le_of_ble_eq_true rfl) ?_
          refine V_goto 28 dX6_lastOnWalk_89 (by decide) ?_
          exact V.cL (ih hk2 _ _) (by rw [hx]; rfl)

      refine V_iload_n dX6_lastOnWalk_28 rfl rfl ?_
      refine V_aload_n dX6_lastOnWalk_29 rfl rfl ?_
      refine V_getE frX6_97 hM.1 rfl ((u2_n _ _ (Or.inr (by decide))).trans hA.2.2.2.2.2.1) dX6_lastOnWalk_30 ?_
      refine V_N_ge (by omega) (by omega) 92 dX6_lastOnWalk_33 (by decide) (fun h33 => ?_) (fun h33 => ?_)
      · refine V_iload_n dX6_lastOnWalk_92 rfl rfl ?_
        exact V_iretP rfl ⟨by rw [show k = S.2.2.2.2.2.1 by omega], MQz hA hS kep.rf.z (u2_s _ _ _ _)⟩ ⟨Nat.le_of_ble_eq_true rfl, Nat.le_of_ble_eq_true rfl⟩ dX6_lastOnWalk_93
      · refine V_iload_n dX6_lastOnWalk_36 rfl rfl ?_
        refine V_Z_ne (by omega) 44 dX6_lastOnWalk_37 (by decide) (fun h37 => ?_) (fun h37 => ?_)
        · refine V_aload_n dX6_lastOnWalk_44 rfl rfl ?_
          refine V_getR frX6_80 hM.1 rfl dX6_lastOnWalk_45 ?_
          refine V_iload_n dX6_lastOnWalk_48 rfl rfl ?_
          refine V_ialdE hM.2.2.2.2.2.2.2.2.2.2.2.2.2.2.1 k rfl (by omega) (by decide) ((u2_n _ _ (Or.inl (by omega))).trans (hA.2.2.2.2.2.2 k (by omega) hk)) dX6_lastOnWalk_49 ?_
          exact J h33
        · refine V_iconst (v := nI 0) dX6_lastOnWalk_40 (by decide) ?_
          refine V_goto 50 dX6_lastOnWalk_41 (by decide) ?_
          exact V.cS (J h33) (by rw [h37, hS.2.2.2.2.2.2.1])
      )
    refine V_aload_n dX6_lastOnWalk_0 rfl rfl ?_
    refine V_iconst (v := nI 1) dX6_lastOnWalk_1 (by decide) ?_
    refine V_iload_n dX6_lastOnWalk_2 rfl rfl ?_
    refine V_cs1 (ctX6_isVariable) msX6_isVariable lkX6_202 rfl rfl (Nat.le_of_ble_eq_true rfl) ⟨⟨Nat.le_of_ble_eq_true rfl, Nat.le_of_ble_eq_true rfl⟩, Nat.le_of_ble_eq_true rfl, Nat.le_of_ble_eq_true rfl⟩ dX6_lastOnWalk_3 ?_
    refine V_ifneB 13 dX6_lastOnWalk_6 (by decide) (fun h6 => ?_) (fun h6 => absurd (h6.symm.trans hv) (by decide))
    refine V_iconst (v := nI 0) dX6_lastOnWalk_13 (by decide) ?_
    refine V_cv1 (ctX6_fails hM (k := nI 1) (c := false)) mvX6_fails lkX6_100 hM.1 rfl rfl rfl (Nat.le_of_ble_eq_true rfl) ⟨⟨Nat.le_of_ble_eq_true rfl, Nat.le_of_ble_eq_true rfl⟩, Nat.le_of_ble_eq_true rfl, Nat.le_of_ble_eq_true rfl⟩ dX6_lastOnWalk_14 ?_
    refine V_ifeqB 22 dX6_lastOnWalk_17 (by decide) (fun h17 => ?_) (fun h17 => absurd (h17.symm.trans rfl) (by decide))
    refine V_sipush (v := nI 2000) dX6_lastOnWalk_22 (by decide) ?_
    refine V_istore_n dX6_lastOnWalk_25 rfl (Nat.le_of_ble_eq_true rfl) ?_
    refine V_iconst (v := nI 0) dX6_lastOnWalk_26 (by decide) ?_
    refine V_istore_n dX6_lastOnWalk_27 rfl (Nat.le_of_ble_eq_true rfl) ?_
    exact lp 0 (Nat.zero_le _) _ _

theorem ctX6_mergesOnWalk (hM : ML σ m) (hA : MA mi m S) (hS : SOK S) {v : Int32} : CtP κ 0 0 24 mrX6_mergesOnWalk [.ref m, .int v] (MM σ mi ml) (MRz σ mi ml m (rs_mergesOnWalk S v)) := by
  have hw := hS.1
  have h14 := hw.2.1
  have hG := hA.1
  cases hv : inR v 4 with
  | false =>
    rw [show rs_mergesOnWalk S v = (1, 0, S) from by unfold rs_mergesOnWalk; rw [if_pos hv]]
    refine CtP.of rfl (by simp [Value.category]) (Nat.le_of_ble_eq_true rfl) ?_
    refine V_aload_n dX6_mergesOnWalk_0 rfl rfl ?_
    refine V_iconst (v := nI 1) dX6_mergesOnWalk_1 (by decide) ?_
    refine V_iload_n dX6_mergesOnWalk_2 rfl rfl ?_
    refine V_cs1 (ctX6_isVariable) msX6_isVariable lkX6_202 rfl rfl (Nat.le_of_ble_eq_true rfl) ⟨⟨Nat.le_of_ble_eq_true rfl, Nat.le_of_ble_eq_true rfl⟩, Nat.le_of_ble_eq_true rfl, Nat.le_of_ble_eq_true rfl⟩ dX6_mergesOnWalk_3 ?_
    refine V_ifneB 13 dX6_mergesOnWalk_6 (by decide) (fun h6 => absurd (h6.symm.trans hv) (by decide)) (fun h6 => ?_)
    refine V_iconst (v := nI 1) dX6_mergesOnWalk_9 (by decide) ?_
    refine V_goto 14 dX6_mergesOnWalk_10 (by decide) ?_
    refine V_cv1 (ctX6_fails hM (k := nI 1) (c := true)) mvX6_fails lkX6_100 hM.1 rfl rfl rfl (Nat.le_of_ble_eq_true rfl) ⟨⟨Nat.le_of_ble_eq_true rfl, Nat.le_of_ble_eq_true rfl⟩, Nat.le_of_ble_eq_true rfl, Nat.le_of_ble_eq_true rfl⟩ dX6_mergesOnWalk_14 ?_
    refine V_ifeqB 22 dX6_mergesOnWalk_17 (by decide) (fun h17 => absurd (h17.symm.trans rfl) (by decide)) (fun h17 => ?_)
    refine V_iconst (v := nI 0) dX6_mergesOnWalk_20 (by decide) ?_
    exact V_iretP rfl ⟨rfl, MQz hA hS (by first | exact kep.rf.z | exact kep.rf.z.z | exact kep.rf.z.z.z) (u2_s _ _ _ _)⟩ ⟨Nat.le_of_ble_eq_true rfl, Nat.le_of_ble_eq_true rfl⟩ dX6_mergesOnWalk_21

  | true =>
    obtain ⟨i, hi, rfl⟩ := inR_t (by omega) hv
    have ti := tn_nI (show i < 2 ^ 31 by omega)
    have h30 := hS.2.2.2.2.2.1
    rw [show rs_mergesOnWalk S (nI i) = (0, nI (cnt (fun z => bp (PM S.1 i (S.2.2.2.2.2.2 z))) (S.2.2.2.2.2.1 + 1)), S) from by unfold rs_mergesOnWalk; rw [ti, if_neg (by rw [hv]; decide)]]
    refine CtP.of rfl (by simp [Value.category]) (Nat.le_of_ble_eq_true rfl) ?_
    have lp : ∀ m1, kep mi m1 m → m1 m 0 = nI 0 → AN m1 m S.1 → ∀ k, k ≤ S.2.2.2.2.2.1 + 1 → V κ (phiP κ mrX6_mergesOnWalk 24 0 0 (MRz σ mi ml m (0, nI (cnt (fun z => bp (PM S.1 i (S.2.2.2.2.2.2 z))) (S.2.2.2.2.2.1 + 1)), S))) 0 0 30 [some (.ref m), some (.int (nI i)), some (.int (nI (cnt (fun z => bp (PM S.1 i (S.2.2.2.2.2.2 z))) k))), some (.int (nI k))] [] (MM σ m1 ml) := fun m1 hk1 h01 hn => loop_up _ (fun k hk ih => by
      have J : k ≤ S.2.2.2.2.2.1 → V κ (phiP κ mrX6_mergesOnWalk 24 0 0 (MRz σ mi ml m (0, nI (cnt (fun z => bp (PM S.1 i (S.2.2.2.2.2.2 z))) (S.2.2.2.2.2.1 + 1)), S))) 0 0 59 [some (.ref m), some (.int (nI i)), some (.int (nI (cnt (fun z => bp (PM S.1 i (S.2.2.2.2.2.2 z))) k))), some (.int (nI k))] [.int (nI (S.2.2.2.2.2.2 k)), .int (msk (fun b => bp (PM S.1 i b))), .int (nI (cnt (fun z => bp (PM S.1 i (S.2.2.2.2.2.2 z))) k))] (MM σ m1 ml) := fun hk2 => by
        have hR2 := (walk_rc hS k hk2).lt14 hw
        refine V_cs1 (ctX6_hasM hR2) msX6_has lkX6_158 rfl rfl (Nat.le_of_ble_eq_true rfl) ⟨⟨Nat.le_of_ble_eq_true rfl, Nat.le_of_ble_eq_true rfl⟩, Nat.le_of_ble_eq_true rfl, Nat.le_of_ble_eq_true rfl⟩ dX6_mergesOnWalk_59 ?_
        refine V_ifeqB 69 dX6_mergesOnWalk_62 (by decide) (fun h62 => ?_) (fun h62 => ?_)
        · refine V_iconst (v := nI 0) dX6_mergesOnWalk_69 (by decide) ?_
          refine V_iadd dX6_mergesOnWalk_70 ?_
          refine V_top (nI_add _ _) ?_
          refine V_istore_n dX6_mergesOnWalk_71 rfl (Nat.le_of_ble_eq_true rfl) ?_
          refine V_iinc1 dX6_mergesOnWalk_72 rfl (Nat.le_of_ble_eq_true rfl) ?_
          refine V_goto 30 dX6_mergesOnWalk_75 (by decide) ?_
          exact V.cL (ih (by omega)) (by rw [← cnt_f (P := fun z => bp (PM S.1 i (S.2.2.2.2.2.2 z))) h62]; rfl)
        · refine V_iconst (v := nI 1) dX6_mergesOnWalk_65 (by decide) ?_
          refine V_goto 70 dX6_mergesOnWalk_66 (by decide) ?_
          refine V_iadd dX6_mergesOnWalk_70 ?_
          refine V_top (nI_add _ _) ?_
          refine V_istore_n dX6_mergesOnWalk_71 rfl (Nat.le_of_ble_eq_true rfl) ?_
          refine V_iinc1 dX6_mergesOnWalk_72 rfl (Nat.le_of_ble_eq_true rfl) ?_
          refine V_goto 30 dX6_mergesOnWalk_75 (by decide) ?_
          exact V.cL (ih (by omega)) (by rw [← cnt_t (P := fun z => bp (PM S.1 i (S.2.2.2.2.2.2 z))) h62]; rfl)

      refine V_iload_n dX6_mergesOnWalk_30 rfl rfl ?_
      refine V_aload_n dX6_mergesOnWalk_31 rfl rfl ?_
      refine V_getE frX6_97 hM.1 rfl ((hk1 _ _ (by omega)).trans hA.2.2.2.2.2.1) dX6_mergesOnWalk_32 ?_
      refine V_N_gt (by omega) (by omega) 78 dX6_mergesOnWalk_35 (by decide) (fun h35 => ?_) (fun h35 => ?_)
      · refine V_iload_n dX6_mergesOnWalk_78 rfl rfl ?_
        exact V_iretP rfl ⟨by rw [show k = S.2.2.2.2.2.1 + 1 by omega], MQz hA hS hk1 h01⟩ ⟨Nat.le_of_ble_eq_true rfl, Nat.le_of_ble_eq_true rfl⟩ dX6_mergesOnWalk_79
      · refine V_iload_n dX6_mergesOnWalk_38 rfl rfl ?_
        refine V_aload_n dX6_mergesOnWalk_39 rfl rfl ?_
        refine V_getR frX6_65 hM.1 rfl dX6_mergesOnWalk_40 ?_
        refine V_iload_n dX6_mergesOnWalk_43 rfl rfl ?_
        refine V_ialdE hM.2.2.2.2.2.2.2.2.2.2.2.2.1 i rfl hi (by decide) ((hn.2.2.2 i hi).2.2.1) dX6_mergesOnWalk_44 ?_
        refine V_iload_n dX6_mergesOnWalk_45 rfl rfl ?_
        refine V_Z_ne (by omega) 53 dX6_mergesOnWalk_46 (by decide) (fun h46 => ?_) (fun h46 => ?_)
        · refine V_aload_n dX6_mergesOnWalk_53 rfl rfl ?_
          refine V_getR frX6_80 hM.1 rfl dX6_mergesOnWalk_54 ?_
          refine V_iload_n dX6_mergesOnWalk_57 rfl rfl ?_
          refine V_ialdE hM.2.2.2.2.2.2.2.2.2.2.2.2.2.2.1 k rfl (by omega) (by decide) ((hk1 _ _ (by omega)).trans (hA.2.2.2.2.2.2 k (by omega) h35)) dX6_mergesOnWalk_58 ?_
          exact J h35
        · refine V_iconst (v := nI 0) dX6_mergesOnWalk_49 (by decide) ?_
          refine V_goto 59 dX6_mergesOnWalk_50 (by decide) ?_
          exact V.cS (J h35) (by rw [h46, hS.2.2.2.2.2.2.1])
      )
    refine V_aload_n dX6_mergesOnWalk_0 rfl rfl ?_
    refine V_iconst (v := nI 1) dX6_mergesOnWalk_1 (by decide) ?_
    refine V_iload_n dX6_mergesOnWalk_2 rfl rfl ?_
    refine V_cs1 (ctX6_isVariable) msX6_isVariable lkX6_202 rfl rfl (Nat.le_of_ble_eq_true rfl) ⟨⟨Nat.le_of_ble_eq_true rfl, Nat.le_of_ble_eq_true rfl⟩, Nat.le_of_ble_eq_true rfl, Nat.le_of_ble_eq_true rfl⟩ dX6_mergesOnWalk_3 ?_
    refine V_ifneB 13 dX6_mergesOnWalk_6 (by decide) (fun h6 => ?_) (fun h6 => absurd (h6.symm.trans hv) (by decide))
    refine V_iconst (v := nI 0) dX6_mergesOnWalk_13 (by decide) ?_
    refine V_cv1 (ctX6_fails hM (k := nI 1) (c := false)) mvX6_fails lkX6_100 hM.1 rfl rfl rfl (Nat.le_of_ble_eq_true rfl) ⟨⟨Nat.le_of_ble_eq_true rfl, Nat.le_of_ble_eq_true rfl⟩, Nat.le_of_ble_eq_true rfl, Nat.le_of_ble_eq_true rfl⟩ dX6_mergesOnWalk_14 ?_
    refine V_ifeqB 22 dX6_mergesOnWalk_17 (by decide) (fun h17 => ?_) (fun h17 => absurd (h17.symm.trans rfl) (by decide))
    refine V_aload_n dX6_mergesOnWalk_22 rfl rfl ?_
    refine V_cp0 (ctX6_analyze hM hG.z hw) mvX6_analyze lkX6_196 hM.1 rfl rfl rfl (Nat.le_of_ble_eq_true rfl) ⟨⟨Nat.le_of_ble_eq_true rfl, Nat.le_of_ble_eq_true rfl⟩, Nat.le_of_ble_eq_true rfl, Nat.le_of_ble_eq_true rfl⟩ dX6_mergesOnWalk_23 (fun μ1 hx => ?_)
    obtain ⟨m1, rfl, hn, ho⟩ := hx
    refine V_iconst (v := nI 0) dX6_mergesOnWalk_26 (by decide) ?_
    refine V_istore_n dX6_mergesOnWalk_27 rfl (Nat.le_of_ble_eq_true rfl) ?_
    refine V_iconst (v := nI 0) dX6_mergesOnWalk_28 (by decide) ?_
    refine V_istore_n dX6_mergesOnWalk_29 rfl (Nat.le_of_ble_eq_true rfl) ?_
    exact lp m1 (kep.rf.z.an ho) ((ho _ _ (by omega) (by omega)).trans (u2_s _ _ _ _)) hn 0 (Nat.zero_le _)

theorem MA.wk (hA : MA mi m S) (hS : SOK S) {m1 : Nat → Nat → Int32} {c : Nat} {Wk : Nat → Nat} (h1 : m1 m 34 = nI c) (h2 : ∀ i, 1 ≤ i → i ≤ c → m1 (m + 100) i = nI (Wk i)) (hk : ∀ a i, ((a = m ∧ (i = 1 ∨ i = 8 ∨ i = 9 ∨ i = 11 ∨ i = 13)) ∨ (m + 1 ≤ a ∧ a < m + 42) ∨ a = m + 43 ∨ a = m + 44) → m1 a i = mi a i) : MA m1 m (S.1, S.2.1, S.2.2.1, S.2.2.2.1, S.2.2.2.2.1, c, Wk) := by
  obtain ⟨a1, ⟨a2, a3⟩, ⟨a4, a5⟩, ⟨a6, a7⟩, a8, a9, a10⟩ := hA
  have h8' := hS.2.1.1
  exact ⟨a1.keep (fun a i q => hk a i (by omega)), ⟨(hk _ _ (by omega)).trans a2, fun i hi => (a3 i hi).keep (fun j => hk _ _ (by omega))⟩, ⟨(hk _ _ (by omega)).trans a4, fun g hg => (a5 g hg).keep (fun j => hk _ _ (by omega))⟩, ⟨(hk _ _ (by omega)).trans a6, fun i hi => (hk _ _ (by omega)).trans (a7 i hi)⟩, (hk _ _ (by omega)).trans a8, h1, h2⟩
theorem ctX6_clearWalk (hM : ML σ m) (hA : MA mi m S) (hS : SOK S)  : CtP κ 0 0 24 mrX6_clearWalk [.ref m] (MM σ mi ml) (MRz σ mi ml m (rs_clearWalk S)) := by
  have hw := hS.1
  have h14 := hw.2.1
  have hG := hA.1
  rw [show rs_clearWalk S = (0, nI S.2.2.2.2.2.1, (S.1, S.2.1, S.2.2.1, S.2.2.2.1, S.2.2.2.2.1, 0, S.2.2.2.2.2.2)) from by unfold rs_clearWalk; rfl]
  refine CtP.of rfl (by simp [Value.category]) (Nat.le_of_ble_eq_true rfl) ?_
  refine V_aload_n dX6_clearWalk_0 rfl rfl ?_
  refine V_iconst (v := nI 0) dX6_clearWalk_1 (by decide) ?_
  refine V_putI fpX6_83 rfl rfl hM.1 rfl dX6_clearWalk_2 ?_
  refine V_aload_n dX6_clearWalk_5 rfl rfl ?_
  refine V_getE frX6_97 hM.1 rfl ((u2_n _ _ (Or.inr (by decide))).trans hA.2.2.2.2.2.1) dX6_clearWalk_6 ?_
  refine V_istore_n dX6_clearWalk_9 rfl (Nat.le_of_ble_eq_true rfl) ?_
  refine V_aload_n dX6_clearWalk_10 rfl rfl ?_
  refine V_iconst (v := nI 0) dX6_clearWalk_11 (by decide) ?_
  refine V_putI fpX6_97 rfl rfl hM.1 rfl dX6_clearWalk_12 ?_
  refine V_iload_n dX6_clearWalk_15 rfl rfl ?_
  exact V_iretP rfl ⟨rfl, _, rfl, hA.wk hS (u2_s _ _ _ _) (fun i q1 q2 => absurd q1 (by omega)) (fun a i q => ((u2_n _ _ (by omega)).trans (u2_n _ _ (by omega)))), (u2_n _ _ (Or.inr (by decide))).trans (u2_s _ _ _ _), fun a i q => ((u2_n _ _ (by omega)).trans (u2_n _ _ (by omega)))⟩ ⟨Nat.le_of_ble_eq_true rfl, Nat.le_of_ble_eq_true rfl⟩ dX6_clearWalk_16

theorem ctX6_walk (hM : ML σ m) (hA : MA mi m S) (hS : SOK S) {e : Int32} : CtP κ 0 0 24 mrX6_walk [.ref m, .int e] (MM σ mi ml) (MRz σ mi ml m (rs_walk S e)) := by
  have hw := hS.1
  have h14 := hw.2.1
  have hG := hA.1
  have h30 := hS.2.2.2.2.2.1
  have hRc := (walk_rc hS S.2.2.2.2.2.1 (Nat.le_refl _))
  have hlt := hRc.lt14 hw
  have h3l := (hw.2.2.2.1 (S.2.2.2.2.2.2 S.2.2.2.2.2.1)).1
  by_cases h0 : 30 ≤ S.2.2.2.2.2.1
  · rw [show rs_walk S e = (1, 0, S) from by unfold rs_walk; rw [if_pos h0]]
    refine CtP.of rfl (by simp [Value.category]) (Nat.le_of_ble_eq_true rfl) ?_
    refine V_aload_n dX6_walk_0 rfl rfl ?_
    refine V_iconst (v := nI 1) dX6_walk_1 (by decide) ?_
    refine V_aload_n dX6_walk_2 rfl rfl ?_
    refine V_getE frX6_97 hM.1 rfl hA.2.2.2.2.2.1 dX6_walk_3 ?_
    refine V_bipush (v := nI 30) dX6_walk_6 (by decide) ?_
    refine V_N_ne (by omega) (by omega) 15 dX6_walk_8 (by decide) (fun h8 => ?_) (fun h8 => ?_)
    · exfalso
      omega
    · refine V_iconst (v := nI 1) dX6_walk_11 (by decide) ?_
      refine V_goto 16 dX6_walk_12 (by decide) ?_
      refine V_cv1 (ctX6_fails hM (k := nI 1) (c := true)) mvX6_fails lkX6_100 hM.1 rfl rfl rfl (Nat.le_of_ble_eq_true rfl) ⟨⟨Nat.le_of_ble_eq_true rfl, Nat.le_of_ble_eq_true rfl⟩, Nat.le_of_ble_eq_true rfl, Nat.le_of_ble_eq_true rfl⟩ dX6_walk_16 ?_
      refine V_ifneB 54 dX6_walk_19 (by decide) (fun h19 => ?_) (fun h19 => absurd (h19.symm.trans rfl) (by decide))
      refine V_iconst (v := nI 0) dX6_walk_54 (by decide) ?_
      exact V_iretP rfl ⟨rfl, MQz hA hS (by first | exact kep.rf.z | exact kep.rf.z.z | exact kep.rf.z.z.z) (u2_s _ _ _ _)⟩ ⟨Nat.le_of_ble_eq_true rfl, Nat.le_of_ble_eq_true rfl⟩ dX6_walk_55

  · cases he : inR e (S.1.2.2 (S.2.2.2.2.2.2 S.2.2.2.2.2.1)).length with
    | false =>
      rw [show rs_walk S e = (2, 0, S) from by unfold rs_walk; rw [if_neg h0, if_pos he]]
      refine CtP.of rfl (by simp [Value.category]) (Nat.le_of_ble_eq_true rfl) ?_
      refine V_aload_n dX6_walk_0 rfl rfl ?_
      refine V_iconst (v := nI 1) dX6_walk_1 (by decide) ?_
      refine V_aload_n dX6_walk_2 rfl rfl ?_
      refine V_getE frX6_97 hM.1 rfl hA.2.2.2.2.2.1 dX6_walk_3 ?_
      refine V_bipush (v := nI 30) dX6_walk_6 (by decide) ?_
      refine V_N_ne (by omega) (by omega) 15 dX6_walk_8 (by decide) (fun h8 => ?_) (fun h8 => ?_)
      · refine V_iconst (v := nI 0) dX6_walk_15 (by decide) ?_
        refine V_cv1 (ctX6_fails hM (k := nI 1) (c := false)) mvX6_fails lkX6_100 hM.1 rfl rfl rfl (Nat.le_of_ble_eq_true rfl) ⟨⟨Nat.le_of_ble_eq_true rfl, Nat.le_of_ble_eq_true rfl⟩, Nat.le_of_ble_eq_true rfl, Nat.le_of_ble_eq_true rfl⟩ dX6_walk_16 ?_
        refine V_ifneB 54 dX6_walk_19 (by decide) (fun h19 => absurd (h19.symm.trans rfl) (by decide)) (fun h19 => ?_)
        refine V_aload_n dX6_walk_22 rfl rfl ?_
        refine V_iconst (v := nI 2) dX6_walk_23 (by decide) ?_
        refine V_iload_n dX6_walk_24 rfl rfl ?_
        refine V_iconst (v := nI 0) dX6_walk_25 (by decide) ?_
        refine V_aload_n dX6_walk_26 rfl rfl ?_
        refine V_getR frX6_17 hM.1 rfl dX6_walk_27 ?_
        refine V_aload_n dX6_walk_30 rfl rfl ?_
        refine V_cv1 (ctX6_end hM hS.2.2.2.2.2.1 ((u2_n _ _ (Or.inr (by decide))).trans hA.2.2.2.2.2.1) (fun i q1 q2 => (u2_n _ _ (Or.inl (by omega))).trans (hA.2.2.2.2.2.2 i q1 q2)) hS.2.2.2.2.2.2.1) mvX6_end lkX6_245 hM.1 rfl rfl rfl (Nat.le_of_ble_eq_true rfl) ⟨⟨Nat.le_of_ble_eq_true rfl, Nat.le_of_ble_eq_true rfl⟩, Nat.le_of_ble_eq_true rfl, Nat.le_of_ble_eq_true rfl⟩ dX6_walk_31 ?_
        refine V_ialdE hM.2.2.1 (S.2.2.2.2.2.2 S.2.2.2.2.2.1) rfl (by omega) (by decide) ((hG.z.2 (S.2.2.2.2.2.2 S.2.2.2.2.2.1) hlt).2.1) dX6_walk_34 ?_
        refine V_iconst (v := nI 1) dX6_walk_35 (by decide) ?_
        refine V_isub dX6_walk_36 ?_
        refine V_cs1 (ctX6_isBetween) msX6_isBetween lkX6_86 rfl rfl (Nat.le_of_ble_eq_true rfl) ⟨⟨Nat.le_of_ble_eq_true rfl, Nat.le_of_ble_eq_true rfl⟩, Nat.le_of_ble_eq_true rfl, Nat.le_of_ble_eq_true rfl⟩ dX6_walk_37 ?_
        rw [btw (by omega)]
        refine V_ifneB 47 dX6_walk_40 (by decide) (fun h40 => absurd (h40.symm.trans he) (by decide)) (fun h40 => ?_)
        refine V_iconst (v := nI 1) dX6_walk_43 (by decide) ?_
        refine V_goto 48 dX6_walk_44 (by decide) ?_
        refine V_cv1 (ctX6_fails hM (k := nI 2) (c := true)) mvX6_fails lkX6_100 hM.1 rfl rfl rfl (Nat.le_of_ble_eq_true rfl) ⟨⟨Nat.le_of_ble_eq_true rfl, Nat.le_of_ble_eq_true rfl⟩, Nat.le_of_ble_eq_true rfl, Nat.le_of_ble_eq_true rfl⟩ dX6_walk_48 ?_
        refine V_ifeqB 56 dX6_walk_51 (by decide) (fun h51 => absurd (h51.symm.trans rfl) (by decide)) (fun h51 => ?_)
        refine V_iconst (v := nI 0) dX6_walk_54 (by decide) ?_
        exact V_iretP rfl ⟨rfl, MQz hA hS (by first | exact kep.rf.z | exact kep.rf.z.z | exact kep.rf.z.z.z) (u2_s _ _ _ _)⟩ ⟨Nat.le_of_ble_eq_true rfl, Nat.le_of_ble_eq_true rfl⟩ dX6_walk_55
      · exfalso
        omega

    | true =>
      obtain ⟨i, hi, rfl⟩ := inR_t (by omega) he
      have ti := tn_nI (show i < 2 ^ 31 by omega)
      rw [show rs_walk S (nI i) = (0, nI ((S.1.2.2 (S.2.2.2.2.2.2 S.2.2.2.2.2.1)).getD i 0), (S.1, S.2.1, S.2.2.1, S.2.2.2.1, S.2.2.2.2.1, S.2.2.2.2.2.1 + 1, fun k => if k = S.2.2.2.2.2.1 + 1 then (S.1.2.2 (S.2.2.2.2.2.2 S.2.2.2.2.2.1)).getD i 0 else S.2.2.2.2.2.2 k)) from by unfold rs_walk; rw [if_neg h0, if_neg (by rw [he]; decide), ti]]
      refine CtP.of rfl (by simp [Value.category]) (Nat.le_of_ble_eq_true rfl) ?_
      refine V_aload_n dX6_walk_0 rfl rfl ?_
      refine V_iconst (v := nI 1) dX6_walk_1 (by decide) ?_
      refine V_aload_n dX6_walk_2 rfl rfl ?_
      refine V_getE frX6_97 hM.1 rfl hA.2.2.2.2.2.1 dX6_walk_3 ?_
      refine V_bipush (v := nI 30) dX6_walk_6 (by decide) ?_
      refine V_N_ne (by omega) (by omega) 15 dX6_walk_8 (by decide) (fun h8 => ?_) (fun h8 => ?_)
      · refine V_iconst (v := nI 0) dX6_walk_15 (by decide) ?_
        refine V_cv1 (ctX6_fails hM (k := nI 1) (c := false)) mvX6_fails lkX6_100 hM.1 rfl rfl rfl (Nat.le_of_ble_eq_true rfl) ⟨⟨Nat.le_of_ble_eq_true rfl, Nat.le_of_ble_eq_true rfl⟩, Nat.le_of_ble_eq_true rfl, Nat.le_of_ble_eq_true rfl⟩ dX6_walk_16 ?_
        refine V_ifneB 54 dX6_walk_19 (by decide) (fun h19 => absurd (h19.symm.trans rfl) (by decide)) (fun h19 => ?_)
        refine V_aload_n dX6_walk_22 rfl rfl ?_
        refine V_iconst (v := nI 2) dX6_walk_23 (by decide) ?_
        refine V_iload_n dX6_walk_24 rfl rfl ?_
        refine V_iconst (v := nI 0) dX6_walk_25 (by decide) ?_
        refine V_aload_n dX6_walk_26 rfl rfl ?_
        refine V_getR frX6_17 hM.1 rfl dX6_walk_27 ?_
        refine V_aload_n dX6_walk_30 rfl rfl ?_
        refine V_cv1 (ctX6_end hM hS.2.2.2.2.2.1 ((u2_n _ _ (Or.inr (by decide))).trans hA.2.2.2.2.2.1) (fun i q1 q2 => (u2_n _ _ (Or.inl (by omega))).trans (hA.2.2.2.2.2.2 i q1 q2)) hS.2.2.2.2.2.2.1) mvX6_end lkX6_245 hM.1 rfl rfl rfl (Nat.le_of_ble_eq_true rfl) ⟨⟨Nat.le_of_ble_eq_true rfl, Nat.le_of_ble_eq_true rfl⟩, Nat.le_of_ble_eq_true rfl, Nat.le_of_ble_eq_true rfl⟩ dX6_walk_31 ?_
        refine V_ialdE hM.2.2.1 (S.2.2.2.2.2.2 S.2.2.2.2.2.1) rfl (by omega) (by decide) ((hG.z.2 (S.2.2.2.2.2.2 S.2.2.2.2.2.1) hlt).2.1) dX6_walk_34 ?_
        refine V_iconst (v := nI 1) dX6_walk_35 (by decide) ?_
        refine V_isub dX6_walk_36 ?_
        refine V_cs1 (ctX6_isBetween) msX6_isBetween lkX6_86 rfl rfl (Nat.le_of_ble_eq_true rfl) ⟨⟨Nat.le_of_ble_eq_true rfl, Nat.le_of_ble_eq_true rfl⟩, Nat.le_of_ble_eq_true rfl, Nat.le_of_ble_eq_true rfl⟩ dX6_walk_37 ?_
        rw [btw (by omega)]
        refine V_ifneB 47 dX6_walk_40 (by decide) (fun h40 => ?_) (fun h40 => absurd (h40.symm.trans he) (by decide))
        refine V_iconst (v := nI 0) dX6_walk_47 (by decide) ?_
        refine V_cv1 (ctX6_fails hM (k := nI 2) (c := false)) mvX6_fails lkX6_100 hM.1 rfl rfl rfl (Nat.le_of_ble_eq_true rfl) ⟨⟨Nat.le_of_ble_eq_true rfl, Nat.le_of_ble_eq_true rfl⟩, Nat.le_of_ble_eq_true rfl, Nat.le_of_ble_eq_true rfl⟩ dX6_walk_48 ?_
        refine V_ifeqB 56 dX6_walk_51 (by decide) (fun h51 => ?_) (fun h51 => absurd (h51.symm.trans rfl) (by decide))
        refine V_aload_n dX6_walk_56 rfl rfl ?_
        refine V_getR frX6_25 hM.1 rfl dX6_walk_57 ?_
        refine V_aload_n dX6_walk_60 rfl rfl ?_
        refine V_cv1 (ctX6_end hM hS.2.2.2.2.2.1 ((u2_n _ _ (Or.inr (by decide))).trans ((u2_n _ _ (Or.inr (by decide))).trans hA.2.2.2.2.2.1)) (fun i q1 q2 => (u2_n _ _ (Or.inl (by omega))).trans ((u2_n _ _ (Or.inl (by omega))).trans (hA.2.2.2.2.2.2 i q1 q2))) hS.2.2.2.2.2.2.1) mvX6_end lkX6_245 hM.1 rfl rfl rfl (Nat.le_of_ble_eq_true rfl) ⟨⟨Nat.le_of_ble_eq_true rfl, Nat.le_of_ble_eq_true rfl⟩, Nat.le_of_ble_eq_true rfl, Nat.le_of_ble_eq_true rfl⟩ dX6_walk_61 ?_
        refine V_aaldR hM.2.2.2.2.2.2.2.2.2.2.2.2.2.2.2.2.2.1 (S.2.2.2.2.2.2 S.2.2.2.2.2.1) rfl hlt (by decide) dX6_walk_64 ?_
        refine V_iload_n dX6_walk_65 rfl rfl ?_
        refine V_ialdE (hM.2.2.2.2.2.2.2.2.2.2.2.2.2.2.2.2.2.1.row (j := S.2.2.2.2.2.2 S.2.2.2.2.2.1) hlt) i rfl (by omega) (by decide) ((hG.z.z.2 (S.2.2.2.2.2.2 S.2.2.2.2.2.1) hlt).2.2.2 i hi) dX6_walk_66 ?_
        refine V_istore_n dX6_walk_67 rfl (Nat.le_of_ble_eq_true rfl) ?_
        refine V_aload_n dX6_walk_68 rfl rfl ?_
        refine V_dup dX6_walk_69 rfl ?_
        refine V_getE frX6_97 hM.1 rfl ((u2_n _ _ (Or.inr (by decide))).trans ((u2_n _ _ (Or.inr (by decide))).trans hA.2.2.2.2.2.1)) dX6_walk_70 ?_
        refine V_iconst (v := nI 1) dX6_walk_73 (by decide) ?_
        refine V_iadd dX6_walk_74 ?_
        refine V_top (nI_add _ 1) ?_
        refine V_putI fpX6_97 rfl rfl hM.1 rfl dX6_walk_75 ?_
        refine V_aload_n dX6_walk_78 rfl rfl ?_
        refine V_getR frX6_80 hM.1 rfl dX6_walk_79 ?_
        refine V_aload_n dX6_walk_82 rfl rfl ?_
        refine V_getE frX6_97 hM.1 rfl (u2_s _ _ _ _) dX6_walk_83 ?_
        refine V_iload_n dX6_walk_86 rfl rfl ?_
        refine V_iastN hM.2.2.2.2.2.2.2.2.2.2.2.2.2.2.1 (S.2.2.2.2.2.1 + 1) rfl (by omega) (by decide) dX6_walk_87 ?_
        refine V_iload_n dX6_walk_88 rfl rfl ?_
        exact V_iretP rfl ⟨rfl, _, rfl, hA.wk hS ((u2_n _ _ (Or.inl (by omega))).trans (u2_s _ _ _ _)) (fun k q1 q2 => by
                by_cases e : k = S.2.2.2.2.2.1 + 1
                · subst e; rw [if_pos rfl]; exact u2_s _ _ _ _
                · rw [if_neg e]; exact (u2_n _ _ (Or.inr e)).trans ((u2_n _ _ (Or.inl (by omega))).trans ((u2_n _ _ (Or.inl (by omega))).trans ((u2_n _ _ (Or.inl (by omega))).trans (hA.2.2.2.2.2.2 k q1 (by omega)))))) (fun a i q => ((u2_n _ _ (by omega)).trans ((u2_n _ _ (by omega)).trans ((u2_n _ _ (by omega)).trans (u2_n _ _ (by omega)))))), (u2_n _ _ (Or.inl (by omega))).trans ((u2_n _ _ (Or.inr (by decide))).trans (u2_s _ _ _ _)), fun a i q => ((u2_n _ _ (by omega)).trans ((u2_n _ _ (by omega)).trans ((u2_n _ _ (by omega)).trans (u2_n _ _ (by omega)))))⟩ ⟨Nat.le_of_ble_eq_true rfl, Nat.le_of_ble_eq_true rfl⟩ dX6_walk_89
      · exfalso
        omega

theorem ctX6_write (hM : ML σ m) (hG : GM mi m G) (hw : Wf G) {r : Nat} (hr : σ r = ints 160) (hr2 : m + 34 ≤ r) : CtP κ 0 0 1 mrX6_write [.ref m, .ref r] (MM σ mi ml) (fun o μ' => o = .inl none ∧ ∃ m1, μ' = MM σ m1 ml ∧ RowA m1 r G ∧ (∀ a i, a ≠ r → m1 a i = mi a i)) := by
  refine CtP.of rfl (by simp [Value.category]) (Nat.le_of_ble_eq_true rfl) ?_
  have lp : ∀ b, b ≤ 14 → ∀ m1 o4, (∀ a i, a ≠ r → m1 a i = mi a i) → m1 r 0 = mi m 1 → (∀ c, c < b → (m1 r (1 + 11 * c) = mi (m + 1) c ∧ m1 r (2 + 11 * c) = mi (m + 2) c ∧ (∀ k, k < 6 → m1 r (3 + 11 * c + k) = mi (m + 4 + c) k) ∧ ∀ k, k < 3 → m1 r (9 + 11 * c + k) = mi (m + 19 + c) k)) → V κ (phiP κ mrX6_write 1 0 0 (fun o μ' => o = .inl none ∧ ∃ m1, μ' = MM σ m1 ml ∧ RowA m1 r G ∧ (∀ a i, a ≠ r → m1 a i = mi a i))) 0 0 14 [some (.ref m), some (.ref r), some (.int (nI (1 + 11 * b))), some (.int (nI b)), o4] [] (MM σ m1 ml) := loop_up _ (fun b hb ih m1 o4 ho h0 hc => by
    have lpE : b < 14 → ∀ k, k ≤ 3 → ∀ m1, (∀ a i, a ≠ r → m1 a i = mi a i) → m1 r 0 = mi m 1 → (∀ c, c < b → (m1 r (1 + 11 * c) = mi (m + 1) c ∧ m1 r (2 + 11 * c) = mi (m + 2) c ∧ (∀ k, k < 6 → m1 r (3 + 11 * c + k) = mi (m + 4 + c) k) ∧ ∀ k, k < 3 → m1 r (9 + 11 * c + k) = mi (m + 19 + c) k)) → m1 r (1 + 11 * b) = mi (m + 1) b → m1 r (2 + 11 * b) = mi (m + 2) b → (∀ k, k < 6 → m1 r (3 + 11 * b + k) = mi (m + 4 + b) k) → (∀ z, z < k → m1 r (9 + 11 * b + z) = mi (m + 19 + b) z) → V κ (phiP κ mrX6_write 1 0 0 (fun o μ' => o = .inl none ∧ ∃ m1, μ' = MM σ m1 ml ∧ RowA m1 r G ∧ (∀ a i, a ≠ r → m1 a i = mi a i))) 0 0 78 [some (.ref m), some (.ref r), some (.int (nI (9 + 11 * b + k))), some (.int (nI b)), some (.int (nI k))] [] (MM σ m1 ml) := fun hb2 => loop_up _ (fun k hk ih2 m1 ho h0 hc g1 g2 g3 g4 => by
      refine V_iload dX6_write_78 rfl ?_
      refine V_iconst (v := nI 3) dX6_write_80 (by decide) ?_
      refine V_N_ge (by omega) (by omega) 105 dX6_write_81 (by decide) (fun h81 => ?_) (fun h81 => ?_)
      · refine V_iinc1 dX6_write_105 rfl (Nat.le_of_ble_eq_true rfl) ?_
        refine V_goto 14 dX6_write_108 (by decide) ?_
        exact V.cL (ih hb2 m1 _ ho h0 (fun c hc2 => by
          rcases Nat.lt_or_ge c b with q | q
          · exact hc c q
          · have e : c = b := by omega
            subst e
            exact ⟨g1, g2, g3, fun k hk => g4 k (by omega)⟩)) (by rw [show 9 + 11 * b + k = 1 + 11 * (b + 1) by omega]; rfl)
      · refine V_aload_n dX6_write_84 rfl rfl ?_
        refine V_iload_n dX6_write_85 rfl rfl ?_
        refine V_aload_n dX6_write_86 rfl rfl ?_
        refine V_getR frX6_25 hM.1 rfl dX6_write_87 ?_
        refine V_iload_n dX6_write_90 rfl rfl ?_
        refine V_aaldR hM.2.2.2.2.2.2.2.2.2.2.2.2.2.2.2.2.2.1 (b) rfl hb2 (by decide) dX6_write_91 ?_
        refine V_iload dX6_write_92 rfl ?_
        refine V_ialdE (hM.2.2.2.2.2.2.2.2.2.2.2.2.2.2.2.2.2.1.row (j := b) hb2) k rfl (by omega) (by decide) (ho _ _ (by omega)) dX6_write_94 ?_
        refine V_iastN hr (9 + 11 * b + k) rfl (by omega) (by decide) dX6_write_95 ?_
        refine V_iinc1 dX6_write_96 rfl (Nat.le_of_ble_eq_true rfl) ?_
        refine V_iinc1 dX6_write_99 rfl (Nat.le_of_ble_eq_true rfl) ?_
        refine V_goto 78 dX6_write_102 (by decide) ?_
        exact V.cL (ih2 h81 _ (fun a i q => (u2_n _ _ (Or.inl q)).trans (ho a i q)) ((u2_n _ _ (Or.inr (by omega))).trans h0) (fun c hc2 => by
          obtain ⟨c1, c2, c3, c4⟩ := hc c hc2
          exact ⟨(u2_n _ _ (Or.inr (by omega))).trans c1, (u2_n _ _ (Or.inr (by omega))).trans c2, fun z hz => (u2_n _ _ (Or.inr (by omega))).trans (c3 z hz), fun z hz => (u2_n _ _ (Or.inr (by omega))).trans (c4 z hz)⟩) ((u2_n _ _ (Or.inr (by omega))).trans g1) ((u2_n _ _ (Or.inr (by omega))).trans g2) (fun z hz => (u2_n _ _ (Or.inr (by omega))).trans (g3 z hz)) (fun z hz => by
          by_cases e : z = k
          · subst e; exact u2_s _ _ _ _
          · exact (u2_n _ _ (Or.inr (by omega))).trans (g4 z (by omega)))) rfl
      )
    have lpA : b < 14 → ∀ k, k ≤ 6 → ∀ m1, (∀ a i, a ≠ r → m1 a i = mi a i) → m1 r 0 = mi m 1 → (∀ c, c < b → (m1 r (1 + 11 * c) = mi (m + 1) c ∧ m1 r (2 + 11 * c) = mi (m + 2) c ∧ (∀ k, k < 6 → m1 r (3 + 11 * c + k) = mi (m + 4 + c) k) ∧ ∀ k, k < 3 → m1 r (9 + 11 * c + k) = mi (m + 19 + c) k)) → m1 r (1 + 11 * b) = mi (m + 1) b → m1 r (2 + 11 * b) = mi (m + 2) b → (∀ z, z < k → m1 r (3 + 11 * b + z) = mi (m + 4 + b) z) → V κ (phiP κ mrX6_write 1 0 0 (fun o μ' => o = .inl none ∧ ∃ m1, μ' = MM σ m1 ml ∧ RowA m1 r G ∧ (∀ a i, a ≠ r → m1 a i = mi a i))) 0 0 47 [some (.ref m), some (.ref r), some (.int (nI (3 + 11 * b + k))), some (.int (nI b)), some (.int (nI k))] [] (MM σ m1 ml) := fun hb2 => loop_up _ (fun k hk ih2 m1 ho h0 hc g1 g2 g3 => by
      refine V_iload dX6_write_47 rfl ?_
      refine V_bipush (v := nI 6) dX6_write_49 (by decide) ?_
      refine V_N_ge (by omega) (by omega) 75 dX6_write_51 (by decide) (fun h51 => ?_) (fun h51 => ?_)
      · refine V_iconst (v := nI 0) dX6_write_75 (by decide) ?_
        refine V_istore dX6_write_76 (Nat.le_of_ble_eq_true rfl) ?_
        exact V.cL (lpE hb2 0 (Nat.zero_le _) m1 ho h0 hc g1 g2 (fun z hz => g3 z (by omega)) (fun z hz => absurd hz (Nat.not_lt_zero z))) (by rw [show 3 + 11 * b + k = 9 + 11 * b + 0 by omega]; rfl)
      · refine V_aload_n dX6_write_54 rfl rfl ?_
        refine V_iload_n dX6_write_55 rfl rfl ?_
        refine V_aload_n dX6_write_56 rfl rfl ?_
        refine V_getR frX6_22 hM.1 rfl dX6_write_57 ?_
        refine V_iload_n dX6_write_60 rfl rfl ?_
        refine V_aaldR hM.2.2.2.2.2.2.2.2.2.2.2.2.2.2.2.2.1 (b) rfl hb2 (by decide) dX6_write_61 ?_
        refine V_iload dX6_write_62 rfl ?_
        refine V_ialdE (hM.2.2.2.2.2.2.2.2.2.2.2.2.2.2.2.2.1.row (j := b) hb2) k rfl (by omega) (by decide) (ho _ _ (by omega)) dX6_write_64 ?_
        refine V_iastN hr (3 + 11 * b + k) rfl (by omega) (by decide) dX6_write_65 ?_
        refine V_iinc1 dX6_write_66 rfl (Nat.le_of_ble_eq_true rfl) ?_
        refine V_iinc1 dX6_write_69 rfl (Nat.le_of_ble_eq_true rfl) ?_
        refine V_goto 47 dX6_write_72 (by decide) ?_
        exact V.cL (ih2 h51 _ (fun a i q => (u2_n _ _ (Or.inl q)).trans (ho a i q)) ((u2_n _ _ (Or.inr (by omega))).trans h0) (fun c hc2 => by
          obtain ⟨c1, c2, c3, c4⟩ := hc c hc2
          exact ⟨(u2_n _ _ (Or.inr (by omega))).trans c1, (u2_n _ _ (Or.inr (by omega))).trans c2, fun z hz => (u2_n _ _ (Or.inr (by omega))).trans (c3 z hz), fun z hz => (u2_n _ _ (Or.inr (by omega))).trans (c4 z hz)⟩) ((u2_n _ _ (Or.inr (by omega))).trans g1) ((u2_n _ _ (Or.inr (by omega))).trans g2) (fun z hz => by
          by_cases e : z = k
          · subst e; exact u2_s _ _ _ _
          · exact (u2_n _ _ (Or.inr (by omega))).trans (g3 z (by omega)))) rfl
      )
    refine V_iload_n dX6_write_14 rfl rfl ?_
    refine V_bipush (v := nI 14) dX6_write_15 (by decide) ?_
    refine V_N_ge (by omega) (by omega) 111 dX6_write_17 (by decide) (fun h17 => ?_) (fun h17 => ?_)
    · exact V_vretP rfl ⟨rfl, m1, rfl, ⟨h0.trans hG.1, fun c hc2 => by
              obtain ⟨c1, c2, c3, c4⟩ := hc c (by omega)
              obtain ⟨d1, d2, d3, d4⟩ := hG.2 c hc2
              have h6 := (hw.2.2.1 c).1
              have h3 := (hw.2.2.2.1 c).1
              exact ⟨c1.trans d1, c2.trans d2, fun k hk => (c3 k (by omega)).trans (d3 k hk), fun k hk => (c4 k (by omega)).trans (d4 k hk)⟩⟩, ho⟩ ⟨Nat.le_of_ble_eq_true rfl, Nat.le_of_ble_eq_true rfl⟩ dX6_write_111
    · refine V_aload_n dX6_write_20 rfl rfl ?_
      refine V_iload_n dX6_write_21 rfl rfl ?_
      refine V_aload_n dX6_write_22 rfl rfl ?_
      refine V_getR frX6_13 hM.1 rfl dX6_write_23 ?_
      refine V_iload_n dX6_write_26 rfl rfl ?_
      refine V_ialdE hM.2.1 b rfl (by omega) (by decide) (ho _ _ (by omega)) dX6_write_27 ?_
      refine V_iastN hr (1 + 11 * b) rfl (by omega) (by decide) dX6_write_28 ?_
      refine V_iinc1 dX6_write_29 rfl (Nat.le_of_ble_eq_true rfl) ?_
      refine V_aload_n dX6_write_32 rfl rfl ?_
      refine V_iload_n dX6_write_33 rfl rfl ?_
      refine V_aload_n dX6_write_34 rfl rfl ?_
      refine V_getR frX6_17 hM.1 rfl dX6_write_35 ?_
      refine V_iload_n dX6_write_38 rfl rfl ?_
      refine V_ialdE hM.2.2.1 b rfl (by omega) (by decide) ((u2_n _ _ (Or.inl (by omega))).trans (ho _ _ (by omega))) dX6_write_39 ?_
      refine V_iastN hr (1 + 11 * b + 1) rfl (by omega) (by decide) dX6_write_40 ?_
      refine V_iinc1 dX6_write_41 rfl (Nat.le_of_ble_eq_true rfl) ?_
      refine V_iconst (v := nI 0) dX6_write_44 (by decide) ?_
      refine V_istore dX6_write_45 (Nat.le_of_ble_eq_true rfl) ?_
      exact V.cL (lpA h17 0 (Nat.zero_le _) _ (fun a i q => (u2_n _ _ (Or.inl q)).trans ((u2_n _ _ (Or.inl q)).trans (ho a i q))) (((u2_n _ _ (Or.inr (by omega))).trans (u2_n _ _ (Or.inr (by omega)))).trans h0) (fun c hc2 => by
        obtain ⟨c1, c2, c3, c4⟩ := hc c hc2
        exact ⟨((u2_n _ _ (Or.inr (by omega))).trans (u2_n _ _ (Or.inr (by omega)))).trans c1, ((u2_n _ _ (Or.inr (by omega))).trans (u2_n _ _ (Or.inr (by omega)))).trans c2, fun z hz => ((u2_n _ _ (Or.inr (by omega))).trans (u2_n _ _ (Or.inr (by omega)))).trans (c3 z hz), fun z hz => ((u2_n _ _ (Or.inr (by omega))).trans (u2_n _ _ (Or.inr (by omega)))).trans (c4 z hz)⟩) ((u2_n _ _ (Or.inr (by omega))).trans (u2_s _ _ _ _)) (by rw [show 2 + 11 * b = 1 + 11 * b + 1 by omega]; exact u2_s _ _ _ _) (fun z hz => absurd hz (Nat.not_lt_zero z))) (by rw [show 1 + 11 * b + 1 + 1 = 3 + 11 * b + 0 by omega]; rfl)
    )
  refine V_iconst (v := nI 0) dX6_write_0 (by decide) ?_
  refine V_istore_n dX6_write_1 rfl (Nat.le_of_ble_eq_true rfl) ?_
  refine V_aload_n dX6_write_2 rfl rfl ?_
  refine V_iload_n dX6_write_3 rfl rfl ?_
  refine V_aload_n dX6_write_4 rfl rfl ?_
  refine V_getI frX6_7 hM.1 rfl dX6_write_5 ?_
  refine V_iastN hr 0 rfl (by omega) (by decide) dX6_write_8 ?_
  refine V_iinc1 dX6_write_9 rfl (Nat.le_of_ble_eq_true rfl) ?_
  refine V_iconst (v := nI 0) dX6_write_12 (by decide) ?_
  refine V_istore_n dX6_write_13 rfl (Nat.le_of_ble_eq_true rfl) ?_
  exact V.cL (lp 0 (Nat.zero_le _) _ _ (fun a i q => u2_n _ _ (Or.inl q)) (u2_s _ _ _ _) (fun c hc => absurd hc (Nat.not_lt_zero c))) rfl

theorem ctX6_take (hM : ML σ m) {r : Nat} (hG : RowA mi r G) (hw : Wf G) (hr : σ r = ints 160) (hr2 : m + 34 ≤ r) : CtP κ 0 0 1 mrX6_take [.ref m, .ref r] (MM σ mi ml) (fun o μ' => o = .inl none ∧ ∃ m1, μ' = MM σ m1 ml ∧ GM m1 m G ∧ (∀ a i, ¬ (a = m ∧ i = 1) → (a < m + 1 ∨ m + 33 ≤ a) → m1 a i = mi a i)) := by
  refine CtP.of rfl (by simp [Value.category]) (Nat.le_of_ble_eq_true rfl) ?_
  have lp : ∀ b, b ≤ 14 → ∀ m1 o4, (∀ a i, ¬ (a = m ∧ i = 1) → (a < m + 1 ∨ m + 33 ≤ a) → m1 a i = mi a i) → m1 m 1 = mi r 0 → (∀ c, c < b → (m1 (m + 1) c = mi r (1 + 11 * c) ∧ m1 (m + 2) c = mi r (2 + 11 * c) ∧ (∀ k, k < 6 → m1 (m + 4 + c) k = mi r (3 + 11 * c + k)) ∧ ∀ k, k < 3 → m1 (m + 19 + c) k = mi r (9 + 11 * c + k))) → V κ (phiP κ mrX6_take 1 0 0 (fun o μ' => o = .inl none ∧ ∃ m1, μ' = MM σ m1 ml ∧ GM m1 m G ∧ (∀ a i, ¬ (a = m ∧ i = 1) → (a < m + 1 ∨ m + 33 ≤ a) → m1 a i = mi a i))) 0 0 14 [some (.ref m), some (.ref r), some (.int (nI (1 + 11 * b))), some (.int (nI b)), o4] [] (MM σ m1 ml) := loop_up _ (fun b hb ih m1 o4 ho h0 hc => by
    have lpE : b < 14 → ∀ k, k ≤ 3 → ∀ m1, (∀ a i, ¬ (a = m ∧ i = 1) → (a < m + 1 ∨ m + 33 ≤ a) → m1 a i = mi a i) → m1 m 1 = mi r 0 → (∀ c, c < b → (m1 (m + 1) c = mi r (1 + 11 * c) ∧ m1 (m + 2) c = mi r (2 + 11 * c) ∧ (∀ k, k < 6 → m1 (m + 4 + c) k = mi r (3 + 11 * c + k)) ∧ ∀ k, k < 3 → m1 (m + 19 + c) k = mi r (9 + 11 * c + k))) → m1 (m + 1) b = mi r (1 + 11 * b) → m1 (m + 2) b = mi r (2 + 11 * b) → (∀ k, k < 6 → m1 (m + 4 + b) k = mi r (3 + 11 * b + k)) → (∀ z, z < k → m1 (m + 19 + b) z = mi r (9 + 11 * b + z)) → V κ (phiP κ mrX6_take 1 0 0 (fun o μ' => o = .inl none ∧ ∃ m1, μ' = MM σ m1 ml ∧ GM m1 m G ∧ (∀ a i, ¬ (a = m ∧ i = 1) → (a < m + 1 ∨ m + 33 ≤ a) → m1 a i = mi a i))) 0 0 78 [some (.ref m), some (.ref r), some (.int (nI (9 + 11 * b + k))), some (.int (nI b)), some (.int (nI k))] [] (MM σ m1 ml) := fun hb2 => loop_up _ (fun k hk ih2 m1 ho h0 hc g1 g2 g3 g4 => by
      refine V_iload dX6_take_78 rfl ?_
      refine V_iconst (v := nI 3) dX6_take_80 (by decide) ?_
      refine V_N_ge (by omega) (by omega) 105 dX6_take_81 (by decide) (fun h81 => ?_) (fun h81 => ?_)
      · refine V_iinc1 dX6_take_105 rfl (Nat.le_of_ble_eq_true rfl) ?_
        refine V_goto 14 dX6_take_108 (by decide) ?_
        exact V.cL (ih hb2 m1 _ ho h0 (fun c hc2 => by
          rcases Nat.lt_or_ge c b with q | q
          · exact hc c q
          · have e : c = b := by omega
            subst e
            exact ⟨g1, g2, g3, fun k hk => g4 k (by omega)⟩)) (by rw [show 9 + 11 * b + k = 1 + 11 * (b + 1) by omega]; rfl)
      · refine V_aload_n dX6_take_84 rfl rfl ?_
        refine V_getR frX6_25 hM.1 rfl dX6_take_85 ?_
        refine V_iload_n dX6_take_88 rfl rfl ?_
        refine V_aaldR hM.2.2.2.2.2.2.2.2.2.2.2.2.2.2.2.2.2.1 (b) rfl hb2 (by decide) dX6_take_89 ?_
        refine V_iload dX6_take_90 rfl ?_
        refine V_aload_n dX6_take_92 rfl rfl ?_
        refine V_iload_n dX6_take_93 rfl rfl ?_
        refine V_ialdE hr (9 + 11 * b + k) rfl (by omega) (by decide) (ho _ _ (by omega) (by omega)) dX6_take_94 ?_
        refine V_iastN (hM.2.2.2.2.2.2.2.2.2.2.2.2.2.2.2.2.2.1.row (j := b) hb2) k rfl (by omega) (by decide) dX6_take_95 ?_
        refine V_iinc1 dX6_take_96 rfl (Nat.le_of_ble_eq_true rfl) ?_
        refine V_iinc1 dX6_take_99 rfl (Nat.le_of_ble_eq_true rfl) ?_
        refine V_goto 78 dX6_take_102 (by decide) ?_
        exact V.cL (ih2 h81 _ (fun a i q1 q2 => (u2_n _ _ (by omega)).trans (ho a i q1 q2)) ((u2_n _ _ (by omega)).trans h0) (fun c hc2 => by
          obtain ⟨c1, c2, c3, c4⟩ := hc c hc2
          exact ⟨(u2_n _ _ (by omega)).trans c1, (u2_n _ _ (by omega)).trans c2, fun z hz => (u2_n _ _ (by omega)).trans (c3 z hz), fun z hz => (u2_n _ _ (by omega)).trans (c4 z hz)⟩) ((u2_n _ _ (by omega)).trans g1) ((u2_n _ _ (by omega)).trans g2) (fun z hz => (u2_n _ _ (by omega)).trans (g3 z hz)) (fun z hz => by
          by_cases e : z = k
          · subst e; exact u2_s _ _ _ _
          · exact (u2_n _ _ (by omega)).trans (g4 z (by omega)))) rfl
      )
    have lpA : b < 14 → ∀ k, k ≤ 6 → ∀ m1, (∀ a i, ¬ (a = m ∧ i = 1) → (a < m + 1 ∨ m + 33 ≤ a) → m1 a i = mi a i) → m1 m 1 = mi r 0 → (∀ c, c < b → (m1 (m + 1) c = mi r (1 + 11 * c) ∧ m1 (m + 2) c = mi r (2 + 11 * c) ∧ (∀ k, k < 6 → m1 (m + 4 + c) k = mi r (3 + 11 * c + k)) ∧ ∀ k, k < 3 → m1 (m + 19 + c) k = mi r (9 + 11 * c + k))) → m1 (m + 1) b = mi r (1 + 11 * b) → m1 (m + 2) b = mi r (2 + 11 * b) → (∀ z, z < k → m1 (m + 4 + b) z = mi r (3 + 11 * b + z)) → V κ (phiP κ mrX6_take 1 0 0 (fun o μ' => o = .inl none ∧ ∃ m1, μ' = MM σ m1 ml ∧ GM m1 m G ∧ (∀ a i, ¬ (a = m ∧ i = 1) → (a < m + 1 ∨ m + 33 ≤ a) → m1 a i = mi a i))) 0 0 47 [some (.ref m), some (.ref r), some (.int (nI (3 + 11 * b + k))), some (.int (nI b)), some (.int (nI k))] [] (MM σ m1 ml) := fun hb2 => loop_up _ (fun k hk ih2 m1 ho h0 hc g1 g2 g3 => by
      refine V_iload dX6_take_47 rfl ?_
      refine V_bipush (v := nI 6) dX6_take_49 (by decide) ?_
      refine V_N_ge (by omega) (by omega) 75 dX6_take_51 (by decide) (fun h51 => ?_) (fun h51 => ?_)
      · refine V_iconst (v := nI 0) dX6_take_75 (by decide) ?_
        refine V_istore dX6_take_76 (Nat.le_of_ble_eq_true rfl) ?_
        exact V.cL (lpE hb2 0 (Nat.zero_le _) m1 ho h0 hc g1 g2 (fun z hz => g3 z (by omega)) (fun z hz => absurd hz (Nat.not_lt_zero z))) (by rw [show 3 + 11 * b + k = 9 + 11 * b + 0 by omega]; rfl)
      · refine V_aload_n dX6_take_54 rfl rfl ?_
        refine V_getR frX6_22 hM.1 rfl dX6_take_55 ?_
        refine V_iload_n dX6_take_58 rfl rfl ?_
        refine V_aaldR hM.2.2.2.2.2.2.2.2.2.2.2.2.2.2.2.2.1 (b) rfl hb2 (by decide) dX6_take_59 ?_
        refine V_iload dX6_take_60 rfl ?_
        refine V_aload_n dX6_take_62 rfl rfl ?_
        refine V_iload_n dX6_take_63 rfl rfl ?_
        refine V_ialdE hr (3 + 11 * b + k) rfl (by omega) (by decide) (ho _ _ (by omega) (by omega)) dX6_take_64 ?_
        refine V_iastN (hM.2.2.2.2.2.2.2.2.2.2.2.2.2.2.2.2.1.row (j := b) hb2) k rfl (by omega) (by decide) dX6_take_65 ?_
        refine V_iinc1 dX6_take_66 rfl (Nat.le_of_ble_eq_true rfl) ?_
        refine V_iinc1 dX6_take_69 rfl (Nat.le_of_ble_eq_true rfl) ?_
        refine V_goto 47 dX6_take_72 (by decide) ?_
        exact V.cL (ih2 h51 _ (fun a i q1 q2 => (u2_n _ _ (by omega)).trans (ho a i q1 q2)) ((u2_n _ _ (by omega)).trans h0) (fun c hc2 => by
          obtain ⟨c1, c2, c3, c4⟩ := hc c hc2
          exact ⟨(u2_n _ _ (by omega)).trans c1, (u2_n _ _ (by omega)).trans c2, fun z hz => (u2_n _ _ (by omega)).trans (c3 z hz), fun z hz => (u2_n _ _ (by omega)).trans (c4 z hz)⟩) ((u2_n _ _ (by omega)).trans g1) ((u2_n _ _ (by omega)).trans g2) (fun z hz => by
          by_cases e : z = k
          · subst e; exact u2_s _ _ _ _
          · exact (u2_n _ _ (by omega)).trans (g3 z (by omega)))) rfl
      )
    refine V_iload_n dX6_take_14 rfl rfl ?_
    refine V_bipush (v := nI 14) dX6_take_15 (by decide) ?_
    refine V_N_ge (by omega) (by omega) 111 dX6_take_17 (by decide) (fun h17 => ?_) (fun h17 => ?_)
    · exact V_vretP rfl ⟨rfl, m1, rfl, ⟨h0.trans hG.1, fun c hc2 => by
              obtain ⟨c1, c2, c3, c4⟩ := hc c (by omega)
              obtain ⟨d1, d2, d3, d4⟩ := hG.2 c hc2
              have h6 := (hw.2.2.1 c).1
              have h3 := (hw.2.2.2.1 c).1
              exact ⟨c1.trans d1, c2.trans d2, fun k hk => (c3 k (by omega)).trans (d3 k hk), fun k hk => (c4 k (by omega)).trans (d4 k hk)⟩⟩, ho⟩ ⟨Nat.le_of_ble_eq_true rfl, Nat.le_of_ble_eq_true rfl⟩ dX6_take_111
    · refine V_aload_n dX6_take_20 rfl rfl ?_
      refine V_getR frX6_13 hM.1 rfl dX6_take_21 ?_
      refine V_iload_n dX6_take_24 rfl rfl ?_
      refine V_aload_n dX6_take_25 rfl rfl ?_
      refine V_iload_n dX6_take_26 rfl rfl ?_
      refine V_ialdE hr (1 + 11 * b) rfl (by omega) (by decide) (ho _ _ (by omega) (by omega)) dX6_take_27 ?_
      refine V_iastN hM.2.1 b rfl (by omega) (by decide) dX6_take_28 ?_
      refine V_iinc1 dX6_take_29 rfl (Nat.le_of_ble_eq_true rfl) ?_
      refine V_aload_n dX6_take_32 rfl rfl ?_
      refine V_getR frX6_17 hM.1 rfl dX6_take_33 ?_
      refine V_iload_n dX6_take_36 rfl rfl ?_
      refine V_aload_n dX6_take_37 rfl rfl ?_
      refine V_iload_n dX6_take_38 rfl rfl ?_
      refine V_ialdE hr (1 + 11 * b + 1) rfl (by omega) (by decide) ((u2_n _ _ (Or.inl (by omega))).trans (ho _ _ (by omega) (by omega))) dX6_take_39 ?_
      refine V_iastN hM.2.2.1 b rfl (by omega) (by decide) dX6_take_40 ?_
      refine V_iinc1 dX6_take_41 rfl (Nat.le_of_ble_eq_true rfl) ?_
      refine V_iconst (v := nI 0) dX6_take_44 (by decide) ?_
      refine V_istore dX6_take_45 (Nat.le_of_ble_eq_true rfl) ?_
      exact V.cL (lpA h17 0 (Nat.zero_le _) _ (fun a i q1 q2 => ((u2_n _ _ (by omega)).trans (u2_n _ _ (by omega))).trans (ho a i q1 q2)) (((u2_n _ _ (by omega)).trans (u2_n _ _ (by omega))).trans h0) (fun c hc2 => by
        obtain ⟨c1, c2, c3, c4⟩ := hc c hc2
        exact ⟨((u2_n _ _ (by omega)).trans (u2_n _ _ (by omega))).trans c1, ((u2_n _ _ (by omega)).trans (u2_n _ _ (by omega))).trans c2, fun z hz => ((u2_n _ _ (by omega)).trans (u2_n _ _ (by omega))).trans (c3 z hz), fun z hz => ((u2_n _ _ (by omega)).trans (u2_n _ _ (by omega))).trans (c4 z hz)⟩) ((u2_n _ _ (by omega)).trans (u2_s _ _ _ _)) ((u2_s _ _ _ _).trans (by rw [show 2 + 11 * b = 1 + 11 * b + 1 by omega])) (fun z hz => absurd hz (Nat.not_lt_zero z))) (by rw [show 1 + 11 * b + 1 + 1 = 3 + 11 * b + 0 by omega]; rfl)
    )
  refine V_iconst (v := nI 0) dX6_take_0 (by decide) ?_
  refine V_istore_n dX6_take_1 rfl (Nat.le_of_ble_eq_true rfl) ?_
  refine V_aload_n dX6_take_2 rfl rfl ?_
  refine V_aload_n dX6_take_3 rfl rfl ?_
  refine V_iload_n dX6_take_4 rfl rfl ?_
  refine V_ialdN hr 0 rfl (by omega) (by decide) dX6_take_5 ?_
  refine V_putI fpX6_7 rfl rfl hM.1 rfl dX6_take_6 ?_
  refine V_iinc1 dX6_take_9 rfl (Nat.le_of_ble_eq_true rfl) ?_
  refine V_iconst (v := nI 0) dX6_take_12 (by decide) ?_
  refine V_istore_n dX6_take_13 rfl (Nat.le_of_ble_eq_true rfl) ?_
  exact V.cL (lp 0 (Nat.zero_le _) _ _ (fun a i q1 q2 => u2_n _ _ (by omega)) (u2_s _ _ _ _) (fun c hc => absurd hc (Nat.not_lt_zero c))) rfl

end Mdl7
