/-! SsaRepairModel: operands, reaching definitions, walks -/
section Mdl6
variable {κ : K0} {σ : Nat → Option Kd} {mi : Nat → Nat → Int32} {ml : Nat → Nat → Int64} {m : Nat} {G : Gr} {S : SS} {μ : Mem}
theorem cnt_cut (hw : Wf G) {P : Nat → Bool} (h : ∀ k, k < 14 → P k = true → k < G.1) : cnt P 14 = cnt P G.1 := by
  have h14 := hw.2.1
  have key : ∀ d, G.1 + d ≤ 14 → cnt P (G.1 + d) = cnt P G.1 := by
    intro d
    induction d with
    | zero => intro _; rfl
    | succ d ih =>
      intro hd
      rw [← Nat.add_assoc, cnt, ih (by omega), if_neg (fun q => by have := h (G.1 + d) (by omega) q; omega), Nat.add_zero]
  have := key (14 - G.1) (by omega)
  rw [show G.1 + (14 - G.1) = 14 by omega] at this
  exact this
theorem ctX6_differentOperands (hM : ML σ m) (hA : MA mi m S) (hS : SOK S) {b v : Int32} : CtP κ 0 0 24 mrX6_differentOperands [.ref m, .int b, .int v] (MM σ mi ml) (MRz σ mi ml m (rs_differentOperands S b v)) := by
  have hw := hS.1
  have h14 := hw.2.1
  have hG := hA.1
  cases hc : (inR v 4 && inR b S.1.1) with
  | false =>
    rw [show rs_differentOperands S b v = (1, 0, S) from by unfold rs_differentOperands; rw [if_pos hc]]
    refine CtP.of rfl (by simp [Value.category]) (Nat.le_of_ble_eq_true rfl) ?_
    refine V_aload_n dX6_differentOperands_0 rfl rfl ?_
    refine V_iload_n dX6_differentOperands_1 rfl rfl ?_
    refine V_iload_n dX6_differentOperands_2 rfl rfl ?_
    refine V_cv1 (ctX6_failsAt_1 hM hG hw hc) mvX6_failsAt lkX6_205 hM.1 rfl rfl rfl (Nat.le_of_ble_eq_true rfl) ⟨⟨Nat.le_of_ble_eq_true rfl, Nat.le_of_ble_eq_true rfl⟩, Nat.le_of_ble_eq_true rfl, Nat.le_of_ble_eq_true rfl⟩ dX6_differentOperands_3 ?_
    refine V_ifneB 35 dX6_differentOperands_6 (by decide) (fun h6 => ?_) (fun h6 => absurd (h6.symm.trans rfl) (by decide))
    refine V_iconst (v := nI 0) dX6_differentOperands_35 (by decide) ?_
    exact V_iretP rfl ⟨rfl, MQz hA hS kep.rf.z (u2_s _ _ _ _)⟩ ⟨Nat.le_of_ble_eq_true rfl, Nat.le_of_ble_eq_true rfl⟩ dX6_differentOperands_36

  | true =>
    have hc2 := hc
    rw [Bool.and_eq_true] at hc2
    obtain ⟨i, hi, rfl⟩ := inR_t (by omega) hc2.1
    have ti := tn_nI (show i < 2 ^ 31 by omega)
    obtain ⟨j, hj, rfl⟩ := inR_t (by omega) hc2.2
    have tj := tn_nI (show j < 2 ^ 31 by omega)
    have h1 : ¬ (inR (nI i) 4 && inR (nI j) S.1.1) = false := by rw [hc]; decide
    cases hr : bp (Rc S.1 j) with
    | false =>
      rw [show rs_differentOperands S (nI j) (nI i) = (2, 0, S) from by unfold rs_differentOperands; rw [tj, if_neg h1, if_pos hr]]
      refine CtP.of rfl (by simp [Value.category]) (Nat.le_of_ble_eq_true rfl) ?_
      refine V_aload_n dX6_differentOperands_0 rfl rfl ?_
      refine V_iload_n dX6_differentOperands_1 rfl rfl ?_
      refine V_iload_n dX6_differentOperands_2 rfl rfl ?_
      refine V_cp1 (ctX6_failsAt_2 hM hG hw hc2.1 hj hr) mvX6_failsAt lkX6_205 hM.1 rfl rfl rfl (Nat.le_of_ble_eq_true rfl) ⟨⟨Nat.le_of_ble_eq_true rfl, Nat.le_of_ble_eq_true rfl⟩, Nat.le_of_ble_eq_true rfl, Nat.le_of_ble_eq_true rfl⟩ dX6_differentOperands_3 (fun y0 μ1 hx => ?_)
      obtain ⟨rfl, m1, rfl, hk1, h01⟩ := hx
      refine V_ifneB 35 dX6_differentOperands_6 (by decide) (fun h6 => ?_) (fun h6 => absurd (h6.symm.trans rfl) (by decide))
      refine V_iconst (v := nI 0) dX6_differentOperands_35 (by decide) ?_
      exact V_iretP rfl ⟨rfl, MQz hA hS hk1 h01⟩ ⟨Nat.le_of_ble_eq_true rfl, Nat.le_of_ble_eq_true rfl⟩ dX6_differentOperands_36

    | true =>
      have hR := bp_t.mp hr
      have h2 : ¬ bp (Rc S.1 j) = false := by rw [hr]; decide
      cases hm : bp (PM S.1 i j) with
      | false =>
        rw [show rs_differentOperands S (nI j) (nI i) = (3, 0, S) from by unfold rs_differentOperands; rw [tj, ti, if_neg h1, if_neg h2, if_pos hm]]
        refine CtP.of rfl (by simp [Value.category]) (Nat.le_of_ble_eq_true rfl) ?_
        refine V_aload_n dX6_differentOperands_0 rfl rfl ?_
        refine V_iload_n dX6_differentOperands_1 rfl rfl ?_
        refine V_iload_n dX6_differentOperands_2 rfl rfl ?_
        refine V_cp1 (ctX6_failsAt_0 hM hG hw hc2.1 hj hr) mvX6_failsAt lkX6_205 hM.1 rfl rfl rfl (Nat.le_of_ble_eq_true rfl) ⟨⟨Nat.le_of_ble_eq_true rfl, Nat.le_of_ble_eq_true rfl⟩, Nat.le_of_ble_eq_true rfl, Nat.le_of_ble_eq_true rfl⟩ dX6_differentOperands_3 (fun y0 μ1 hx => ?_)
        obtain ⟨rfl, m1, rfl, hk1, h01, hn⟩ := hx
        have hG1 := hG.kp hk1
        refine V_ifneB 35 dX6_differentOperands_6 (by decide) (fun h6 => absurd (h6.symm.trans rfl) (by decide)) (fun h6 => ?_)
        refine V_aload_n dX6_differentOperands_9 rfl rfl ?_
        refine V_iconst (v := nI 3) dX6_differentOperands_10 (by decide) ?_
        refine V_aload_n dX6_differentOperands_11 rfl rfl ?_
        refine V_getR frX6_65 hM.1 rfl dX6_differentOperands_12 ?_
        refine V_iload_n dX6_differentOperands_15 rfl rfl ?_
        refine V_ialdE hM.2.2.2.2.2.2.2.2.2.2.2.2.1 i rfl hi (by decide) ((hn.2.2.2 i hi).2.2.1) dX6_differentOperands_16 ?_
        refine V_iload_n dX6_differentOperands_17 rfl rfl ?_
        refine V_cs1 (ctX6_hasM (by omega)) msX6_has lkX6_158 rfl rfl (Nat.le_of_ble_eq_true rfl) ⟨⟨Nat.le_of_ble_eq_true rfl, Nat.le_of_ble_eq_true rfl⟩, Nat.le_of_ble_eq_true rfl, Nat.le_of_ble_eq_true rfl⟩ dX6_differentOperands_18 ?_
        refine V_ifneB 28 dX6_differentOperands_21 (by decide) (fun h21 => absurd (h21.symm.trans hm) (by decide)) (fun h21 => ?_)
        refine V_iconst (v := nI 1) dX6_differentOperands_24 (by decide) ?_
        refine V_goto 29 dX6_differentOperands_25 (by decide) ?_
        refine V_cv1 (ctX6_fails hM (k := nI 3) (c := true)) mvX6_fails lkX6_100 hM.1 rfl rfl rfl (Nat.le_of_ble_eq_true rfl) ⟨⟨Nat.le_of_ble_eq_true rfl, Nat.le_of_ble_eq_true rfl⟩, Nat.le_of_ble_eq_true rfl, Nat.le_of_ble_eq_true rfl⟩ dX6_differentOperands_29 ?_
        refine V_ifeqB 37 dX6_differentOperands_32 (by decide) (fun h32 => absurd (h32.symm.trans rfl) (by decide)) (fun h32 => ?_)
        refine V_iconst (v := nI 0) dX6_differentOperands_35 (by decide) ?_
        exact V_iretP rfl ⟨rfl, MQz hA hS hk1.z (u2_s _ _ _ _)⟩ ⟨Nat.le_of_ble_eq_true rfl, Nat.le_of_ble_eq_true rfl⟩ dX6_differentOperands_36

      | true =>
        rw [show rs_differentOperands S (nI j) (nI i) = (0, nI (opN S.1 i j), S) from by unfold rs_differentOperands; rw [tj, ti, if_neg h1, if_neg h2, if_neg (by rw [hm]; decide)]]
        refine CtP.of rfl (by simp [Value.category]) (Nat.le_of_ble_eq_true rfl) ?_
        have lp : ∀ m1, GM m1 m S.1 → AN m1 m S.1 → (∃ m', MM σ m1 ml = MM σ m' ml ∧ MA m' m S ∧ m' m 0 = nI 0 ∧ ∀ a i, (a < m ∨ m + 101 ≤ a) → m' a i = mi a i) → ∀ p, p ≤ S.1.1 → ∀ o5 o6, V κ (phiP κ mrX6_differentOperands 24 0 0 (MRz σ mi ml m (0, nI (opN S.1 i j), S))) 0 0 42 [some (.ref m), some (.int (nI j)), some (.int (nI i)), some (.int (nI (cnt (fun p => bp (Pd S.1 p j) && bp (∀ e, e < p → Pd S.1 e j → srcE S.1 i e ≠ srcE S.1 i p)) p))), some (.int (nI p)), o5, o6] [] (MM σ m1 ml) := fun m1 hG hn hq => loop_up _ (fun p hp ih o5 o6 => by
          have lpE : p < S.1.1 → ∀ e, e ≤ p → ∀ s : Bool, (s = true ↔ Pd S.1 p j ∧ ∀ z, z < e → Pd S.1 z j → srcE S.1 i z ≠ srcE S.1 i p) → V κ (phiP κ mrX6_differentOperands 24 0 0 (MRz σ mi ml m (0, nI (opN S.1 i j), S))) 0 0 67 [some (.ref m), some (.int (nI j)), some (.int (nI i)), some (.int (nI (cnt (fun p => bp (Pd S.1 p j) && bp (∀ e, e < p → Pd S.1 e j → srcE S.1 i e ≠ srcE S.1 i p)) p))), some (.int (nI p)), some (.int (bI s)), some (.int (nI e))] [] (MM σ m1 ml) := fun hp2 => loop_up _ (fun e he ih2 s hs => by
            refine V_iload dX6_differentOperands_67 rfl ?_
            refine V_iload dX6_differentOperands_69 rfl ?_
            refine V_N_ge (by omega) (by omega) 125 dX6_differentOperands_71 (by decide) (fun h71 => ?_) (fun h71 => ?_)
            · refine V_iload_n dX6_differentOperands_125 rfl rfl ?_
              refine V_iload dX6_differentOperands_126 rfl ?_
              refine V_ifeqB 135 dX6_differentOperands_128 (by decide) (fun h128 => ?_) (fun h128 => ?_)
              · refine V_iconst (v := nI 0) dX6_differentOperands_135 (by decide) ?_
                refine V_iadd dX6_differentOperands_136 ?_
                refine V_top (nI_add _ _) ?_
                refine V_istore_n dX6_differentOperands_137 rfl (Nat.le_of_ble_eq_true rfl) ?_
                refine V_iinc1 dX6_differentOperands_138 rfl (Nat.le_of_ble_eq_true rfl) ?_
                refine V_goto 42 dX6_differentOperands_141 (by decide) ?_
                exact V.cL (ih hp2 _ _) (by
                  rw [← cnt_f (P := fun p => bp (Pd S.1 p j) && bp (∀ e, e < p → Pd S.1 e j → srcE S.1 i e ≠ srcE S.1 i p)) (by
                    show (_ && _) = false
                    rw [← Bool.not_eq_true, Bool.and_eq_true, bp_t, bp_t]
                    intro q
                    rw [hs.mpr ⟨q.1, fun z hz => q.2 z (by omega)⟩] at h128
                    cases h128)]; rfl)
              · refine V_iconst (v := nI 1) dX6_differentOperands_131 (by decide) ?_
                refine V_goto 136 dX6_differentOperands_132 (by decide) ?_
                refine V_iadd dX6_differentOperands_136 ?_
                refine V_top (nI_add _ _) ?_
                refine V_istore_n dX6_differentOperands_137 rfl (Nat.le_of_ble_eq_true rfl) ?_
                refine V_iinc1 dX6_differentOperands_138 rfl (Nat.le_of_ble_eq_true rfl) ?_
                refine V_goto 42 dX6_differentOperands_141 (by decide) ?_
                exact V.cL (ih hp2 _ _) (by
                  rw [← cnt_t (P := fun p => bp (Pd S.1 p j) && bp (∀ e, e < p → Pd S.1 e j → srcE S.1 i e ≠ srcE S.1 i p)) (by
                    show (_ && _) = true
                    rw [Bool.and_eq_true, bp_t, bp_t]
                    have q := hs.mp h128
                    exact ⟨q.1, fun z hz => q.2 z (by omega)⟩)]; rfl)
            · refine V_iload dX6_differentOperands_74 rfl ?_
              refine V_aload_n dX6_differentOperands_76 rfl rfl ?_
              refine V_getR frX6_47 hM.1 rfl dX6_differentOperands_77 ?_
              refine V_iload_n dX6_differentOperands_80 rfl rfl ?_
              refine V_ialdE hM.2.2.2.2.2.2.1 j rfl (by omega) (by decide) (hn.1.2 j hj) dX6_differentOperands_81 ?_
              refine V_iload dX6_differentOperands_82 rfl ?_
              refine V_cs1 (ctX6_hasM (by omega)) msX6_has lkX6_158 rfl rfl (Nat.le_of_ble_eq_true rfl) ⟨⟨Nat.le_of_ble_eq_true rfl, Nat.le_of_ble_eq_true rfl⟩, Nat.le_of_ble_eq_true rfl, Nat.le_of_ble_eq_true rfl⟩ dX6_differentOperands_84 ?_
              refine V_ifeqB 111 dX6_differentOperands_87 (by decide) (fun h87 => ?_) (fun h87 => ?_)
              · refine V_iconst (v := nI 1) dX6_differentOperands_111 (by decide) ?_
                refine V_goto 116 dX6_differentOperands_112 (by decide) ?_
                refine V_iand dX6_differentOperands_116 ?_
                refine V_top (bI_and s true) ?_
                refine V_istore dX6_differentOperands_117 (Nat.le_of_ble_eq_true rfl) ?_
                refine V_iinc1 dX6_differentOperands_119 rfl (Nat.le_of_ble_eq_true rfl) ?_
                refine V_goto 67 dX6_differentOperands_122 (by decide) ?_
                exact ih2 h71 (s && true) (by
                  rw [Bool.and_true, hs]
                  refine and_congr_right (fun hpd => ⟨fun h z hz hzd => ?_, fun h z hz => h z (by omega)⟩)
                  rcases Nat.lt_or_ge z e with q | q
                  · exact h z q hzd
                  · have q2 : z = e := by omega
                    subst q2; exact absurd hzd (bp_f.mp h87))
              · refine V_aload_n dX6_differentOperands_90 rfl rfl ?_
                refine V_getR frX6_71 hM.1 rfl dX6_differentOperands_91 ?_
                refine V_iload dX6_differentOperands_94 rfl ?_
                refine V_aaldR hM.2.2.2.2.2.2.2.2.2.2.2.2.2.2.2.2.2.2.2.2.1 (e) rfl (show e < 14 by omega) (by decide) dX6_differentOperands_96 ?_
                refine V_iload_n dX6_differentOperands_97 rfl rfl ?_
                refine V_ialdE (hM.2.2.2.2.2.2.2.2.2.2.2.2.2.2.2.2.2.2.2.2.1.row (j := e) (show e < 14 by omega)) i rfl hi (by decide) (((hn.2.2.2 i hi).2.2.2 e (bp_t.mp h87).1).2) dX6_differentOperands_98 ?_
                refine V_aload_n dX6_differentOperands_99 rfl rfl ?_
                refine V_getR frX6_71 hM.1 rfl dX6_differentOperands_100 ?_
                refine V_iload dX6_differentOperands_103 rfl ?_
                refine V_aaldR hM.2.2.2.2.2.2.2.2.2.2.2.2.2.2.2.2.2.2.2.2.1 (p) rfl (show p < 14 by omega) (by decide) dX6_differentOperands_105 ?_
                refine V_iload_n dX6_differentOperands_106 rfl rfl ?_
                refine V_ialdN (hM.2.2.2.2.2.2.2.2.2.2.2.2.2.2.2.2.2.2.2.2.1.row (j := p) (show p < 14 by omega)) i rfl hi (by decide) dX6_differentOperands_107 ?_
                refine V_icmp_eq 115 dX6_differentOperands_108 (by decide) (fun h108 => ?_) (fun h108 => ?_)
                · refine V_iconst (v := nI 0) dX6_differentOperands_115 (by decide) ?_
                  refine V_iand dX6_differentOperands_116 ?_
                  refine V_top (bI_and s false) ?_
                  refine V_istore dX6_differentOperands_117 (Nat.le_of_ble_eq_true rfl) ?_
                  refine V_iinc1 dX6_differentOperands_119 rfl (Nat.le_of_ble_eq_true rfl) ?_
                  refine V_goto 67 dX6_differentOperands_122 (by decide) ?_
                  exact ih2 h71 (s && false) (by
                    rw [Bool.and_false]
                    refine ⟨fun q => (by cases q), fun q => ?_⟩
                    have hz := q.2 e (by omega) (bp_t.mp h87)
                    have hle := srcE_le hw (v := i) (bp_t.mp h87).1
                    have hle2 := srcE_le hw (v := i) q.1.1
                    rw [show (MM σ m1 ml).2.1 (m + 70 + p) i = nI (srcE S.1 i p) from ((hn.2.2.2 i hi).2.2.2 p q.1.1).2] at h108
                    exact absurd ((nI_eq (by omega) (by omega)).mp h108) hz)
                · refine V_iconst (v := nI 1) dX6_differentOperands_111 (by decide) ?_
                  refine V_goto 116 dX6_differentOperands_112 (by decide) ?_
                  refine V_iand dX6_differentOperands_116 ?_
                  refine V_top (bI_and s true) ?_
                  refine V_istore dX6_differentOperands_117 (Nat.le_of_ble_eq_true rfl) ?_
                  refine V_iinc1 dX6_differentOperands_119 rfl (Nat.le_of_ble_eq_true rfl) ?_
                  refine V_goto 67 dX6_differentOperands_122 (by decide) ?_
                  exact ih2 h71 (s && true) (by
                    rw [Bool.and_true, hs]
                    refine and_congr_right (fun hpd => ⟨fun h z hz hzd => ?_, fun h z hz => h z (by omega)⟩)
                    rcases Nat.lt_or_ge z e with q | q
                    · exact h z q hzd
                    · have q2 : z = e := by omega
                      subst q2
                      intro q3
                      refine h108 ?_
                      rw [show (MM σ m1 ml).2.1 (m + 70 + p) i = nI (srcE S.1 i p) from ((hn.2.2.2 i hi).2.2.2 p hpd.1).2, q3])
          )
          refine V_iload dX6_differentOperands_42 rfl ?_
          refine V_aload_n dX6_differentOperands_44 rfl rfl ?_
          refine V_getE frX6_7 hM.1 rfl hG.1 dX6_differentOperands_45 ?_
          refine V_N_ge (by omega) (by omega) 144 dX6_differentOperands_48 (by decide) (fun h48 => ?_) (fun h48 => ?_)
          · refine V_iload_n dX6_differentOperands_144 rfl rfl ?_
            exact V_iretP rfl ⟨by
                          show _ = Sum.inl (some (Value.int (nI (opN S.1 i j))))
                          unfold opN
                          rw [show p = S.1.1 by omega, cnt_cut hw (P := fun p => bp (Pd S.1 p j) && bp (∀ e, e < p → Pd S.1 e j → srcE S.1 i e ≠ srcE S.1 i p)) (fun k hk h => (bp_t.mp (Bool.and_eq_true _ _ ▸ h).1).1.lt hw)], hq⟩ ⟨Nat.le_of_ble_eq_true rfl, Nat.le_of_ble_eq_true rfl⟩ dX6_differentOperands_145
          · refine V_aload_n dX6_differentOperands_51 rfl rfl ?_
            refine V_getR frX6_47 hM.1 rfl dX6_differentOperands_52 ?_
            refine V_iload_n dX6_differentOperands_55 rfl rfl ?_
            refine V_ialdE hM.2.2.2.2.2.2.1 j rfl (by omega) (by decide) (hn.1.2 j hj) dX6_differentOperands_56 ?_
            refine V_iload dX6_differentOperands_57 rfl ?_
            refine V_cs1 (ctX6_hasM (by omega)) msX6_has lkX6_158 rfl rfl (Nat.le_of_ble_eq_true rfl) ⟨⟨Nat.le_of_ble_eq_true rfl, Nat.le_of_ble_eq_true rfl⟩, Nat.le_of_ble_eq_true rfl, Nat.le_of_ble_eq_true rfl⟩ dX6_differentOperands_59 ?_
            refine V_istore dX6_differentOperands_62 (Nat.le_of_ble_eq_true rfl) ?_
            refine V_iconst (v := nI 0) dX6_differentOperands_64 (by decide) ?_
            refine V_istore dX6_differentOperands_65 (Nat.le_of_ble_eq_true rfl) ?_
            exact lpE h48 0 (Nat.zero_le _) _ ⟨fun h => ⟨bp_t.mp h, fun z hz => absurd hz (Nat.not_lt_zero z)⟩, fun h => bp_pos h.1⟩
        )
        refine V_aload_n dX6_differentOperands_0 rfl rfl ?_
        refine V_iload_n dX6_differentOperands_1 rfl rfl ?_
        refine V_iload_n dX6_differentOperands_2 rfl rfl ?_
        refine V_cp1 (ctX6_failsAt_0 hM hG hw hc2.1 hj hr) mvX6_failsAt lkX6_205 hM.1 rfl rfl rfl (Nat.le_of_ble_eq_true rfl) ⟨⟨Nat.le_of_ble_eq_true rfl, Nat.le_of_ble_eq_true rfl⟩, Nat.le_of_ble_eq_true rfl, Nat.le_of_ble_eq_true rfl⟩ dX6_differentOperands_3 (fun y0 μ1 hx => ?_)
        obtain ⟨rfl, m1, rfl, hk1, h01, hn⟩ := hx
        have hG1 := hG.kp hk1
        refine V_ifneB 35 dX6_differentOperands_6 (by decide) (fun h6 => absurd (h6.symm.trans rfl) (by decide)) (fun h6 => ?_)
        refine V_aload_n dX6_differentOperands_9 rfl rfl ?_
        refine V_iconst (v := nI 3) dX6_differentOperands_10 (by decide) ?_
        refine V_aload_n dX6_differentOperands_11 rfl rfl ?_
        refine V_getR frX6_65 hM.1 rfl dX6_differentOperands_12 ?_
        refine V_iload_n dX6_differentOperands_15 rfl rfl ?_
        refine V_ialdE hM.2.2.2.2.2.2.2.2.2.2.2.2.1 i rfl hi (by decide) ((hn.2.2.2 i hi).2.2.1) dX6_differentOperands_16 ?_
        refine V_iload_n dX6_differentOperands_17 rfl rfl ?_
        refine V_cs1 (ctX6_hasM (by omega)) msX6_has lkX6_158 rfl rfl (Nat.le_of_ble_eq_true rfl) ⟨⟨Nat.le_of_ble_eq_true rfl, Nat.le_of_ble_eq_true rfl⟩, Nat.le_of_ble_eq_true rfl, Nat.le_of_ble_eq_true rfl⟩ dX6_differentOperands_18 ?_
        refine V_ifneB 28 dX6_differentOperands_21 (by decide) (fun h21 => ?_) (fun h21 => absurd (h21.symm.trans hm) (by decide))
        refine V_iconst (v := nI 0) dX6_differentOperands_28 (by decide) ?_
        refine V_cv1 (ctX6_fails hM (k := nI 3) (c := false)) mvX6_fails lkX6_100 hM.1 rfl rfl rfl (Nat.le_of_ble_eq_true rfl) ⟨⟨Nat.le_of_ble_eq_true rfl, Nat.le_of_ble_eq_true rfl⟩, Nat.le_of_ble_eq_true rfl, Nat.le_of_ble_eq_true rfl⟩ dX6_differentOperands_29 ?_
        refine V_ifeqB 37 dX6_differentOperands_32 (by decide) (fun h32 => ?_) (fun h32 => absurd (h32.symm.trans rfl) (by decide))
        refine V_iconst (v := nI 0) dX6_differentOperands_37 (by decide) ?_
        refine V_istore_n dX6_differentOperands_38 rfl (Nat.le_of_ble_eq_true rfl) ?_
        refine V_iconst (v := nI 0) dX6_differentOperands_39 (by decide) ?_
        refine V_istore dX6_differentOperands_40 (Nat.le_of_ble_eq_true rfl) ?_
        exact lp _ hG1.z (hn.z hw) (MQz hA hS hk1.z (u2_s _ _ _ _)) 0 (Nat.zero_le _) _ _

/-- from where a definition leaves -/
noncomputable def opS (G : Gr) (v j : Nat) (z : Bool) (a : Nat) : Bool := bp (if z = true then a = 0 ∧ ¬ Df G v 0 else a = j)
def AR (G : Gr) (v : Nat) (Op : Nat → Bool) : Nat → Prop := Cl (fun t => ∃ a, Op a = true ∧ Ed G a t) (fun a t => ¬ Df G v a ∧ Ed G a t)
theorem AR.lt (hw : Wf G) {v : Nat} {Op : Nat → Bool} {k : Nat} (h : AR G v Op k) : k < 14 := Cl.rec' (C := fun k => k < 14) (fun a ⟨_, _, h⟩ => by have := (Ed.lt hw h).2.2; have := hw.2.1; omega) (fun a b _ _ ht => by have := (Ed.lt hw ht.2).2.2; have := hw.2.1; omega) h
theorem ctX6_arrival (hM : ML σ m) (hG : GM mi m G) (hw : Wf G) {j v : Nat} {z : Bool} (hj : j < 14) (hv : v < 4) : Ct κ 0 0 4 mrX6_arrival [.ref m, .int (nI j), .int (nI v), .int (bI z)] (MM σ mi ml) (.inl (some (.int (msk (fun t => bp (AR G v (opS G v j z) t)))))) (MM σ mi ml) := by
  refine Ct.of rfl (by simp [Value.category]) (Nat.le_of_ble_eq_true rfl) ?_
  have h14 := hw.2.1
  have pass : ∀ (P0 : Nat → Bool) (n : Nat), (∀ P l o7 o8 o9, (msk P ≠ l → 14 < cnt P 14 + n) → (∀ k, k < 14 → P k = true → AR G v (opS G v j z) k) → (msk P = l → ∀ a t, a < G.1 → (opS G v j z a = true ∨ (P a = true ∧ ¬ Df G v a)) → Ed G a t → P t = true) → V κ (phi κ mrX6_arrival 4 0 0 (.inl (some (.int (msk (fun t => bp (AR G v (opS G v j z) t)))))) (MM σ mi ml)) 0 0 32 [some (.ref m), some (.int (nI j)), some (.int (nI v)), some (.int (bI z)), some (.int (msk P)), some (.int (msk (opS G v j z))), some (.int l), o7, o8, o9] [] (MM σ mi ml)) → 14 < cnt P0 14 + (n + 1) → ∀ i, i ≤ G.1 → ∀ P o8 o9, (∀ k, k < 14 → P0 k = true → P k = true) → (∀ k, k < 14 → P k = true → AR G v (opS G v j z) k) → (∀ a t, a < i → (opS G v j z a = true ∨ (P0 a = true ∧ ¬ Df G v a)) → Ed G a t → P t = true) → V κ (phi κ mrX6_arrival 4 0 0 (.inl (some (.int (msk (fun t => bp (AR G v (opS G v j z) t)))))) (MM σ mi ml)) 0 0 46 [some (.ref m), some (.int (nI j)), some (.int (nI v)), some (.int (bI z)), some (.int (msk P)), some (.int (msk (opS G v j z))), some (.int (msk P0)), some (.int (nI i)), o8, o9] [] (MM σ mi ml) := fun P0 n IH hn => loop_up _ (fun i hi ih P o8 o9 j1 j2 j3 => by
    have lpK : i < G.1 → ∀ (s : Bool), (s = true → ∀ t, Ed G i t → AR G v (opS G v j z) t) → ((opS G v j z i = true ∨ (P0 i = true ∧ ¬ Df G v i)) → s = true) → ∀ k, k ≤ (G.2.2 i).length → ∀ P, (∀ k, k < 14 → P0 k = true → P k = true) → (∀ k, k < 14 → P k = true → AR G v (opS G v j z) k) → (∀ a t, a < i → (opS G v j z a = true ∨ (P0 a = true ∧ ¬ Df G v a)) → Ed G a t → P t = true) → (∀ q, q < k → P ((G.2.2 i).getD q 0) = true) → V κ (phi κ mrX6_arrival 4 0 0 (.inl (some (.int (msk (fun t => bp (AR G v (opS G v j z) t)))))) (MM σ mi ml)) 0 0 95 [some (.ref m), some (.int (nI j)), some (.int (nI v)), some (.int (bI z)), some (.int (msk P)), some (.int (msk (opS G v j z))), some (.int (msk P0)), some (.int (nI i)), some (.int (bI s)), some (.int (nI k))] [] (MM σ mi ml) := fun hi2 s s1 s2 => loop_up _ (fun k hk ih2 P j1 j2 j3 j5 => by
      have h3 := (hw.2.2.2.1 i).1
      refine V_iload dX6_arrival_95 rfl ?_
      refine V_aload_n dX6_arrival_97 rfl rfl ?_
      refine V_getR frX6_17 hM.1 rfl dX6_arrival_98 ?_
      refine V_iload dX6_arrival_101 rfl ?_
      refine V_ialdE hM.2.2.1 i rfl (by omega) (by decide) ((hG.2 i (by omega)).2.1) dX6_arrival_103 ?_
      refine V_N_ge (by omega) (by omega) 135 dX6_arrival_104 (by decide) (fun h104 => ?_) (fun h104 => ?_)
      · refine V_iinc1 dX6_arrival_135 rfl (Nat.le_of_ble_eq_true rfl) ?_
        refine V_goto 46 dX6_arrival_138 (by decide) ?_
        exact ih hi2 P _ _ j1 j2 (fun a t ha hc he => by
          rcases Nat.lt_or_ge a i with q | q
          · exact j3 a t q hc he
          · have e : a = i := by omega
            subst e
            obtain ⟨z, z1, z2⟩ := edg_all he
            rw [← z2]; exact j5 z (by omega))
      · obtain ⟨e1, e2, e3⟩ := edg14 hw h104
        refine V_iload dX6_arrival_107 rfl ?_
        refine V_ifeqB 135 dX6_arrival_109 (by decide) (fun h109 => ?_) (fun h109 => ?_)
        · refine V_iinc1 dX6_arrival_135 rfl (Nat.le_of_ble_eq_true rfl) ?_
          refine V_goto 46 dX6_arrival_138 (by decide) ?_
          exact ih hi2 P _ _ j1 j2 (fun a t ha hc he => by
            rcases Nat.lt_or_ge a i with q | q
            · exact j3 a t q hc he
            · have e : a = i := by omega
              subst e
              rw [s2 hc] at h109
              cases h109)
        · refine V_iload dX6_arrival_112 rfl ?_
          refine V_iconst (v := nI 1) dX6_arrival_114 (by decide) ?_
          refine V_aload_n dX6_arrival_115 rfl rfl ?_
          refine V_getR frX6_25 hM.1 rfl dX6_arrival_116 ?_
          refine V_iload dX6_arrival_119 rfl ?_
          refine V_aaldR hM.2.2.2.2.2.2.2.2.2.2.2.2.2.2.2.2.2.1 (i) rfl (show i < 14 by omega) (by decide) dX6_arrival_121 ?_
          refine V_iload dX6_arrival_122 rfl ?_
          refine V_ialdE (hM.2.2.2.2.2.2.2.2.2.2.2.2.2.2.2.2.2.1.row (j := i) (show i < 14 by omega)) k rfl (by omega) (by decide) ((hG.2 i (by omega)).2.2.2 k h104) dX6_arrival_124 ?_
          refine V_ishl dX6_arrival_125 ?_
          refine V_ior dX6_arrival_126 ?_
          refine V_top (or1 (by omega)) ?_
          refine V_istore dX6_arrival_127 (Nat.le_of_ble_eq_true rfl) ?_
          refine V_iinc1 dX6_arrival_129 rfl (Nat.le_of_ble_eq_true rfl) ?_
          refine V_goto 95 dX6_arrival_132 (by decide) ?_
          exact ih2 h104 (fun q => P q || decide (q = (G.2.2 i).getD k 0)) (fun q hq hp => by rw [j1 q hq hp]; rfl) (fun q hq hp => by
            rcases Bool.or_eq_true _ _ ▸ hp with y | y
            · exact j2 q hq y
            · rw [of_decide_eq_true y]; exact s1 h109 _ e3) (fun a t ha hc he => by rw [j3 a t ha hc he]; rfl) (fun q hq => by
            by_cases e : q = k
            · subst e; simp
            · rw [j5 q (by omega)]; rfl)
      )
    refine V_iload dX6_arrival_46 rfl ?_
    refine V_aload_n dX6_arrival_48 rfl rfl ?_
    refine V_getE frX6_7 hM.1 rfl hG.1 dX6_arrival_49 ?_
    refine V_N_ge (by omega) (by omega) 141 dX6_arrival_52 (by decide) (fun h52 => ?_) (fun h52 => ?_)
    · refine V_goto 32 dX6_arrival_141 (by decide) ?_
      exact IH P (msk P0) _ _ _ (fun hne => by have := grow_cnt j1 (fun q => hne q.symm); omega) j2 (fun he a t ha hc hed => j3 a t (by omega) (hc.imp_right (fun q => ⟨by rw [← msk_inj he a (by omega)]; exact q.1, q.2⟩)) hed)
    · refine V_iload dX6_arrival_55 rfl ?_
      refine V_iload dX6_arrival_57 rfl ?_
      refine V_cs1 (ctX6_hasM (by omega)) msX6_has lkX6_158 rfl rfl (Nat.le_of_ble_eq_true rfl) ⟨⟨Nat.le_of_ble_eq_true rfl, Nat.le_of_ble_eq_true rfl⟩, Nat.le_of_ble_eq_true rfl, Nat.le_of_ble_eq_true rfl⟩ dX6_arrival_59 ?_
      refine V_ifneB 85 dX6_arrival_62 (by decide) (fun h62 => ?_) (fun h62 => ?_)
      · refine V_iconst (v := nI 1) dX6_arrival_85 (by decide) ?_
        refine V_goto 90 dX6_arrival_86 (by decide) ?_
        refine V_istore dX6_arrival_90 (Nat.le_of_ble_eq_true rfl) ?_
        refine V_iconst (v := nI 0) dX6_arrival_92 (by decide) ?_
        refine V_istore dX6_arrival_93 (Nat.le_of_ble_eq_true rfl) ?_
        exact lpK h52 true (fun _ t ht => Cl.base ⟨i, h62, ht⟩) (fun _ => rfl) 0 (Nat.zero_le _) P j1 j2 j3 (fun q hq => absurd hq (Nat.not_lt_zero q))
      · refine V_iload dX6_arrival_65 rfl ?_
        refine V_iload dX6_arrival_67 rfl ?_
        refine V_cs1 (ctX6_hasM (by omega)) msX6_has lkX6_158 rfl rfl (Nat.le_of_ble_eq_true rfl) ⟨⟨Nat.le_of_ble_eq_true rfl, Nat.le_of_ble_eq_true rfl⟩, Nat.le_of_ble_eq_true rfl, Nat.le_of_ble_eq_true rfl⟩ dX6_arrival_69 ?_
        refine V_ifeqB 89 dX6_arrival_72 (by decide) (fun h72 => ?_) (fun h72 => ?_)
        · refine V_iconst (v := nI 0) dX6_arrival_89 (by decide) ?_
          refine V_istore dX6_arrival_90 (Nat.le_of_ble_eq_true rfl) ?_
          refine V_iconst (v := nI 0) dX6_arrival_92 (by decide) ?_
          refine V_istore dX6_arrival_93 (Nat.le_of_ble_eq_true rfl) ?_
          exact lpK h52 false (fun q => by cases q) (fun q => q.elim (fun y => by rw [h62] at y; cases y) (fun y => by rw [j1 i (by omega) y.1] at h72; cases h72)) 0 (Nat.zero_le _) P j1 j2 j3 (fun q hq => absurd hq (Nat.not_lt_zero q))
        · refine V_aload_n dX6_arrival_75 rfl rfl ?_
          refine V_iload dX6_arrival_76 rfl ?_
          refine V_iload_n dX6_arrival_78 rfl rfl ?_
          refine V_cv1 (ctX6_isDefined hM hG hw (by omega) (by omega)) mvX6_isDefined lkX6_171 hM.1 rfl rfl rfl (Nat.le_of_ble_eq_true rfl) ⟨⟨Nat.le_of_ble_eq_true rfl, Nat.le_of_ble_eq_true rfl⟩, Nat.le_of_ble_eq_true rfl, Nat.le_of_ble_eq_true rfl⟩ dX6_arrival_79 ?_
          refine V_ifneB 89 dX6_arrival_82 (by decide) (fun h82 => ?_) (fun h82 => ?_)
          · refine V_iconst (v := nI 0) dX6_arrival_89 (by decide) ?_
            refine V_istore dX6_arrival_90 (Nat.le_of_ble_eq_true rfl) ?_
            refine V_iconst (v := nI 0) dX6_arrival_92 (by decide) ?_
            refine V_istore dX6_arrival_93 (Nat.le_of_ble_eq_true rfl) ?_
            exact lpK h52 false (fun q => by cases q) (fun q => q.elim (fun y => by rw [h62] at y; cases y) (fun y => absurd (bp_t.mp h82) y.2)) 0 (Nat.zero_le _) P j1 j2 j3 (fun q hq => absurd hq (Nat.not_lt_zero q))
          · refine V_iconst (v := nI 1) dX6_arrival_85 (by decide) ?_
            refine V_goto 90 dX6_arrival_86 (by decide) ?_
            refine V_istore dX6_arrival_90 (Nat.le_of_ble_eq_true rfl) ?_
            refine V_iconst (v := nI 0) dX6_arrival_92 (by decide) ?_
            refine V_istore dX6_arrival_93 (Nat.le_of_ble_eq_true rfl) ?_
            exact lpK h52 true (fun _ t ht => Cl.step (j2 i (by omega) h72) ⟨bp_f.mp h82, ht⟩) (fun _ => rfl) 0 (Nat.zero_le _) P j1 j2 j3 (fun q hq => absurd hq (Nat.not_lt_zero q))
    )
  have lp : ∀ n P l o7 o8 o9, (msk P ≠ l → 14 < cnt P 14 + n) → (∀ k, k < 14 → P k = true → AR G v (opS G v j z) k) → (msk P = l → ∀ a t, a < G.1 → (opS G v j z a = true ∨ (P a = true ∧ ¬ Df G v a)) → Ed G a t → P t = true) → V κ (phi κ mrX6_arrival 4 0 0 (.inl (some (.int (msk (fun t => bp (AR G v (opS G v j z) t)))))) (MM σ mi ml)) 0 0 32 [some (.ref m), some (.int (nI j)), some (.int (nI v)), some (.int (bI z)), some (.int (msk P)), some (.int (msk (opS G v j z))), some (.int l), o7, o8, o9] [] (MM σ mi ml) := by
    intro n
    induction n with
    | zero =>
      intro P l o7 o8 o9 hf j2 j4
      have hle := cnt_le P 14
      refine V_iload dX6_arrival_32 rfl ?_
      refine V_iload dX6_arrival_34 rfl ?_
      refine V_icmp_eq 144 dX6_arrival_36 (by decide) (fun h36 => ?_) (fun h36 => ?_)
      · refine V_iload dX6_arrival_144 rfl ?_
        exact V_iret rfl (oI (Cl.mask (fun a h => AR.lt hw h) j2 (fun t ht h => by
                obtain ⟨a, h1, h2⟩ := h
                exact j4 h36 a t (Ed.lt hw h2).1 (Or.inl h1) h2) (fun a b ha hb hp ht => j4 h36 a b (Ed.lt hw ht.2).1 (Or.inr ⟨hp, ht.1⟩) ht.2)).symm) rfl ⟨Nat.le_of_ble_eq_true rfl, Nat.le_of_ble_eq_true rfl⟩ dX6_arrival_146
      · exfalso
        have := hf h36
        omega

    | succ n IH =>
      intro P l o7 o8 o9 hf j2 j4
      refine V_iload dX6_arrival_32 rfl ?_
      refine V_iload dX6_arrival_34 rfl ?_
      refine V_icmp_eq 144 dX6_arrival_36 (by decide) (fun h36 => ?_) (fun h36 => ?_)
      · refine V_iload dX6_arrival_144 rfl ?_
        exact V_iret rfl (oI (Cl.mask (fun a h => AR.lt hw h) j2 (fun t ht h => by
                obtain ⟨a, h1, h2⟩ := h
                exact j4 h36 a t (Ed.lt hw h2).1 (Or.inl h1) h2) (fun a b ha hb hp ht => j4 h36 a b (Ed.lt hw ht.2).1 (Or.inr ⟨hp, ht.1⟩) ht.2)).symm) rfl ⟨Nat.le_of_ble_eq_true rfl, Nat.le_of_ble_eq_true rfl⟩ dX6_arrival_146
      · refine V_iload dX6_arrival_39 rfl ?_
        refine V_istore dX6_arrival_41 (Nat.le_of_ble_eq_true rfl) ?_
        refine V_iconst (v := nI 0) dX6_arrival_43 (by decide) ?_
        refine V_istore dX6_arrival_44 (Nat.le_of_ble_eq_true rfl) ?_
        exact pass P n IH (hf h36) 0 (Nat.zero_le _) P _ _ (fun _ _ h => h) j2 (fun a t ha => absurd ha (Nat.not_lt_zero a))

  cases z with
  | false =>
    refine V_iconst (v := nI 0) dX6_arrival_0 (by decide) ?_
    refine V_istore dX6_arrival_1 (Nat.le_of_ble_eq_true rfl) ?_
    refine V_iload_n dX6_arrival_3 rfl rfl ?_
    refine V_ifeqB 24 dX6_arrival_4 (by decide) (fun h4 => ?_) (fun h4 => absurd (h4.symm.trans rfl) (by decide))
    refine V_iconst (v := nI 1) dX6_arrival_24 (by decide) ?_
    refine V_iload_n dX6_arrival_25 rfl rfl ?_
    refine V_ishl dX6_arrival_26 ?_
    refine V_top (msk_one hj) ?_
    refine V_istore dX6_arrival_27 (Nat.le_of_ble_eq_true rfl) ?_
    refine V_iconst (v := (-1)) dX6_arrival_29 (by decide) ?_
    refine V_istore dX6_arrival_30 (Nat.le_of_ble_eq_true rfl) ?_
    exact V.cL (lp 15 (fun _ => false) (-1) _ _ _ (fun _ => by omega) (fun k _ h => by cases h) (fun h => absurd h.symm (msk_m1 _))) (by rw [msk_zero, show msk (opS G v j false) = msk (fun k => decide (k = j)) from msk_congr (fun k _ => (bp_eq decide_eq_true_iff))]; rfl)

  | true =>
    refine V_iconst (v := nI 0) dX6_arrival_0 (by decide) ?_
    refine V_istore dX6_arrival_1 (Nat.le_of_ble_eq_true rfl) ?_
    refine V_iload_n dX6_arrival_3 rfl rfl ?_
    refine V_ifeqB 24 dX6_arrival_4 (by decide) (fun h4 => absurd (h4.symm.trans rfl) (by decide)) (fun h4 => ?_)
    refine V_aload_n dX6_arrival_7 rfl rfl ?_
    refine V_iconst (v := nI 0) dX6_arrival_8 (by decide) ?_
    refine V_iload_n dX6_arrival_9 rfl rfl ?_
    refine V_cv1 (ctX6_isDefined hM hG hw (b := 0) (by omega) (by omega)) mvX6_isDefined lkX6_171 hM.1 rfl rfl rfl (Nat.le_of_ble_eq_true rfl) ⟨⟨Nat.le_of_ble_eq_true rfl, Nat.le_of_ble_eq_true rfl⟩, Nat.le_of_ble_eq_true rfl, Nat.le_of_ble_eq_true rfl⟩ dX6_arrival_10 ?_
    refine V_ifeqB 20 dX6_arrival_13 (by decide) (fun h13 => ?_) (fun h13 => ?_)
    · refine V_iconst (v := nI 1) dX6_arrival_20 (by decide) ?_
      refine V_goto 27 dX6_arrival_21 (by decide) ?_
      refine V_istore dX6_arrival_27 (Nat.le_of_ble_eq_true rfl) ?_
      refine V_iconst (v := (-1)) dX6_arrival_29 (by decide) ?_
      refine V_istore dX6_arrival_30 (Nat.le_of_ble_eq_true rfl) ?_
      exact V.cL (lp 15 (fun _ => false) (-1) _ _ _ (fun _ => by omega) (fun k _ h => by cases h) (fun h => absurd h.symm (msk_m1 _))) (by rw [msk_zero, show msk (opS G v j true) = nI 1 from (msk_congr (Q := fun k => decide (k = 0)) (fun k _ => bp_eq (by rw [decide_eq_true_iff]; exact ⟨fun h => ⟨h, bp_f.mp h13⟩, fun h => h.1⟩))).trans (by decide)]; rfl)
    · refine V_iconst (v := nI 0) dX6_arrival_16 (by decide) ?_
      refine V_goto 27 dX6_arrival_17 (by decide) ?_
      refine V_istore dX6_arrival_27 (Nat.le_of_ble_eq_true rfl) ?_
      refine V_iconst (v := (-1)) dX6_arrival_29 (by decide) ?_
      refine V_istore dX6_arrival_30 (Nat.le_of_ble_eq_true rfl) ?_
      exact V.cL (lp 15 (fun _ => false) (-1) _ _ _ (fun _ => by omega) (fun k _ h => by cases h) (fun h => absurd h.symm (msk_m1 _))) (by rw [msk_zero, show msk (opS G v j true) = nI 0 from msk_eq0.mpr (fun k _ => bp_neg (fun h => h.2 (bp_t.mp h13)))]; rfl)

/-- forward from the beginning of y, through blocks that don't define v -/
def FW (G : Gr) (v y : Nat) : Nat → Prop := Cl (fun a => a = y) (fun a t => ¬ Df G v a ∧ Ed G a t)
theorem FW.rc {v y b : Nat} (hy : Rc G y) (h : FW G v y b) : Rc G b := Cl.rec' (C := fun b => Rc G b) (fun a ha => by rw [ha]; exact hy) (fun a b _ ha ht => ha.step ht.2) h
theorem FW.trans {v x y z : Nat} (h1 : FW G v x y) (h2 : FW G v y z) : FW G v x z := Cl.rec' (C := fun z => FW G v x z) (fun a ha => by rw [ha]; exact h1) (fun a b _ ha ht => Cl.step ha ht) h2
theorem OP.trans {v x y z : Nat} (h1 : OP G v x y) (h2 : OP G v y z) : OP G v x z := Cl.rec' (C := fun z => OP G v x z) (fun a ha => by rw [ha]; exact h1) (fun a b _ ha ht => Cl.step ha ht) h2
theorem OP_FW {v b y : Nat} (hy : Rc G y) : OP G v b y ↔ FW G v y b := by
  constructor
  · intro h
    exact Cl.rec' (C := fun y => FW G v y b) (fun a ha => by rw [ha]; exact Cl.base rfl) (fun y x _ hF ht => FW.trans (Cl.step (Cl.base rfl) ⟨fun q => ht.2 ⟨ht.1.1, q⟩, ht.1.2⟩) hF) h
  · intro h
    have key : OP G v b y ∧ Rc G b := Cl.rec' (C := fun b => OP G v b y ∧ Rc G b) (fun a ha => by rw [ha]; exact ⟨Cl.base rfl, hy⟩) (fun a t _ hO ht => ⟨OP.trans (Cl.step (Cl.base rfl) ⟨⟨hO.2, ht.2⟩, fun q => ht.1 q.2⟩) hO.1, hO.2.step ht.2⟩) h
    exact key.1
theorem AR_FW {v b : Nat} {Op : Nat → Bool} : AR G v Op b ↔ ∃ a y, Op a = true ∧ Ed G a y ∧ FW G v y b := by
  constructor
  · intro h
    exact Cl.rec' (C := fun b => ∃ a y, Op a = true ∧ Ed G a y ∧ FW G v y b) (fun t ⟨a, h1, h2⟩ => ⟨a, t, h1, h2, Cl.base rfl⟩) (fun c t _ ⟨a, y, h1, h2, h3⟩ ht => ⟨a, y, h1, h2, Cl.step h3 ht⟩) h
  · rintro ⟨a, y, h1, h2, h3⟩
    exact Cl.rec' (C := fun b => AR G v Op b) (fun t ht => by rw [ht]; exact Cl.base ⟨a, h1, h2⟩) (fun c t _ hc ht => Cl.step hc ht) h3
theorem RB_AR {v b p : Nat} : RB G v b p ↔ Rc G p ∧ Df G v p ∧ AR G v (opS G v p false) b := by
  rw [AR_FW]
  constructor
  · rintro ⟨⟨y, h1, h2⟩, h3⟩
    exact ⟨h2.1, h3, p, y, bp_pos rfl, h2.2, (OP_FW (h2.1.step h2.2)).mp h1⟩
  · rintro ⟨h1, h2, a, y, h3, h4, h5⟩
    have e : a = p := bp_t.mp h3
    subst e
    exact ⟨⟨y, (OP_FW (h1.step h4)).mpr h5, h1, h4⟩, h2⟩
theorem OP_AR {v b : Nat} : OP G v b 0 ↔ b = 0 ∨ AR G v (opS G v 0 true) b := by
  rw [OP_FW Rc.zero, AR_FW]
  constructor
  · intro h
    exact Cl.rec' (C := fun b => b = 0 ∨ ∃ a y, opS G v 0 true a = true ∧ Ed G a y ∧ FW G v y b) (fun a ha => Or.inl ha) (fun a t _ hC ht => by
      rcases hC with e | ⟨c, y, h1, h2, h3⟩
      · subst e; exact Or.inr ⟨0, t, bp_pos ⟨rfl, ht.1⟩, ht.2, Cl.base rfl⟩
      · exact Or.inr ⟨c, y, h1, h2, Cl.step h3 ht⟩) h
  · rintro (e | ⟨a, y, h1, h2, h3⟩)
    · rw [e]; exact Cl.base rfl
    · have h1' : a = 0 ∧ ¬ Df G v 0 := bp_t.mp h1
      rw [h1'.1] at h2
      exact FW.trans (Cl.step (Cl.base rfl) ⟨h1'.2, h2⟩) h3
theorem mAt_eq {P : Nat → Bool} {i : Nat} (hp : P i = true) : ∀ n b, b ≤ i → i < b + n → mAt P (cnt P i) b n = i
  | 0, b, h1, h2 => absurd h1 (by omega)
  | n + 1, b, h1, h2 => by
    rw [mAt]
    by_cases e : b = i
    · subst e; rw [if_pos hp, if_pos rfl]
    · split
      · next hb =>
        rw [if_neg (by
          have h3 := cnt_t hb
          have h4 := cnt_mono (P := P) (a := b + 1) (i - (b + 1))
          rw [show b + 1 + (i - (b + 1)) = i by omega] at h4
          omega)]
        exact mAt_eq hp n (b + 1) (by omega) (by omega)
      · exact mAt_eq hp n (b + 1) (by omega) (by omega)
theorem ctX6_countReaching (hM : ML σ m) (hG : GM mi m G) (hw : Wf G) (hn : AN mi m G) {b v : Nat} {y : Int32} (hb : b < 14) (hv : v < 4) : CtP κ 0 0 5 mrX6_countReaching [.ref m, .int (nI b), .int (nI v), .int y] (MM σ mi ml) (fun o μ' => ∃ y0, o = .inl (some (.int y0)) ∧ y0 = nI (cnt (fun p => bp (RB G v b p)) 14) ∧ ∃ m', μ' = MM σ m' ml ∧ (∀ q, q < cnt (fun p => bp (RB G v b p)) 14 → y = nI q → m' m 30 = nI (srcE G v (mAt (fun p => bp (RB G v b p)) q 0 14))) ∧ ∀ a i, ¬ (a = m ∧ i = 30) → m' a i = mi a i) := by
  refine CtP.of rfl (by simp [Value.category]) (Nat.le_of_ble_eq_true rfl) ?_
  have h14 := hw.2.1
  have lp : ∀ f, f ≤ G.1 → ∀ m1 o6, (∀ q, q < cnt (fun p => bp (RB G v b p)) f → y = nI q → m1 m 30 = nI (srcE G v (mAt (fun p => bp (RB G v b p)) q 0 14))) → (∀ a i, ¬ (a = m ∧ i = 30) → m1 a i = mi a i) → V κ (phiP κ mrX6_countReaching 5 0 0 (fun o μ' => ∃ y0, o = .inl (some (.int y0)) ∧ y0 = nI (cnt (fun p => bp (RB G v b p)) 14) ∧ ∃ m', μ' = MM σ m' ml ∧ (∀ q, q < cnt (fun p => bp (RB G v b p)) 14 → y = nI q → m' m 30 = nI (srcE G v (mAt (fun p => bp (RB G v b p)) q 0 14))) ∧ ∀ a i, ¬ (a = m ∧ i = 30) → m' a i = mi a i)) 0 0 6 [some (.ref m), some (.int (nI b)), some (.int (nI v)), some (.int y), some (.int (nI (cnt (fun p => bp (RB G v b p)) f))), some (.int (nI f)), o6] [] (MM σ m1 ml) := loop_up _ (fun f hf ih m1 o6 j1 j2 => by
    have hG1 : GM m1 m G := hG.keep (fun a i q => j2 a i (by omega))
    have hcl := cnt_le (fun p => bp (RB G v b p)) f
    have h6 := (hw.2.2.1 f).1
    refine V_iload dX6_countReaching_6 rfl ?_
    refine V_aload_n dX6_countReaching_8 rfl rfl ?_
    refine V_getE frX6_7 hM.1 rfl hG1.1 dX6_countReaching_9 ?_
    refine V_N_ge (by omega) (by omega) 97 dX6_countReaching_12 (by decide) (fun h12 => ?_) (fun h12 => ?_)
    · refine V_iload dX6_countReaching_97 rfl ?_
      exact V_iretP rfl ⟨_, rfl, by rw [cnt_cut hw (P := fun p => bp (RB G v b p)) (fun k _ h => (RB_AR.mp (bp_t.mp h)).1.lt hw), show f = G.1 by omega], m1, rfl, by
                rw [cnt_cut hw (P := fun p => bp (RB G v b p)) (fun k _ h => (RB_AR.mp (bp_t.mp h)).1.lt hw), ← show f = G.1 by omega]
                exact j1, j2⟩ ⟨Nat.le_of_ble_eq_true rfl, Nat.le_of_ble_eq_true rfl⟩ dX6_countReaching_99
    · refine V_aload_n dX6_countReaching_15 rfl rfl ?_
      refine V_iload dX6_countReaching_16 rfl ?_
      refine V_iload_n dX6_countReaching_18 rfl rfl ?_
      refine V_aload_n dX6_countReaching_19 rfl rfl ?_
      refine V_getR frX6_13 hM.1 rfl dX6_countReaching_20 ?_
      refine V_iload dX6_countReaching_23 rfl ?_
      refine V_ialdE hM.2.1 f rfl (by omega) (by decide) ((hG1.2 f (by omega)).1) dX6_countReaching_25 ?_
      refine V_cv1 (ctX6_lastDefinition hM hG1 hw (by omega) (by omega) (Nat.le_refl _)) mvX6_lastDefinition lkX6_164 hM.1 rfl rfl rfl (Nat.le_of_ble_eq_true rfl) ⟨⟨Nat.le_of_ble_eq_true rfl, Nat.le_of_ble_eq_true rfl⟩, Nat.le_of_ble_eq_true rfl, Nat.le_of_ble_eq_true rfl⟩ dX6_countReaching_26 ?_
      refine V_istore dX6_countReaching_29 (Nat.le_of_ble_eq_true rfl) ?_
      refine V_aload_n dX6_countReaching_31 rfl rfl ?_
      refine V_getE frX6_155 hM.1 rfl ((j2 _ _ (by omega)).trans hn.1.1) dX6_countReaching_32 ?_
      refine V_iload dX6_countReaching_35 rfl ?_
      refine V_cs1 (ctX6_hasM (by omega)) msX6_has lkX6_158 rfl rfl (Nat.le_of_ble_eq_true rfl) ⟨⟨Nat.le_of_ble_eq_true rfl, Nat.le_of_ble_eq_true rfl⟩, Nat.le_of_ble_eq_true rfl, Nat.le_of_ble_eq_true rfl⟩ dX6_countReaching_37 ?_
      refine V_ifeqB 91 dX6_countReaching_40 (by decide) (fun h40 => ?_) (fun h40 => ?_)
      · refine V_iinc1 dX6_countReaching_91 rfl (Nat.le_of_ble_eq_true rfl) ?_
        refine V_goto 6 dX6_countReaching_94 (by decide) ?_
        exact V.cL (ih h12 m1 _ (by rw [← cnt_f (P := fun p => bp (RB G v b p)) (bp_neg (fun q => bp_f.mp h40 (RB_AR.mp q).1))]; exact j1) j2) (by rw [cnt_f (P := fun p => bp (RB G v b p)) (bp_neg (fun q => bp_f.mp h40 (RB_AR.mp q).1))]; rfl)
      · refine V_iload dX6_countReaching_43 rfl ?_
        refine V_if_lt 91 dX6_countReaching_45 (by decide) (fun h45 => ?_) (fun h45 => ?_)
        · refine V_iinc1 dX6_countReaching_91 rfl (Nat.le_of_ble_eq_true rfl) ?_
          refine V_goto 6 dX6_countReaching_94 (by decide) ?_
          exact V.cL (ih h12 m1 _ (by rw [← cnt_f (P := fun p => bp (RB G v b p)) (bp_neg (fun q => (Df_lx hw).mp (RB_AR.mp q).2.1 h45))]; exact j1) j2) (by rw [cnt_f (P := fun p => bp (RB G v b p)) (bp_neg (fun q => (Df_lx hw).mp (RB_AR.mp q).2.1 h45))]; rfl)
        · have hdf : Df G v f := (Df_lx hw).mpr h45
          refine V_aload_n dX6_countReaching_48 rfl rfl ?_
          refine V_iload dX6_countReaching_49 rfl ?_
          refine V_iload_n dX6_countReaching_51 rfl rfl ?_
          refine V_iconst (v := nI 0) dX6_countReaching_52 (by decide) ?_
          refine V_cv1 (ctX6_arrival hM hG1 hw (z := false) (by omega) hv) mvX6_arrival lkX6_225 hM.1 rfl rfl rfl (Nat.le_of_ble_eq_true rfl) ⟨⟨Nat.le_of_ble_eq_true rfl, Nat.le_of_ble_eq_true rfl⟩, Nat.le_of_ble_eq_true rfl, Nat.le_of_ble_eq_true rfl⟩ dX6_countReaching_53 ?_
          refine V_iload_n dX6_countReaching_56 rfl rfl ?_
          refine V_cs1 (ctX6_hasM hb) msX6_has lkX6_158 rfl rfl (Nat.le_of_ble_eq_true rfl) ⟨⟨Nat.le_of_ble_eq_true rfl, Nat.le_of_ble_eq_true rfl⟩, Nat.le_of_ble_eq_true rfl, Nat.le_of_ble_eq_true rfl⟩ dX6_countReaching_57 ?_
          refine V_ifeqB 91 dX6_countReaching_60 (by decide) (fun h60 => ?_) (fun h60 => ?_)
          · refine V_iinc1 dX6_countReaching_91 rfl (Nat.le_of_ble_eq_true rfl) ?_
            refine V_goto 6 dX6_countReaching_94 (by decide) ?_
            exact V.cL (ih h12 m1 _ (by rw [← cnt_f (P := fun p => bp (RB G v b p)) (bp_neg (fun q => bp_f.mp h60 (RB_AR.mp q).2.2))]; exact j1) j2) (by rw [cnt_f (P := fun p => bp (RB G v b p)) (bp_neg (fun q => bp_f.mp h60 (RB_AR.mp q).2.2))]; rfl)
          · have hRB : RB G v b f := RB_AR.mpr ⟨bp_t.mp h40, hdf, bp_t.mp h60⟩
            have hsrc : ∀ k, ldef (G.2.1 f) v (G.2.1 f).length = some k → srcE G v f = 10 * f + k := fun k hk => by unfold srcE; rw [hk]
            obtain ⟨k, hk⟩ : ∃ k, ldef (G.2.1 f) v (G.2.1 f).length = some k := by
              cases hk : ldef (G.2.1 f) v (G.2.1 f).length with
              | none => exact absurd hk (Df_iff.mp hdf)
              | some k => exact ⟨k, rfl⟩
            have hkl : lxI (G.2.1 f) v (G.2.1 f).length = nI k := lxI_s hk
            rw [hkl]
            refine V_aload_n dX6_countReaching_63 rfl rfl ?_
            refine V_iload dX6_countReaching_64 rfl ?_
            refine V_iload_n dX6_countReaching_66 rfl rfl ?_
            refine V_icmp_ne 81 dX6_countReaching_67 (by decide) (fun h67 => ?_) (fun h67 => ?_)
            · refine V_aload_n dX6_countReaching_81 rfl rfl ?_
              refine V_getI frX6_229 hM.1 rfl dX6_countReaching_82 ?_
              refine V_putI fpX6_229 rfl rfl hM.1 rfl dX6_countReaching_85 ?_
              refine V_iinc1 dX6_countReaching_88 rfl (Nat.le_of_ble_eq_true rfl) ?_
              refine V_iinc1 dX6_countReaching_91 rfl (Nat.le_of_ble_eq_true rfl) ?_
              refine V_goto 6 dX6_countReaching_94 (by decide) ?_
              exact V.cL (ih h12 _ _ (fun q hq hy => by
                rw [← cnt_t (P := fun p => bp (RB G v b p)) (bp_pos hRB)] at hq
                have hne : q ≠ cnt (fun p => bp (RB G v b p)) f := fun e => h67 (by rw [hy, e])
                exact (u2_s _ _ _ _).trans (j1 q (by omega) hy)) (fun a i h => (u2_n _ _ (by omega)).trans (j2 a i h))) (by rw [← cnt_t (P := fun p => bp (RB G v b p)) (bp_pos hRB)]; rfl)
            · refine V_bipush (v := nI 10) dX6_countReaching_70 (by decide) ?_
              refine V_iload dX6_countReaching_72 rfl ?_
              refine V_imul dX6_countReaching_74 ?_
              refine V_iload dX6_countReaching_75 rfl ?_
              refine V_iadd dX6_countReaching_77 ?_
              refine V_top (show nI 10 * nI f + nI k = nI (10 * f + k) by rw [pk_mul, nI_add]) ?_
              refine V_goto 85 dX6_countReaching_78 (by decide) ?_
              refine V_putI fpX6_229 rfl rfl hM.1 rfl dX6_countReaching_85 ?_
              refine V_iinc1 dX6_countReaching_88 rfl (Nat.le_of_ble_eq_true rfl) ?_
              refine V_iinc1 dX6_countReaching_91 rfl (Nat.le_of_ble_eq_true rfl) ?_
              refine V_goto 6 dX6_countReaching_94 (by decide) ?_
              exact V.cL (ih h12 _ _ (fun q hq hy => by
                rw [← cnt_t (P := fun p => bp (RB G v b p)) (bp_pos hRB)] at hq
                have e : q = cnt (fun p => bp (RB G v b p)) f := by
                  rw [← h67] at hy
                  exact ((nI_eq (by omega) (by omega)).mp hy).symm
                refine (u2_s _ _ _ _).trans ?_
                rw [e, mAt_eq (P := fun p => bp (RB G v b p)) (bp_pos hRB) 14 0 (Nat.zero_le _) (by omega), hsrc k hk]) (fun a i h => (u2_n _ _ (by omega)).trans (j2 a i h))) (by rw [← cnt_t (P := fun p => bp (RB G v b p)) (bp_pos hRB)]; rfl)
    )
  refine V_iconst (v := nI 0) dX6_countReaching_0 (by decide) ?_
  refine V_istore dX6_countReaching_1 (Nat.le_of_ble_eq_true rfl) ?_
  refine V_iconst (v := nI 0) dX6_countReaching_3 (by decide) ?_
  refine V_istore dX6_countReaching_4 (Nat.le_of_ble_eq_true rfl) ?_
  exact lp 0 (Nat.zero_le _) mi _ (fun q hq => absurd hq (Nat.not_lt_zero q)) (fun _ _ _ => rfl)

theorem ctX6_reachingCount (hM : ML σ m) (hA : MA mi m S) (hS : SOK S) {b v : Int32} : CtP κ 0 0 24 mrX6_reachingCount [.ref m, .int b, .int v] (MM σ mi ml) (MRz σ mi ml m (rs_reachingCount S b v)) := by
  have hw := hS.1
  have h14 := hw.2.1
  have hG := hA.1
  cases hc : (inR v 4 && inR b S.1.1) with
  | false =>
    rw [show rs_reachingCount S b v = (1, 0, S) from by unfold rs_reachingCount; rw [if_pos hc]]
    refine CtP.of rfl (by simp [Value.category]) (Nat.le_of_ble_eq_true rfl) ?_
    refine V_aload_n dX6_reachingCount_0 rfl rfl ?_
    refine V_iload_n dX6_reachingCount_1 rfl rfl ?_
    refine V_iload_n dX6_reachingCount_2 rfl rfl ?_
    refine V_cv1 (ctX6_failsAt_1 hM hG hw hc) mvX6_failsAt lkX6_205 hM.1 rfl rfl rfl (Nat.le_of_ble_eq_true rfl) ⟨⟨Nat.le_of_ble_eq_true rfl, Nat.le_of_ble_eq_true rfl⟩, Nat.le_of_ble_eq_true rfl, Nat.le_of_ble_eq_true rfl⟩ dX6_reachingCount_3 ?_
    refine V_ifeqB 13 dX6_reachingCount_6 (by decide) (fun h6 => absurd (h6.symm.trans rfl) (by decide)) (fun h6 => ?_)
    refine V_iconst (v := nI 0) dX6_reachingCount_9 (by decide) ?_
    refine V_goto 20 dX6_reachingCount_10 (by decide) ?_
    exact V_iretP rfl ⟨rfl, MQz hA hS kep.rf.z (u2_s _ _ _ _)⟩ ⟨Nat.le_of_ble_eq_true rfl, Nat.le_of_ble_eq_true rfl⟩ dX6_reachingCount_20

  | true =>
    have hc2 := hc
    rw [Bool.and_eq_true] at hc2
    obtain ⟨i, hi, rfl⟩ := inR_t (by omega) hc2.1
    have ti := tn_nI (show i < 2 ^ 31 by omega)
    obtain ⟨j, hj, rfl⟩ := inR_t (by omega) hc2.2
    have tj := tn_nI (show j < 2 ^ 31 by omega)
    have h1 : ¬ (inR (nI i) 4 && inR (nI j) S.1.1) = false := by rw [hc]; decide
    cases hr : bp (Rc S.1 j) with
    | false =>
      rw [show rs_reachingCount S (nI j) (nI i) = (2, 0, S) from by unfold rs_reachingCount; rw [tj, if_neg h1, if_pos hr]]
      refine CtP.of rfl (by simp [Value.category]) (Nat.le_of_ble_eq_true rfl) ?_
      refine V_aload_n dX6_reachingCount_0 rfl rfl ?_
      refine V_iload_n dX6_reachingCount_1 rfl rfl ?_
      refine V_iload_n dX6_reachingCount_2 rfl rfl ?_
      refine V_cp1 (ctX6_failsAt_2 hM hG hw hc2.1 hj hr) mvX6_failsAt lkX6_205 hM.1 rfl rfl rfl (Nat.le_of_ble_eq_true rfl) ⟨⟨Nat.le_of_ble_eq_true rfl, Nat.le_of_ble_eq_true rfl⟩, Nat.le_of_ble_eq_true rfl, Nat.le_of_ble_eq_true rfl⟩ dX6_reachingCount_3 (fun y0 μ1 hx => ?_)
      obtain ⟨rfl, m1, rfl, hk1, h01⟩ := hx
      refine V_ifeqB 13 dX6_reachingCount_6 (by decide) (fun h6 => absurd (h6.symm.trans rfl) (by decide)) (fun h6 => ?_)
      refine V_iconst (v := nI 0) dX6_reachingCount_9 (by decide) ?_
      refine V_goto 20 dX6_reachingCount_10 (by decide) ?_
      exact V_iretP rfl ⟨rfl, MQz hA hS hk1 h01⟩ ⟨Nat.le_of_ble_eq_true rfl, Nat.le_of_ble_eq_true rfl⟩ dX6_reachingCount_20

    | true =>
      have hR := bp_t.mp hr
      have h2 : ¬ bp (Rc S.1 j) = false := by rw [hr]; decide
      rw [show rs_reachingCount S (nI j) (nI i) = (0, nI (cnt (fun p => bp (RB S.1 i j p)) 14), S) from by unfold rs_reachingCount; rw [tj, ti, if_neg h1, if_neg h2]]
      refine CtP.of rfl (by simp [Value.category]) (Nat.le_of_ble_eq_true rfl) ?_
      refine V_aload_n dX6_reachingCount_0 rfl rfl ?_
      refine V_iload_n dX6_reachingCount_1 rfl rfl ?_
      refine V_iload_n dX6_reachingCount_2 rfl rfl ?_
      refine V_cp1 (ctX6_failsAt_0 hM hG hw hc2.1 hj hr) mvX6_failsAt lkX6_205 hM.1 rfl rfl rfl (Nat.le_of_ble_eq_true rfl) ⟨⟨Nat.le_of_ble_eq_true rfl, Nat.le_of_ble_eq_true rfl⟩, Nat.le_of_ble_eq_true rfl, Nat.le_of_ble_eq_true rfl⟩ dX6_reachingCount_3 (fun y0 μ1 hx => ?_)
      obtain ⟨rfl, m1, rfl, hk1, h01, hn⟩ := hx
      have hG1 := hG.kp hk1
      refine V_ifeqB 13 dX6_reachingCount_6 (by decide) (fun h6 => ?_) (fun h6 => absurd (h6.symm.trans rfl) (by decide))
      refine V_aload_n dX6_reachingCount_13 rfl rfl ?_
      refine V_iload_n dX6_reachingCount_14 rfl rfl ?_
      refine V_iload_n dX6_reachingCount_15 rfl rfl ?_
      refine V_iconst (v := (-1)) dX6_reachingCount_16 (by decide) ?_
      refine V_cp1 (ctX6_countReaching hM hG1 hw hn (by omega) hi) mvX6_countReaching lkX6_232 hM.1 rfl rfl rfl (Nat.le_of_ble_eq_true rfl) ⟨⟨Nat.le_of_ble_eq_true rfl, Nat.le_of_ble_eq_true rfl⟩, Nat.le_of_ble_eq_true rfl, Nat.le_of_ble_eq_true rfl⟩ dX6_reachingCount_17 (fun y2 μ2 hx => ?_)
      obtain ⟨rfl, m2, rfl, k1, k2⟩ := hx
      exact V_iretP rfl ⟨rfl, MQz hA hS (fun a i q => (k2 a i (by omega)).trans (hk1 a i q)) ((k2 _ _ (by omega)).trans h01)⟩ ⟨Nat.le_of_ble_eq_true rfl, Nat.le_of_ble_eq_true rfl⟩ dX6_reachingCount_20

theorem ctX6_reaching (hM : ML σ m) (hA : MA mi m S) (hS : SOK S) {b v y : Int32} : CtP κ 0 0 24 mrX6_reaching [.ref m, .int b, .int v, .int y] (MM σ mi ml) (MRz σ mi ml m (rs_reaching S b v y)) := by
  have hw := hS.1
  have h14 := hw.2.1
  have hG := hA.1
  cases hc : (inR v 4 && inR b S.1.1) with
  | false =>
    rw [show rs_reaching S b v y = (1, 0, S) from by unfold rs_reaching; rw [if_pos hc]]
    refine CtP.of rfl (by simp [Value.category]) (Nat.le_of_ble_eq_true rfl) ?_
    refine V_aload_n dX6_reaching_0 rfl rfl ?_
    refine V_iload_n dX6_reaching_1 rfl rfl ?_
    refine V_iload_n dX6_reaching_2 rfl rfl ?_
    refine V_cv1 (ctX6_failsAt_1 hM hG hw hc) mvX6_failsAt lkX6_205 hM.1 rfl rfl rfl (Nat.le_of_ble_eq_true rfl) ⟨⟨Nat.le_of_ble_eq_true rfl, Nat.le_of_ble_eq_true rfl⟩, Nat.le_of_ble_eq_true rfl, Nat.le_of_ble_eq_true rfl⟩ dX6_reaching_3 ?_
    refine V_ifeqB 11 dX6_reaching_6 (by decide) (fun h6 => absurd (h6.symm.trans rfl) (by decide)) (fun h6 => ?_)
    refine V_iconst (v := nI 0) dX6_reaching_9 (by decide) ?_
    exact V_iretP rfl ⟨rfl, MQz hA hS kep.rf.z (u2_s _ _ _ _)⟩ ⟨Nat.le_of_ble_eq_true rfl, Nat.le_of_ble_eq_true rfl⟩ dX6_reaching_10

  | true =>
    have hc2 := hc
    rw [Bool.and_eq_true] at hc2
    obtain ⟨i, hi, rfl⟩ := inR_t (by omega) hc2.1
    have ti := tn_nI (show i < 2 ^ 31 by omega)
    obtain ⟨j, hj, rfl⟩ := inR_t (by omega) hc2.2
    have tj := tn_nI (show j < 2 ^ 31 by omega)
    have h1 : ¬ (inR (nI i) 4 && inR (nI j) S.1.1) = false := by rw [hc]; decide
    cases hr : bp (Rc S.1 j) with
    | false =>
      rw [show rs_reaching S (nI j) (nI i) y = (2, 0, S) from by unfold rs_reaching; rw [tj, if_neg h1, if_pos hr]]
      refine CtP.of rfl (by simp [Value.category]) (Nat.le_of_ble_eq_true rfl) ?_
      refine V_aload_n dX6_reaching_0 rfl rfl ?_
      refine V_iload_n dX6_reaching_1 rfl rfl ?_
      refine V_iload_n dX6_reaching_2 rfl rfl ?_
      refine V_cp1 (ctX6_failsAt_2 hM hG hw hc2.1 hj hr) mvX6_failsAt lkX6_205 hM.1 rfl rfl rfl (Nat.le_of_ble_eq_true rfl) ⟨⟨Nat.le_of_ble_eq_true rfl, Nat.le_of_ble_eq_true rfl⟩, Nat.le_of_ble_eq_true rfl, Nat.le_of_ble_eq_true rfl⟩ dX6_reaching_3 (fun y0 μ1 hx => ?_)
      obtain ⟨rfl, m1, rfl, hk1, h01⟩ := hx
      refine V_ifeqB 11 dX6_reaching_6 (by decide) (fun h6 => absurd (h6.symm.trans rfl) (by decide)) (fun h6 => ?_)
      refine V_iconst (v := nI 0) dX6_reaching_9 (by decide) ?_
      exact V_iretP rfl ⟨rfl, MQz hA hS hk1 h01⟩ ⟨Nat.le_of_ble_eq_true rfl, Nat.le_of_ble_eq_true rfl⟩ dX6_reaching_10

    | true =>
      have hR := bp_t.mp hr
      have h2 : ¬ bp (Rc S.1 j) = false := by rw [hr]; decide
      have h15 := cnt_le (fun p => bp (RB S.1 i j p)) 14
      cases hy : inR y (cnt (fun p => bp (RB S.1 i j p)) 14) with
      | false =>
        rw [show rs_reaching S (nI j) (nI i) y = (3, 0, S) from by unfold rs_reaching; rw [tj, ti, if_neg h1, if_neg h2, if_pos hy]]
        refine CtP.of rfl (by simp [Value.category]) (Nat.le_of_ble_eq_true rfl) ?_
        refine V_aload_n dX6_reaching_0 rfl rfl ?_
        refine V_iload_n dX6_reaching_1 rfl rfl ?_
        refine V_iload_n dX6_reaching_2 rfl rfl ?_
        refine V_cp1 (ctX6_failsAt_0 hM hG hw hc2.1 hj hr) mvX6_failsAt lkX6_205 hM.1 rfl rfl rfl (Nat.le_of_ble_eq_true rfl) ⟨⟨Nat.le_of_ble_eq_true rfl, Nat.le_of_ble_eq_true rfl⟩, Nat.le_of_ble_eq_true rfl, Nat.le_of_ble_eq_true rfl⟩ dX6_reaching_3 (fun y0 μ1 hx => ?_)
        obtain ⟨rfl, m1, rfl, hk1, h01, hn⟩ := hx
        have hG1 := hG.kp hk1
        refine V_ifeqB 11 dX6_reaching_6 (by decide) (fun h6 => ?_) (fun h6 => absurd (h6.symm.trans rfl) (by decide))
        refine V_aload_n dX6_reaching_11 rfl rfl ?_
        refine V_iload_n dX6_reaching_12 rfl rfl ?_
        refine V_iload_n dX6_reaching_13 rfl rfl ?_
        refine V_iload_n dX6_reaching_14 rfl rfl ?_
        refine V_cp1 (ctX6_countReaching hM hG1 hw hn (y := y) (by omega) hi) mvX6_countReaching lkX6_232 hM.1 rfl rfl rfl (Nat.le_of_ble_eq_true rfl) ⟨⟨Nat.le_of_ble_eq_true rfl, Nat.le_of_ble_eq_true rfl⟩, Nat.le_of_ble_eq_true rfl, Nat.le_of_ble_eq_true rfl⟩ dX6_reaching_15 (fun y2 μ2 hx => ?_)
        obtain ⟨rfl, m2, rfl, k1, k2⟩ := hx
        have hk2 : kep mi m2 m := fun a i q => (k2 a i (by omega)).trans (hk1 a i q)
        refine V_istore dX6_reaching_18 (Nat.le_of_ble_eq_true rfl) ?_
        refine V_aload_n dX6_reaching_20 rfl rfl ?_
        refine V_iconst (v := nI 3) dX6_reaching_21 (by decide) ?_
        refine V_iload_n dX6_reaching_22 rfl rfl ?_
        refine V_iconst (v := nI 0) dX6_reaching_23 (by decide) ?_
        refine V_iload dX6_reaching_24 rfl ?_
        refine V_iconst (v := nI 1) dX6_reaching_26 (by decide) ?_
        refine V_isub dX6_reaching_27 ?_
        refine V_cs1 (ctX6_isBetween) msX6_isBetween lkX6_86 rfl rfl (Nat.le_of_ble_eq_true rfl) ⟨⟨Nat.le_of_ble_eq_true rfl, Nat.le_of_ble_eq_true rfl⟩, Nat.le_of_ble_eq_true rfl, Nat.le_of_ble_eq_true rfl⟩ dX6_reaching_28 ?_
        rw [btw (by omega)]
        refine V_ifneB 38 dX6_reaching_31 (by decide) (fun h31 => absurd (h31.symm.trans hy) (by decide)) (fun h31 => ?_)
        refine V_iconst (v := nI 1) dX6_reaching_34 (by decide) ?_
        refine V_goto 39 dX6_reaching_35 (by decide) ?_
        refine V_cv1 (ctX6_fails hM (k := nI 3) (c := true)) mvX6_fails lkX6_100 hM.1 rfl rfl rfl (Nat.le_of_ble_eq_true rfl) ⟨⟨Nat.le_of_ble_eq_true rfl, Nat.le_of_ble_eq_true rfl⟩, Nat.le_of_ble_eq_true rfl, Nat.le_of_ble_eq_true rfl⟩ dX6_reaching_39 ?_
        refine V_ifeqB 49 dX6_reaching_42 (by decide) (fun h42 => absurd (h42.symm.trans rfl) (by decide)) (fun h42 => ?_)
        refine V_iconst (v := nI 0) dX6_reaching_45 (by decide) ?_
        refine V_goto 53 dX6_reaching_46 (by decide) ?_
        exact V_iretP rfl ⟨rfl, MQz hA hS hk2.z (u2_s _ _ _ _)⟩ ⟨Nat.le_of_ble_eq_true rfl, Nat.le_of_ble_eq_true rfl⟩ dX6_reaching_53

      | true =>
        obtain ⟨q, hq2, hyq⟩ := inR_t (by omega) hy
        have tq : tn y = q := by rw [hyq]; exact tn_nI (by omega)
        rw [show rs_reaching S (nI j) (nI i) y = (0, nI (srcE S.1 i (mAt (fun p => bp (RB S.1 i j p)) q 0 14)), S) from by unfold rs_reaching; rw [tj, ti, tq, if_neg h1, if_neg h2, if_neg (by rw [hy]; decide)]]
        refine CtP.of rfl (by simp [Value.category]) (Nat.le_of_ble_eq_true rfl) ?_
        refine V_aload_n dX6_reaching_0 rfl rfl ?_
        refine V_iload_n dX6_reaching_1 rfl rfl ?_
        refine V_iload_n dX6_reaching_2 rfl rfl ?_
        refine V_cp1 (ctX6_failsAt_0 hM hG hw hc2.1 hj hr) mvX6_failsAt lkX6_205 hM.1 rfl rfl rfl (Nat.le_of_ble_eq_true rfl) ⟨⟨Nat.le_of_ble_eq_true rfl, Nat.le_of_ble_eq_true rfl⟩, Nat.le_of_ble_eq_true rfl, Nat.le_of_ble_eq_true rfl⟩ dX6_reaching_3 (fun y0 μ1 hx => ?_)
        obtain ⟨rfl, m1, rfl, hk1, h01, hn⟩ := hx
        have hG1 := hG.kp hk1
        refine V_ifeqB 11 dX6_reaching_6 (by decide) (fun h6 => ?_) (fun h6 => absurd (h6.symm.trans rfl) (by decide))
        refine V_aload_n dX6_reaching_11 rfl rfl ?_
        refine V_iload_n dX6_reaching_12 rfl rfl ?_
        refine V_iload_n dX6_reaching_13 rfl rfl ?_
        refine V_iload_n dX6_reaching_14 rfl rfl ?_
        refine V_cp1 (ctX6_countReaching hM hG1 hw hn (y := y) (by omega) hi) mvX6_countReaching lkX6_232 hM.1 rfl rfl rfl (Nat.le_of_ble_eq_true rfl) ⟨⟨Nat.le_of_ble_eq_true rfl, Nat.le_of_ble_eq_true rfl⟩, Nat.le_of_ble_eq_true rfl, Nat.le_of_ble_eq_true rfl⟩ dX6_reaching_15 (fun y2 μ2 hx => ?_)
        obtain ⟨rfl, m2, rfl, k1, k2⟩ := hx
        have hk2 : kep mi m2 m := fun a i q => (k2 a i (by omega)).trans (hk1 a i q)
        refine V_istore dX6_reaching_18 (Nat.le_of_ble_eq_true rfl) ?_
        refine V_aload_n dX6_reaching_20 rfl rfl ?_
        refine V_iconst (v := nI 3) dX6_reaching_21 (by decide) ?_
        refine V_iload_n dX6_reaching_22 rfl rfl ?_
        refine V_iconst (v := nI 0) dX6_reaching_23 (by decide) ?_
        refine V_iload dX6_reaching_24 rfl ?_
        refine V_iconst (v := nI 1) dX6_reaching_26 (by decide) ?_
        refine V_isub dX6_reaching_27 ?_
        refine V_cs1 (ctX6_isBetween) msX6_isBetween lkX6_86 rfl rfl (Nat.le_of_ble_eq_true rfl) ⟨⟨Nat.le_of_ble_eq_true rfl, Nat.le_of_ble_eq_true rfl⟩, Nat.le_of_ble_eq_true rfl, Nat.le_of_ble_eq_true rfl⟩ dX6_reaching_28 ?_
        rw [btw (by omega)]
        refine V_ifneB 38 dX6_reaching_31 (by decide) (fun h31 => ?_) (fun h31 => absurd (h31.symm.trans hy) (by decide))
        refine V_iconst (v := nI 0) dX6_reaching_38 (by decide) ?_
        refine V_cv1 (ctX6_fails hM (k := nI 3) (c := false)) mvX6_fails lkX6_100 hM.1 rfl rfl rfl (Nat.le_of_ble_eq_true rfl) ⟨⟨Nat.le_of_ble_eq_true rfl, Nat.le_of_ble_eq_true rfl⟩, Nat.le_of_ble_eq_true rfl, Nat.le_of_ble_eq_true rfl⟩ dX6_reaching_39 ?_
        refine V_ifeqB 49 dX6_reaching_42 (by decide) (fun h42 => ?_) (fun h42 => absurd (h42.symm.trans rfl) (by decide))
        refine V_aload_n dX6_reaching_49 rfl rfl ?_
        refine V_getE frX6_229 hM.1 rfl ((u2_n _ _ (Or.inr (by decide))).trans (k1 q hq2 hyq)) dX6_reaching_50 ?_
        exact V_iretP rfl ⟨rfl, MQz hA hS hk2.z (u2_s _ _ _ _)⟩ ⟨Nat.le_of_ble_eq_true rfl, Nat.le_of_ble_eq_true rfl⟩ dX6_reaching_53

theorem ctX6_isInitialReaching (hM : ML σ m) (hA : MA mi m S) (hS : SOK S) {b v : Int32} : CtP κ 0 0 24 mrX6_isInitialReaching [.ref m, .int b, .int v] (MM σ mi ml) (MRz σ mi ml m (rs_isInitialReaching S b v)) := by
  have hw := hS.1
  have h14 := hw.2.1
  have hG := hA.1
  cases hc : (inR v 4 && inR b S.1.1) with
  | false =>
    rw [show rs_isInitialReaching S b v = (1, 0, S) from by unfold rs_isInitialReaching; rw [if_pos hc]]
    refine CtP.of rfl (by simp [Value.category]) (Nat.le_of_ble_eq_true rfl) ?_
    refine V_aload_n dX6_isInitialReaching_0 rfl rfl ?_
    refine V_iload_n dX6_isInitialReaching_1 rfl rfl ?_
    refine V_iload_n dX6_isInitialReaching_2 rfl rfl ?_
    refine V_cv1 (ctX6_failsAt_1 hM hG hw hc) mvX6_failsAt lkX6_205 hM.1 rfl rfl rfl (Nat.le_of_ble_eq_true rfl) ⟨⟨Nat.le_of_ble_eq_true rfl, Nat.le_of_ble_eq_true rfl⟩, Nat.le_of_ble_eq_true rfl, Nat.le_of_ble_eq_true rfl⟩ dX6_isInitialReaching_3 ?_
    refine V_ifneB 31 dX6_isInitialReaching_6 (by decide) (fun h6 => ?_) (fun h6 => absurd (h6.symm.trans rfl) (by decide))
    refine V_iconst (v := nI 0) dX6_isInitialReaching_31 (by decide) ?_
    exact V_zretP rfl rfl ⟨rfl, MQz hA hS kep.rf.z (u2_s _ _ _ _)⟩ ⟨Nat.le_of_ble_eq_true rfl, Nat.le_of_ble_eq_true rfl⟩ dX6_isInitialReaching_32

  | true =>
    have hc2 := hc
    rw [Bool.and_eq_true] at hc2
    obtain ⟨i, hi, rfl⟩ := inR_t (by omega) hc2.1
    have ti := tn_nI (show i < 2 ^ 31 by omega)
    obtain ⟨j, hj, rfl⟩ := inR_t (by omega) hc2.2
    have tj := tn_nI (show j < 2 ^ 31 by omega)
    have h1 : ¬ (inR (nI i) 4 && inR (nI j) S.1.1) = false := by rw [hc]; decide
    cases hr : bp (Rc S.1 j) with
    | false =>
      rw [show rs_isInitialReaching S (nI j) (nI i) = (2, 0, S) from by unfold rs_isInitialReaching; rw [tj, if_neg h1, if_pos hr]]
      refine CtP.of rfl (by simp [Value.category]) (Nat.le_of_ble_eq_true rfl) ?_
      refine V_aload_n dX6_isInitialReaching_0 rfl rfl ?_
      refine V_iload_n dX6_isInitialReaching_1 rfl rfl ?_
      refine V_iload_n dX6_isInitialReaching_2 rfl rfl ?_
      refine V_cp1 (ctX6_failsAt_2 hM hG hw hc2.1 hj hr) mvX6_failsAt lkX6_205 hM.1 rfl rfl rfl (Nat.le_of_ble_eq_true rfl) ⟨⟨Nat.le_of_ble_eq_true rfl, Nat.le_of_ble_eq_true rfl⟩, Nat.le_of_ble_eq_true rfl, Nat.le_of_ble_eq_true rfl⟩ dX6_isInitialReaching_3 (fun y0 μ1 hx => ?_)
      obtain ⟨rfl, m1, rfl, hk1, h01⟩ := hx
      refine V_ifneB 31 dX6_isInitialReaching_6 (by decide) (fun h6 => ?_) (fun h6 => absurd (h6.symm.trans rfl) (by decide))
      refine V_iconst (v := nI 0) dX6_isInitialReaching_31 (by decide) ?_
      exact V_zretP rfl rfl ⟨rfl, MQz hA hS hk1 h01⟩ ⟨Nat.le_of_ble_eq_true rfl, Nat.le_of_ble_eq_true rfl⟩ dX6_isInitialReaching_32

    | true =>
      have hR := bp_t.mp hr
      have h2 : ¬ bp (Rc S.1 j) = false := by rw [hr]; decide
      rw [show rs_isInitialReaching S (nI j) (nI i) = (0, bI (bp (OP S.1 i j 0)), S) from by unfold rs_isInitialReaching; rw [tj, ti, if_neg h1, if_neg h2]]
      refine CtP.of rfl (by simp [Value.category]) (Nat.le_of_ble_eq_true rfl) ?_
      refine V_aload_n dX6_isInitialReaching_0 rfl rfl ?_
      refine V_iload_n dX6_isInitialReaching_1 rfl rfl ?_
      refine V_iload_n dX6_isInitialReaching_2 rfl rfl ?_
      refine V_cp1 (ctX6_failsAt_0 hM hG hw hc2.1 hj hr) mvX6_failsAt lkX6_205 hM.1 rfl rfl rfl (Nat.le_of_ble_eq_true rfl) ⟨⟨Nat.le_of_ble_eq_true rfl, Nat.le_of_ble_eq_true rfl⟩, Nat.le_of_ble_eq_true rfl, Nat.le_of_ble_eq_true rfl⟩ dX6_isInitialReaching_3 (fun y0 μ1 hx => ?_)
      obtain ⟨rfl, m1, rfl, hk1, h01, hn⟩ := hx
      have hG1 := hG.kp hk1
      refine V_ifneB 31 dX6_isInitialReaching_6 (by decide) (fun h6 => absurd (h6.symm.trans rfl) (by decide)) (fun h6 => ?_)
      refine V_iload_n dX6_isInitialReaching_9 rfl rfl ?_
      refine V_Z_eq (by omega) 27 dX6_isInitialReaching_10 (by decide) (fun h10 => ?_) (fun h10 => ?_)
      · refine V_iconst (v := nI 1) dX6_isInitialReaching_27 (by decide) ?_
        refine V_goto 32 dX6_isInitialReaching_28 (by decide) ?_
        exact V_zretP rfl rfl ⟨by rw [bp_pos (OP_AR.mpr (Or.inl h10))]; rfl, MQz hA hS hk1 h01⟩ ⟨Nat.le_of_ble_eq_true rfl, Nat.le_of_ble_eq_true rfl⟩ dX6_isInitialReaching_32
      · refine V_aload_n dX6_isInitialReaching_13 rfl rfl ?_
        refine V_iconst (v := nI 0) dX6_isInitialReaching_14 (by decide) ?_
        refine V_iload_n dX6_isInitialReaching_15 rfl rfl ?_
        refine V_iconst (v := nI 1) dX6_isInitialReaching_16 (by decide) ?_
        refine V_cv1 (ctX6_arrival hM hG1 hw (j := 0) (z := true) (by omega) hi) mvX6_arrival lkX6_225 hM.1 rfl rfl rfl (Nat.le_of_ble_eq_true rfl) ⟨⟨Nat.le_of_ble_eq_true rfl, Nat.le_of_ble_eq_true rfl⟩, Nat.le_of_ble_eq_true rfl, Nat.le_of_ble_eq_true rfl⟩ dX6_isInitialReaching_17 ?_
        refine V_iload_n dX6_isInitialReaching_20 rfl rfl ?_
        refine V_cs1 (ctX6_hasM (by omega)) msX6_has lkX6_158 rfl rfl (Nat.le_of_ble_eq_true rfl) ⟨⟨Nat.le_of_ble_eq_true rfl, Nat.le_of_ble_eq_true rfl⟩, Nat.le_of_ble_eq_true rfl, Nat.le_of_ble_eq_true rfl⟩ dX6_isInitialReaching_21 ?_
        refine V_ifeqB 31 dX6_isInitialReaching_24 (by decide) (fun h24 => ?_) (fun h24 => ?_)
        · refine V_iconst (v := nI 0) dX6_isInitialReaching_31 (by decide) ?_
          exact V_zretP rfl rfl ⟨by rw [bp_neg (fun q => (OP_AR.mp q).elim h10 (bp_f.mp h24))]; rfl, MQz hA hS hk1 h01⟩ ⟨Nat.le_of_ble_eq_true rfl, Nat.le_of_ble_eq_true rfl⟩ dX6_isInitialReaching_32
        · refine V_iconst (v := nI 1) dX6_isInitialReaching_27 (by decide) ?_
          refine V_goto 32 dX6_isInitialReaching_28 (by decide) ?_
          exact V_zretP rfl rfl ⟨by rw [bp_pos (OP_AR.mpr (Or.inr (bp_t.mp h24)))]; rfl, MQz hA hS hk1 h01⟩ ⟨Nat.le_of_ble_eq_true rfl, Nat.le_of_ble_eq_true rfl⟩ dX6_isInitialReaching_32

end Mdl6
