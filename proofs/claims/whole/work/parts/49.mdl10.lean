/-! SsaRepairModel: reading a line; define -/
section Mdl10
variable {κ : K0} {σ : Nat → Option Kd} {mi : Nat → Nat → Int32} {ml : Nat → Nat → Int64} {m : Nat} {G : Gr} {S : SS} {μ : Mem}
def IC (mi : Nat → Nat → Int32) (m : Nat) (C : List Nat) : Prop := mi m 11 = nI C.length ∧ ∀ i, i < C.length → mi (m + 44) i = nI (ch C i)
theorem IC.keep {m1 : Nat → Nat → Int32} {C : List Nat} (h : IC mi m C) (hk : ∀ a i, ((a = m ∧ i = 11) ∨ a = m + 44) → m1 a i = mi a i) : IC m1 m C := ⟨(hk _ _ (by omega)).trans h.1, fun i hi => (hk _ _ (by omega)).trans (h.2 i hi)⟩
variable {C : List Nat}
theorem ctX6_sees (hM : ML σ m) (hI : IC mi m C) (hc : Cok C) {p c : Nat} {wr : Bool} (h12 : mi m 12 = nI p) (h14 : mi m 14 = bI wr) (hp : p < 2 ^ 31) (hc1 : 1 ≤ c) (hc2 : c < 2 ^ 31) : Ct κ 0 0 1 mrX6_sees [.ref m, .int (nI c)] (MM σ mi ml) (.inl (some (.int (bI (!wr && decide (ch C p = c)))))) (MM σ mi ml) := by
  refine Ct.of rfl (by simp [Value.category]) (Nat.le_of_ble_eq_true rfl) ?_
  have h30 := hc.1
  obtain ⟨c1, c2⟩ := hc.at p
  refine V_aload_n dX6_sees_0 rfl rfl ?_
  refine V_getE frX6_107 hM.1 rfl h14 dX6_sees_1 ?_
  refine V_ifneB 35 dX6_sees_4 (by decide) (fun h4 => ?_) (fun h4 => ?_)
  · refine V_iconst (v := nI 0) dX6_sees_35 (by decide) ?_
    exact V_zret rfl rfl (oI (by rw [h4]; rfl)) rfl ⟨Nat.le_of_ble_eq_true rfl, Nat.le_of_ble_eq_true rfl⟩ dX6_sees_36
  · refine V_aload_n dX6_sees_7 rfl rfl ?_
    refine V_getE frX6_111 hM.1 rfl h12 dX6_sees_8 ?_
    refine V_aload_n dX6_sees_11 rfl rfl ?_
    refine V_getE frX6_104 hM.1 rfl hI.1 dX6_sees_12 ?_
    refine V_N_ge hp (by omega) 35 dX6_sees_15 (by decide) (fun h15 => ?_) (fun h15 => ?_)
    · refine V_iconst (v := nI 0) dX6_sees_35 (by decide) ?_
      exact V_zret rfl rfl (oI (by rw [decide_eq_false (show ¬ ch C p = c from fun q => by have := c2.mp (by omega); omega), Bool.and_false]; rfl)) rfl ⟨Nat.le_of_ble_eq_true rfl, Nat.le_of_ble_eq_true rfl⟩ dX6_sees_36
    · refine V_aload_n dX6_sees_18 rfl rfl ?_
      refine V_getR frX6_34 hM.1 rfl dX6_sees_19 ?_
      refine V_aload_n dX6_sees_22 rfl rfl ?_
      refine V_getE frX6_111 hM.1 rfl h12 dX6_sees_23 ?_
      refine V_caldE hM.2.2.2.2.2.2.2.2.2.2.2.2.2.2.2.1 p rfl (by omega) (by decide) (hI.2 p h15) dX6_sees_26 ?_
      refine V_iload_n dX6_sees_27 rfl rfl ?_
      refine V_N_ne (by omega) hc2 35 dX6_sees_28 (by decide) (fun h28 => ?_) (fun h28 => ?_)
      · refine V_iconst (v := nI 0) dX6_sees_35 (by decide) ?_
        exact V_zret rfl rfl (oI (by rw [decide_eq_false h28, Bool.and_false]; rfl)) rfl ⟨Nat.le_of_ble_eq_true rfl, Nat.le_of_ble_eq_true rfl⟩ dX6_sees_36
      · refine V_iconst (v := nI 1) dX6_sees_31 (by decide) ?_
        refine V_goto 36 dX6_sees_32 (by decide) ?_
        exact V_zret rfl rfl (oI (by rw [h4, decide_eq_true h28]; rfl)) rfl ⟨Nat.le_of_ble_eq_true rfl, Nat.le_of_ble_eq_true rfl⟩ dX6_sees_36

theorem ctX6_pass_ok (hM : ML σ m) (hI : IC mi m C) (hc : Cok C) {p lo hi : Nat} (h12 : mi m 12 = nI p) (h14 : mi m 14 = bI false) (hl1 : 1 ≤ lo) (hb1 : lo ≤ ch C p) (hb2 : ch C p ≤ hi) (hh : hi < 2 ^ 31) : Ct κ 0 0 1 mrX6_pass [.ref m, .int (nI lo), .int (nI hi)] (MM σ mi ml) (.inl (some (.int (nI (ch C p - lo))))) (MM σ (u2 (u2 mi m 14 (bI false)) m 12 (nI (p + 1))) ml) := by
  refine Ct.of rfl (by simp [Value.category]) (Nat.le_of_ble_eq_true rfl) ?_
  have h30 := hc.1
  obtain ⟨c1, c2⟩ := hc.at p
  have hpl := c2.mp (by omega)
  refine V_aload_n dX6_pass_0 rfl rfl ?_
  refine V_dup dX6_pass_1 rfl ?_
  refine V_getE frX6_107 hM.1 rfl h14 dX6_pass_2 ?_
  refine V_aload_n dX6_pass_5 rfl rfl ?_
  refine V_getE frX6_111 hM.1 rfl h12 dX6_pass_6 ?_
  refine V_aload_n dX6_pass_9 rfl rfl ?_
  refine V_getE frX6_104 hM.1 rfl hI.1 dX6_pass_10 ?_
  refine V_N_ge (by omega) (by omega) 42 dX6_pass_13 (by decide) (fun h13 => ?_) (fun h13 => ?_)
  · exfalso
    omega
  · refine V_aload_n dX6_pass_16 rfl rfl ?_
    refine V_getR frX6_34 hM.1 rfl dX6_pass_17 ?_
    refine V_aload_n dX6_pass_20 rfl rfl ?_
    refine V_getE frX6_111 hM.1 rfl h12 dX6_pass_21 ?_
    refine V_caldE hM.2.2.2.2.2.2.2.2.2.2.2.2.2.2.2.1 p rfl (by omega) (by decide) (hI.2 p hpl) dX6_pass_24 ?_
    refine V_iload_n dX6_pass_25 rfl rfl ?_
    refine V_N_lt (by omega) (by omega) 42 dX6_pass_26 (by decide) (fun h26 => ?_) (fun h26 => ?_)
    · exfalso
      omega
    · refine V_aload_n dX6_pass_29 rfl rfl ?_
      refine V_getR frX6_34 hM.1 rfl dX6_pass_30 ?_
      refine V_aload_n dX6_pass_33 rfl rfl ?_
      refine V_getE frX6_111 hM.1 rfl h12 dX6_pass_34 ?_
      refine V_caldE hM.2.2.2.2.2.2.2.2.2.2.2.2.2.2.2.1 p rfl (by omega) (by decide) (hI.2 p hpl) dX6_pass_37 ?_
      refine V_iload_n dX6_pass_38 rfl rfl ?_
      refine V_N_le (by omega) hh 46 dX6_pass_39 (by decide) (fun h39 => ?_) (fun h39 => ?_)
      · refine V_iconst (v := nI 0) dX6_pass_46 (by decide) ?_
        refine V_ior dX6_pass_47 ?_
        refine V_top (bI_or false false) ?_
        refine V_putI fpX6_107 rfl rfl hM.1 rfl dX6_pass_48 ?_
        refine V_aload_n dX6_pass_51 rfl rfl ?_
        refine V_getE frX6_107 hM.1 rfl (u2_s _ _ _ _) dX6_pass_52 ?_
        refine V_ifeqB 62 dX6_pass_55 (by decide) (fun h55 => ?_) (fun h55 => absurd (h55.symm.trans rfl) (by decide))
        refine V_aload_n dX6_pass_62 rfl rfl ?_
        refine V_getR frX6_34 hM.1 rfl dX6_pass_63 ?_
        refine V_aload_n dX6_pass_66 rfl rfl ?_
        refine V_getE frX6_111 hM.1 rfl ((u2_n _ _ (by omega)).trans h12) dX6_pass_67 ?_
        refine V_caldE hM.2.2.2.2.2.2.2.2.2.2.2.2.2.2.2.1 p rfl (by omega) (by decide) ((u2_n _ _ (by omega)).trans (hI.2 p hpl)) dX6_pass_70 ?_
        refine V_iload_n dX6_pass_71 rfl rfl ?_
        refine V_isub dX6_pass_72 ?_
        refine V_top (nI_subN hb1) ?_
        refine V_istore_n dX6_pass_73 rfl (Nat.le_of_ble_eq_true rfl) ?_
        refine V_aload_n dX6_pass_74 rfl rfl ?_
        refine V_dup dX6_pass_75 rfl ?_
        refine V_getE frX6_111 hM.1 rfl ((u2_n _ _ (by omega)).trans h12) dX6_pass_76 ?_
        refine V_aload_n dX6_pass_79 rfl rfl ?_
        refine V_getE frX6_107 hM.1 rfl (u2_s _ _ _ _) dX6_pass_80 ?_
        refine V_ifeqB 90 dX6_pass_83 (by decide) (fun h83 => ?_) (fun h83 => absurd (h83.symm.trans rfl) (by decide))
        refine V_iconst (v := nI 1) dX6_pass_90 (by decide) ?_
        refine V_iadd dX6_pass_91 ?_
        refine V_top (nI_add p 1) ?_
        refine V_putI fpX6_111 rfl rfl hM.1 rfl dX6_pass_92 ?_
        refine V_iload_n dX6_pass_95 rfl rfl ?_
        exact V_iret rfl rfl rfl ⟨Nat.le_of_ble_eq_true rfl, Nat.le_of_ble_eq_true rfl⟩ dX6_pass_96
      · exfalso
        omega

theorem ctX6_pass_bad (hM : ML σ m) (hI : IC mi m C) (hc : Cok C) {p lo hi : Nat} {wr : Bool} (h12 : mi m 12 = nI p) (h14 : mi m 14 = bI wr) (hp : p < 2 ^ 31) (hll : lo < 2 ^ 31) (hh : hi < 2 ^ 31) (hb : wr = true ∨ ¬ (lo ≤ ch C p ∧ ch C p ≤ hi)) : Ct κ 0 0 1 mrX6_pass [.ref m, .int (nI lo), .int (nI hi)] (MM σ mi ml) (.inl (some (.int (nI 0)))) (MM σ (u2 (u2 mi m 14 (bI true)) m 12 (nI p)) ml) := by
  refine Ct.of rfl (by simp [Value.category]) (Nat.le_of_ble_eq_true rfl) ?_
  have h30 := hc.1
  obtain ⟨c1, c2⟩ := hc.at p
  have J : ∀ x : Bool, (wr || x) = true → V κ (phi κ mrX6_pass 1 0 0 (.inl (some (.int (nI 0)))) (MM σ (u2 (u2 mi m 14 (bI true)) m 12 (nI p)) ml)) 0 0 47 (entL [.ref m, .int (nI lo), .int (nI hi)] mrX6_pass.2.2.1) [.int (bI x), .int (bI wr), .ref m] (MM σ mi ml) := fun x hx => by
    refine V_ior dX6_pass_47 ?_
    refine V_top ((bI_or wr x).trans (by rw [hx])) ?_
    refine V_putI fpX6_107 rfl rfl hM.1 rfl dX6_pass_48 ?_
    refine V_aload_n dX6_pass_51 rfl rfl ?_
    refine V_getE frX6_107 hM.1 rfl (u2_s _ _ _ _) dX6_pass_52 ?_
    refine V_ifeqB 62 dX6_pass_55 (by decide) (fun h55 => absurd (h55.symm.trans rfl) (by decide)) (fun h55 => ?_)
    refine V_iconst (v := nI 0) dX6_pass_58 (by decide) ?_
    refine V_goto 73 dX6_pass_59 (by decide) ?_
    refine V_istore_n dX6_pass_73 rfl (Nat.le_of_ble_eq_true rfl) ?_
    refine V_aload_n dX6_pass_74 rfl rfl ?_
    refine V_dup dX6_pass_75 rfl ?_
    refine V_getE frX6_111 hM.1 rfl ((u2_n _ _ (by omega)).trans h12) dX6_pass_76 ?_
    refine V_aload_n dX6_pass_79 rfl rfl ?_
    refine V_getE frX6_107 hM.1 rfl (u2_s _ _ _ _) dX6_pass_80 ?_
    refine V_ifeqB 90 dX6_pass_83 (by decide) (fun h83 => absurd (h83.symm.trans rfl) (by decide)) (fun h83 => ?_)
    refine V_iconst (v := nI 0) dX6_pass_86 (by decide) ?_
    refine V_goto 91 dX6_pass_87 (by decide) ?_
    refine V_iadd dX6_pass_91 ?_
    refine V_top (nI_add p 0) ?_
    refine V_putI fpX6_111 rfl rfl hM.1 rfl dX6_pass_92 ?_
    refine V_iload_n dX6_pass_95 rfl rfl ?_
    exact V_iret rfl rfl rfl ⟨Nat.le_of_ble_eq_true rfl, Nat.le_of_ble_eq_true rfl⟩ dX6_pass_96

  refine V_aload_n dX6_pass_0 rfl rfl ?_
  refine V_dup dX6_pass_1 rfl ?_
  refine V_getE frX6_107 hM.1 rfl h14 dX6_pass_2 ?_
  refine V_aload_n dX6_pass_5 rfl rfl ?_
  refine V_getE frX6_111 hM.1 rfl h12 dX6_pass_6 ?_
  refine V_aload_n dX6_pass_9 rfl rfl ?_
  refine V_getE frX6_104 hM.1 rfl hI.1 dX6_pass_10 ?_
  refine V_N_ge hp (by omega) 42 dX6_pass_13 (by decide) (fun h13 => ?_) (fun h13 => ?_)
  · refine V_iconst (v := nI 1) dX6_pass_42 (by decide) ?_
    refine V_goto 47 dX6_pass_43 (by decide) ?_
    exact J true (Bool.or_true _)
  · refine V_aload_n dX6_pass_16 rfl rfl ?_
    refine V_getR frX6_34 hM.1 rfl dX6_pass_17 ?_
    refine V_aload_n dX6_pass_20 rfl rfl ?_
    refine V_getE frX6_111 hM.1 rfl h12 dX6_pass_21 ?_
    refine V_caldE hM.2.2.2.2.2.2.2.2.2.2.2.2.2.2.2.1 p rfl (by omega) (by decide) (hI.2 p h13) dX6_pass_24 ?_
    refine V_iload_n dX6_pass_25 rfl rfl ?_
    refine V_N_lt (by omega) hll 42 dX6_pass_26 (by decide) (fun h26 => ?_) (fun h26 => ?_)
    · refine V_iconst (v := nI 1) dX6_pass_42 (by decide) ?_
      refine V_goto 47 dX6_pass_43 (by decide) ?_
      exact J true (Bool.or_true _)
    · refine V_aload_n dX6_pass_29 rfl rfl ?_
      refine V_getR frX6_34 hM.1 rfl dX6_pass_30 ?_
      refine V_aload_n dX6_pass_33 rfl rfl ?_
      refine V_getE frX6_111 hM.1 rfl h12 dX6_pass_34 ?_
      refine V_caldE hM.2.2.2.2.2.2.2.2.2.2.2.2.2.2.2.1 p rfl (by omega) (by decide) (hI.2 p h13) dX6_pass_37 ?_
      refine V_iload_n dX6_pass_38 rfl rfl ?_
      refine V_N_le (by omega) hh 46 dX6_pass_39 (by decide) (fun h39 => ?_) (fun h39 => ?_)
      · refine V_iconst (v := nI 0) dX6_pass_46 (by decide) ?_
        exact J false (hb.elim (fun q => by rw [q]; rfl) (fun q => absurd ⟨h26, h39⟩ q))
      · refine V_iconst (v := nI 1) dX6_pass_42 (by decide) ?_
        refine V_goto 47 dX6_pass_43 (by decide) ?_
        exact J true (Bool.or_true _)

theorem ctX6_isNewTarget (hM : ML σ m) {acc : List Nat} {B : Nat} {x : Int32} (h1 : mi m 1 = nI B) (h17 : mi m 17 = nI acc.length) (hE : ∀ z, z < acc.length → mi (m + 46) z = nI (acc.getD z 0)) (h3 : acc.length ≤ 3) : Ct κ 0 0 1 mrX6_isNewTarget [.ref m, .int x] (MM σ mi ml) (.inl (some (.int (bI (bp (¬ x ≤ 0 ∧ x < nI B ∧ ∀ z, z < acc.length → nI (acc.getD z 0) ≠ x)))))) (MM σ mi ml) := by
  refine Ct.of rfl (by simp [Value.category]) (Nat.le_of_ble_eq_true rfl) ?_
  have lp : ∀ k, k ≤ acc.length → ∀ s : Bool, (s = true ↔ ¬ x ≤ 0 ∧ x < nI B ∧ ∀ z, z < k → nI (acc.getD z 0) ≠ x) → V κ (phi κ mrX6_isNewTarget 1 0 0 (.inl (some (.int (bI (bp (¬ x ≤ 0 ∧ x < nI B ∧ ∀ z, z < acc.length → nI (acc.getD z 0) ≠ x)))))) (MM σ mi ml)) 0 0 20 [some (.ref m), some (.int x), some (.int (bI s)), some (.int (nI k))] [] (MM σ mi ml) := loop_up _ (fun k hk ih s hs => by
    refine V_iload_n dX6_isNewTarget_20 rfl rfl ?_
    refine V_aload_n dX6_isNewTarget_21 rfl rfl ?_
    refine V_getE frX6_114 hM.1 rfl h17 dX6_isNewTarget_22 ?_
    refine V_N_ge (by omega) (by omega) 52 dX6_isNewTarget_25 (by decide) (fun h25 => ?_) (fun h25 => ?_)
    · refine V_iload_n dX6_isNewTarget_52 rfl rfl ?_
      exact V_zret rfl (bI_nar _) (oI (by rw [bp_eq (b := s) (by rw [hs, show k = acc.length by omega])])) rfl ⟨Nat.le_of_ble_eq_true rfl, Nat.le_of_ble_eq_true rfl⟩ dX6_isNewTarget_53
    · refine V_iload_n dX6_isNewTarget_28 rfl rfl ?_
      refine V_aload_n dX6_isNewTarget_29 rfl rfl ?_
      refine V_getR frX6_44 hM.1 rfl dX6_isNewTarget_30 ?_
      refine V_iload_n dX6_isNewTarget_33 rfl rfl ?_
      refine V_ialdE hM.2.2.2.2.2.1 k rfl (by omega) (by decide) (hE k h25) dX6_isNewTarget_34 ?_
      refine V_iload_n dX6_isNewTarget_35 rfl rfl ?_
      refine V_icmp_eq 43 dX6_isNewTarget_36 (by decide) (fun h36 => ?_) (fun h36 => ?_)
      · refine V_iconst (v := nI 0) dX6_isNewTarget_43 (by decide) ?_
        refine V_iand dX6_isNewTarget_44 ?_
        refine V_top (bI_and s false) ?_
        refine V_istore_n dX6_isNewTarget_45 rfl (Nat.le_of_ble_eq_true rfl) ?_
        refine V_iinc1 dX6_isNewTarget_46 rfl (Nat.le_of_ble_eq_true rfl) ?_
        refine V_goto 20 dX6_isNewTarget_49 (by decide) ?_
        exact ih h25 (s && false) (by rw [Bool.and_false]; exact ⟨fun q => (by cases q), fun q => absurd h36 (q.2.2 k (by omega))⟩)
      · refine V_iconst (v := nI 1) dX6_isNewTarget_39 (by decide) ?_
        refine V_goto 44 dX6_isNewTarget_40 (by decide) ?_
        refine V_iand dX6_isNewTarget_44 ?_
        refine V_top (bI_and s true) ?_
        refine V_istore_n dX6_isNewTarget_45 rfl (Nat.le_of_ble_eq_true rfl) ?_
        refine V_iinc1 dX6_isNewTarget_46 rfl (Nat.le_of_ble_eq_true rfl) ?_
        refine V_goto 20 dX6_isNewTarget_49 (by decide) ?_
        exact ih h25 (s && true) (by
          rw [Bool.and_true, hs]
          refine and_congr_right (fun _ => and_congr_right (fun _ => ⟨fun h z hz => ?_, fun h z hz => h z (by omega)⟩))
          by_cases e : z = k
          · subst e; exact h36
          · exact h z (by omega))
    )
  refine V_iload_n dX6_isNewTarget_0 rfl rfl ?_
  refine V_if_le 16 dX6_isNewTarget_1 (by decide) (fun h1_ => ?_) (fun h1_ => ?_)
  · refine V_iconst (v := nI 0) dX6_isNewTarget_16 (by decide) ?_
    refine V_istore_n dX6_isNewTarget_17 rfl (Nat.le_of_ble_eq_true rfl) ?_
    refine V_iconst (v := nI 0) dX6_isNewTarget_18 (by decide) ?_
    refine V_istore_n dX6_isNewTarget_19 rfl (Nat.le_of_ble_eq_true rfl) ?_
    exact lp 0 (Nat.zero_le _) false ⟨fun q => (by cases q), fun q => absurd h1_ q.1⟩
  · refine V_iload_n dX6_isNewTarget_4 rfl rfl ?_
    refine V_aload_n dX6_isNewTarget_5 rfl rfl ?_
    refine V_getE frX6_7 hM.1 rfl h1 dX6_isNewTarget_6 ?_
    refine V_icmp_ge 16 dX6_isNewTarget_9 (by decide) (fun h9 => ?_) (fun h9 => ?_)
    · refine V_iconst (v := nI 0) dX6_isNewTarget_16 (by decide) ?_
      refine V_istore_n dX6_isNewTarget_17 rfl (Nat.le_of_ble_eq_true rfl) ?_
      refine V_iconst (v := nI 0) dX6_isNewTarget_18 (by decide) ?_
      refine V_istore_n dX6_isNewTarget_19 rfl (Nat.le_of_ble_eq_true rfl) ?_
      exact lp 0 (Nat.zero_le _) false ⟨fun q => (by cases q), fun q => absurd q.2.1 (Int32.not_lt.mpr h9)⟩
    · refine V_iconst (v := nI 1) dX6_isNewTarget_12 (by decide) ?_
      refine V_goto 17 dX6_isNewTarget_13 (by decide) ?_
      refine V_istore_n dX6_isNewTarget_17 rfl (Nat.le_of_ble_eq_true rfl) ?_
      refine V_iconst (v := nI 0) dX6_isNewTarget_18 (by decide) ?_
      refine V_istore_n dX6_isNewTarget_19 rfl (Nat.le_of_ble_eq_true rfl) ?_
      exact lp 0 (Nat.zero_le _) true ⟨fun _ => ⟨h1_, Int32.not_le.mp h9, fun z hz => absurd hz (Nat.not_lt_zero z)⟩, fun _ => rfl⟩

theorem le0_of_lt1 {x : Int32} (h : x < nI 1) : x ≤ 0 := by
  rw [Int32.lt_iff_toInt_lt, nI_toInt (by decide)] at h
  rw [Int32.le_iff_toInt_le]
  have h0 : (0 : Int32).toInt = 0 := by decide
  omega
theorem ctX6_readTargets (hM : ML σ m) (hI : IC mi m C) (hc : Cok C) {s B : Nat} (hB : B ≤ 14) (hs : s < 1000) (h1 : mi m 1 = nI B) (h12 : mi m 12 = nI s) (h14 : mi m 14 = bI false) (h17 : mi m 17 = nI 0) : CtP κ 0 0 2 mrX6_readTargets [.ref m] (MM σ mi ml) (fun o μ' => o = .inl none ∧ ∃ m1, μ' = MM σ m1 ml ∧ m1 m 14 = bI (!bp (0 < (tgo C B s 3 []).length ∧ s + (tgo C B s 3 []).length = C.length)) ∧ m1 m 12 = nI (s + (tgo C B s 3 []).length) ∧ m1 m 17 = nI (tgo C B s 3 []).length ∧ (∀ z, z < (tgo C B s 3 []).length → m1 (m + 46) z = nI ((tgo C B s 3 []).getD z 0)) ∧ (∀ a i, ¬ (a = m ∧ (i = 12 ∨ i = 14 ∨ i = 17)) → a ≠ m + 46 → m1 a i = mi a i)) := by
  refine CtP.of rfl (by simp [Value.category]) (Nat.le_of_ble_eq_true rfl) ?_
  have h30 := hc.1
  have nok : ∀ acc, (tgo C B s 3 []) = acc → (acc = [] ∨ s + acc.length < C.length) → ¬ (0 < (tgo C B s 3 []).length ∧ s + (tgo C B s 3 []).length = C.length) := fun acc hT g6 q => by
    rw [hT] at q
    rcases g6 with w | w
    · rw [w] at q; exact absurd q.1 (Nat.lt_irrefl 0)
    · omega
  have out : ∀ m1 (wr : Bool) o2, m1 m 14 = bI wr → wr = (!bp (0 < (tgo C B s 3 []).length ∧ s + (tgo C B s 3 []).length = C.length)) → m1 m 12 = nI (s + (tgo C B s 3 []).length) → m1 m 17 = nI (tgo C B s 3 []).length → (∀ z, z < (tgo C B s 3 []).length → m1 (m + 46) z = nI ((tgo C B s 3 []).getD z 0)) → (∀ a i, ¬ (a = m ∧ (i = 12 ∨ i = 14 ∨ i = 17)) → a ≠ m + 46 → m1 a i = mi a i) → V κ (phiP κ mrX6_readTargets 2 0 0 (fun o μ' => o = .inl none ∧ ∃ m1, μ' = MM σ m1 ml ∧ m1 m 14 = bI (!bp (0 < (tgo C B s 3 []).length ∧ s + (tgo C B s 3 []).length = C.length)) ∧ m1 m 12 = nI (s + (tgo C B s 3 []).length) ∧ m1 m 17 = nI (tgo C B s 3 []).length ∧ (∀ z, z < (tgo C B s 3 []).length → m1 (m + 46) z = nI ((tgo C B s 3 []).getD z 0)) ∧ (∀ a i, ¬ (a = m ∧ (i = 12 ∨ i = 14 ∨ i = 17)) → a ≠ m + 46 → m1 a i = mi a i))) 0 0 2 [some (.ref m), some (.int (bI false)), o2] [] (MM σ m1 ml) := fun m1 wr o2 g1 g2 g3 g4 g5 g6 => by
    refine V_iload_n dX6_readTargets_2 rfl rfl ?_
    refine V_ifeqB 128 dX6_readTargets_3 (by decide) (fun h3 => ?_) (fun h3 => absurd (h3.symm.trans rfl) (by decide))
    exact V_vretP rfl ⟨rfl, m1, rfl, by rw [← g2]; exact g1, g3, g4, g5, g6⟩ ⟨Nat.le_of_ble_eq_true rfl, Nat.le_of_ble_eq_true rfl⟩ dX6_readTargets_128

  have lp : ∀ n acc, acc.length + n = 3 → ∀ m1 o2, (∀ z, z < acc.length → acc.getD z 0 < 2 ^ 30) → m1 m 14 = bI false → m1 m 12 = nI (s + acc.length) → m1 m 17 = nI acc.length → (∀ z, z < acc.length → m1 (m + 46) z = nI (acc.getD z 0)) → (∀ a i, ¬ (a = m ∧ (i = 12 ∨ i = 14 ∨ i = 17)) → a ≠ m + 46 → m1 a i = mi a i) → (acc = [] ∨ s + acc.length < C.length) → tgo C B s n acc = (tgo C B s 3 []) → V κ (phiP κ mrX6_readTargets 2 0 0 (fun o μ' => o = .inl none ∧ ∃ m1, μ' = MM σ m1 ml ∧ m1 m 14 = bI (!bp (0 < (tgo C B s 3 []).length ∧ s + (tgo C B s 3 []).length = C.length)) ∧ m1 m 12 = nI (s + (tgo C B s 3 []).length) ∧ m1 m 17 = nI (tgo C B s 3 []).length ∧ (∀ z, z < (tgo C B s 3 []).length → m1 (m + 46) z = nI ((tgo C B s 3 []).getD z 0)) ∧ (∀ a i, ¬ (a = m ∧ (i = 12 ∨ i = 14 ∨ i = 17)) → a ≠ m + 46 → m1 a i = mi a i))) 0 0 2 [some (.ref m), some (.int (bI true)), o2] [] (MM σ m1 ml) := by
    intro n
    induction n with
    | zero =>
      intro acc hl m1 o2 gb g1 g2 g3 g4 g5 g6 g7
      have hT : (tgo C B s 3 []) = acc := g7.symm
      have hI1 : IC m1 m C := hI.keep (fun a i q => g5 a i (by omega) (by omega))
      refine V_iload_n dX6_readTargets_2 rfl rfl ?_
      refine V_ifeqB 128 dX6_readTargets_3 (by decide) (fun h3 => absurd (h3.symm.trans rfl) (by decide)) (fun h3 => ?_)
      refine V_aload_n dX6_readTargets_6 rfl rfl ?_
      refine V_getE frX6_111 hM.1 rfl g2 dX6_readTargets_7 ?_
      refine V_aload_n dX6_readTargets_10 rfl rfl ?_
      refine V_getE frX6_104 hM.1 rfl hI1.1 dX6_readTargets_11 ?_
      refine V_N_ge (by omega) (by omega) 32 dX6_readTargets_14 (by decide) (fun h14b => ?_) (fun h14b => ?_)
      · refine V_iconst (v := (-1)) dX6_readTargets_32 (by decide) ?_
        refine V_istore_n dX6_readTargets_33 rfl (Nat.le_of_ble_eq_true rfl) ?_
        refine V_aload_n dX6_readTargets_34 rfl rfl ?_
        refine V_dup dX6_readTargets_35 rfl ?_
        refine V_getE frX6_107 hM.1 rfl g1 dX6_readTargets_36 ?_
        refine V_aload_n dX6_readTargets_39 rfl rfl ?_
        refine V_getE frX6_114 hM.1 rfl g3 dX6_readTargets_40 ?_
        refine V_iconst (v := nI 3) dX6_readTargets_43 (by decide) ?_
        refine V_N_eq (by omega) (by omega) 55 dX6_readTargets_44 (by decide) (fun h44 => ?_) (fun h44 => ?_)
        · refine V_iconst (v := nI 1) dX6_readTargets_55 (by decide) ?_
          refine V_goto 60 dX6_readTargets_56 (by decide) ?_
          refine V_ior dX6_readTargets_60 ?_
          refine V_top (bI_or false true) ?_
          refine V_putI fpX6_107 rfl rfl hM.1 rfl dX6_readTargets_61 ?_
          refine V_aload_n dX6_readTargets_64 rfl rfl ?_
          refine V_getE frX6_107 hM.1 rfl (u2_s _ _ _ _) dX6_readTargets_65 ?_
          refine V_ifneB 101 dX6_readTargets_68 (by decide) (fun h68 => ?_) (fun h68 => absurd (h68.symm.trans rfl) (by decide))
          refine V_aload_n dX6_readTargets_101 rfl rfl ?_
          refine V_getE frX6_107 hM.1 rfl (u2_s _ _ _ _) dX6_readTargets_102 ?_
          refine V_ifneB 123 dX6_readTargets_105 (by decide) (fun h105 => ?_) (fun h105 => absurd (h105.symm.trans rfl) (by decide))
          refine V_iconst (v := nI 0) dX6_readTargets_123 (by decide) ?_
          refine V_istore_n dX6_readTargets_124 rfl (Nat.le_of_ble_eq_true rfl) ?_
          refine V_goto 2 dX6_readTargets_125 (by decide) ?_
          exact out _ true _ (u2_s _ _ _ _) (by rw [bp_neg (nok acc hT g6)]; rfl) ((u2_n _ _ (by omega)).trans (by rw [hT]; exact g2)) ((u2_n _ _ (by omega)).trans (by rw [hT]; exact g3)) (by rw [hT]; exact fun z hz => (u2_n _ _ (by omega)).trans (g4 z hz)) (fun a i q1 q2 => (u2_n _ _ (by omega)).trans (g5 a i q1 q2))
        · exfalso
          omega
      · refine V_aload_n dX6_readTargets_17 rfl rfl ?_
        refine V_getR frX6_34 hM.1 rfl dX6_readTargets_18 ?_
        refine V_aload_n dX6_readTargets_21 rfl rfl ?_
        refine V_getE frX6_111 hM.1 rfl g2 dX6_readTargets_22 ?_
        refine V_caldE hM.2.2.2.2.2.2.2.2.2.2.2.2.2.2.2.1 (s + acc.length) rfl (by omega) (by decide) (hI1.2 _ h14b) dX6_readTargets_25 ?_
        refine V_bipush (v := nI 97) dX6_readTargets_26 (by decide) ?_
        refine V_isub dX6_readTargets_28 ?_
        refine V_goto 33 dX6_readTargets_29 (by decide) ?_
        refine V_istore_n dX6_readTargets_33 rfl (Nat.le_of_ble_eq_true rfl) ?_
        refine V_aload_n dX6_readTargets_34 rfl rfl ?_
        refine V_dup dX6_readTargets_35 rfl ?_
        refine V_getE frX6_107 hM.1 rfl g1 dX6_readTargets_36 ?_
        refine V_aload_n dX6_readTargets_39 rfl rfl ?_
        refine V_getE frX6_114 hM.1 rfl g3 dX6_readTargets_40 ?_
        refine V_iconst (v := nI 3) dX6_readTargets_43 (by decide) ?_
        refine V_N_eq (by omega) (by omega) 55 dX6_readTargets_44 (by decide) (fun h44 => ?_) (fun h44 => ?_)
        · refine V_iconst (v := nI 1) dX6_readTargets_55 (by decide) ?_
          refine V_goto 60 dX6_readTargets_56 (by decide) ?_
          refine V_ior dX6_readTargets_60 ?_
          refine V_top (bI_or false true) ?_
          refine V_putI fpX6_107 rfl rfl hM.1 rfl dX6_readTargets_61 ?_
          refine V_aload_n dX6_readTargets_64 rfl rfl ?_
          refine V_getE frX6_107 hM.1 rfl (u2_s _ _ _ _) dX6_readTargets_65 ?_
          refine V_ifneB 101 dX6_readTargets_68 (by decide) (fun h68 => ?_) (fun h68 => absurd (h68.symm.trans rfl) (by decide))
          refine V_aload_n dX6_readTargets_101 rfl rfl ?_
          refine V_getE frX6_107 hM.1 rfl (u2_s _ _ _ _) dX6_readTargets_102 ?_
          refine V_ifneB 123 dX6_readTargets_105 (by decide) (fun h105 => ?_) (fun h105 => absurd (h105.symm.trans rfl) (by decide))
          refine V_iconst (v := nI 0) dX6_readTargets_123 (by decide) ?_
          refine V_istore_n dX6_readTargets_124 rfl (Nat.le_of_ble_eq_true rfl) ?_
          refine V_goto 2 dX6_readTargets_125 (by decide) ?_
          exact out _ true _ (u2_s _ _ _ _) (by rw [bp_neg (nok acc hT g6)]; rfl) ((u2_n _ _ (by omega)).trans (by rw [hT]; exact g2)) ((u2_n _ _ (by omega)).trans (by rw [hT]; exact g3)) (by rw [hT]; exact fun z hz => (u2_n _ _ (by omega)).trans (g4 z hz)) (fun a i q1 q2 => (u2_n _ _ (by omega)).trans (g5 a i q1 q2))
        · exfalso
          omega

    | succ n IH =>
      intro acc hl m1 o2 gb g1 g2 g3 g4 g5 g6 g7
      have hI1 : IC m1 m C := hI.keep (fun a i q => g5 a i (by omega) (by omega))
      have hB1 : m1 m 1 = nI B := (g5 _ _ (by omega) (by omega)).trans h1
      obtain ⟨c1, c2⟩ := hc.at (s + acc.length)
      have bad : okT C B s acc = false → (tgo C B s 3 []) = acc := fun q => by rw [← g7, tgo, if_neg (by rw [q]; decide)]
      have J : ∀ x : Int32, (s + acc.length < C.length → x = nI (ch C (s + acc.length)) - nI 97) → (bp (¬ x ≤ 0 ∧ x < nI B ∧ ∀ z, z < acc.length → nI (acc.getD z 0) ≠ x) = okT C B s acc) → V κ (phiP κ mrX6_readTargets 2 0 0 (fun o μ' => o = .inl none ∧ ∃ m1, μ' = MM σ m1 ml ∧ m1 m 14 = bI (!bp (0 < (tgo C B s 3 []).length ∧ s + (tgo C B s 3 []).length = C.length)) ∧ m1 m 12 = nI (s + (tgo C B s 3 []).length) ∧ m1 m 17 = nI (tgo C B s 3 []).length ∧ (∀ z, z < (tgo C B s 3 []).length → m1 (m + 46) z = nI ((tgo C B s 3 []).getD z 0)) ∧ (∀ a i, ¬ (a = m ∧ (i = 12 ∨ i = 14 ∨ i = 17)) → a ≠ m + 46 → m1 a i = mi a i))) 0 0 33 [some (.ref m), some (.int (bI true)), o2] [.int x] (MM σ m1 ml) := fun x hx hxk => by
        cases hk : okT C B s acc with
        | false =>
          have hT := bad hk
          refine V_istore_n dX6_readTargets_33 rfl (Nat.le_of_ble_eq_true rfl) ?_
          refine V_aload_n dX6_readTargets_34 rfl rfl ?_
          refine V_dup dX6_readTargets_35 rfl ?_
          refine V_getE frX6_107 hM.1 rfl g1 dX6_readTargets_36 ?_
          refine V_aload_n dX6_readTargets_39 rfl rfl ?_
          refine V_getE frX6_114 hM.1 rfl g3 dX6_readTargets_40 ?_
          refine V_iconst (v := nI 3) dX6_readTargets_43 (by decide) ?_
          refine V_N_eq (by omega) (by omega) 55 dX6_readTargets_44 (by decide) (fun h44 => ?_) (fun h44 => ?_)
          · exfalso
            omega
          · refine V_aload_n dX6_readTargets_47 rfl rfl ?_
            refine V_iload_n dX6_readTargets_48 rfl rfl ?_
            refine V_cv1 (ctX6_isNewTarget hM hB1 g3 g4 (by omega)) mvX6_isNewTarget lkX6_117 hM.1 rfl rfl rfl (Nat.le_of_ble_eq_true rfl) ⟨⟨Nat.le_of_ble_eq_true rfl, Nat.le_of_ble_eq_true rfl⟩, Nat.le_of_ble_eq_true rfl, Nat.le_of_ble_eq_true rfl⟩ dX6_readTargets_49 ?_
            rw [hxk, hk]
            refine V_ifneB 59 dX6_readTargets_52 (by decide) (fun h52 => absurd (h52.symm.trans rfl) (by decide)) (fun h52 => ?_)
            refine V_iconst (v := nI 1) dX6_readTargets_55 (by decide) ?_
            refine V_goto 60 dX6_readTargets_56 (by decide) ?_
            refine V_ior dX6_readTargets_60 ?_
            refine V_top (bI_or false true) ?_
            refine V_putI fpX6_107 rfl rfl hM.1 rfl dX6_readTargets_61 ?_
            refine V_aload_n dX6_readTargets_64 rfl rfl ?_
            refine V_getE frX6_107 hM.1 rfl (u2_s _ _ _ _) dX6_readTargets_65 ?_
            refine V_ifneB 101 dX6_readTargets_68 (by decide) (fun h68 => ?_) (fun h68 => absurd (h68.symm.trans rfl) (by decide))
            refine V_aload_n dX6_readTargets_101 rfl rfl ?_
            refine V_getE frX6_107 hM.1 rfl (u2_s _ _ _ _) dX6_readTargets_102 ?_
            refine V_ifneB 123 dX6_readTargets_105 (by decide) (fun h105 => ?_) (fun h105 => absurd (h105.symm.trans rfl) (by decide))
            refine V_iconst (v := nI 0) dX6_readTargets_123 (by decide) ?_
            refine V_istore_n dX6_readTargets_124 rfl (Nat.le_of_ble_eq_true rfl) ?_
            refine V_goto 2 dX6_readTargets_125 (by decide) ?_
            exact out _ true _ (u2_s _ _ _ _) (by rw [bp_neg (nok acc hT g6)]; rfl) ((u2_n _ _ (by omega)).trans (by rw [hT]; exact g2)) ((u2_n _ _ (by omega)).trans (by rw [hT]; exact g3)) (by rw [hT]; exact fun z hz => (u2_n _ _ (by omega)).trans (g4 z hz)) (fun a i q1 q2 => (u2_n _ _ (by omega)).trans (g5 a i q1 q2))

        | true =>
          have hk2 := hk
          unfold okT at hk2
          rw [Bool.and_eq_true, Bool.and_eq_true, decide_eq_true_iff, decide_eq_true_iff, Bool.not_eq_true', decide_eq_false_iff_not] at hk2
          have hpl := c2.mp (by omega)
          rw [hx hpl, nI_subN (by omega : 97 ≤ ch C (s + acc.length))]
          rw [hx hpl, nI_subN (by omega : 97 ≤ ch C (s + acc.length)), hk] at hxk
          have hT : tgo C B s n (acc ++ [ch C (s + acc.length) - 97]) = (tgo C B s 3 []) := by rw [← g7, tgo, if_pos hk]
          refine V_istore_n dX6_readTargets_33 rfl (Nat.le_of_ble_eq_true rfl) ?_
          refine V_aload_n dX6_readTargets_34 rfl rfl ?_
          refine V_dup dX6_readTargets_35 rfl ?_
          refine V_getE frX6_107 hM.1 rfl g1 dX6_readTargets_36 ?_
          refine V_aload_n dX6_readTargets_39 rfl rfl ?_
          refine V_getE frX6_114 hM.1 rfl g3 dX6_readTargets_40 ?_
          refine V_iconst (v := nI 3) dX6_readTargets_43 (by decide) ?_
          refine V_N_eq (by omega) (by omega) 55 dX6_readTargets_44 (by decide) (fun h44 => ?_) (fun h44 => ?_)
          · exfalso
            omega
          · refine V_aload_n dX6_readTargets_47 rfl rfl ?_
            refine V_iload_n dX6_readTargets_48 rfl rfl ?_
            refine V_cv1 (ctX6_isNewTarget hM hB1 g3 g4 (by omega)) mvX6_isNewTarget lkX6_117 hM.1 rfl rfl rfl (Nat.le_of_ble_eq_true rfl) ⟨⟨Nat.le_of_ble_eq_true rfl, Nat.le_of_ble_eq_true rfl⟩, Nat.le_of_ble_eq_true rfl, Nat.le_of_ble_eq_true rfl⟩ dX6_readTargets_49 ?_
            rw [hxk]
            refine V_ifneB 59 dX6_readTargets_52 (by decide) (fun h52 => ?_) (fun h52 => absurd (h52.symm.trans rfl) (by decide))
            refine V_iconst (v := nI 0) dX6_readTargets_59 (by decide) ?_
            refine V_ior dX6_readTargets_60 ?_
            refine V_top (bI_or false false) ?_
            refine V_putI fpX6_107 rfl rfl hM.1 rfl dX6_readTargets_61 ?_
            refine V_aload_n dX6_readTargets_64 rfl rfl ?_
            refine V_getE frX6_107 hM.1 rfl (u2_s _ _ _ _) dX6_readTargets_65 ?_
            refine V_ifneB 101 dX6_readTargets_68 (by decide) (fun h68 => absurd (h68.symm.trans rfl) (by decide)) (fun h68 => ?_)
            refine V_aload_n dX6_readTargets_71 rfl rfl ?_
            refine V_getR frX6_44 hM.1 rfl dX6_readTargets_72 ?_
            refine V_aload_n dX6_readTargets_75 rfl rfl ?_
            refine V_getE frX6_114 hM.1 rfl ((u2_n _ _ (by omega)).trans g3) dX6_readTargets_76 ?_
            refine V_iload_n dX6_readTargets_79 rfl rfl ?_
            refine V_iastN hM.2.2.2.2.2.1 acc.length rfl (by omega) (by decide) dX6_readTargets_80 ?_
            refine V_aload_n dX6_readTargets_81 rfl rfl ?_
            refine V_dup dX6_readTargets_82 rfl ?_
            refine V_getE frX6_114 hM.1 rfl ((u2_n _ _ (by omega)).trans ((u2_n _ _ (by omega)).trans g3)) dX6_readTargets_83 ?_
            refine V_iconst (v := nI 1) dX6_readTargets_86 (by decide) ?_
            refine V_iadd dX6_readTargets_87 ?_
            refine V_top (nI_add _ 1) ?_
            refine V_putI fpX6_114 rfl rfl hM.1 rfl dX6_readTargets_88 ?_
            refine V_aload_n dX6_readTargets_91 rfl rfl ?_
            refine V_dup dX6_readTargets_92 rfl ?_
            refine V_getE frX6_111 hM.1 rfl (((u2_n _ _ (by omega)).trans ((u2_n _ _ (by omega)).trans (u2_n _ _ (by omega)))).trans g2) dX6_readTargets_93 ?_
            refine V_iconst (v := nI 1) dX6_readTargets_96 (by decide) ?_
            refine V_iadd dX6_readTargets_97 ?_
            refine V_top (nI_add _ 1) ?_
            
            refine V_putI fpX6_111 rfl rfl hM.1 rfl dX6_readTargets_98 ?_
            have hlA : (acc ++ [ch C (s + acc.length) - 97]).length = acc.length + 1 := by simp
            have e14 : u2 (u2 (u2 (u2 m1 m 14 (bI false)) (m + 46) acc.length (nI (ch C (s + acc.length) - 97))) m 17 (nI (acc.length + 1))) m 12 (nI (s + acc.length + 1)) m 14 = bI false := ((u2_n _ _ (by omega)).trans ((u2_n _ _ (by omega)).trans (u2_n _ _ (by omega)))).trans (u2_s _ _ _ _)
            have e12 : u2 (u2 (u2 (u2 m1 m 14 (bI false)) (m + 46) acc.length (nI (ch C (s + acc.length) - 97))) m 17 (nI (acc.length + 1))) m 12 (nI (s + acc.length + 1)) m 12 = nI (s + (acc ++ [ch C (s + acc.length) - 97]).length) := (u2_s _ _ _ _).trans (by simp [Nat.add_assoc])
            have e17 : u2 (u2 (u2 (u2 m1 m 14 (bI false)) (m + 46) acc.length (nI (ch C (s + acc.length) - 97))) m 17 (nI (acc.length + 1))) m 12 (nI (s + acc.length + 1)) m 17 = nI (acc ++ [ch C (s + acc.length) - 97]).length := (u2_n _ _ (by omega)).trans ((u2_s _ _ _ _).trans (by simp))
            have eE : ∀ z, z < (acc ++ [ch C (s + acc.length) - 97]).length → u2 (u2 (u2 (u2 m1 m 14 (bI false)) (m + 46) acc.length (nI (ch C (s + acc.length) - 97))) m 17 (nI (acc.length + 1))) m 12 (nI (s + acc.length + 1)) (m + 46) z = nI ((acc ++ [ch C (s + acc.length) - 97]).getD z 0) := fun z hz => by
              have hz' : z < acc.length + 1 := by simpa using hz
              rw [getD_app hz']
              refine (u2_n _ _ (by omega)).trans ((u2_n _ _ (by omega)).trans ?_)
              by_cases e : z = acc.length
              · subst e; rw [if_pos rfl]; exact u2_s _ _ _ _
              · rw [if_neg e]; exact (u2_n _ _ (Or.inr e)).trans ((u2_n _ _ (by omega)).trans (g4 z (by omega)))
            have eF : ∀ a i, ¬ (a = m ∧ (i = 12 ∨ i = 14 ∨ i = 17)) → a ≠ m + 46 → u2 (u2 (u2 (u2 m1 m 14 (bI false)) (m + 46) acc.length (nI (ch C (s + acc.length) - 97))) m 17 (nI (acc.length + 1))) m 12 (nI (s + acc.length + 1)) a i = mi a i := fun a i q1 q2 => ((u2_n _ _ (by omega)).trans ((u2_n _ _ (by omega)).trans ((u2_n _ _ (by omega)).trans (u2_n _ _ (by omega))))).trans (g5 a i q1 q2)
            refine V_aload_n dX6_readTargets_101 rfl rfl ?_
            refine V_getE frX6_107 hM.1 rfl e14 dX6_readTargets_102 ?_
            refine V_ifneB 123 dX6_readTargets_105 (by decide) (fun h105 => absurd (h105.symm.trans rfl) (by decide)) (fun h105 => ?_)
            refine V_aload_n dX6_readTargets_108 rfl rfl ?_
            refine V_getE frX6_111 hM.1 rfl e12 dX6_readTargets_109 ?_
            refine V_aload_n dX6_readTargets_112 rfl rfl ?_
            refine V_getE frX6_104 hM.1 rfl (((u2_n _ _ (by omega)).trans ((u2_n _ _ (by omega)).trans ((u2_n _ _ (by omega)).trans (u2_n _ _ (by omega))))).trans hI1.1) dX6_readTargets_113 ?_
            refine V_N_ge (by omega) (by omega) 123 dX6_readTargets_116 (by decide) (fun h116 => ?_) (fun h116 => ?_)
            · refine V_iconst (v := nI 0) dX6_readTargets_123 (by decide) ?_
              refine V_istore_n dX6_readTargets_124 rfl (Nat.le_of_ble_eq_true rfl) ?_
              refine V_goto 2 dX6_readTargets_125 (by decide) ?_
              have hlen : s + (acc ++ [ch C (s + acc.length) - 97]).length = C.length := by have := h116; simp at this ⊢; omega
              have hfin : (tgo C B s 3 []) = acc ++ [ch C (s + acc.length) - 97] := by
                rw [← hT]
                cases n with
                | zero => rfl
                | succ n =>
                  rw [tgo, if_neg]
                  intro q
                  unfold okT at q
                  rw [Bool.and_eq_true, Bool.and_eq_true, decide_eq_true_iff] at q
                  have := (hc.at (s + (acc ++ [ch C (s + acc.length) - 97]).length)).2.mp (by omega)
                  omega
              exact out _ false _ e14 (by rw [bp_pos (by rw [hfin]; exact ⟨by simp, hlen⟩)]; rfl) (by rw [hfin]; exact e12) (by rw [hfin]; exact e17) (by rw [hfin]; exact eE) eF
            · refine V_iconst (v := nI 1) dX6_readTargets_119 (by decide) ?_
              refine V_goto 124 dX6_readTargets_120 (by decide) ?_
              refine V_istore_n dX6_readTargets_124 rfl (Nat.le_of_ble_eq_true rfl) ?_
              refine V_goto 2 dX6_readTargets_125 (by decide) ?_
              exact IH _ (by simp; omega) _ _ (fun z hz => by
                have hz' : z < acc.length + 1 := by simpa using hz
                rw [getD_app hz']
                split
                · omega
                · exact gb z (by omega)) e14 e12 e17 eE eF (Or.inr h116) hT

      refine V_iload_n dX6_readTargets_2 rfl rfl ?_
      refine V_ifeqB 128 dX6_readTargets_3 (by decide) (fun h3 => absurd (h3.symm.trans rfl) (by decide)) (fun h3 => ?_)
      refine V_aload_n dX6_readTargets_6 rfl rfl ?_
      refine V_getE frX6_111 hM.1 rfl g2 dX6_readTargets_7 ?_
      refine V_aload_n dX6_readTargets_10 rfl rfl ?_
      refine V_getE frX6_104 hM.1 rfl hI1.1 dX6_readTargets_11 ?_
      refine V_N_ge (by omega) (by omega) 32 dX6_readTargets_14 (by decide) (fun h14b => ?_) (fun h14b => ?_)
      · refine V_iconst (v := (-1)) dX6_readTargets_32 (by decide) ?_
        refine J (-1) (fun q => by omega) ?_
        have h0 : ch C (s + acc.length) = 0 := Classical.byContradiction (fun q => absurd (c2.mp q) (by omega))
        rw [bp_neg (fun q => q.1 (by decide))]
        unfold okT
        rw [h0]
        rfl
      · refine V_aload_n dX6_readTargets_17 rfl rfl ?_
        refine V_getR frX6_34 hM.1 rfl dX6_readTargets_18 ?_
        refine V_aload_n dX6_readTargets_21 rfl rfl ?_
        refine V_getE frX6_111 hM.1 rfl g2 dX6_readTargets_22 ?_
        refine V_caldE hM.2.2.2.2.2.2.2.2.2.2.2.2.2.2.2.1 (s + acc.length) rfl (by omega) (by decide) (hI1.2 _ h14b) dX6_readTargets_25 ?_
        refine V_bipush (v := nI 97) dX6_readTargets_26 (by decide) ?_
        refine V_isub dX6_readTargets_28 ?_
        refine V_goto 33 dX6_readTargets_29 (by decide) ?_
        refine J _ (fun _ => rfl) (bp_eq ?_)
        rw [show okT C B s acc = true ↔ (98 ≤ ch C (s + acc.length) ∧ ch C (s + acc.length) < 97 + B) ∧ ¬ ch C (s + acc.length) - 97 ∈ acc by unfold okT; rw [Bool.and_eq_true, Bool.and_eq_true, decide_eq_true_iff, decide_eq_true_iff, Bool.not_eq_true', decide_eq_false_iff_not]]
        by_cases h98 : 98 ≤ ch C (s + acc.length)
        · rw [nI_subN (by omega : 97 ≤ ch C (s + acc.length))]
          constructor
          · rintro ⟨⟨_, q2⟩, q3⟩
            refine ⟨fun w => ?_, (nI_ltI (by omega) (by omega)).mpr (by omega), fun z hz e => q3 (mem_getD.mpr ⟨z, hz, (nI_eq (by have := gb z hz; omega) (by omega)).mp e⟩)⟩
            have := (nI_leI (b := 0) (show ch C (s + acc.length) - 97 < 2 ^ 31 by omega) (by omega)).mp w
            omega
          · rintro ⟨_, q2, q3⟩
            refine ⟨⟨h98, by have := (nI_ltI (by omega) (by omega)).mp q2; omega⟩, fun w => ?_⟩
            obtain ⟨z, hz, e⟩ := mem_getD.mp w
            exact q3 z hz (by rw [e])
        · refine ⟨fun q => absurd q.1.1 h98, fun q => absurd (Int32.not_lt.mp (fun w => ?_)) q.1⟩
          exact h98 (by
            have := (sub97L _ c1)
            rcases Nat.lt_or_ge (ch C (s + acc.length)) 98 with y | y
            · have h2 := this.mpr y
              exact absurd w (Int32.not_lt.mpr (le0_of_lt1 h2))
            · exact y)

  refine V_iconst (v := nI 1) dX6_readTargets_0 (by decide) ?_
  refine V_istore_n dX6_readTargets_1 rfl (Nat.le_of_ble_eq_true rfl) ?_
  exact lp 3 [] rfl mi _ (fun z hz => absurd hz (Nat.not_lt_zero z)) h14 h12 h17 (fun z hz => absurd hz (Nat.not_lt_zero z)) (fun _ _ _ _ => rfl) (Or.inl rfl) rfl

end Mdl10
