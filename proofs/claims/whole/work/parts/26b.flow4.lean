section Flow4
variable {κ : K0} {σ : Nat → Option Kd} {mi : Nat → Nat → Int32} {ml : Nat → Nat → Int64} {f : Nat} {G : Gr} {μ : Mem}
theorem ctJ6_bitCount_0f7a4 {x : Int32} : Ct κ 0 0 1 mrJ6_bitCount_0f7a4 [.int x] μ (.inl (some (.int (bcF x)))) μ := by
  refine Ct.of rfl (by simp [Value.category]) (Nat.le_of_ble_eq_true rfl) ?_
  refine V_iload_n dJ6_bitCount_0f7a4_0 rfl rfl ?_
  refine V_iload_n dJ6_bitCount_0f7a4_1 rfl rfl ?_
  refine V_iconst (v := nI 1) dJ6_bitCount_0f7a4_2 (by decide) ?_
  refine V_iushr dJ6_bitCount_0f7a4_3 ?_
  refine V_ldcwI dJ6_bitCount_0f7a4_4 conJ6_265 ?_
  refine V_iand dJ6_bitCount_0f7a4_7 ?_
  refine V_isub dJ6_bitCount_0f7a4_8 ?_
  refine V_top (show _ = bc1 x from rfl) ?_
  refine V_istore_n dJ6_bitCount_0f7a4_9 rfl (Nat.le_of_ble_eq_true rfl) ?_
  refine V_iload_n dJ6_bitCount_0f7a4_10 rfl rfl ?_
  refine V_ldcwI dJ6_bitCount_0f7a4_11 conJ6_266 ?_
  refine V_iand dJ6_bitCount_0f7a4_14 ?_
  refine V_iload_n dJ6_bitCount_0f7a4_15 rfl rfl ?_
  refine V_iconst (v := nI 2) dJ6_bitCount_0f7a4_16 (by decide) ?_
  refine V_iushr dJ6_bitCount_0f7a4_17 ?_
  refine V_ldcwI dJ6_bitCount_0f7a4_18 conJ6_266 ?_
  refine V_iand dJ6_bitCount_0f7a4_21 ?_
  refine V_iadd dJ6_bitCount_0f7a4_22 ?_
  refine V_top (show _ = bc2 (bc1 x) from rfl) ?_
  refine V_istore_n dJ6_bitCount_0f7a4_23 rfl (Nat.le_of_ble_eq_true rfl) ?_
  refine V_iload_n dJ6_bitCount_0f7a4_24 rfl rfl ?_
  refine V_iload_n dJ6_bitCount_0f7a4_25 rfl rfl ?_
  refine V_iconst (v := nI 4) dJ6_bitCount_0f7a4_26 (by decide) ?_
  refine V_iushr dJ6_bitCount_0f7a4_27 ?_
  refine V_iadd dJ6_bitCount_0f7a4_28 ?_
  refine V_ldcwI dJ6_bitCount_0f7a4_29 conJ6_267 ?_
  refine V_iand dJ6_bitCount_0f7a4_32 ?_
  refine V_top (show _ = bc3 (bc2 (bc1 x)) from rfl) ?_
  refine V_istore_n dJ6_bitCount_0f7a4_33 rfl (Nat.le_of_ble_eq_true rfl) ?_
  refine V_iload_n dJ6_bitCount_0f7a4_34 rfl rfl ?_
  refine V_iload_n dJ6_bitCount_0f7a4_35 rfl rfl ?_
  refine V_bipush (v := nI 8) dJ6_bitCount_0f7a4_36 (by decide) ?_
  refine V_iushr dJ6_bitCount_0f7a4_38 ?_
  refine V_iadd dJ6_bitCount_0f7a4_39 ?_
  refine V_top (show _ = bc4 (bc3 (bc2 (bc1 x))) from rfl) ?_
  refine V_istore_n dJ6_bitCount_0f7a4_40 rfl (Nat.le_of_ble_eq_true rfl) ?_
  refine V_iload_n dJ6_bitCount_0f7a4_41 rfl rfl ?_
  refine V_iload_n dJ6_bitCount_0f7a4_42 rfl rfl ?_
  refine V_bipush (v := nI 16) dJ6_bitCount_0f7a4_43 (by decide) ?_
  refine V_iushr dJ6_bitCount_0f7a4_45 ?_
  refine V_iadd dJ6_bitCount_0f7a4_46 ?_
  refine V_top (show _ = bc5 (bc4 (bc3 (bc2 (bc1 x)))) from rfl) ?_
  refine V_istore_n dJ6_bitCount_0f7a4_47 rfl (Nat.le_of_ble_eq_true rfl) ?_
  refine V_iload_n dJ6_bitCount_0f7a4_48 rfl rfl ?_
  refine V_bipush (v := nI 63) dJ6_bitCount_0f7a4_49 (by decide) ?_
  refine V_iand dJ6_bitCount_0f7a4_51 ?_
  exact V_iret rfl rfl rfl ⟨Nat.le_of_ble_eq_true rfl, Nat.le_of_ble_eq_true rfl⟩ dJ6_bitCount_0f7a4_52

theorem ctJ6_M {P : Nat → Bool} : Ct κ 0 0 1 mrJ6_bitCount_0f7a4 [.int (msk P)] μ (.inl (some (.int (nI (cnt P 14))))) μ := by
  have h := ctJ6_bitCount_0f7a4 (κ := κ) (μ := μ) (x := msk P)
  rw [bcF_msk] at h
  exact h
/-- how many merges -/
noncomputable def mcN (G : Gr) : Nat := sm (fun v => cnt (fun b => bp (PM G v b)) 14) 4
theorem ctX0_countMerges (hF : FlowL σ f) (hA : GA mi (f + 1) G) (hw : Wf G) (hQ : FA mi f G)  : Ct κ 0 0 2 mrX0_countMerges [.ref f] (MM σ mi ml) (.inl (some (.int (nI (mcN G))))) (MM σ mi ml) := by
  refine Ct.of rfl (by simp [Value.category]) (Nat.le_of_ble_eq_true rfl) ?_
  have lp : ∀ i, i ≤ 4 → V κ (phi κ mrX0_countMerges 2 0 0 (.inl (some (.int (nI (mcN G))))) (MM σ mi ml)) 0 0 4 [some (.ref f), some (.int (nI (sm (fun v => cnt (fun b => bp (PM G v b)) 14) i))), some (.int (nI i))] [] (MM σ mi ml) := loop_up 4 (fun i hi ih => by
    refine V_iload_n dX0_countMerges_4 rfl rfl ?_
    refine V_iconst (v := nI 4) dX0_countMerges_5 (by decide) ?_
    refine V_N_ge (by omega) (by omega) 27 dX0_countMerges_6 (by decide) (fun h6 => ?_) (fun h6 => ?_)
    · refine V_iload_n dX0_countMerges_27 rfl rfl ?_
      exact V_iret rfl (oI (by unfold mcN; rw [show i = 4 by omega])) rfl ⟨Nat.le_of_ble_eq_true rfl, Nat.le_of_ble_eq_true rfl⟩ dX0_countMerges_28
    · refine V_iload_n dX0_countMerges_9 rfl rfl ?_
      refine V_aload_n dX0_countMerges_10 rfl rfl ?_
      refine V_getR frX0_50 hF.1 rfl dX0_countMerges_11 ?_
      refine V_iload_n dX0_countMerges_14 rfl rfl ?_
      refine V_ialdE hF.2.2.2.2.2.2.2.2.2.2.2.1 i rfl (by omega) (by decide) ((hQ.2.2 i h6).2.2.2) dX0_countMerges_15 ?_
      refine V_cs1 (ctJ6_M) msJ6_bitCount_0f7a4 lkX0_109 rfl rfl (Nat.le_of_ble_eq_true rfl) ⟨⟨Nat.le_of_ble_eq_true rfl, Nat.le_of_ble_eq_true rfl⟩, Nat.le_of_ble_eq_true rfl, Nat.le_of_ble_eq_true rfl⟩ dX0_countMerges_16 ?_
      refine V_iadd dX0_countMerges_19 ?_
      refine V_top (nI_add _ _) ?_
      refine V_istore_n dX0_countMerges_20 rfl (Nat.le_of_ble_eq_true rfl) ?_
      refine V_iinc1 dX0_countMerges_21 rfl (Nat.le_of_ble_eq_true rfl) ?_
      refine V_goto 4 dX0_countMerges_24 (by decide) ?_
      exact ih h6
    )
  refine V_iconst (v := nI 0) dX0_countMerges_0 (by decide) ?_
  refine V_istore_n dX0_countMerges_1 rfl (Nat.le_of_ble_eq_true rfl) ?_
  refine V_iconst (v := nI 0) dX0_countMerges_2 (by decide) ?_
  refine V_istore_n dX0_countMerges_3 rfl (Nat.le_of_ble_eq_true rfl) ?_
  exact lp 0 (Nat.zero_le _)

theorem ctX0_lastDefinition (hF : FlowL σ f) (hA : GA mi (f + 1) G) (hw : Wf G) (hQ : FA mi f G) {b v : Nat} (hb : b < 14) (hv : v < 4) : Ct κ 0 0 1 mrX0_lastDefinition [.ref f, .int (nI b), .int (nI v)] (MM σ mi ml) (.inl (some (.int (lastD G v b)))) (MM σ mi ml) := by
  refine Ct.of rfl (by simp [Value.category]) (Nat.le_of_ble_eq_true rfl) ?_
  refine V_aload_n dX0_lastDefinition_0 rfl rfl ?_
  refine V_getR frX0_41 hF.1 rfl dX0_lastDefinition_1 ?_
  refine V_iload_n dX0_lastDefinition_4 rfl rfl ?_
  refine V_bipush (v := nI 14) dX0_lastDefinition_5 (by decide) ?_
  refine V_imul dX0_lastDefinition_7 ?_
  refine V_iload_n dX0_lastDefinition_8 rfl rfl ?_
  refine V_iadd dX0_lastDefinition_9 ?_
  refine V_top (mulA v 14 b) ?_
  refine V_ialdE hF.2.2.2.2.2.2.2.2.1 (14 * v + b) rfl (by omega) (by decide) ((hQ.2.2 v hv).1.2 b hb) dX0_lastDefinition_10 ?_
  exact V_iret rfl rfl rfl ⟨Nat.le_of_ble_eq_true rfl, Nat.le_of_ble_eq_true rfl⟩ dX0_lastDefinition_11

theorem lastD_rc {v b : Nat} (h : Rc G b) : lastD G v b = ldI b (ldef (G.2.1 b) v (G.2.1 b).length) := by unfold lastD; rw [if_pos (bp_pos h)]
theorem ldI_s {b : Nat} {o : Option Nat} (h : ¬ ldI b o = -1) : ∃ k, o = some k := by
  cases o with
  | none => exact absurd rfl h
  | some k => exact ⟨k, rfl⟩
theorem ldef6 (hw : Wf G) {b v e k : Nat} (he : e ≤ (G.2.1 b).length) (h : ldef (G.2.1 b) v e = some k) : k < 6 := by
  have h1 := (ldef_some _ _ h).1
  have h2 := (hw.2.2.1 b).1
  omega
theorem par14 (hw : Wf G) {b : Nat} (hb : Rc G b) (h0 : b ≠ 0) : par G b < 14 := (par_rc hw hb h0).lt14 hw
theorem sBg_le (hw : Wf G) {v : Nat} : ∀ n b, Rc G b → sBg G v n b ≤ 2000
  | 0, b, _ => Nat.le_refl _
  | n + 1, b, hb => by
    have hb2 := hb.lt14 hw
    rw [sBg]
    split
    · omega
    · split
      · exact Nat.le_refl _
      · next h0 =>
        have hp := par14 hw hb h0
        split
        · next k hk => have := ldef6 hw (Nat.le_refl _) hk; omega
        · exact sBg_le hw n _ (par_rc hw hb h0)
theorem srcB_le (hw : Wf G) {v b : Nat} (hb : Rc G b) : srcB G v b ≤ 2000 := sBg_le hw 14 b hb
theorem srcE_le (hw : Wf G) {v b : Nat} (hb : Rc G b) : srcE G v b ≤ 2000 := by
  have hb2 := hb.lt14 hw
  unfold srcE
  split
  · next k hk => have := ldef6 hw (Nat.le_refl _) hk; omega
  · exact srcB_le hw hb
theorem srcU_le (hw : Wf G) {b k : Nat} (hb : Rc G b) (hk : k < (G.2.1 b).length) : srcU G b k ≤ 2000 := by
  have hb2 := hb.lt14 hw
  unfold srcU
  split
  · next j hj => have := ldef6 hw (Nat.le_of_lt hk) hj; omega
  · exact srcB_le hw hb
theorem sBg_m {v n b : Nat} (h : bp (PM G v b) = true) : sBg G v (n + 1) b = 1000 + b := by rw [sBg, if_pos h]
theorem sBg_0 {v n : Nat} (h : bp (PM G v 0) = false) : sBg G v (n + 1) 0 = 2000 := by rw [sBg, if_neg (by rw [h]; decide), if_pos rfl]
theorem sBg_d {v n b : Nat} (h : bp (PM G v b) = false) (h0 : b ≠ 0) (hd : ¬ ldI (par G b) (ldef (G.2.1 (par G b)) v (G.2.1 (par G b)).length) = -1) : ldI (par G b) (ldef (G.2.1 (par G b)) v (G.2.1 (par G b)).length) = nI (sBg G v (n + 1) b) := by
  obtain ⟨k, hk⟩ := ldI_s hd
  rw [sBg, if_neg (by rw [h]; decide), if_neg h0, hk]; rfl
theorem sBg_p (hw : Wf G) {v n b : Nat} (hb : Rc G b) (h : bp (PM G v b) = false) (h0 : b ≠ 0) (hd : ldI (par G b) (ldef (G.2.1 (par G b)) v (G.2.1 (par G b)).length) = -1) : sBg G v (n + 1) b = sBg G v n (par G b) := by
  have hk := (ldI_ne (par14 hw hb h0) (fun k hk => ldef6 hw (Nat.le_refl _) hk)).mp hd
  rw [sBg, if_neg (by rw [h]; decide), if_neg h0, hk]
theorem srcE_s {v b : Nat} (h : ¬ ldI b (ldef (G.2.1 b) v (G.2.1 b).length) = -1) : ldI b (ldef (G.2.1 b) v (G.2.1 b).length) = nI (srcE G v b) := by
  obtain ⟨k, hk⟩ := ldI_s h
  unfold srcE
  rw [hk]; rfl
theorem srcE_n (hw : Wf G) {v b : Nat} (hb : b < 14) (h : ldI b (ldef (G.2.1 b) v (G.2.1 b).length) = -1) : srcE G v b = srcB G v b := by
  have hk := (ldI_ne hb (fun k hk => ldef6 hw (Nat.le_refl _) hk)).mp h
  unfold srcE
  rw [hk]
theorem srcU_s {b k : Nat} (h : ¬ ldI b (ldef (G.2.1 b) ((G.2.1 b).getD k 0 - 10) k) = -1) : ldI b (ldef (G.2.1 b) ((G.2.1 b).getD k 0 - 10) k) = nI (srcU G b k) := by
  obtain ⟨j, hj⟩ := ldI_s h
  unfold srcU
  rw [hj]; rfl
theorem srcU_n (hw : Wf G) {b k : Nat} (hb : b < 14) (hk : k < (G.2.1 b).length) (h : ldI b (ldef (G.2.1 b) ((G.2.1 b).getD k 0 - 10) k) = -1) : srcU G b k = srcB G ((G.2.1 b).getD k 0 - 10) b := by
  have hj := (ldI_ne hb (fun j hj => ldef6 hw (Nat.le_of_lt hk) hj)).mp h
  unfold srcU
  rw [hj]
theorem act14 (hw : Wf G) {b k : Nat} (hk : k < (G.2.1 b).length) : (G.2.1 b).getD k 0 < 4 ∨ (10 ≤ (G.2.1 b).getD k 0 ∧ (G.2.1 b).getD k 0 < 14) :=
  (hw.2.2.1 b).2 _ (mem_getD.mpr ⟨k, hk, rfl⟩)
theorem ctX0_sourceAtBeginning (hF : FlowL σ f) (hA : GA mi (f + 1) G) (hw : Wf G) (hQ : FA mi f G) {b v : Nat} (hb : Rc G b) (hv : v < 4) : Ct κ 0 0 2 mrX0_sourceAtBeginning [.ref f, .int (nI b), .int (nI v)] (MM σ mi ml) (.inl (some (.int (nI (srcB G v b))))) (MM σ mi ml) := by
  refine Ct.of rfl (by simp [Value.category]) (Nat.le_of_ble_eq_true rfl) ?_
  have lp : ∀ i, i ≤ 14 → ∀ c o5, Rc G c → sBg G v (14 - i) c = srcB G v b → V κ (phi κ mrX0_sourceAtBeginning 2 0 0 (.inl (some (.int (nI (srcB G v b))))) (MM σ mi ml)) 0 0 5 [some (.ref f), some (.int (nI b)), some (.int (nI v)), some (.int (nI c)), some (.int (nI i)), o5] [] (MM σ mi ml) := loop_up 14 (fun i hi ih c o5 hc he => by
    have hc2 := hc.lt14 hw
    have en : i < 14 → 14 - i = (14 - (i + 1)) + 1 := fun _ => by omega
    refine V_iload dX0_sourceAtBeginning_5 rfl ?_
    refine V_bipush (v := nI 14) dX0_sourceAtBeginning_7 (by decide) ?_
    refine V_N_ge (by omega) (by omega) 69 dX0_sourceAtBeginning_9 (by decide) (fun h9 => ?_) (fun h9 => ?_)
    · refine V_sipush (v := nI 2000) dX0_sourceAtBeginning_69 (by decide) ?_
      exact V_iret rfl (oI (by rw [← he, show 14 - i = 0 by omega]; rfl)) rfl ⟨Nat.le_of_ble_eq_true rfl, Nat.le_of_ble_eq_true rfl⟩ dX0_sourceAtBeginning_72
    · refine V_aload_n dX0_sourceAtBeginning_12 rfl rfl ?_
      refine V_getR frX0_50 hF.1 rfl dX0_sourceAtBeginning_13 ?_
      refine V_iload_n dX0_sourceAtBeginning_16 rfl rfl ?_
      refine V_ialdE hF.2.2.2.2.2.2.2.2.2.2.2.1 v rfl (by omega) (by decide) ((hQ.2.2 v hv).2.2.2) dX0_sourceAtBeginning_17 ?_
      refine V_iload_n dX0_sourceAtBeginning_18 rfl rfl ?_
      refine V_csn1 (ctX5_hasM hc2) msX5_has lnX0_85 rfl rfl (Nat.le_of_ble_eq_true rfl) ⟨⟨Nat.le_of_ble_eq_true rfl, Nat.le_of_ble_eq_true rfl⟩, Nat.le_of_ble_eq_true rfl, Nat.le_of_ble_eq_true rfl⟩ dX0_sourceAtBeginning_19 ?_
      refine V_ifeqB 31 dX0_sourceAtBeginning_22 (by decide) (fun h22 => ?_) (fun h22 => ?_)
      · refine V_iload_n dX0_sourceAtBeginning_31 rfl rfl ?_
        refine V_Z_ne (by omega) 39 dX0_sourceAtBeginning_32 (by decide) (fun h32 => ?_) (fun h32 => ?_)
        · refine V_aload_n dX0_sourceAtBeginning_39 rfl rfl ?_
          refine V_getR frX0_32 hF.1 rfl dX0_sourceAtBeginning_40 ?_
          refine V_iload_n dX0_sourceAtBeginning_43 rfl rfl ?_
          refine V_ialdE hF.2.2.2.2.2.1 c rfl (by omega) (by decide) (hQ.2.1.2.1 c hc2 hc h32) dX0_sourceAtBeginning_44 ?_
          refine V_istore_n dX0_sourceAtBeginning_45 rfl (Nat.le_of_ble_eq_true rfl) ?_
          refine V_aload_n dX0_sourceAtBeginning_46 rfl rfl ?_
          refine V_iload_n dX0_sourceAtBeginning_47 rfl rfl ?_
          refine V_iload_n dX0_sourceAtBeginning_48 rfl rfl ?_
          refine V_cv1 (ctX0_lastDefinition hF hA hw hQ (par14 hw hc h32) hv) mvX0_lastDefinition lkX0_114 hF.1 rfl rfl rfl (Nat.le_of_ble_eq_true rfl) ⟨⟨Nat.le_of_ble_eq_true rfl, Nat.le_of_ble_eq_true rfl⟩, Nat.le_of_ble_eq_true rfl, Nat.le_of_ble_eq_true rfl⟩ dX0_sourceAtBeginning_49 ?_
          refine V_top (lastD_rc (par_rc hw hc h32)) ?_
          refine V_istore dX0_sourceAtBeginning_52 (Nat.le_of_ble_eq_true rfl) ?_
          refine V_iload dX0_sourceAtBeginning_54 rfl ?_
          refine V_iconst (v := (-1)) dX0_sourceAtBeginning_56 (by decide) ?_
          refine V_icmp_eq 63 dX0_sourceAtBeginning_57 (by decide) (fun h57 => ?_) (fun h57 => ?_)
          · refine V_iinc1 dX0_sourceAtBeginning_63 rfl (Nat.le_of_ble_eq_true rfl) ?_
            refine V_goto 5 dX0_sourceAtBeginning_66 (by decide) ?_
            exact ih h9 _ _ (par_rc hw hc h32) (by rw [← he, en h9, sBg_p hw hc h22 h32 h57])
          · refine V_iload dX0_sourceAtBeginning_60 rfl ?_
            exact V_iret rfl (oI (by rw [← he, en h9, ← sBg_d h22 h32 h57])) rfl ⟨Nat.le_of_ble_eq_true rfl, Nat.le_of_ble_eq_true rfl⟩ dX0_sourceAtBeginning_62
        · refine V_sipush (v := nI 2000) dX0_sourceAtBeginning_35 (by decide) ?_
          exact V_iret rfl (oI (by rw [← he, en h9]; subst h32; rw [sBg_0 h22])) rfl ⟨Nat.le_of_ble_eq_true rfl, Nat.le_of_ble_eq_true rfl⟩ dX0_sourceAtBeginning_38
      · refine V_sipush (v := nI 1000) dX0_sourceAtBeginning_25 (by decide) ?_
        refine V_iload_n dX0_sourceAtBeginning_28 rfl rfl ?_
        refine V_iadd dX0_sourceAtBeginning_29 ?_
        exact V_iret rfl (oI (by rw [nI_add, ← he, en h9, sBg_m h22])) rfl ⟨Nat.le_of_ble_eq_true rfl, Nat.le_of_ble_eq_true rfl⟩ dX0_sourceAtBeginning_30
    )
  refine V_iload_n dX0_sourceAtBeginning_0 rfl rfl ?_
  refine V_istore_n dX0_sourceAtBeginning_1 rfl (Nat.le_of_ble_eq_true rfl) ?_
  refine V_iconst (v := nI 0) dX0_sourceAtBeginning_2 (by decide) ?_
  refine V_istore dX0_sourceAtBeginning_3 (Nat.le_of_ble_eq_true rfl) ?_
  exact lp 0 (Nat.zero_le _) b _ hb rfl

theorem ctX0_sourceAtEnd (hF : FlowL σ f) (hA : GA mi (f + 1) G) (hw : Wf G) (hQ : FA mi f G) {b v : Nat} (hb : Rc G b) (hv : v < 4) : Ct κ 0 0 3 mrX0_sourceAtEnd [.ref f, .int (nI b), .int (nI v)] (MM σ mi ml) (.inl (some (.int (nI (srcE G v b))))) (MM σ mi ml) := by
  refine Ct.of rfl (by simp [Value.category]) (Nat.le_of_ble_eq_true rfl) ?_
  refine V_aload_n dX0_sourceAtEnd_0 rfl rfl ?_
  refine V_iload_n dX0_sourceAtEnd_1 rfl rfl ?_
  refine V_iload_n dX0_sourceAtEnd_2 rfl rfl ?_
  refine V_cv1 (ctX0_lastDefinition hF hA hw hQ (hb.lt14 hw) hv) mvX0_lastDefinition lkX0_114 hF.1 rfl rfl rfl (Nat.le_of_ble_eq_true rfl) ⟨⟨Nat.le_of_ble_eq_true rfl, Nat.le_of_ble_eq_true rfl⟩, Nat.le_of_ble_eq_true rfl, Nat.le_of_ble_eq_true rfl⟩ dX0_sourceAtEnd_3 ?_
  refine V_top (lastD_rc hb) ?_
  refine V_istore_n dX0_sourceAtEnd_6 rfl (Nat.le_of_ble_eq_true rfl) ?_
  refine V_iload_n dX0_sourceAtEnd_7 rfl rfl ?_
  refine V_iconst (v := (-1)) dX0_sourceAtEnd_8 (by decide) ?_
  refine V_icmp_eq 16 dX0_sourceAtEnd_9 (by decide) (fun h9 => ?_) (fun h9 => ?_)
  · refine V_aload_n dX0_sourceAtEnd_16 rfl rfl ?_
    refine V_iload_n dX0_sourceAtEnd_17 rfl rfl ?_
    refine V_iload_n dX0_sourceAtEnd_18 rfl rfl ?_
    refine V_cv1 (ctX0_sourceAtBeginning hF hA hw hQ hb hv) mvX0_sourceAtBeginning lkX0_118 hF.1 rfl rfl rfl (Nat.le_of_ble_eq_true rfl) ⟨⟨Nat.le_of_ble_eq_true rfl, Nat.le_of_ble_eq_true rfl⟩, Nat.le_of_ble_eq_true rfl, Nat.le_of_ble_eq_true rfl⟩ dX0_sourceAtEnd_19 ?_
    exact V_iret rfl (oI (by rw [srcE_n hw (hb.lt14 hw) h9])) rfl ⟨Nat.le_of_ble_eq_true rfl, Nat.le_of_ble_eq_true rfl⟩ dX0_sourceAtEnd_22
  · refine V_iload_n dX0_sourceAtEnd_12 rfl rfl ?_
    refine V_goto 22 dX0_sourceAtEnd_13 (by decide) ?_
    exact V_iret rfl (oI (srcE_s h9).symm) rfl ⟨Nat.le_of_ble_eq_true rfl, Nat.le_of_ble_eq_true rfl⟩ dX0_sourceAtEnd_22

theorem ctX0_sourceAtUse (hF : FlowL σ f) (hA : GA mi (f + 1) G) (hw : Wf G) (hQ : FA mi f G) {b k : Nat} (hb : Rc G b) (hk : k < (G.2.1 b).length) (hu : 10 ≤ (G.2.1 b).getD k 0) : Ct κ 0 0 3 mrX0_sourceAtUse [.ref f, .int (nI b), .int (nI k)] (MM σ mi ml) (.inl (some (.int (nI (srcU G b k))))) (MM σ mi ml) := by
  refine Ct.of rfl (by simp [Value.category]) (Nat.le_of_ble_eq_true rfl) ?_
  have hb2 := hb.lt14 hw
  have h6 := (hw.2.2.1 b).1
  have h14 := act14 hw hk
  refine V_aload_n dX0_sourceAtUse_0 rfl rfl ?_
  refine V_getR frX0_12 hF.1 rfl dX0_sourceAtUse_1 ?_
  refine V_iload_n dX0_sourceAtUse_4 rfl rfl ?_
  refine V_iload_n dX0_sourceAtUse_5 rfl rfl ?_
  refine V_cv1 (ctX1_actionAt hF.2.1 hb2 (by omega)) mvX1_actionAt lkX0_121 hF.2.1.1 rfl rfl rfl (Nat.le_of_ble_eq_true rfl) ⟨⟨Nat.le_of_ble_eq_true rfl, Nat.le_of_ble_eq_true rfl⟩, Nat.le_of_ble_eq_true rfl, Nat.le_of_ble_eq_true rfl⟩ dX0_sourceAtUse_6 ?_
  refine V_top ((hA.2 b hb2).2.2.1 k hk) ?_
  refine V_bipush (v := nI 10) dX0_sourceAtUse_9 (by decide) ?_
  refine V_isub dX0_sourceAtUse_11 ?_
  refine V_top (nI_subN hu) ?_
  refine V_istore_n dX0_sourceAtUse_12 rfl (Nat.le_of_ble_eq_true rfl) ?_
  refine V_aload_n dX0_sourceAtUse_13 rfl rfl ?_
  refine V_getR frX0_12 hF.1 rfl dX0_sourceAtUse_14 ?_
  refine V_iload_n dX0_sourceAtUse_17 rfl rfl ?_
  refine V_iload_n dX0_sourceAtUse_18 rfl rfl ?_
  refine V_iload_n dX0_sourceAtUse_19 rfl rfl ?_
  refine V_cv1 (ctX1_definitionBefore hF.2.1 hA hw hb2 (by omega) (Nat.le_of_lt hk)) mvX1_definitionBefore lkX0_98 hF.2.1.1 rfl rfl rfl (Nat.le_of_ble_eq_true rfl) ⟨⟨Nat.le_of_ble_eq_true rfl, Nat.le_of_ble_eq_true rfl⟩, Nat.le_of_ble_eq_true rfl, Nat.le_of_ble_eq_true rfl⟩ dX0_sourceAtUse_20 ?_
  refine V_istore dX0_sourceAtUse_23 (Nat.le_of_ble_eq_true rfl) ?_
  refine V_iload dX0_sourceAtUse_25 rfl ?_
  refine V_iconst (v := (-1)) dX0_sourceAtUse_27 (by decide) ?_
  refine V_icmp_eq 36 dX0_sourceAtUse_28 (by decide) (fun h28 => ?_) (fun h28 => ?_)
  · refine V_aload_n dX0_sourceAtUse_36 rfl rfl ?_
    refine V_iload_n dX0_sourceAtUse_37 rfl rfl ?_
    refine V_iload_n dX0_sourceAtUse_38 rfl rfl ?_
    refine V_cv1 (ctX0_sourceAtBeginning hF hA hw hQ hb (by omega)) mvX0_sourceAtBeginning lkX0_118 hF.1 rfl rfl rfl (Nat.le_of_ble_eq_true rfl) ⟨⟨Nat.le_of_ble_eq_true rfl, Nat.le_of_ble_eq_true rfl⟩, Nat.le_of_ble_eq_true rfl, Nat.le_of_ble_eq_true rfl⟩ dX0_sourceAtUse_39 ?_
    exact V_iret rfl (oI (by rw [srcU_n hw hb2 hk h28])) rfl ⟨Nat.le_of_ble_eq_true rfl, Nat.le_of_ble_eq_true rfl⟩ dX0_sourceAtUse_42
  · refine V_iload dX0_sourceAtUse_31 rfl ?_
    refine V_goto 42 dX0_sourceAtUse_33 (by decide) ?_
    exact V_iret rfl (oI (srcU_s h28).symm) rfl ⟨Nat.le_of_ble_eq_true rfl, Nat.le_of_ble_eq_true rfl⟩ dX0_sourceAtUse_42

theorem ctX0_isNewOperand (hF : FlowL σ f) (hA : GA mi (f + 1) G) (hw : Wf G) (hQ : FA mi f G) {b v p : Nat} (hb : b < 14) (hv : v < 4) (hp : Rc G p) : Ct κ 0 0 4 mrX0_isNewOperand [.ref f, .int (nI b), .int (nI v), .int (nI p)] (MM σ mi ml) (.inl (some (.int (bI (bp (∀ e, e < p → Pd G e b → srcE G v e ≠ srcE G v p)))))) (MM σ mi ml) := by
  refine Ct.of rfl (by simp [Value.category]) (Nat.le_of_ble_eq_true rfl) ?_
  have hp2 := hp.lt14 hw
  have lp : ∀ i, i ≤ p → (∀ e, e < i → Pd G e b → srcE G v e ≠ srcE G v p) → V κ (phi κ mrX0_isNewOperand 4 0 0 (.inl (some (.int (bI (bp (∀ e, e < p → Pd G e b → srcE G v e ≠ srcE G v p)))))) (MM σ mi ml)) 0 0 11 [some (.ref f), some (.int (nI b)), some (.int (nI v)), some (.int (nI p)), some (.int (nI (srcE G v p))), some (.int (nI i))] [] (MM σ mi ml) := loop_up p (fun i hi ih hn => by
    have hs := srcE_le hw (v := v) hp
    refine V_iload dX0_isNewOperand_11 rfl ?_
    refine V_iload_n dX0_isNewOperand_13 rfl rfl ?_
    refine V_N_ge (by omega) (by omega) 51 dX0_isNewOperand_14 (by decide) (fun h14 => ?_) (fun h14 => ?_)
    · refine V_iconst (v := nI 1) dX0_isNewOperand_51 (by decide) ?_
      exact V_zret rfl rfl (oI (by rw [bp_pos (fun e he => hn e (by omega))]; rfl)) rfl ⟨Nat.le_of_ble_eq_true rfl, Nat.le_of_ble_eq_true rfl⟩ dX0_isNewOperand_52
    · refine V_aload_n dX0_isNewOperand_17 rfl rfl ?_
      refine V_getR frX0_26 hF.1 rfl dX0_isNewOperand_18 ?_
      refine V_iload_n dX0_isNewOperand_21 rfl rfl ?_
      refine V_ialdE hF.2.2.2.1 b rfl (by omega) (by decide) (hQ.1.2.2 b hb) dX0_isNewOperand_22 ?_
      refine V_iload dX0_isNewOperand_23 rfl ?_
      refine V_csn1 (ctX5_hasM (by omega)) msX5_has lnX0_85 rfl rfl (Nat.le_of_ble_eq_true rfl) ⟨⟨Nat.le_of_ble_eq_true rfl, Nat.le_of_ble_eq_true rfl⟩, Nat.le_of_ble_eq_true rfl, Nat.le_of_ble_eq_true rfl⟩ dX0_isNewOperand_25 ?_
      refine V_ifeqB 45 dX0_isNewOperand_28 (by decide) (fun h28 => ?_) (fun h28 => ?_)
      · refine V_iinc1 dX0_isNewOperand_45 rfl (Nat.le_of_ble_eq_true rfl) ?_
        refine V_goto 11 dX0_isNewOperand_48 (by decide) ?_
        exact ih h14 (fun e he hpd => by
          by_cases q : e = i
          · subst q; exact absurd hpd (bp_f.mp h28)
          · exact hn e (by omega) hpd)
      · refine V_aload_n dX0_isNewOperand_31 rfl rfl ?_
        refine V_iload dX0_isNewOperand_32 rfl ?_
        refine V_iload_n dX0_isNewOperand_34 rfl rfl ?_
        have hs2 := srcE_le hw (v := v) (bp_t.mp h28).1
        refine V_cv1 (ctX0_sourceAtEnd hF hA hw hQ (bp_t.mp h28).1 hv) mvX0_sourceAtEnd lkX0_127 hF.1 rfl rfl rfl (Nat.le_of_ble_eq_true rfl) ⟨⟨Nat.le_of_ble_eq_true rfl, Nat.le_of_ble_eq_true rfl⟩, Nat.le_of_ble_eq_true rfl, Nat.le_of_ble_eq_true rfl⟩ dX0_isNewOperand_35 ?_
        refine V_iload dX0_isNewOperand_38 rfl ?_
        refine V_N_ne (by omega) (by omega) 45 dX0_isNewOperand_40 (by decide) (fun h40 => ?_) (fun h40 => ?_)
        · refine V_iinc1 dX0_isNewOperand_45 rfl (Nat.le_of_ble_eq_true rfl) ?_
          refine V_goto 11 dX0_isNewOperand_48 (by decide) ?_
          exact ih h14 (fun e he hpd => by
            by_cases q : e = i
            · subst q; exact h40
            · exact hn e (by omega) hpd)
        · refine V_iconst (v := nI 0) dX0_isNewOperand_43 (by decide) ?_
          exact V_zret rfl rfl (oI (by rw [bp_neg (fun q => q i h14 (bp_t.mp h28) h40)]; rfl)) rfl ⟨Nat.le_of_ble_eq_true rfl, Nat.le_of_ble_eq_true rfl⟩ dX0_isNewOperand_44
    )
  refine V_aload_n dX0_isNewOperand_0 rfl rfl ?_
  refine V_iload_n dX0_isNewOperand_1 rfl rfl ?_
  refine V_iload_n dX0_isNewOperand_2 rfl rfl ?_
  refine V_cv1 (ctX0_sourceAtEnd hF hA hw hQ hp hv) mvX0_sourceAtEnd lkX0_127 hF.1 rfl rfl rfl (Nat.le_of_ble_eq_true rfl) ⟨⟨Nat.le_of_ble_eq_true rfl, Nat.le_of_ble_eq_true rfl⟩, Nat.le_of_ble_eq_true rfl, Nat.le_of_ble_eq_true rfl⟩ dX0_isNewOperand_3 ?_
  refine V_istore dX0_isNewOperand_6 (Nat.le_of_ble_eq_true rfl) ?_
  refine V_iconst (v := nI 0) dX0_isNewOperand_8 (by decide) ?_
  refine V_istore dX0_isNewOperand_9 (Nat.le_of_ble_eq_true rfl) ?_
  exact lp 0 (Nat.zero_le _) (fun e he => absurd he (Nat.not_lt_zero e))

/-- how many different operands -/
noncomputable def opN (G : Gr) (v b : Nat) : Nat := cnt (fun p => bp (Pd G p b) && bp (∀ e, e < p → Pd G e b → srcE G v e ≠ srcE G v p)) 14
theorem ctX0_countOperands (hF : FlowL σ f) (hA : GA mi (f + 1) G) (hw : Wf G) (hQ : FA mi f G) {b v : Nat} (hb : b < 14) (hv : v < 4) : Ct κ 0 0 5 mrX0_countOperands [.ref f, .int (nI b), .int (nI v)] (MM σ mi ml) (.inl (some (.int (nI (opN G v b))))) (MM σ mi ml) := by
  refine Ct.of rfl (by simp [Value.category]) (Nat.le_of_ble_eq_true rfl) ?_
  have lp : ∀ i, i ≤ 14 → V κ (phi κ mrX0_countOperands 5 0 0 (.inl (some (.int (nI (opN G v b))))) (MM σ mi ml)) 0 0 5 [some (.ref f), some (.int (nI b)), some (.int (nI v)), some (.int (nI (cnt (fun p => bp (Pd G p b) && bp (∀ e, e < p → Pd G e b → srcE G v e ≠ srcE G v p)) i))), some (.int (nI i))] [] (MM σ mi ml) := loop_up 14 (fun i hi ih => by
    refine V_iload dX0_countOperands_5 rfl ?_
    refine V_bipush (v := nI 14) dX0_countOperands_7 (by decide) ?_
    refine V_N_ge (by omega) (by omega) 46 dX0_countOperands_9 (by decide) (fun h9 => ?_) (fun h9 => ?_)
    · refine V_iload_n dX0_countOperands_46 rfl rfl ?_
      exact V_iret rfl (oI (by unfold opN; rw [show i = 14 by omega])) rfl ⟨Nat.le_of_ble_eq_true rfl, Nat.le_of_ble_eq_true rfl⟩ dX0_countOperands_47
    · refine V_aload_n dX0_countOperands_12 rfl rfl ?_
      refine V_getR frX0_26 hF.1 rfl dX0_countOperands_13 ?_
      refine V_iload_n dX0_countOperands_16 rfl rfl ?_
      refine V_ialdE hF.2.2.2.1 b rfl (by omega) (by decide) (hQ.1.2.2 b hb) dX0_countOperands_17 ?_
      refine V_iload dX0_countOperands_18 rfl ?_
      refine V_csn1 (ctX5_hasM (by omega)) msX5_has lnX0_85 rfl rfl (Nat.le_of_ble_eq_true rfl) ⟨⟨Nat.le_of_ble_eq_true rfl, Nat.le_of_ble_eq_true rfl⟩, Nat.le_of_ble_eq_true rfl, Nat.le_of_ble_eq_true rfl⟩ dX0_countOperands_20 ?_
      refine V_ifeqB 40 dX0_countOperands_23 (by decide) (fun h23 => ?_) (fun h23 => ?_)
      · refine V_iinc1 dX0_countOperands_40 rfl (Nat.le_of_ble_eq_true rfl) ?_
        refine V_goto 5 dX0_countOperands_43 (by decide) ?_
        exact V.cL (ih h9) (by rw [cnt_f (P := fun p => bp (Pd G p b) && bp (∀ e, e < p → Pd G e b → srcE G v e ≠ srcE G v p)) (by show (_ && _) = false; rw [h23]; rfl)]; rfl)
      · refine V_aload_n dX0_countOperands_26 rfl rfl ?_
        refine V_iload_n dX0_countOperands_27 rfl rfl ?_
        refine V_iload_n dX0_countOperands_28 rfl rfl ?_
        refine V_iload dX0_countOperands_29 rfl ?_
        refine V_cv1 (ctX0_isNewOperand hF hA hw hQ hb hv (bp_t.mp h23).1) mvX0_isNewOperand lkX0_124 hF.1 rfl rfl rfl (Nat.le_of_ble_eq_true rfl) ⟨⟨Nat.le_of_ble_eq_true rfl, Nat.le_of_ble_eq_true rfl⟩, Nat.le_of_ble_eq_true rfl, Nat.le_of_ble_eq_true rfl⟩ dX0_countOperands_31 ?_
        refine V_ifeqB 40 dX0_countOperands_34 (by decide) (fun h34 => ?_) (fun h34 => ?_)
        · refine V_iinc1 dX0_countOperands_40 rfl (Nat.le_of_ble_eq_true rfl) ?_
          refine V_goto 5 dX0_countOperands_43 (by decide) ?_
          exact V.cL (ih h9) (by rw [cnt_f (P := fun p => bp (Pd G p b) && bp (∀ e, e < p → Pd G e b → srcE G v e ≠ srcE G v p)) (by show (_ && _) = false; rw [h34, Bool.and_false])]; rfl)
        · refine V_iinc1 dX0_countOperands_37 rfl (Nat.le_of_ble_eq_true rfl) ?_
          refine V_iinc1 dX0_countOperands_40 rfl (Nat.le_of_ble_eq_true rfl) ?_
          refine V_goto 5 dX0_countOperands_43 (by decide) ?_
          exact V.cL (ih h9) (by rw [← cnt_t (P := fun p => bp (Pd G p b) && bp (∀ e, e < p → Pd G e b → srcE G v e ≠ srcE G v p)) (by show (_ && _) = true; rw [h23, h34]; rfl)]; rfl)
    )
  refine V_iconst (v := nI 0) dX0_countOperands_0 (by decide) ?_
  refine V_istore_n dX0_countOperands_1 rfl (Nat.le_of_ble_eq_true rfl) ?_
  refine V_iconst (v := nI 0) dX0_countOperands_2 (by decide) ?_
  refine V_istore dX0_countOperands_3 (Nat.le_of_ble_eq_true rfl) ?_
  exact lp 0 (Nat.zero_le _)

/-- how many uses of v in b have the source s -/
noncomputable def usN (G : Gr) (v : Nat) (s : Int32) (b : Nat) : Nat := cnt (fun k => decide ((G.2.1 b).getD k 0 = 10 + v) && decide (nI (srcU G b k) = s)) (G.2.1 b).length
noncomputable def usA (G : Gr) (v : Nat) (s : Int32) : Nat := sm (fun b => if bp (Rc G b) = true then usN G v s b else 0) 14
theorem ctX0_countUsesIn (hF : FlowL σ f) (hA : GA mi (f + 1) G) (hw : Wf G) (hQ : FA mi f G) {b v : Nat} {s : Int32} (hb : Rc G b) (hv : v < 4) : Ct κ 0 0 4 mrX0_countUsesIn [.ref f, .int (nI b), .int (nI v), .int s] (MM σ mi ml) (.inl (some (.int (nI (usN G v s b))))) (MM σ mi ml) := by
  refine Ct.of rfl (by simp [Value.category]) (Nat.le_of_ble_eq_true rfl) ?_
  have hb2 := hb.lt14 hw
  have h6 := (hw.2.2.1 b).1
  have lp : ∀ i, i ≤ (G.2.1 b).length → V κ (phi κ mrX0_countUsesIn 4 0 0 (.inl (some (.int (nI (usN G v s b))))) (MM σ mi ml)) 0 0 6 [some (.ref f), some (.int (nI b)), some (.int (nI v)), some (.int s), some (.int (nI (cnt (fun k => decide ((G.2.1 b).getD k 0 = 10 + v) && decide (nI (srcU G b k) = s)) i))), some (.int (nI i))] [] (MM σ mi ml) := loop_up _ (fun i hi ih => by
    refine V_iload dX0_countUsesIn_6 rfl ?_
    refine V_aload_n dX0_countUsesIn_8 rfl rfl ?_
    refine V_getR frX0_12 hF.1 rfl dX0_countUsesIn_9 ?_
    refine V_getR frX0_95 hF.2.1.1 rfl dX0_countUsesIn_12 ?_
    refine V_iload_n dX0_countUsesIn_15 rfl rfl ?_
    refine V_ialdE hF.2.1.2.1 b rfl (by omega) (by decide) ((hA.2 b hb2).1) dX0_countUsesIn_16 ?_
    refine V_N_ge (by omega) (by omega) 57 dX0_countUsesIn_17 (by decide) (fun h17 => ?_) (fun h17 => ?_)
    · refine V_iload dX0_countUsesIn_57 rfl ?_
      exact V_iret rfl (oI (by unfold usN; rw [show i = (G.2.1 b).length by omega])) rfl ⟨Nat.le_of_ble_eq_true rfl, Nat.le_of_ble_eq_true rfl⟩ dX0_countUsesIn_59
    · have h14 := act14 hw h17
      refine V_aload_n dX0_countUsesIn_20 rfl rfl ?_
      refine V_getR frX0_12 hF.1 rfl dX0_countUsesIn_21 ?_
      refine V_iload_n dX0_countUsesIn_24 rfl rfl ?_
      refine V_iload dX0_countUsesIn_25 rfl ?_
      refine V_cv1 (ctX1_actionAt hF.2.1 hb2 (by omega)) mvX1_actionAt lkX0_121 hF.2.1.1 rfl rfl rfl (Nat.le_of_ble_eq_true rfl) ⟨⟨Nat.le_of_ble_eq_true rfl, Nat.le_of_ble_eq_true rfl⟩, Nat.le_of_ble_eq_true rfl, Nat.le_of_ble_eq_true rfl⟩ dX0_countUsesIn_27 ?_
      refine V_top ((hA.2 b hb2).2.2.1 i h17) ?_
      refine V_bipush (v := nI 10) dX0_countUsesIn_30 (by decide) ?_
      refine V_iload_n dX0_countUsesIn_32 rfl rfl ?_
      refine V_iadd dX0_countUsesIn_33 ?_
      refine V_top (nI_add 10 v) ?_
      refine V_N_ne (by omega) (by omega) 51 dX0_countUsesIn_34 (by decide) (fun h34 => ?_) (fun h34 => ?_)
      · refine V_iinc1 dX0_countUsesIn_51 rfl (Nat.le_of_ble_eq_true rfl) ?_
        refine V_goto 6 dX0_countUsesIn_54 (by decide) ?_
        exact V.cL (ih h17) (by rw [cnt_f (P := fun k => decide ((G.2.1 b).getD k 0 = 10 + v) && decide (nI (srcU G b k) = s)) (by show (_ && _) = false; rw [decide_eq_false h34]; rfl)]; rfl)
      · refine V_aload_n dX0_countUsesIn_37 rfl rfl ?_
        refine V_iload_n dX0_countUsesIn_38 rfl rfl ?_
        refine V_iload dX0_countUsesIn_39 rfl ?_
        refine V_cv1 (ctX0_sourceAtUse hF hA hw hQ hb h17 (by omega)) mvX0_sourceAtUse lkX0_133 hF.1 rfl rfl rfl (Nat.le_of_ble_eq_true rfl) ⟨⟨Nat.le_of_ble_eq_true rfl, Nat.le_of_ble_eq_true rfl⟩, Nat.le_of_ble_eq_true rfl, Nat.le_of_ble_eq_true rfl⟩ dX0_countUsesIn_41 ?_
        refine V_iload_n dX0_countUsesIn_44 rfl rfl ?_
        refine V_icmp_ne 51 dX0_countUsesIn_45 (by decide) (fun h45 => ?_) (fun h45 => ?_)
        · refine V_iinc1 dX0_countUsesIn_51 rfl (Nat.le_of_ble_eq_true rfl) ?_
          refine V_goto 6 dX0_countUsesIn_54 (by decide) ?_
          exact V.cL (ih h17) (by rw [cnt_f (P := fun k => decide ((G.2.1 b).getD k 0 = 10 + v) && decide (nI (srcU G b k) = s)) (by show (_ && _) = false; rw [decide_eq_false h45, Bool.and_false])]; rfl)
        · refine V_iinc1 dX0_countUsesIn_48 rfl (Nat.le_of_ble_eq_true rfl) ?_
          refine V_iinc1 dX0_countUsesIn_51 rfl (Nat.le_of_ble_eq_true rfl) ?_
          refine V_goto 6 dX0_countUsesIn_54 (by decide) ?_
          exact V.cL (ih h17) (by rw [← cnt_t (P := fun k => decide ((G.2.1 b).getD k 0 = 10 + v) && decide (nI (srcU G b k) = s)) (by show (_ && _) = true; rw [decide_eq_true h34, decide_eq_true h45]; rfl)]; rfl)
    )
  refine V_iconst (v := nI 0) dX0_countUsesIn_0 (by decide) ?_
  refine V_istore dX0_countUsesIn_1 (Nat.le_of_ble_eq_true rfl) ?_
  refine V_iconst (v := nI 0) dX0_countUsesIn_3 (by decide) ?_
  refine V_istore dX0_countUsesIn_4 (Nat.le_of_ble_eq_true rfl) ?_
  exact lp 0 (Nat.zero_le _)

theorem ctX0_countUses (hF : FlowL σ f) (hA : GA mi (f + 1) G) (hw : Wf G) (hQ : FA mi f G) {v : Nat} {s : Int32} (hv : v < 4) : Ct κ 0 0 5 mrX0_countUses [.ref f, .int (nI v), .int s] (MM σ mi ml) (.inl (some (.int (nI (usA G v s))))) (MM σ mi ml) := by
  refine Ct.of rfl (by simp [Value.category]) (Nat.le_of_ble_eq_true rfl) ?_
  have lp : ∀ i, i ≤ 14 → V κ (phi κ mrX0_countUses 5 0 0 (.inl (some (.int (nI (usA G v s))))) (MM σ mi ml)) 0 0 5 [some (.ref f), some (.int (nI v)), some (.int s), some (.int (nI (sm (fun b => if bp (Rc G b) = true then usN G v s b else 0) i))), some (.int (nI i))] [] (MM σ mi ml) := loop_up 14 (fun i hi ih => by
    refine V_iload dX0_countUses_5 rfl ?_
    refine V_bipush (v := nI 14) dX0_countUses_7 (by decide) ?_
    refine V_N_ge (by omega) (by omega) 41 dX0_countUses_9 (by decide) (fun h9 => ?_) (fun h9 => ?_)
    · refine V_iload_n dX0_countUses_41 rfl rfl ?_
      exact V_iret rfl (oI (by unfold usA; rw [show i = 14 by omega])) rfl ⟨Nat.le_of_ble_eq_true rfl, Nat.le_of_ble_eq_true rfl⟩ dX0_countUses_42
    · refine V_aload_n dX0_countUses_12 rfl rfl ?_
      refine V_getE frX0_18 hF.1 rfl hQ.1.2.1 dX0_countUses_13 ?_
      refine V_iload dX0_countUses_16 rfl ?_
      refine V_csn1 (ctX5_hasM (by omega)) msX5_has lnX0_85 rfl rfl (Nat.le_of_ble_eq_true rfl) ⟨⟨Nat.le_of_ble_eq_true rfl, Nat.le_of_ble_eq_true rfl⟩, Nat.le_of_ble_eq_true rfl, Nat.le_of_ble_eq_true rfl⟩ dX0_countUses_18 ?_
      refine V_ifeqB 35 dX0_countUses_21 (by decide) (fun h21 => ?_) (fun h21 => ?_)
      · refine V_iinc1 dX0_countUses_35 rfl (Nat.le_of_ble_eq_true rfl) ?_
        refine V_goto 5 dX0_countUses_38 (by decide) ?_
        exact V.cL (ih h9) (by rw [sm, if_neg (by rw [h21]; decide)]; rfl)
      · refine V_iload_n dX0_countUses_24 rfl rfl ?_
        refine V_aload_n dX0_countUses_25 rfl rfl ?_
        refine V_iload dX0_countUses_26 rfl ?_
        refine V_iload_n dX0_countUses_28 rfl rfl ?_
        refine V_iload_n dX0_countUses_29 rfl rfl ?_
        refine V_cv1 (ctX0_countUsesIn hF hA hw hQ (bp_t.mp h21) hv) mvX0_countUsesIn lkX0_130 hF.1 rfl rfl rfl (Nat.le_of_ble_eq_true rfl) ⟨⟨Nat.le_of_ble_eq_true rfl, Nat.le_of_ble_eq_true rfl⟩, Nat.le_of_ble_eq_true rfl, Nat.le_of_ble_eq_true rfl⟩ dX0_countUses_30 ?_
        refine V_iadd dX0_countUses_33 ?_
        refine V_top (nI_add _ _) ?_
        refine V_istore_n dX0_countUses_34 rfl (Nat.le_of_ble_eq_true rfl) ?_
        refine V_iinc1 dX0_countUses_35 rfl (Nat.le_of_ble_eq_true rfl) ?_
        refine V_goto 5 dX0_countUses_38 (by decide) ?_
        exact V.cL (ih h9) (by rw [sm, if_pos h21]; rfl)
    )
  refine V_iconst (v := nI 0) dX0_countUses_0 (by decide) ?_
  refine V_istore_n dX0_countUses_1 rfl (Nat.le_of_ble_eq_true rfl) ?_
  refine V_iconst (v := nI 0) dX0_countUses_2 (by decide) ?_
  refine V_istore dX0_countUses_3 (Nat.le_of_ble_eq_true rfl) ?_
  exact lp 0 (Nat.zero_le _)

theorem ctX0_sourcesOfEdgesTo (hF : FlowL σ f) (hA : GA mi (f + 1) G) (hw : Wf G) (hQ : FA mi f G) {Q : Nat → Bool} : Ct κ 0 0 2 mrX0_sourcesOfEdgesTo [.ref f, .int (msk Q)] (MM σ mi ml) (.inl (some (.int (msk (fun p => bp (∃ y, y < 14 ∧ Q y = true ∧ Pd G p y)))))) (MM σ mi ml) := by
  refine Ct.of rfl (by simp [Value.category]) (Nat.le_of_ble_eq_true rfl) ?_
  have lp : ∀ i, i ≤ 14 → V κ (phi κ mrX0_sourcesOfEdgesTo 2 0 0 (.inl (some (.int (msk (fun p => bp (∃ y, y < 14 ∧ Q y = true ∧ Pd G p y)))))) (MM σ mi ml)) 0 0 4 [some (.ref f), some (.int (msk Q)), some (.int (msk (fun p => bp (∃ y, y < i ∧ Q y = true ∧ Pd G p y)))), some (.int (nI i))] [] (MM σ mi ml) := loop_up 14 (fun i hi ih => by
    refine V_iload_n dX0_sourcesOfEdgesTo_4 rfl rfl ?_
    refine V_bipush (v := nI 14) dX0_sourcesOfEdgesTo_5 (by decide) ?_
    refine V_N_ge (by omega) (by omega) 33 dX0_sourcesOfEdgesTo_7 (by decide) (fun h7 => ?_) (fun h7 => ?_)
    · refine V_iload_n dX0_sourcesOfEdgesTo_33 rfl rfl ?_
      exact V_iret rfl (oI (by rw [show i = 14 by omega])) rfl ⟨Nat.le_of_ble_eq_true rfl, Nat.le_of_ble_eq_true rfl⟩ dX0_sourcesOfEdgesTo_34
    · refine V_iload_n dX0_sourcesOfEdgesTo_10 rfl rfl ?_
      refine V_iload_n dX0_sourcesOfEdgesTo_11 rfl rfl ?_
      refine V_csn1 (ctX5_hasM (by omega)) msX5_has lnX0_85 rfl rfl (Nat.le_of_ble_eq_true rfl) ⟨⟨Nat.le_of_ble_eq_true rfl, Nat.le_of_ble_eq_true rfl⟩, Nat.le_of_ble_eq_true rfl, Nat.le_of_ble_eq_true rfl⟩ dX0_sourcesOfEdgesTo_12 ?_
      refine V_ifeqB 27 dX0_sourcesOfEdgesTo_15 (by decide) (fun h15 => ?_) (fun h15 => ?_)
      · refine V_iinc1 dX0_sourcesOfEdgesTo_27 rfl (Nat.le_of_ble_eq_true rfl) ?_
        refine V_goto 4 dX0_sourcesOfEdgesTo_30 (by decide) ?_
        exact V.cL (ih h7) (by
          rw [show msk (fun p => bp (∃ y, y < i ∧ Q y = true ∧ Pd G p y)) = msk (fun p => bp (∃ y, y < i + 1 ∧ Q y = true ∧ Pd G p y)) from msk_congr (fun k _ => bp_congr ⟨fun ⟨y, h1, h2⟩ => ⟨y, by omega, h2⟩, fun ⟨y, h1, h2, h3⟩ => by
            rcases Nat.lt_or_ge y i with q | q
            · exact ⟨y, q, h2, h3⟩
            · rw [show y = i by omega, h15] at h2
              cases h2⟩)]; rfl)
      · refine V_iload_n dX0_sourcesOfEdgesTo_18 rfl rfl ?_
        refine V_aload_n dX0_sourcesOfEdgesTo_19 rfl rfl ?_
        refine V_getR frX0_26 hF.1 rfl dX0_sourcesOfEdgesTo_20 ?_
        refine V_iload_n dX0_sourcesOfEdgesTo_23 rfl rfl ?_
        refine V_ialdE hF.2.2.2.1 i rfl (by omega) (by decide) (hQ.1.2.2 i h7) dX0_sourcesOfEdgesTo_24 ?_
        refine V_ior dX0_sourcesOfEdgesTo_25 ?_
        refine V_top (msk_or _ _) ?_
        refine V_istore_n dX0_sourcesOfEdgesTo_26 rfl (Nat.le_of_ble_eq_true rfl) ?_
        refine V_iinc1 dX0_sourcesOfEdgesTo_27 rfl (Nat.le_of_ble_eq_true rfl) ?_
        refine V_goto 4 dX0_sourcesOfEdgesTo_30 (by decide) ?_
        exact V.cL (ih h7) (by
          rw [show msk (fun k => bp (∃ y, y < i ∧ Q y = true ∧ Pd G k y) || bp (Pd G k i)) = msk (fun p => bp (∃ y, y < i + 1 ∧ Q y = true ∧ Pd G p y)) from msk_congr (fun k _ => by
            rw [bp_or]
            refine bp_congr ⟨fun h => ?_, fun ⟨y, h1, h2, h3⟩ => ?_⟩
            · rcases h with ⟨y, h1, h2⟩ | h
              · exact ⟨y, by omega, h2⟩
              · exact ⟨i, by omega, h15, h⟩
            · rcases Nat.lt_or_ge y i with q | q
              · exact Or.inl ⟨y, q, h2, h3⟩
              · rw [show y = i by omega] at h3; exact Or.inr h3)]; rfl)
    )
  refine V_iconst (v := nI 0) dX0_sourcesOfEdgesTo_0 (by decide) ?_
  refine V_istore_n dX0_sourcesOfEdgesTo_1 rfl (Nat.le_of_ble_eq_true rfl) ?_
  refine V_iconst (v := nI 0) dX0_sourcesOfEdgesTo_2 (by decide) ?_
  refine V_istore_n dX0_sourcesOfEdgesTo_3 rfl (Nat.le_of_ble_eq_true rfl) ?_
  exact V.cL (lp 0 (Nat.zero_le _)) (by
    rw [show msk (fun p => bp (∃ y, y < 0 ∧ Q y = true ∧ Pd G p y)) = nI 0 from msk_eq0.mpr (fun k _ => bp_neg (fun ⟨y, h, _⟩ => absurd h (Nat.not_lt_zero y)))]; rfl)

/-- from the beginning of x the beginning of b is reached without a definition of v between -/
def OP (G : Gr) (v b : Nat) : Nat → Prop := Cl (fun y => y = b) (fun y x => Pd G x y ∧ ¬ (Rc G x ∧ Df G v x))
/-- the last definition of v in p reaches b -/
def RB (G : Gr) (v b p : Nat) : Prop := (∃ y, OP G v b y ∧ Pd G p y) ∧ Df G v p
theorem OP.lt14 (hw : Wf G) {v b x : Nat} (hb : b < 14) (h : OP G v b x) : x < 14 := Cl.rec' (C := fun x => x < 14) (fun a ha => by rw [ha]; exact hb) (fun a c _ _ ht => ht.1.1.lt14 hw) h
theorem ctX0_openBefore (hF : FlowL σ f) (hA : GA mi (f + 1) G) (hw : Wf G) (hQ : FA mi f G) {b v : Nat} (hb : b < 14) (hv : v < 4) : Ct κ 0 0 3 mrX0_openBefore [.ref f, .int (nI b), .int (nI v)] (MM σ mi ml) (.inl (some (.int (msk (fun x => bp (OP G v b x)))))) (MM σ mi ml) := by
  refine Ct.of rfl (by simp [Value.category]) (Nat.le_of_ble_eq_true rfl) ?_
  have lp : ∀ r, r ≤ 14 → ∀ (P : Nat → Bool) (o5 : Option Value), (∀ k, k < 14 → P k = true → OP G v b k) → P b = true → r + 1 ≤ cnt P 14 → V κ (phi κ mrX0_openBefore 3 0 0 (.inl (some (.int (msk (fun x => bp (OP G v b x)))))) (MM σ mi ml)) 0 0 7 [some (.ref f), some (.int (nI b)), some (.int (nI v)), some (.int (msk P)), some (.int (nI r)), o5] [] (MM σ mi ml) := loop_up 14 (fun r hr ih P o5 i1 i2 i3 => by
    have hle := cnt_le P 14
    have sub : ∀ k, k < 14 → (P k || (bp (∃ y, y < 14 ∧ P y = true ∧ Pd G k y) && !bp (Rc G k ∧ Df G v k))) = true → OP G v b k := fun k hk h => by
      rw [Bool.or_eq_true] at h
      rcases h with h | h
      · exact i1 k hk h
      · rw [Bool.and_eq_true, Bool.not_eq_true', bp_t, bp_f] at h
        obtain ⟨⟨y, hy, h2, h3⟩, h4⟩ := h
        exact (i1 y hy h2).step ⟨h3, h4⟩
    refine V_iload dX0_openBefore_7 rfl ?_
    refine V_bipush (v := nI 14) dX0_openBefore_9 (by decide) ?_
    refine V_N_ge (by omega) (by omega) 49 dX0_openBefore_11 (by decide) (fun h11 => ?_) (fun h11 => ?_)
    · exfalso
      omega
    · refine V_iload_n dX0_openBefore_14 rfl rfl ?_
      refine V_istore dX0_openBefore_15 (Nat.le_of_ble_eq_true rfl) ?_
      refine V_iload_n dX0_openBefore_17 rfl rfl ?_
      refine V_aload_n dX0_openBefore_18 rfl rfl ?_
      refine V_iload_n dX0_openBefore_19 rfl rfl ?_
      refine V_cv1 (ctX0_sourcesOfEdgesTo hF hA hw hQ) mvX0_sourcesOfEdgesTo lkX0_152 hF.1 rfl rfl rfl (Nat.le_of_ble_eq_true rfl) ⟨⟨Nat.le_of_ble_eq_true rfl, Nat.le_of_ble_eq_true rfl⟩, Nat.le_of_ble_eq_true rfl, Nat.le_of_ble_eq_true rfl⟩ dX0_openBefore_20 ?_
      refine V_aload_n dX0_openBefore_23 rfl rfl ?_
      refine V_getR frX0_38 hF.1 rfl dX0_openBefore_24 ?_
      refine V_iload_n dX0_openBefore_27 rfl rfl ?_
      refine V_ialdE hF.2.2.2.2.2.2.2.1 v rfl (by omega) (by decide) ((hQ.2.2 v hv).1.1) dX0_openBefore_28 ?_
      refine V_iconst (v := (-1)) dX0_openBefore_29 (by decide) ?_
      refine V_ixor dX0_openBefore_30 ?_
      refine V_iand dX0_openBefore_31 ?_
      refine V_top (msk_andN _ _) ?_
      refine V_ior dX0_openBefore_32 ?_
      refine V_top (msk_or _ _) ?_
      refine V_istore_n dX0_openBefore_33 rfl (Nat.le_of_ble_eq_true rfl) ?_
      refine V_iload_n dX0_openBefore_34 rfl rfl ?_
      refine V_iload dX0_openBefore_35 rfl ?_
      refine V_icmp_ne 43 dX0_openBefore_37 (by decide) (fun h37 => ?_) (fun h37 => ?_)
      · refine V_iinc1 dX0_openBefore_43 rfl (Nat.le_of_ble_eq_true rfl) ?_
        refine V_goto 7 dX0_openBefore_46 (by decide) ?_
        refine ih h11 _ _ sub (by rw [i2]; rfl) ?_
        obtain ⟨k, hk, hne⟩ := msk_ne h37
        have hc := cnt_lt (P := P) (Q := fun k => P k || (bp (∃ y, y < 14 ∧ P y = true ∧ Pd G k y) && !bp (Rc G k ∧ Df G v k))) 14 (fun j _ hj => by rw [hj]; rfl) ⟨k, hk, by
          cases hp : P k with
          | true => rw [hp] at hne; exact absurd rfl hne
          | false =>
            rw [hp] at hne
            cases hq : (false || (bp (∃ y, y < 14 ∧ P y = true ∧ Pd G k y) && !bp (Rc G k ∧ Df G v k))) with
            | true => exact ⟨rfl, rfl⟩
            | false => exact absurd hq hne⟩
        omega
      · refine V_goto 49 dX0_openBefore_40 (by decide) ?_
        refine V_iload_n dX0_openBefore_49 rfl rfl ?_
        exact V_iret rfl (oI (Cl.mask (fun a h => OP.lt14 hw hb h) sub (fun a ha h => by subst h; rw [i2]; rfl) (fun a x ha hx hq ht => by
                have h1 : P a = true := (msk_inj h37 a ha).symm.trans hq
                rw [Bool.or_eq_true, Bool.and_eq_true, Bool.not_eq_true', bp_t, bp_f]
                exact Or.inr ⟨⟨a, ha, h1, ht.1⟩, ht.2⟩)).symm) rfl ⟨Nat.le_of_ble_eq_true rfl, Nat.le_of_ble_eq_true rfl⟩ dX0_openBefore_50
    )
  refine V_iconst (v := nI 1) dX0_openBefore_0 (by decide) ?_
  refine V_iload_n dX0_openBefore_1 rfl rfl ?_
  refine V_ishl dX0_openBefore_2 ?_
  refine V_top (msk_one hb) ?_
  refine V_istore_n dX0_openBefore_3 rfl (Nat.le_of_ble_eq_true rfl) ?_
  refine V_iconst (v := nI 0) dX0_openBefore_4 (by decide) ?_
  refine V_istore dX0_openBefore_5 (Nat.le_of_ble_eq_true rfl) ?_
  exact lp 0 (Nat.zero_le _) (fun j => decide (j = b)) _ (fun k _ h => by rw [of_decide_eq_true h]; exact Cl.base rfl) (decide_eq_true rfl) (cnt_pos 14 b hb (decide_eq_true rfl))

theorem ctX0_reachingBlocks (hF : FlowL σ f) (hA : GA mi (f + 1) G) (hw : Wf G) (hQ : FA mi f G) {b v : Nat} (hb : b < 14) (hv : v < 4) : Ct κ 0 0 4 mrX0_reachingBlocks [.ref f, .int (nI b), .int (nI v)] (MM σ mi ml) (.inl (some (.int (msk (fun p => bp (RB G v b p)))))) (MM σ mi ml) := by
  refine Ct.of rfl (by simp [Value.category]) (Nat.le_of_ble_eq_true rfl) ?_
  refine V_aload_n dX0_reachingBlocks_0 rfl rfl ?_
  refine V_aload_n dX0_reachingBlocks_1 rfl rfl ?_
  refine V_iload_n dX0_reachingBlocks_2 rfl rfl ?_
  refine V_iload_n dX0_reachingBlocks_3 rfl rfl ?_
  refine V_cv1 (ctX0_openBefore hF hA hw hQ hb hv) mvX0_openBefore lkX0_155 hF.1 rfl rfl rfl (Nat.le_of_ble_eq_true rfl) ⟨⟨Nat.le_of_ble_eq_true rfl, Nat.le_of_ble_eq_true rfl⟩, Nat.le_of_ble_eq_true rfl, Nat.le_of_ble_eq_true rfl⟩ dX0_reachingBlocks_4 ?_
  refine V_cv1 (ctX0_sourcesOfEdgesTo hF hA hw hQ) mvX0_sourcesOfEdgesTo lkX0_152 hF.1 rfl rfl rfl (Nat.le_of_ble_eq_true rfl) ⟨⟨Nat.le_of_ble_eq_true rfl, Nat.le_of_ble_eq_true rfl⟩, Nat.le_of_ble_eq_true rfl, Nat.le_of_ble_eq_true rfl⟩ dX0_reachingBlocks_7 ?_
  refine V_aload_n dX0_reachingBlocks_10 rfl rfl ?_
  refine V_getR frX0_38 hF.1 rfl dX0_reachingBlocks_11 ?_
  refine V_iload_n dX0_reachingBlocks_14 rfl rfl ?_
  refine V_ialdE hF.2.2.2.2.2.2.2.1 v rfl (by omega) (by decide) ((hQ.2.2 v hv).1.1) dX0_reachingBlocks_15 ?_
  refine V_iand dX0_reachingBlocks_16 ?_
  refine V_top (show _ = msk (fun p => bp (RB G v b p)) by
    rw [msk_and]
    refine msk_congr (fun k _ => ?_)
    rw [bp_and]
    refine bp_congr ⟨fun ⟨⟨y, h1, h2, h3⟩, h4⟩ => ⟨⟨y, bp_t.mp h2, h3⟩, h4.2⟩, fun ⟨⟨y, h2, h3⟩, h4⟩ => ⟨⟨y, OP.lt14 hw hb h2, bp_pos h2, h3⟩, h3.1, h4⟩⟩) ?_
  exact V_iret rfl rfl rfl ⟨Nat.le_of_ble_eq_true rfl, Nat.le_of_ble_eq_true rfl⟩ dX0_reachingBlocks_17

end Flow4
