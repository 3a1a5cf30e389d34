/-! SsaRepairModel: liveness, merges, sources; analyze -/
section Mdl3
variable {κ : K0} {σ : Nat → Option Kd} {mi : Nat → Nat → Int32} {ml : Nat → Nat → Int64} {m : Nat} {G : Gr} {S : SS} {μ : Mem}
theorem msk_m1 (P : Nat → Bool) : ¬ (-1 : Int32) = msk P := fun h => nI_m1 (a := mskN P 14) (Nat.lt_trans (mskN_lt P 14) (by decide)) h.symm
theorem grow_cnt {P0 P : Nat → Bool} (h : ∀ k, k < 14 → P0 k = true → P k = true) (hne : msk P0 ≠ msk P) : cnt P0 14 < cnt P 14 := by
  obtain ⟨k, hk, hk2⟩ := msk_ne hne
  refine cnt_lt 14 h ⟨k, hk, ?_⟩
  cases hp : P0 k with
  | true => exact absurd (hp.trans (h k hk hp).symm) hk2
  | false => exact ⟨by cases hq : P k with | true => rfl | false => exact absurd (hp.trans hq.symm) hk2, rfl⟩
theorem ctX6_findLive (hM : ML σ m) (hG : GM mi m G) (hw : Wf G) (h1 : A1 mi m G) {v : Nat} (hv : v < 4) : CtP κ 0 0 3 mrX6_findLive [.ref m, .int (nI v)] (MM σ mi ml) (fun o μ' => o = .inl none ∧ μ' = MM σ (u2 mi (m + 51) v (msk (fun b => bp (LV G v b)))) ml) := by
  refine CtP.of rfl (by simp [Value.category]) (Nat.le_of_ble_eq_true rfl) ?_
  have h14 := hw.2.1
  have pass : ∀ (P0 : Nat → Bool) (n : Nat), (∀ P l o4 o5 o6, (msk P ≠ l → 14 < cnt P 14 + n) → (∀ k, k < 14 → P k = true → LV G v k) → (msk P = l → ∀ b, Rc G b → (ufst (G.2.1 b) v = true ∨ (¬ Df G v b ∧ ∃ t, Ed G b t ∧ P t = true)) → P b = true) → V κ (phiP κ mrX6_findLive 3 0 0 (fun o μ' => o = .inl none ∧ μ' = MM σ (u2 mi (m + 51) v (msk (fun b => bp (LV G v b)))) ml)) 0 0 4 [some (.ref m), some (.int (nI v)), some (.int (msk P)), some (.int l), o4, o5, o6] [] (MM σ mi ml)) → 14 < cnt P0 14 + (n + 1) → ∀ i, i ≤ G.1 → ∀ P o5 o6, (∀ k, k < 14 → P0 k = true → P k = true) → (∀ k, k < 14 → P k = true → LV G v k) → (∀ b, b < i → Rc G b → (ufst (G.2.1 b) v = true ∨ (¬ Df G v b ∧ ∃ t, Ed G b t ∧ P0 t = true)) → P b = true) → V κ (phiP κ mrX6_findLive 3 0 0 (fun o μ' => o = .inl none ∧ μ' = MM σ (u2 mi (m + 51) v (msk (fun b => bp (LV G v b)))) ml)) 0 0 14 [some (.ref m), some (.int (nI v)), some (.int (msk P)), some (.int (msk P0)), some (.int (nI i)), o5, o6] [] (MM σ mi ml) := fun P0 n IH hn => loop_up _ (fun i hi ih P o5 o6 j1 j2 j3 => by
    have J : i < G.1 → ∀ (s : Bool) o6, (s = true → ufst (G.2.1 i) v = true ∨ (¬ Df G v i ∧ ∃ t, Ed G i t ∧ P t = true)) → (ufst (G.2.1 i) v = true → s = true) → (¬ Df G v i → ∀ t, Ed G i t → P t = true → s = true) → V κ (phiP κ mrX6_findLive 3 0 0 (fun o μ' => o = .inl none ∧ μ' = MM σ (u2 mi (m + 51) v (msk (fun b => bp (LV G v b)))) ml)) 0 0 82 [some (.ref m), some (.int (nI v)), some (.int (msk P)), some (.int (msk P0)), some (.int (nI i)), some (.int (bI s)), o6] [] (MM σ mi ml) := fun hi2 s o6 s1 s2 s3 => by
      have add : s = true → Rc G i → LV G v i := fun hs hR => by
        rcases s1 hs with q | ⟨q1, t, q2, q3⟩
        · exact Cl.base ⟨hR, q⟩
        · exact (j2 t (by have := (Ed.lt hw q2).2.2; omega) q3).step ⟨hR, q1, q2⟩
      refine V_iload_n dX6_findLive_82 rfl rfl ?_
      refine V_iload dX6_findLive_83 rfl ?_
      refine V_ifeqB 107 dX6_findLive_85 (by decide) (fun h85 => ?_) (fun h85 => ?_)
      · refine V_iconst (v := nI 0) dX6_findLive_107 (by decide) ?_
        refine V_ior dX6_findLive_108 ?_
        refine V_istore_n dX6_findLive_109 rfl (Nat.le_of_ble_eq_true rfl) ?_
        refine V_iinc1 dX6_findLive_110 rfl (Nat.le_of_ble_eq_true rfl) ?_
        refine V_goto 14 dX6_findLive_113 (by decide) ?_
        exact V.cL (ih hi2 P _ _ j1 j2 (fun b hb hR h => by
          rcases Nat.lt_or_ge b i with q | q
          · exact j3 b q hR h
          · have e : b = i := by omega
            subst e
            have : s = true := by
              rcases h with h | ⟨h1, t, h2, h3⟩
              · exact s2 h
              · exact s3 h1 t h2 (j1 t (by have := (Ed.lt hw h2).2.2; omega) h3)
            rw [h85] at this
            cases this)) (by rw [show msk P ||| nI 0 = msk P from Int32.or_zero]; rfl)
      · refine V_aload_n dX6_findLive_88 rfl rfl ?_
        refine V_getE frX6_155 hM.1 rfl h1.1 dX6_findLive_89 ?_
        refine V_iload dX6_findLive_92 rfl ?_
        refine V_cs1 (ctX6_hasM (by omega)) msX6_has lkX6_158 rfl rfl (Nat.le_of_ble_eq_true rfl) ⟨⟨Nat.le_of_ble_eq_true rfl, Nat.le_of_ble_eq_true rfl⟩, Nat.le_of_ble_eq_true rfl, Nat.le_of_ble_eq_true rfl⟩ dX6_findLive_94 ?_
        refine V_ifeqB 107 dX6_findLive_97 (by decide) (fun h97 => ?_) (fun h97 => ?_)
        · refine V_iconst (v := nI 0) dX6_findLive_107 (by decide) ?_
          refine V_ior dX6_findLive_108 ?_
          refine V_istore_n dX6_findLive_109 rfl (Nat.le_of_ble_eq_true rfl) ?_
          refine V_iinc1 dX6_findLive_110 rfl (Nat.le_of_ble_eq_true rfl) ?_
          refine V_goto 14 dX6_findLive_113 (by decide) ?_
          exact V.cL (ih hi2 P _ _ j1 j2 (fun b hb hR h => by
            rcases Nat.lt_or_ge b i with q | q
            · exact j3 b q hR h
            · have e : b = i := by omega
              subst e
              exact absurd hR (bp_f.mp h97))) (by rw [show msk P ||| nI 0 = msk P from Int32.or_zero]; rfl)
        · refine V_iconst (v := nI 1) dX6_findLive_100 (by decide) ?_
          refine V_iload dX6_findLive_101 rfl ?_
          refine V_ishl dX6_findLive_103 ?_
          refine V_goto 108 dX6_findLive_104 (by decide) ?_
          refine V_ior dX6_findLive_108 ?_
          refine V_top (or1 (by omega)) ?_
          refine V_istore_n dX6_findLive_109 rfl (Nat.le_of_ble_eq_true rfl) ?_
          refine V_iinc1 dX6_findLive_110 rfl (Nat.le_of_ble_eq_true rfl) ?_
          refine V_goto 14 dX6_findLive_113 (by decide) ?_
          exact ih hi2 (fun k => P k || decide (k = i)) _ _ (fun k hk hp => by rw [j1 k hk hp]; rfl) (fun k hk hp => by
            rcases Bool.or_eq_true _ _ ▸ hp with q | q
            · exact j2 k hk q
            · rw [of_decide_eq_true q]; exact add h85 (bp_t.mp h97)) (fun b hb hR h => by
            rcases Nat.lt_or_ge b i with q | q
            · rw [j3 b q hR h]; rfl
            · have e : b = i := by omega
              subst e; simp)

    have lpK : i < G.1 → ∀ k, k ≤ (G.2.2 i).length → ∀ s : Bool, (s = true → ufst (G.2.1 i) v = true ∨ (¬ Df G v i ∧ ∃ t, Ed G i t ∧ P t = true)) → (ufst (G.2.1 i) v = true → s = true) → (∀ z, z < k → P ((G.2.2 i).getD z 0) = true → s = true) → V κ (phiP κ mrX6_findLive 3 0 0 (fun o μ' => o = .inl none ∧ μ' = MM σ (u2 mi (m + 51) v (msk (fun b => bp (LV G v b)))) ml)) 0 0 35 [some (.ref m), some (.int (nI v)), some (.int (msk P)), some (.int (msk P0)), some (.int (nI i)), some (.int (bI s)), some (.int (nI k))] [] (MM σ mi ml) := fun hi2 => loop_up _ (fun k hk ih2 s s1 s2 s3 => by
      have h3 := (hw.2.2.2.1 i).1
      refine V_iload dX6_findLive_35 rfl ?_
      refine V_aload_n dX6_findLive_37 rfl rfl ?_
      refine V_getR frX6_17 hM.1 rfl dX6_findLive_38 ?_
      refine V_iload dX6_findLive_41 rfl ?_
      refine V_ialdE hM.2.2.1 i rfl (by omega) (by decide) ((hG.2 i (by omega)).2.1) dX6_findLive_43 ?_
      refine V_N_ge (by omega) (by omega) 82 dX6_findLive_44 (by decide) (fun h44 => ?_) (fun h44 => ?_)
      · exact J hi2 s _ s1 s2 (fun _ t ht hp => by
          obtain ⟨z, z1, z2⟩ := edg_all ht
          exact s3 z (by omega) (by rw [z2]; exact hp))
      · obtain ⟨e1, e2, e3⟩ := edg14 hw h44
        refine V_aload_n dX6_findLive_47 rfl rfl ?_
        refine V_iload dX6_findLive_48 rfl ?_
        refine V_iload_n dX6_findLive_50 rfl rfl ?_
        refine V_cv1 (ctX6_isDefined hM hG hw (by omega) (by omega)) mvX6_isDefined lkX6_171 hM.1 rfl rfl rfl (Nat.le_of_ble_eq_true rfl) ⟨⟨Nat.le_of_ble_eq_true rfl, Nat.le_of_ble_eq_true rfl⟩, Nat.le_of_ble_eq_true rfl, Nat.le_of_ble_eq_true rfl⟩ dX6_findLive_51 ?_
        refine V_ifneB 82 dX6_findLive_54 (by decide) (fun h54 => ?_) (fun h54 => ?_)
        · exact J hi2 s _ s1 s2 (fun q => absurd (bp_t.mp h54) q)
        · refine V_iload dX6_findLive_57 rfl ?_
          refine V_iload_n dX6_findLive_59 rfl rfl ?_
          refine V_aload_n dX6_findLive_60 rfl rfl ?_
          refine V_getR frX6_25 hM.1 rfl dX6_findLive_61 ?_
          refine V_iload dX6_findLive_64 rfl ?_
          refine V_aaldR hM.2.2.2.2.2.2.2.2.2.2.2.2.2.2.2.2.2.1 (i) rfl (show i < 14 by omega) (by decide) dX6_findLive_66 ?_
          refine V_iload dX6_findLive_67 rfl ?_
          refine V_ialdE (hM.2.2.2.2.2.2.2.2.2.2.2.2.2.2.2.2.2.1.row (j := i) (show i < 14 by omega)) k rfl (by omega) (by decide) ((hG.2 i (by omega)).2.2.2 k h44) dX6_findLive_69 ?_
          refine V_cs1 (ctX6_hasM (by omega)) msX6_has lkX6_158 rfl rfl (Nat.le_of_ble_eq_true rfl) ⟨⟨Nat.le_of_ble_eq_true rfl, Nat.le_of_ble_eq_true rfl⟩, Nat.le_of_ble_eq_true rfl, Nat.le_of_ble_eq_true rfl⟩ dX6_findLive_70 ?_
          refine V_ior dX6_findLive_73 ?_
          refine V_top (bI_or _ _) ?_
          refine V_istore dX6_findLive_74 (Nat.le_of_ble_eq_true rfl) ?_
          refine V_iinc1 dX6_findLive_76 rfl (Nat.le_of_ble_eq_true rfl) ?_
          refine V_goto 35 dX6_findLive_79 (by decide) ?_
          exact ih2 h44 (s || P ((G.2.2 i).getD k 0)) (fun h => by
            rcases Bool.or_eq_true _ _ ▸ h with q | q
            · exact s1 q
            · exact Or.inr ⟨bp_f.mp h54, _, e3, q⟩) (fun h => by rw [s2 h]; rfl) (fun z hz h => by
            by_cases e : z = k
            · subst e; rw [h, Bool.or_true]
            · rw [s3 z (by omega) h]; rfl)
      )
    refine V_iload dX6_findLive_14 rfl ?_
    refine V_aload_n dX6_findLive_16 rfl rfl ?_
    refine V_getE frX6_7 hM.1 rfl hG.1 dX6_findLive_17 ?_
    refine V_N_ge (by omega) (by omega) 116 dX6_findLive_20 (by decide) (fun h20 => ?_) (fun h20 => ?_)
    · refine V_goto 4 dX6_findLive_116 (by decide) ?_
      exact IH P (msk P0) _ _ _ (fun hne => by have := grow_cnt j1 (fun q => hne q.symm); omega) j2 (fun he b hR h => j3 b (by have := hR.lt hw; omega) hR (h.imp_right (fun q => ⟨q.1, by
        obtain ⟨t, t1, t2⟩ := q.2
        exact ⟨t, t1, by rw [← msk_inj he t (by have := (Ed.lt hw t1).2.2; omega)]; exact t2⟩⟩)))
    · refine V_aload_n dX6_findLive_23 rfl rfl ?_
      refine V_iload dX6_findLive_24 rfl ?_
      refine V_iload_n dX6_findLive_26 rfl rfl ?_
      refine V_cv1 (ctX6_isUsedFirst hM hG hw (by omega) hv) mvX6_isUsedFirst lkX6_168 hM.1 rfl rfl rfl (Nat.le_of_ble_eq_true rfl) ⟨⟨Nat.le_of_ble_eq_true rfl, Nat.le_of_ble_eq_true rfl⟩, Nat.le_of_ble_eq_true rfl, Nat.le_of_ble_eq_true rfl⟩ dX6_findLive_27 ?_
      refine V_istore dX6_findLive_30 (Nat.le_of_ble_eq_true rfl) ?_
      refine V_iconst (v := nI 0) dX6_findLive_32 (by decide) ?_
      refine V_istore dX6_findLive_33 (Nat.le_of_ble_eq_true rfl) ?_
      exact lpK h20 0 (Nat.zero_le _) _ Or.inl id (fun z hz => absurd hz (Nat.not_lt_zero z))
    )
  have lp : ∀ n P l o4 o5 o6, (msk P ≠ l → 14 < cnt P 14 + n) → (∀ k, k < 14 → P k = true → LV G v k) → (msk P = l → ∀ b, Rc G b → (ufst (G.2.1 b) v = true ∨ (¬ Df G v b ∧ ∃ t, Ed G b t ∧ P t = true)) → P b = true) → V κ (phiP κ mrX6_findLive 3 0 0 (fun o μ' => o = .inl none ∧ μ' = MM σ (u2 mi (m + 51) v (msk (fun b => bp (LV G v b)))) ml)) 0 0 4 [some (.ref m), some (.int (nI v)), some (.int (msk P)), some (.int l), o4, o5, o6] [] (MM σ mi ml) := by
    intro n
    induction n with
    | zero =>
      intro P l o4 o5 o6 hf j2 j4
      have hle := cnt_le P 14
      refine V_iload_n dX6_findLive_4 rfl rfl ?_
      refine V_iload_n dX6_findLive_5 rfl rfl ?_
      refine V_icmp_eq 119 dX6_findLive_6 (by decide) (fun h6 => ?_) (fun h6 => ?_)
      · refine V_aload_n dX6_findLive_119 rfl rfl ?_
        refine V_getR frX6_59 hM.1 rfl dX6_findLive_120 ?_
        refine V_iload_n dX6_findLive_123 rfl rfl ?_
        refine V_iload_n dX6_findLive_124 rfl rfl ?_
        refine V_iastN hM.2.2.2.2.2.2.2.2.2.2.1 v rfl (by omega) (by decide) dX6_findLive_125 ?_
        exact V_vretP rfl ⟨rfl, by
                rw [show msk P = msk (fun b => bp (LV G v b)) from Cl.mask (fun a h => (LV.rc h).lt14 hw) j2 (fun a ha h => j4 h6 a h.1 (Or.inl h.2)) (fun a b ha hb hp ht => j4 h6 b ht.1 (Or.inr ⟨ht.2.1, a, ht.2.2, hp⟩))]⟩ ⟨Nat.le_of_ble_eq_true rfl, Nat.le_of_ble_eq_true rfl⟩ dX6_findLive_126
      · exfalso
        have := hf h6
        omega

    | succ n IH =>
      intro P l o4 o5 o6 hf j2 j4
      refine V_iload_n dX6_findLive_4 rfl rfl ?_
      refine V_iload_n dX6_findLive_5 rfl rfl ?_
      refine V_icmp_eq 119 dX6_findLive_6 (by decide) (fun h6 => ?_) (fun h6 => ?_)
      · refine V_aload_n dX6_findLive_119 rfl rfl ?_
        refine V_getR frX6_59 hM.1 rfl dX6_findLive_120 ?_
        refine V_iload_n dX6_findLive_123 rfl rfl ?_
        refine V_iload_n dX6_findLive_124 rfl rfl ?_
        refine V_iastN hM.2.2.2.2.2.2.2.2.2.2.1 v rfl (by omega) (by decide) dX6_findLive_125 ?_
        exact V_vretP rfl ⟨rfl, by
                rw [show msk P = msk (fun b => bp (LV G v b)) from Cl.mask (fun a h => (LV.rc h).lt14 hw) j2 (fun a ha h => j4 h6 a h.1 (Or.inl h.2)) (fun a b ha hb hp ht => j4 h6 b ht.1 (Or.inr ⟨ht.2.1, a, ht.2.2, hp⟩))]⟩ ⟨Nat.le_of_ble_eq_true rfl, Nat.le_of_ble_eq_true rfl⟩ dX6_findLive_126
      · refine V_iload_n dX6_findLive_9 rfl rfl ?_
        refine V_istore_n dX6_findLive_10 rfl (Nat.le_of_ble_eq_true rfl) ?_
        refine V_iconst (v := nI 0) dX6_findLive_11 (by decide) ?_
        refine V_istore dX6_findLive_12 (Nat.le_of_ble_eq_true rfl) ?_
        exact pass P n IH (hf h6) 0 (Nat.zero_le _) P _ _ (fun _ _ h => h) j2 (fun b hb => absurd hb (Nat.not_lt_zero b))

  refine V_iconst (v := nI 0) dX6_findLive_0 (by decide) ?_
  refine V_istore_n dX6_findLive_1 rfl (Nat.le_of_ble_eq_true rfl) ?_
  refine V_iconst (v := (-1)) dX6_findLive_2 (by decide) ?_
  refine V_istore_n dX6_findLive_3 rfl (Nat.le_of_ble_eq_true rfl) ?_
  exact V.cL (lp 15 (fun _ => false) (-1) _ _ _ (fun _ => by omega) (fun k _ h => by cases h) (fun h => absurd h.symm (msk_m1 _))) (by rw [msk_zero]; rfl)

theorem ctX6_findMerges (hM : ML σ m) (hG : GM mi m G) (hw : Wf G) (h1 : A1 mi m G) (h2 : A2p mi m G) {v : Nat} (hv : v < 4) (hl : mi (m + 51) v = msk (fun b => bp (LV G v b))) : CtP κ 0 0 3 mrX6_findMerges [.ref m, .int (nI v)] (MM σ mi ml) (fun o μ' => o = .inl none ∧ μ' = MM σ (u2 (u2 mi (m + 52) v (msk (fun b => bp (MN G v b)))) (m + 53) v (msk (fun b => bp (PM G v b)))) ml) := by
  refine CtP.of rfl (by simp [Value.category]) (Nat.le_of_ble_eq_true rfl) ?_
  have h14 := hw.2.1
  have pass : ∀ (P0 : Nat → Bool) (n : Nat), (∀ k, k < 14 → P0 k = true → MN G v k) → (∀ P l o4 o5, (msk P ≠ l → 14 < cnt P 14 + n) → (∀ k, k < 14 → P k = true → MN G v k) → (msk P = l → ∀ x, Rc G x → (x = 0 ∨ Df G v x ∨ P x = true) → ∀ y, y < 14 → Fr' G x y → P y = true) → V κ (phiP κ mrX6_findMerges 3 0 0 (fun o μ' => o = .inl none ∧ μ' = MM σ (u2 (u2 mi (m + 52) v (msk (fun b => bp (MN G v b)))) (m + 53) v (msk (fun b => bp (PM G v b)))) ml)) 0 0 4 [some (.ref m), some (.int (nI v)), some (.int (msk P)), some (.int l), o4, o5] [] (MM σ mi ml)) → 14 < cnt P0 14 + (n + 1) → ∀ i, i ≤ G.1 → ∀ P o5, (∀ k, k < 14 → P0 k = true → P k = true) → (∀ k, k < 14 → P k = true → MN G v k) → (∀ x, x < i → Rc G x → (x = 0 ∨ Df G v x ∨ P0 x = true) → ∀ y, y < 14 → Fr' G x y → P y = true) → V κ (phiP κ mrX6_findMerges 3 0 0 (fun o μ' => o = .inl none ∧ μ' = MM σ (u2 (u2 mi (m + 52) v (msk (fun b => bp (MN G v b)))) (m + 53) v (msk (fun b => bp (PM G v b)))) ml)) 0 0 14 [some (.ref m), some (.int (nI v)), some (.int (msk P)), some (.int (msk P0)), some (.int (nI i)), o5] [] (MM σ mi ml) := fun P0 n hP0 IH hn => loop_up _ (fun i hi ih P o5 j1 j2 j3 => by
    have J : i < G.1 → ∀ (s : Bool), (s = true ↔ Rc G i ∧ (i = 0 ∨ Df G v i ∨ P0 i = true)) → V κ (phiP κ mrX6_findMerges 3 0 0 (fun o μ' => o = .inl none ∧ μ' = MM σ (u2 (u2 mi (m + 52) v (msk (fun b => bp (MN G v b)))) (m + 53) v (msk (fun b => bp (PM G v b)))) ml)) 0 0 66 [some (.ref m), some (.int (nI v)), some (.int (msk P)), some (.int (msk P0)), some (.int (nI i)), some (.int (bI s))] [] (MM σ mi ml) := fun hi2 s hs => by
      refine V_iload_n dX6_findMerges_66 rfl rfl ?_
      refine V_iload dX6_findMerges_67 rfl ?_
      refine V_ifeqB 82 dX6_findMerges_69 (by decide) (fun h69 => ?_) (fun h69 => ?_)
      · refine V_iconst (v := nI 0) dX6_findMerges_82 (by decide) ?_
        refine V_ior dX6_findMerges_83 ?_
        refine V_istore_n dX6_findMerges_84 rfl (Nat.le_of_ble_eq_true rfl) ?_
        refine V_iinc1 dX6_findMerges_85 rfl (Nat.le_of_ble_eq_true rfl) ?_
        refine V_goto 14 dX6_findMerges_88 (by decide) ?_
        exact V.cL (ih hi2 P _ j1 j2 (fun x hx hR h => by
          rcases Nat.lt_or_ge x i with q | q
          · exact j3 x q hR h
          · have e : x = i := by omega
            subst e
            rw [hs.mpr ⟨hR, h⟩] at h69
            cases h69)) (by rw [show msk P ||| nI 0 = msk P from Int32.or_zero]; rfl)
      · refine V_aload_n dX6_findMerges_72 rfl rfl ?_
        refine V_getR frX6_56 hM.1 rfl dX6_findMerges_73 ?_
        refine V_iload dX6_findMerges_76 rfl ?_
        refine V_ialdE hM.2.2.2.2.2.2.2.2.2.1 i rfl (by omega) (by decide) (h2.2 i hi2) dX6_findMerges_78 ?_
        refine V_goto 83 dX6_findMerges_79 (by decide) ?_
        refine V_ior dX6_findMerges_83 ?_
        refine V_top (msk_or _ _) ?_
        refine V_istore_n dX6_findMerges_84 rfl (Nat.le_of_ble_eq_true rfl) ?_
        refine V_iinc1 dX6_findMerges_85 rfl (Nat.le_of_ble_eq_true rfl) ?_
        refine V_goto 14 dX6_findMerges_88 (by decide) ?_
        exact ih hi2 _ _ (fun k hk hp => by rw [j1 k hk hp]; rfl) (fun k hk hp => by
          rcases Bool.or_eq_true _ _ ▸ hp with q | q
          · exact j2 k hk q
          · have q' := bp_t.mp q
            rcases (hs.mp h69).2 with z | z | z
            · exact Cl.base ⟨i, Or.inl z, q'⟩
            · exact Cl.base ⟨i, Or.inr ⟨(hs.mp h69).1, z⟩, q'⟩
            · exact (hP0 i (by omega) z).step q') (fun x hx hR h y hy hf => by
          rcases Nat.lt_or_ge x i with q | q
          · rw [j3 x q hR h y hy hf]; rfl
          · have e : x = i := by omega
            subst e
            rw [bp_pos hf, Bool.or_true])

    refine V_iload dX6_findMerges_14 rfl ?_
    refine V_aload_n dX6_findMerges_16 rfl rfl ?_
    refine V_getE frX6_7 hM.1 rfl hG.1 dX6_findMerges_17 ?_
    refine V_N_ge (by omega) (by omega) 91 dX6_findMerges_20 (by decide) (fun h20 => ?_) (fun h20 => ?_)
    · refine V_goto 4 dX6_findMerges_91 (by decide) ?_
      exact IH P (msk P0) _ _ (fun hne => by have := grow_cnt j1 (fun q => hne q.symm); omega) j2 (fun he x hR h => j3 x (by have := hR.lt hw; omega) hR (h.imp_right (fun q => q.imp_right (fun z => by rw [← msk_inj he x (hR.lt14 hw)]; exact z))))
    · refine V_aload_n dX6_findMerges_23 rfl rfl ?_
      refine V_getE frX6_155 hM.1 rfl h1.1 dX6_findMerges_24 ?_
      refine V_iload dX6_findMerges_27 rfl ?_
      refine V_cs1 (ctX6_hasM (by omega)) msX6_has lkX6_158 rfl rfl (Nat.le_of_ble_eq_true rfl) ⟨⟨Nat.le_of_ble_eq_true rfl, Nat.le_of_ble_eq_true rfl⟩, Nat.le_of_ble_eq_true rfl, Nat.le_of_ble_eq_true rfl⟩ dX6_findMerges_29 ?_
      refine V_ifeqB 63 dX6_findMerges_32 (by decide) (fun h32 => ?_) (fun h32 => ?_)
      · refine V_iconst (v := nI 0) dX6_findMerges_63 (by decide) ?_
        refine V_istore dX6_findMerges_64 (Nat.le_of_ble_eq_true rfl) ?_
        exact J h20 false ⟨fun q => (by cases q), fun q => absurd q (fun z => bp_f.mp h32 z.1)⟩
      · refine V_iload dX6_findMerges_35 rfl ?_
        refine V_Z_eq (by omega) 59 dX6_findMerges_37 (by decide) (fun h37 => ?_) (fun h37 => ?_)
        · refine V_iconst (v := nI 1) dX6_findMerges_59 (by decide) ?_
          refine V_goto 64 dX6_findMerges_60 (by decide) ?_
          refine V_istore dX6_findMerges_64 (Nat.le_of_ble_eq_true rfl) ?_
          exact J h20 true ⟨fun _ => ⟨bp_t.mp h32, Or.inl h37⟩, fun _ => rfl⟩
        · refine V_aload_n dX6_findMerges_40 rfl rfl ?_
          refine V_iload dX6_findMerges_41 rfl ?_
          refine V_iload_n dX6_findMerges_43 rfl rfl ?_
          refine V_cv1 (ctX6_isDefined hM hG hw (by omega) (by omega)) mvX6_isDefined lkX6_171 hM.1 rfl rfl rfl (Nat.le_of_ble_eq_true rfl) ⟨⟨Nat.le_of_ble_eq_true rfl, Nat.le_of_ble_eq_true rfl⟩, Nat.le_of_ble_eq_true rfl, Nat.le_of_ble_eq_true rfl⟩ dX6_findMerges_44 ?_
          refine V_ifneB 59 dX6_findMerges_47 (by decide) (fun h47 => ?_) (fun h47 => ?_)
          · refine V_iconst (v := nI 1) dX6_findMerges_59 (by decide) ?_
            refine V_goto 64 dX6_findMerges_60 (by decide) ?_
            refine V_istore dX6_findMerges_64 (Nat.le_of_ble_eq_true rfl) ?_
            exact J h20 true ⟨fun _ => ⟨bp_t.mp h32, Or.inr (Or.inl (bp_t.mp h47))⟩, fun _ => rfl⟩
          · refine V_iload_n dX6_findMerges_50 rfl rfl ?_
            refine V_iload dX6_findMerges_51 rfl ?_
            refine V_cs1 (ctX6_hasM (by omega)) msX6_has lkX6_158 rfl rfl (Nat.le_of_ble_eq_true rfl) ⟨⟨Nat.le_of_ble_eq_true rfl, Nat.le_of_ble_eq_true rfl⟩, Nat.le_of_ble_eq_true rfl, Nat.le_of_ble_eq_true rfl⟩ dX6_findMerges_53 ?_
            refine V_ifeqB 63 dX6_findMerges_56 (by decide) (fun h56 => ?_) (fun h56 => ?_)
            · refine V_iconst (v := nI 0) dX6_findMerges_63 (by decide) ?_
              refine V_istore dX6_findMerges_64 (Nat.le_of_ble_eq_true rfl) ?_
              exact J h20 false ⟨fun q => (by cases q), fun q => absurd q (fun z => by
                rcases z.2 with z | z | z
                · exact h37 z
                · exact bp_f.mp h47 z
                · rw [h56] at z; cases z)⟩
            · refine V_iconst (v := nI 1) dX6_findMerges_59 (by decide) ?_
              refine V_goto 64 dX6_findMerges_60 (by decide) ?_
              refine V_istore dX6_findMerges_64 (Nat.le_of_ble_eq_true rfl) ?_
              exact J h20 true ⟨fun _ => ⟨bp_t.mp h32, Or.inr (Or.inr h56)⟩, fun _ => rfl⟩
    )
  have lp : ∀ n P l o4 o5, (msk P ≠ l → 14 < cnt P 14 + n) → (∀ k, k < 14 → P k = true → MN G v k) → (msk P = l → ∀ x, Rc G x → (x = 0 ∨ Df G v x ∨ P x = true) → ∀ y, y < 14 → Fr' G x y → P y = true) → V κ (phiP κ mrX6_findMerges 3 0 0 (fun o μ' => o = .inl none ∧ μ' = MM σ (u2 (u2 mi (m + 52) v (msk (fun b => bp (MN G v b)))) (m + 53) v (msk (fun b => bp (PM G v b)))) ml)) 0 0 4 [some (.ref m), some (.int (nI v)), some (.int (msk P)), some (.int l), o4, o5] [] (MM σ mi ml) := by
    intro n
    induction n with
    | zero =>
      intro P l o4 o5 hf j2 j4
      have hle := cnt_le P 14
      refine V_iload_n dX6_findMerges_4 rfl rfl ?_
      refine V_iload_n dX6_findMerges_5 rfl rfl ?_
      refine V_icmp_eq 94 dX6_findMerges_6 (by decide) (fun h6 => ?_) (fun h6 => ?_)
      · refine V_aload_n dX6_findMerges_94 rfl rfl ?_
        refine V_getR frX6_62 hM.1 rfl dX6_findMerges_95 ?_
        refine V_iload_n dX6_findMerges_98 rfl rfl ?_
        refine V_iload_n dX6_findMerges_99 rfl rfl ?_
        refine V_iastN hM.2.2.2.2.2.2.2.2.2.2.2.1 v rfl (by omega) (by decide) dX6_findMerges_100 ?_
        refine V_aload_n dX6_findMerges_101 rfl rfl ?_
        refine V_getR frX6_65 hM.1 rfl dX6_findMerges_102 ?_
        refine V_iload_n dX6_findMerges_105 rfl rfl ?_
        refine V_iload_n dX6_findMerges_106 rfl rfl ?_
        refine V_aload_n dX6_findMerges_107 rfl rfl ?_
        refine V_getR frX6_59 hM.1 rfl dX6_findMerges_108 ?_
        refine V_iload_n dX6_findMerges_111 rfl rfl ?_
        refine V_ialdE hM.2.2.2.2.2.2.2.2.2.2.1 v rfl (by omega) (by decide) ((u2_n _ _ (Or.inl (by omega))).trans hl) dX6_findMerges_112 ?_
        rw [show msk P = msk (fun b => bp (MN G v b)) from Cl.mask (fun a h => (MN.rc h).lt14 hw) j2 (fun a ha h => by
            obtain ⟨x, hx, hf⟩ := h
            exact j4 h6 x hf.rc.1 (hx.imp_right (fun q => Or.inl q.2)) a ha hf) (fun a b ha hb hp ht => j4 h6 a ht.rc.1 (Or.inr (Or.inr hp)) b hb ht)]
        refine V_iand dX6_findMerges_113 ?_
        refine V_top ((msk_and _ _).trans (msk_congr (fun b _ => bp_and _ _))) ?_
        refine V_iastN hM.2.2.2.2.2.2.2.2.2.2.2.2.1 v rfl (by omega) (by decide) dX6_findMerges_114 ?_
        exact V_vretP rfl ⟨rfl, rfl⟩ ⟨Nat.le_of_ble_eq_true rfl, Nat.le_of_ble_eq_true rfl⟩ dX6_findMerges_115
      · exfalso
        have := hf h6
        omega

    | succ n IH =>
      intro P l o4 o5 hf j2 j4
      refine V_iload_n dX6_findMerges_4 rfl rfl ?_
      refine V_iload_n dX6_findMerges_5 rfl rfl ?_
      refine V_icmp_eq 94 dX6_findMerges_6 (by decide) (fun h6 => ?_) (fun h6 => ?_)
      · refine V_aload_n dX6_findMerges_94 rfl rfl ?_
        refine V_getR frX6_62 hM.1 rfl dX6_findMerges_95 ?_
        refine V_iload_n dX6_findMerges_98 rfl rfl ?_
        refine V_iload_n dX6_findMerges_99 rfl rfl ?_
        refine V_iastN hM.2.2.2.2.2.2.2.2.2.2.2.1 v rfl (by omega) (by decide) dX6_findMerges_100 ?_
        refine V_aload_n dX6_findMerges_101 rfl rfl ?_
        refine V_getR frX6_65 hM.1 rfl dX6_findMerges_102 ?_
        refine V_iload_n dX6_findMerges_105 rfl rfl ?_
        refine V_iload_n dX6_findMerges_106 rfl rfl ?_
        refine V_aload_n dX6_findMerges_107 rfl rfl ?_
        refine V_getR frX6_59 hM.1 rfl dX6_findMerges_108 ?_
        refine V_iload_n dX6_findMerges_111 rfl rfl ?_
        refine V_ialdE hM.2.2.2.2.2.2.2.2.2.2.1 v rfl (by omega) (by decide) ((u2_n _ _ (Or.inl (by omega))).trans hl) dX6_findMerges_112 ?_
        rw [show msk P = msk (fun b => bp (MN G v b)) from Cl.mask (fun a h => (MN.rc h).lt14 hw) j2 (fun a ha h => by
            obtain ⟨x, hx, hf⟩ := h
            exact j4 h6 x hf.rc.1 (hx.imp_right (fun q => Or.inl q.2)) a ha hf) (fun a b ha hb hp ht => j4 h6 a ht.rc.1 (Or.inr (Or.inr hp)) b hb ht)]
        refine V_iand dX6_findMerges_113 ?_
        refine V_top ((msk_and _ _).trans (msk_congr (fun b _ => bp_and _ _))) ?_
        refine V_iastN hM.2.2.2.2.2.2.2.2.2.2.2.2.1 v rfl (by omega) (by decide) dX6_findMerges_114 ?_
        exact V_vretP rfl ⟨rfl, rfl⟩ ⟨Nat.le_of_ble_eq_true rfl, Nat.le_of_ble_eq_true rfl⟩ dX6_findMerges_115
      · refine V_iload_n dX6_findMerges_9 rfl rfl ?_
        refine V_istore_n dX6_findMerges_10 rfl (Nat.le_of_ble_eq_true rfl) ?_
        refine V_iconst (v := nI 0) dX6_findMerges_11 (by decide) ?_
        refine V_istore dX6_findMerges_12 (Nat.le_of_ble_eq_true rfl) ?_
        exact pass P n j2 IH (hf h6) 0 (Nat.zero_le _) P _ (fun _ _ h => h) j2 (fun b hb => absurd hb (Nat.not_lt_zero b))

  refine V_iconst (v := nI 0) dX6_findMerges_0 (by decide) ?_
  refine V_istore_n dX6_findMerges_1 rfl (Nat.le_of_ble_eq_true rfl) ?_
  refine V_iconst (v := (-1)) dX6_findMerges_2 (by decide) ?_
  refine V_istore_n dX6_findMerges_3 rfl (Nat.le_of_ble_eq_true rfl) ?_
  exact V.cL (lp 15 (fun _ => false) (-1) _ _ (fun _ => by omega) (fun k _ h => by cases h) (fun h => absurd h.symm (msk_m1 _))) (by rw [msk_zero]; rfl)

theorem dep_pos (hw : Wf G) {b : Nat} (hb : Rc G b) : 0 < dep G b := cnt_pos 14 b (hb.lt14 hw) (bp_pos (Dm.refl hb))
theorem sBg_fuel (hw : Wf G) {v : Nat} : ∀ n b, Rc G b → dep G b ≤ n → sBg G v n b = sBg G v (n + 1) b
  | 0, b, hb, h => absurd (dep_pos hw hb) (by omega)
  | n + 1, b, hb, h => by
    rw [sBg, sBg]
    by_cases h1 : bp (PM G v b) = true
    · rw [if_pos h1, if_pos h1]
    · rw [if_neg h1, if_neg h1]
      by_cases h0 : b = 0
      · rw [if_pos h0, if_pos h0]
      · rw [if_neg h0, if_neg h0, sBg_fuel hw n (par G b) (par_rc hw hb h0) (by have := dep_par hw hb h0; omega)]
theorem srcB_m {v b : Nat} (h : bp (PM G v b) = true) : srcB G v b = 1000 + b := sBg_m h
theorem srcB_0 {v : Nat} (h : bp (PM G v 0) = false) : srcB G v 0 = 2000 := sBg_0 h
theorem srcB_p (hw : Wf G) {v b : Nat} (hb : Rc G b) (h : bp (PM G v b) = false) (h0 : b ≠ 0) : srcB G v b = srcX G v (par G b) (srcB G v (par G b)) := by
  have e : srcB G v b = sBg G v 15 b := sBg_fuel hw 14 b hb (dep_le G b)
  rw [e, sBg, if_neg (by rw [h]; decide), if_neg h0]
  rfl
theorem ctX6_beginSource_1 (hM : ML σ m) (hG : GM mi m G) (hw : Wf G) (h2 : ∀ b, Rc G b → b ≠ 0 → mi (m + 49) b = nI (par G b)) {v b : Nat} (hv : v < 4) (h3 : mi (m + 53) v = msk (fun b => bp (PM G v b))) (hb : Rc G b) (hd : dep G b ≤ 1) : Ct κ 0 0 3 mrX6_beginSource [.ref m, .int (nI b), .int (nI v)] (MM σ mi ml) (.inl (some (.int (nI (srcB G v b))))) (MM σ mi ml) := by
  refine Ct.of rfl (by simp [Value.category]) (Nat.le_of_ble_eq_true rfl) ?_
  have hb2 := hb.lt14 hw
  refine V_aload_n dX6_beginSource_0 rfl rfl ?_
  refine V_getR frX6_65 hM.1 rfl dX6_beginSource_1 ?_
  refine V_iload_n dX6_beginSource_4 rfl rfl ?_
  refine V_ialdE hM.2.2.2.2.2.2.2.2.2.2.2.2.1 v rfl (by omega) (by decide) h3 dX6_beginSource_5 ?_
  refine V_iload_n dX6_beginSource_6 rfl rfl ?_
  refine V_cs1 (ctX6_hasM hb2) msX6_has lkX6_158 rfl rfl (Nat.le_of_ble_eq_true rfl) ⟨⟨Nat.le_of_ble_eq_true rfl, Nat.le_of_ble_eq_true rfl⟩, Nat.le_of_ble_eq_true rfl, Nat.le_of_ble_eq_true rfl⟩ dX6_beginSource_7 ?_
  refine V_ifeqB 19 dX6_beginSource_10 (by decide) (fun h10 => ?_) (fun h10 => ?_)
  · refine V_iload_n dX6_beginSource_19 rfl rfl ?_
    refine V_Z_ne (by omega) 27 dX6_beginSource_20 (by decide) (fun h20 => ?_) (fun h20 => ?_)
    · exfalso
      have := dep_par hw hb h20
      have := dep_pos hw (par_rc hw hb h20)
      omega
    · refine V_sipush (v := nI 2000) dX6_beginSource_23 (by decide) ?_
      exact V_iret rfl (oI (by subst h20; rw [srcB_0 h10])) rfl ⟨Nat.le_of_ble_eq_true rfl, Nat.le_of_ble_eq_true rfl⟩ dX6_beginSource_26
  · refine V_sipush (v := nI 1000) dX6_beginSource_13 (by decide) ?_
    refine V_iload_n dX6_beginSource_16 rfl rfl ?_
    refine V_iadd dX6_beginSource_17 ?_
    exact V_iret rfl (oI (by rw [nI_add, srcB_m h10])) rfl ⟨Nat.le_of_ble_eq_true rfl, Nat.le_of_ble_eq_true rfl⟩ dX6_beginSource_18

theorem ctX6_beginSource_2 (hM : ML σ m) (hG : GM mi m G) (hw : Wf G) (h2 : ∀ b, Rc G b → b ≠ 0 → mi (m + 49) b = nI (par G b)) {v b : Nat} (hv : v < 4) (h3 : mi (m + 53) v = msk (fun b => bp (PM G v b))) (hb : Rc G b) (hd : dep G b ≤ 2) : Ct κ 0 0 4 mrX6_beginSource [.ref m, .int (nI b), .int (nI v)] (MM σ mi ml) (.inl (some (.int (nI (srcB G v b))))) (MM σ mi ml) := by
  refine Ct.of rfl (by simp [Value.category]) (Nat.le_of_ble_eq_true rfl) ?_
  have hb2 := hb.lt14 hw
  refine V_aload_n dX6_beginSource_0 rfl rfl ?_
  refine V_getR frX6_65 hM.1 rfl dX6_beginSource_1 ?_
  refine V_iload_n dX6_beginSource_4 rfl rfl ?_
  refine V_ialdE hM.2.2.2.2.2.2.2.2.2.2.2.2.1 v rfl (by omega) (by decide) h3 dX6_beginSource_5 ?_
  refine V_iload_n dX6_beginSource_6 rfl rfl ?_
  refine V_cs1 (ctX6_hasM hb2) msX6_has lkX6_158 rfl rfl (Nat.le_of_ble_eq_true rfl) ⟨⟨Nat.le_of_ble_eq_true rfl, Nat.le_of_ble_eq_true rfl⟩, Nat.le_of_ble_eq_true rfl, Nat.le_of_ble_eq_true rfl⟩ dX6_beginSource_7 ?_
  refine V_ifeqB 19 dX6_beginSource_10 (by decide) (fun h10 => ?_) (fun h10 => ?_)
  · refine V_iload_n dX6_beginSource_19 rfl rfl ?_
    refine V_Z_ne (by omega) 27 dX6_beginSource_20 (by decide) (fun h20 => ?_) (fun h20 => ?_)
    · have hp14 := par14 hw hb h20
      refine V_aload_n dX6_beginSource_27 rfl rfl ?_
      refine V_aload_n dX6_beginSource_28 rfl rfl ?_
      refine V_getR frX6_53 hM.1 rfl dX6_beginSource_29 ?_
      refine V_iload_n dX6_beginSource_32 rfl rfl ?_
      refine V_ialdE hM.2.2.2.2.2.2.2.2.1 b rfl (by omega) (by decide) (h2 b hb h20) dX6_beginSource_33 ?_
      refine V_iload_n dX6_beginSource_34 rfl rfl ?_
      refine V_aload_n dX6_beginSource_35 rfl rfl ?_
      refine V_aload_n dX6_beginSource_36 rfl rfl ?_
      refine V_getR frX6_53 hM.1 rfl dX6_beginSource_37 ?_
      refine V_iload_n dX6_beginSource_40 rfl rfl ?_
      refine V_ialdE hM.2.2.2.2.2.2.2.2.1 b rfl (by omega) (by decide) (h2 b hb h20) dX6_beginSource_41 ?_
      refine V_iload_n dX6_beginSource_42 rfl rfl ?_
      refine V_cv1 (ctX6_beginSource_1 hM hG hw h2 hv h3 (par_rc hw hb h20) (by have := dep_par hw hb h20; omega)) mvX6_beginSource lkX6_174 hM.1 rfl rfl rfl (Nat.le_of_ble_eq_true rfl) ⟨⟨Nat.le_of_ble_eq_true rfl, Nat.le_of_ble_eq_true rfl⟩, Nat.le_of_ble_eq_true rfl, Nat.le_of_ble_eq_true rfl⟩ dX6_beginSource_43 ?_
      refine V_cv1 (ctX6_endSource hM hG hw hp14 hv) mvX6_endSource lkX6_177 hM.1 rfl rfl rfl (Nat.le_of_ble_eq_true rfl) ⟨⟨Nat.le_of_ble_eq_true rfl, Nat.le_of_ble_eq_true rfl⟩, Nat.le_of_ble_eq_true rfl, Nat.le_of_ble_eq_true rfl⟩ dX6_beginSource_46 ?_
      exact V_iret rfl (oI (by rw [srcB_p hw hb h10 h20])) rfl ⟨Nat.le_of_ble_eq_true rfl, Nat.le_of_ble_eq_true rfl⟩ dX6_beginSource_49
    · refine V_sipush (v := nI 2000) dX6_beginSource_23 (by decide) ?_
      exact V_iret rfl (oI (by subst h20; rw [srcB_0 h10])) rfl ⟨Nat.le_of_ble_eq_true rfl, Nat.le_of_ble_eq_true rfl⟩ dX6_beginSource_26
  · refine V_sipush (v := nI 1000) dX6_beginSource_13 (by decide) ?_
    refine V_iload_n dX6_beginSource_16 rfl rfl ?_
    refine V_iadd dX6_beginSource_17 ?_
    exact V_iret rfl (oI (by rw [nI_add, srcB_m h10])) rfl ⟨Nat.le_of_ble_eq_true rfl, Nat.le_of_ble_eq_true rfl⟩ dX6_beginSource_18

theorem ctX6_beginSource_3 (hM : ML σ m) (hG : GM mi m G) (hw : Wf G) (h2 : ∀ b, Rc G b → b ≠ 0 → mi (m + 49) b = nI (par G b)) {v b : Nat} (hv : v < 4) (h3 : mi (m + 53) v = msk (fun b => bp (PM G v b))) (hb : Rc G b) (hd : dep G b ≤ 3) : Ct κ 0 0 5 mrX6_beginSource [.ref m, .int (nI b), .int (nI v)] (MM σ mi ml) (.inl (some (.int (nI (srcB G v b))))) (MM σ mi ml) := by
  refine Ct.of rfl (by simp [Value.category]) (Nat.le_of_ble_eq_true rfl) ?_
  have hb2 := hb.lt14 hw
  refine V_aload_n dX6_beginSource_0 rfl rfl ?_
  refine V_getR frX6_65 hM.1 rfl dX6_beginSource_1 ?_
  refine V_iload_n dX6_beginSource_4 rfl rfl ?_
  refine V_ialdE hM.2.2.2.2.2.2.2.2.2.2.2.2.1 v rfl (by omega) (by decide) h3 dX6_beginSource_5 ?_
  refine V_iload_n dX6_beginSource_6 rfl rfl ?_
  refine V_cs1 (ctX6_hasM hb2) msX6_has lkX6_158 rfl rfl (Nat.le_of_ble_eq_true rfl) ⟨⟨Nat.le_of_ble_eq_true rfl, Nat.le_of_ble_eq_true rfl⟩, Nat.le_of_ble_eq_true rfl, Nat.le_of_ble_eq_true rfl⟩ dX6_beginSource_7 ?_
  refine V_ifeqB 19 dX6_beginSource_10 (by decide) (fun h10 => ?_) (fun h10 => ?_)
  · refine V_iload_n dX6_beginSource_19 rfl rfl ?_
    refine V_Z_ne (by omega) 27 dX6_beginSource_20 (by decide) (fun h20 => ?_) (fun h20 => ?_)
    · have hp14 := par14 hw hb h20
      refine V_aload_n dX6_beginSource_27 rfl rfl ?_
      refine V_aload_n dX6_beginSource_28 rfl rfl ?_
      refine V_getR frX6_53 hM.1 rfl dX6_beginSource_29 ?_
      refine V_iload_n dX6_beginSource_32 rfl rfl ?_
      refine V_ialdE hM.2.2.2.2.2.2.2.2.1 b rfl (by omega) (by decide) (h2 b hb h20) dX6_beginSource_33 ?_
      refine V_iload_n dX6_beginSource_34 rfl rfl ?_
      refine V_aload_n dX6_beginSource_35 rfl rfl ?_
      refine V_aload_n dX6_beginSource_36 rfl rfl ?_
      refine V_getR frX6_53 hM.1 rfl dX6_beginSource_37 ?_
      refine V_iload_n dX6_beginSource_40 rfl rfl ?_
      refine V_ialdE hM.2.2.2.2.2.2.2.2.1 b rfl (by omega) (by decide) (h2 b hb h20) dX6_beginSource_41 ?_
      refine V_iload_n dX6_beginSource_42 rfl rfl ?_
      refine V_cv1 (ctX6_beginSource_2 hM hG hw h2 hv h3 (par_rc hw hb h20) (by have := dep_par hw hb h20; omega)) mvX6_beginSource lkX6_174 hM.1 rfl rfl rfl (Nat.le_of_ble_eq_true rfl) ⟨⟨Nat.le_of_ble_eq_true rfl, Nat.le_of_ble_eq_true rfl⟩, Nat.le_of_ble_eq_true rfl, Nat.le_of_ble_eq_true rfl⟩ dX6_beginSource_43 ?_
      refine V_cv1 (ctX6_endSource hM hG hw hp14 hv) mvX6_endSource lkX6_177 hM.1 rfl rfl rfl (Nat.le_of_ble_eq_true rfl) ⟨⟨Nat.le_of_ble_eq_true rfl, Nat.le_of_ble_eq_true rfl⟩, Nat.le_of_ble_eq_true rfl, Nat.le_of_ble_eq_true rfl⟩ dX6_beginSource_46 ?_
      exact V_iret rfl (oI (by rw [srcB_p hw hb h10 h20])) rfl ⟨Nat.le_of_ble_eq_true rfl, Nat.le_of_ble_eq_true rfl⟩ dX6_beginSource_49
    · refine V_sipush (v := nI 2000) dX6_beginSource_23 (by decide) ?_
      exact V_iret rfl (oI (by subst h20; rw [srcB_0 h10])) rfl ⟨Nat.le_of_ble_eq_true rfl, Nat.le_of_ble_eq_true rfl⟩ dX6_beginSource_26
  · refine V_sipush (v := nI 1000) dX6_beginSource_13 (by decide) ?_
    refine V_iload_n dX6_beginSource_16 rfl rfl ?_
    refine V_iadd dX6_beginSource_17 ?_
    exact V_iret rfl (oI (by rw [nI_add, srcB_m h10])) rfl ⟨Nat.le_of_ble_eq_true rfl, Nat.le_of_ble_eq_true rfl⟩ dX6_beginSource_18

theorem ctX6_beginSource_4 (hM : ML σ m) (hG : GM mi m G) (hw : Wf G) (h2 : ∀ b, Rc G b → b ≠ 0 → mi (m + 49) b = nI (par G b)) {v b : Nat} (hv : v < 4) (h3 : mi (m + 53) v = msk (fun b => bp (PM G v b))) (hb : Rc G b) (hd : dep G b ≤ 4) : Ct κ 0 0 6 mrX6_beginSource [.ref m, .int (nI b), .int (nI v)] (MM σ mi ml) (.inl (some (.int (nI (srcB G v b))))) (MM σ mi ml) := by
  refine Ct.of rfl (by simp [Value.category]) (Nat.le_of_ble_eq_true rfl) ?_
  have hb2 := hb.lt14 hw
  refine V_aload_n dX6_beginSource_0 rfl rfl ?_
  refine V_getR frX6_65 hM.1 rfl dX6_beginSource_1 ?_
  refine V_iload_n dX6_beginSource_4 rfl rfl ?_
  refine V_ialdE hM.2.2.2.2.2.2.2.2.2.2.2.2.1 v rfl (by omega) (by decide) h3 dX6_beginSource_5 ?_
  refine V_iload_n dX6_beginSource_6 rfl rfl ?_
  refine V_cs1 (ctX6_hasM hb2) msX6_has lkX6_158 rfl rfl (Nat.le_of_ble_eq_true rfl) ⟨⟨Nat.le_of_ble_eq_true rfl, Nat.le_of_ble_eq_true rfl⟩, Nat.le_of_ble_eq_true rfl, Nat.le_of_ble_eq_true rfl⟩ dX6_beginSource_7 ?_
  refine V_ifeqB 19 dX6_beginSource_10 (by decide) (fun h10 => ?_) (fun h10 => ?_)
  · refine V_iload_n dX6_beginSource_19 rfl rfl ?_
    refine V_Z_ne (by omega) 27 dX6_beginSource_20 (by decide) (fun h20 => ?_) (fun h20 => ?_)
    · have hp14 := par14 hw hb h20
      refine V_aload_n dX6_beginSource_27 rfl rfl ?_
      refine V_aload_n dX6_beginSource_28 rfl rfl ?_
      refine V_getR frX6_53 hM.1 rfl dX6_beginSource_29 ?_
      refine V_iload_n dX6_beginSource_32 rfl rfl ?_
      refine V_ialdE hM.2.2.2.2.2.2.2.2.1 b rfl (by omega) (by decide) (h2 b hb h20) dX6_beginSource_33 ?_
      refine V_iload_n dX6_beginSource_34 rfl rfl ?_
      refine V_aload_n dX6_beginSource_35 rfl rfl ?_
      refine V_aload_n dX6_beginSource_36 rfl rfl ?_
      refine V_getR frX6_53 hM.1 rfl dX6_beginSource_37 ?_
      refine V_iload_n dX6_beginSource_40 rfl rfl ?_
      refine V_ialdE hM.2.2.2.2.2.2.2.2.1 b rfl (by omega) (by decide) (h2 b hb h20) dX6_beginSource_41 ?_
      refine V_iload_n dX6_beginSource_42 rfl rfl ?_
      refine V_cv1 (ctX6_beginSource_3 hM hG hw h2 hv h3 (par_rc hw hb h20) (by have := dep_par hw hb h20; omega)) mvX6_beginSource lkX6_174 hM.1 rfl rfl rfl (Nat.le_of_ble_eq_true rfl) ⟨⟨Nat.le_of_ble_eq_true rfl, Nat.le_of_ble_eq_true rfl⟩, Nat.le_of_ble_eq_true rfl, Nat.le_of_ble_eq_true rfl⟩ dX6_beginSource_43 ?_
      refine V_cv1 (ctX6_endSource hM hG hw hp14 hv) mvX6_endSource lkX6_177 hM.1 rfl rfl rfl (Nat.le_of_ble_eq_true rfl) ⟨⟨Nat.le_of_ble_eq_true rfl, Nat.le_of_ble_eq_true rfl⟩, Nat.le_of_ble_eq_true rfl, Nat.le_of_ble_eq_true rfl⟩ dX6_beginSource_46 ?_
      exact V_iret rfl (oI (by rw [srcB_p hw hb h10 h20])) rfl ⟨Nat.le_of_ble_eq_true rfl, Nat.le_of_ble_eq_true rfl⟩ dX6_beginSource_49
    · refine V_sipush (v := nI 2000) dX6_beginSource_23 (by decide) ?_
      exact V_iret rfl (oI (by subst h20; rw [srcB_0 h10])) rfl ⟨Nat.le_of_ble_eq_true rfl, Nat.le_of_ble_eq_true rfl⟩ dX6_beginSource_26
  · refine V_sipush (v := nI 1000) dX6_beginSource_13 (by decide) ?_
    refine V_iload_n dX6_beginSource_16 rfl rfl ?_
    refine V_iadd dX6_beginSource_17 ?_
    exact V_iret rfl (oI (by rw [nI_add, srcB_m h10])) rfl ⟨Nat.le_of_ble_eq_true rfl, Nat.le_of_ble_eq_true rfl⟩ dX6_beginSource_18

theorem ctX6_beginSource_5 (hM : ML σ m) (hG : GM mi m G) (hw : Wf G) (h2 : ∀ b, Rc G b → b ≠ 0 → mi (m + 49) b = nI (par G b)) {v b : Nat} (hv : v < 4) (h3 : mi (m + 53) v = msk (fun b => bp (PM G v b))) (hb : Rc G b) (hd : dep G b ≤ 5) : Ct κ 0 0 7 mrX6_beginSource [.ref m, .int (nI b), .int (nI v)] (MM σ mi ml) (.inl (some (.int (nI (srcB G v b))))) (MM σ mi ml) := by
  refine Ct.of rfl (by simp [Value.category]) (Nat.le_of_ble_eq_true rfl) ?_
  have hb2 := hb.lt14 hw
  refine V_aload_n dX6_beginSource_0 rfl rfl ?_
  refine V_getR frX6_65 hM.1 rfl dX6_beginSource_1 ?_
  refine V_iload_n dX6_beginSource_4 rfl rfl ?_
  refine V_ialdE hM.2.2.2.2.2.2.2.2.2.2.2.2.1 v rfl (by omega) (by decide) h3 dX6_beginSource_5 ?_
  refine V_iload_n dX6_beginSource_6 rfl rfl ?_
  refine V_cs1 (ctX6_hasM hb2) msX6_has lkX6_158 rfl rfl (Nat.le_of_ble_eq_true rfl) ⟨⟨Nat.le_of_ble_eq_true rfl, Nat.le_of_ble_eq_true rfl⟩, Nat.le_of_ble_eq_true rfl, Nat.le_of_ble_eq_true rfl⟩ dX6_beginSource_7 ?_
  refine V_ifeqB 19 dX6_beginSource_10 (by decide) (fun h10 => ?_) (fun h10 => ?_)
  · refine V_iload_n dX6_beginSource_19 rfl rfl ?_
    refine V_Z_ne (by omega) 27 dX6_beginSource_20 (by decide) (fun h20 => ?_) (fun h20 => ?_)
    · have hp14 := par14 hw hb h20
      refine V_aload_n dX6_beginSource_27 rfl rfl ?_
      refine V_aload_n dX6_beginSource_28 rfl rfl ?_
      refine V_getR frX6_53 hM.1 rfl dX6_beginSource_29 ?_
      refine V_iload_n dX6_beginSource_32 rfl rfl ?_
      refine V_ialdE hM.2.2.2.2.2.2.2.2.1 b rfl (by omega) (by decide) (h2 b hb h20) dX6_beginSource_33 ?_
      refine V_iload_n dX6_beginSource_34 rfl rfl ?_
      refine V_aload_n dX6_beginSource_35 rfl rfl ?_
      refine V_aload_n dX6_beginSource_36 rfl rfl ?_
      refine V_getR frX6_53 hM.1 rfl dX6_beginSource_37 ?_
      refine V_iload_n dX6_beginSource_40 rfl rfl ?_
      refine V_ialdE hM.2.2.2.2.2.2.2.2.1 b rfl (by omega) (by decide) (h2 b hb h20) dX6_beginSource_41 ?_
      refine V_iload_n dX6_beginSource_42 rfl rfl ?_
      refine V_cv1 (ctX6_beginSource_4 hM hG hw h2 hv h3 (par_rc hw hb h20) (by have := dep_par hw hb h20; omega)) mvX6_beginSource lkX6_174 hM.1 rfl rfl rfl (Nat.le_of_ble_eq_true rfl) ⟨⟨Nat.le_of_ble_eq_true rfl, Nat.le_of_ble_eq_true rfl⟩, Nat.le_of_ble_eq_true rfl, Nat.le_of_ble_eq_true rfl⟩ dX6_beginSource_43 ?_
      refine V_cv1 (ctX6_endSource hM hG hw hp14 hv) mvX6_endSource lkX6_177 hM.1 rfl rfl rfl (Nat.le_of_ble_eq_true rfl) ⟨⟨Nat.le_of_ble_eq_true rfl, Nat.le_of_ble_eq_true rfl⟩, Nat.le_of_ble_eq_true rfl, Nat.le_of_ble_eq_true rfl⟩ dX6_beginSource_46 ?_
      exact V_iret rfl (oI (by rw [srcB_p hw hb h10 h20])) rfl ⟨Nat.le_of_ble_eq_true rfl, Nat.le_of_ble_eq_true rfl⟩ dX6_beginSource_49
    · refine V_sipush (v := nI 2000) dX6_beginSource_23 (by decide) ?_
      exact V_iret rfl (oI (by subst h20; rw [srcB_0 h10])) rfl ⟨Nat.le_of_ble_eq_true rfl, Nat.le_of_ble_eq_true rfl⟩ dX6_beginSource_26
  · refine V_sipush (v := nI 1000) dX6_beginSource_13 (by decide) ?_
    refine V_iload_n dX6_beginSource_16 rfl rfl ?_
    refine V_iadd dX6_beginSource_17 ?_
    exact V_iret rfl (oI (by rw [nI_add, srcB_m h10])) rfl ⟨Nat.le_of_ble_eq_true rfl, Nat.le_of_ble_eq_true rfl⟩ dX6_beginSource_18

theorem ctX6_beginSource_6 (hM : ML σ m) (hG : GM mi m G) (hw : Wf G) (h2 : ∀ b, Rc G b → b ≠ 0 → mi (m + 49) b = nI (par G b)) {v b : Nat} (hv : v < 4) (h3 : mi (m + 53) v = msk (fun b => bp (PM G v b))) (hb : Rc G b) (hd : dep G b ≤ 6) : Ct κ 0 0 8 mrX6_beginSource [.ref m, .int (nI b), .int (nI v)] (MM σ mi ml) (.inl (some (.int (nI (srcB G v b))))) (MM σ mi ml) := by
  refine Ct.of rfl (by simp [Value.category]) (Nat.le_of_ble_eq_true rfl) ?_
  have hb2 := hb.lt14 hw
  refine V_aload_n dX6_beginSource_0 rfl rfl ?_
  refine V_getR frX6_65 hM.1 rfl dX6_beginSource_1 ?_
  refine V_iload_n dX6_beginSource_4 rfl rfl ?_
  refine V_ialdE hM.2.2.2.2.2.2.2.2.2.2.2.2.1 v rfl (by omega) (by decide) h3 dX6_beginSource_5 ?_
  refine V_iload_n dX6_beginSource_6 rfl rfl ?_
  refine V_cs1 (ctX6_hasM hb2) msX6_has lkX6_158 rfl rfl (Nat.le_of_ble_eq_true rfl) ⟨⟨Nat.le_of_ble_eq_true rfl, Nat.le_of_ble_eq_true rfl⟩, Nat.le_of_ble_eq_true rfl, Nat.le_of_ble_eq_true rfl⟩ dX6_beginSource_7 ?_
  refine V_ifeqB 19 dX6_beginSource_10 (by decide) (fun h10 => ?_) (fun h10 => ?_)
  · refine V_iload_n dX6_beginSource_19 rfl rfl ?_
    refine V_Z_ne (by omega) 27 dX6_beginSource_20 (by decide) (fun h20 => ?_) (fun h20 => ?_)
    · have hp14 := par14 hw hb h20
      refine V_aload_n dX6_beginSource_27 rfl rfl ?_
      refine V_aload_n dX6_beginSource_28 rfl rfl ?_
      refine V_getR frX6_53 hM.1 rfl dX6_beginSource_29 ?_
      refine V_iload_n dX6_beginSource_32 rfl rfl ?_
      refine V_ialdE hM.2.2.2.2.2.2.2.2.1 b rfl (by omega) (by decide) (h2 b hb h20) dX6_beginSource_33 ?_
      refine V_iload_n dX6_beginSource_34 rfl rfl ?_
      refine V_aload_n dX6_beginSource_35 rfl rfl ?_
      refine V_aload_n dX6_beginSource_36 rfl rfl ?_
      refine V_getR frX6_53 hM.1 rfl dX6_beginSource_37 ?_
      refine V_iload_n dX6_beginSource_40 rfl rfl ?_
      refine V_ialdE hM.2.2.2.2.2.2.2.2.1 b rfl (by omega) (by decide) (h2 b hb h20) dX6_beginSource_41 ?_
      refine V_iload_n dX6_beginSource_42 rfl rfl ?_
      refine V_cv1 (ctX6_beginSource_5 hM hG hw h2 hv h3 (par_rc hw hb h20) (by have := dep_par hw hb h20; omega)) mvX6_beginSource lkX6_174 hM.1 rfl rfl rfl (Nat.le_of_ble_eq_true rfl) ⟨⟨Nat.le_of_ble_eq_true rfl, Nat.le_of_ble_eq_true rfl⟩, Nat.le_of_ble_eq_true rfl, Nat.le_of_ble_eq_true rfl⟩ dX6_beginSource_43 ?_
      refine V_cv1 (ctX6_endSource hM hG hw hp14 hv) mvX6_endSource lkX6_177 hM.1 rfl rfl rfl (Nat.le_of_ble_eq_true rfl) ⟨⟨Nat.le_of_ble_eq_true rfl, Nat.le_of_ble_eq_true rfl⟩, Nat.le_of_ble_eq_true rfl, Nat.le_of_ble_eq_true rfl⟩ dX6_beginSource_46 ?_
      exact V_iret rfl (oI (by rw [srcB_p hw hb h10 h20])) rfl ⟨Nat.le_of_ble_eq_true rfl, Nat.le_of_ble_eq_true rfl⟩ dX6_beginSource_49
    · refine V_sipush (v := nI 2000) dX6_beginSource_23 (by decide) ?_
      exact V_iret rfl (oI (by subst h20; rw [srcB_0 h10])) rfl ⟨Nat.le_of_ble_eq_true rfl, Nat.le_of_ble_eq_true rfl⟩ dX6_beginSource_26
  · refine V_sipush (v := nI 1000) dX6_beginSource_13 (by decide) ?_
    refine V_iload_n dX6_beginSource_16 rfl rfl ?_
    refine V_iadd dX6_beginSource_17 ?_
    exact V_iret rfl (oI (by rw [nI_add, srcB_m h10])) rfl ⟨Nat.le_of_ble_eq_true rfl, Nat.le_of_ble_eq_true rfl⟩ dX6_beginSource_18

theorem ctX6_beginSource_7 (hM : ML σ m) (hG : GM mi m G) (hw : Wf G) (h2 : ∀ b, Rc G b → b ≠ 0 → mi (m + 49) b = nI (par G b)) {v b : Nat} (hv : v < 4) (h3 : mi (m + 53) v = msk (fun b => bp (PM G v b))) (hb : Rc G b) (hd : dep G b ≤ 7) : Ct κ 0 0 9 mrX6_beginSource [.ref m, .int (nI b), .int (nI v)] (MM σ mi ml) (.inl (some (.int (nI (srcB G v b))))) (MM σ mi ml) := by
  refine Ct.of rfl (by simp [Value.category]) (Nat.le_of_ble_eq_true rfl) ?_
  have hb2 := hb.lt14 hw
  refine V_aload_n dX6_beginSource_0 rfl rfl ?_
  refine V_getR frX6_65 hM.1 rfl dX6_beginSource_1 ?_
  refine V_iload_n dX6_beginSource_4 rfl rfl ?_
  refine V_ialdE hM.2.2.2.2.2.2.2.2.2.2.2.2.1 v rfl (by omega) (by decide) h3 dX6_beginSource_5 ?_
  refine V_iload_n dX6_beginSource_6 rfl rfl ?_
  refine V_cs1 (ctX6_hasM hb2) msX6_has lkX6_158 rfl rfl (Nat.le_of_ble_eq_true rfl) ⟨⟨Nat.le_of_ble_eq_true rfl, Nat.le_of_ble_eq_true rfl⟩, Nat.le_of_ble_eq_true rfl, Nat.le_of_ble_eq_true rfl⟩ dX6_beginSource_7 ?_
  refine V_ifeqB 19 dX6_beginSource_10 (by decide) (fun h10 => ?_) (fun h10 => ?_)
  · refine V_iload_n dX6_beginSource_19 rfl rfl ?_
    refine V_Z_ne (by omega) 27 dX6_beginSource_20 (by decide) (fun h20 => ?_) (fun h20 => ?_)
    · have hp14 := par14 hw hb h20
      refine V_aload_n dX6_beginSource_27 rfl rfl ?_
      refine V_aload_n dX6_beginSource_28 rfl rfl ?_
      refine V_getR frX6_53 hM.1 rfl dX6_beginSource_29 ?_
      refine V_iload_n dX6_beginSource_32 rfl rfl ?_
      refine V_ialdE hM.2.2.2.2.2.2.2.2.1 b rfl (by omega) (by decide) (h2 b hb h20) dX6_beginSource_33 ?_
      refine V_iload_n dX6_beginSource_34 rfl rfl ?_
      refine V_aload_n dX6_beginSource_35 rfl rfl ?_
      refine V_aload_n dX6_beginSource_36 rfl rfl ?_
      refine V_getR frX6_53 hM.1 rfl dX6_beginSource_37 ?_
      refine V_iload_n dX6_beginSource_40 rfl rfl ?_
      refine V_ialdE hM.2.2.2.2.2.2.2.2.1 b rfl (by omega) (by decide) (h2 b hb h20) dX6_beginSource_41 ?_
      refine V_iload_n dX6_beginSource_42 rfl rfl ?_
      refine V_cv1 (ctX6_beginSource_6 hM hG hw h2 hv h3 (par_rc hw hb h20) (by have := dep_par hw hb h20; omega)) mvX6_beginSource lkX6_174 hM.1 rfl rfl rfl (Nat.le_of_ble_eq_true rfl) ⟨⟨Nat.le_of_ble_eq_true rfl, Nat.le_of_ble_eq_true rfl⟩, Nat.le_of_ble_eq_true rfl, Nat.le_of_ble_eq_true rfl⟩ dX6_beginSource_43 ?_
      refine V_cv1 (ctX6_endSource hM hG hw hp14 hv) mvX6_endSource lkX6_177 hM.1 rfl rfl rfl (Nat.le_of_ble_eq_true rfl) ⟨⟨Nat.le_of_ble_eq_true rfl, Nat.le_of_ble_eq_true rfl⟩, Nat.le_of_ble_eq_true rfl, Nat.le_of_ble_eq_true rfl⟩ dX6_beginSource_46 ?_
      exact V_iret rfl (oI (by rw [srcB_p hw hb h10 h20])) rfl ⟨Nat.le_of_ble_eq_true rfl, Nat.le_of_ble_eq_true rfl⟩ dX6_beginSource_49
    · refine V_sipush (v := nI 2000) dX6_beginSource_23 (by decide) ?_
      exact V_iret rfl (oI (by subst h20; rw [srcB_0 h10])) rfl ⟨Nat.le_of_ble_eq_true rfl, Nat.le_of_ble_eq_true rfl⟩ dX6_beginSource_26
  · refine V_sipush (v := nI 1000) dX6_beginSource_13 (by decide) ?_
    refine V_iload_n dX6_beginSource_16 rfl rfl ?_
    refine V_iadd dX6_beginSource_17 ?_
    exact V_iret rfl (oI (by rw [nI_add, srcB_m h10])) rfl ⟨Nat.le_of_ble_eq_true rfl, Nat.le_of_ble_eq_true rfl⟩ dX6_beginSource_18

theorem ctX6_beginSource_8 (hM : ML σ m) (hG : GM mi m G) (hw : Wf G) (h2 : ∀ b, Rc G b → b ≠ 0 → mi (m + 49) b = nI (par G b)) {v b : Nat} (hv : v < 4) (h3 : mi (m + 53) v = msk (fun b => bp (PM G v b))) (hb : Rc G b) (hd : dep G b ≤ 8) : Ct κ 0 0 10 mrX6_beginSource [.ref m, .int (nI b), .int (nI v)] (MM σ mi ml) (.inl (some (.int (nI (srcB G v b))))) (MM σ mi ml) := by
  refine Ct.of rfl (by simp [Value.category]) (Nat.le_of_ble_eq_true rfl) ?_
  have hb2 := hb.lt14 hw
  refine V_aload_n dX6_beginSource_0 rfl rfl ?_
  refine V_getR frX6_65 hM.1 rfl dX6_beginSource_1 ?_
  refine V_iload_n dX6_beginSource_4 rfl rfl ?_
  refine V_ialdE hM.2.2.2.2.2.2.2.2.2.2.2.2.1 v rfl (by omega) (by decide) h3 dX6_beginSource_5 ?_
  refine V_iload_n dX6_beginSource_6 rfl rfl ?_
  refine V_cs1 (ctX6_hasM hb2) msX6_has lkX6_158 rfl rfl (Nat.le_of_ble_eq_true rfl) ⟨⟨Nat.le_of_ble_eq_true rfl, Nat.le_of_ble_eq_true rfl⟩, Nat.le_of_ble_eq_true rfl, Nat.le_of_ble_eq_true rfl⟩ dX6_beginSource_7 ?_
  refine V_ifeqB 19 dX6_beginSource_10 (by decide) (fun h10 => ?_) (fun h10 => ?_)
  · refine V_iload_n dX6_beginSource_19 rfl rfl ?_
    refine V_Z_ne (by omega) 27 dX6_beginSource_20 (by decide) (fun h20 => ?_) (fun h20 => ?_)
    · have hp14 := par14 hw hb h20
      refine V_aload_n dX6_beginSource_27 rfl rfl ?_
      refine V_aload_n dX6_beginSource_28 rfl rfl ?_
      refine V_getR frX6_53 hM.1 rfl dX6_beginSource_29 ?_
      refine V_iload_n dX6_beginSource_32 rfl rfl ?_
      refine V_ialdE hM.2.2.2.2.2.2.2.2.1 b rfl (by omega) (by decide) (h2 b hb h20) dX6_beginSource_33 ?_
      refine V_iload_n dX6_beginSource_34 rfl rfl ?_
      refine V_aload_n dX6_beginSource_35 rfl rfl ?_
      refine V_aload_n dX6_beginSource_36 rfl rfl ?_
      refine V_getR frX6_53 hM.1 rfl dX6_beginSource_37 ?_
      refine V_iload_n dX6_beginSource_40 rfl rfl ?_
      refine V_ialdE hM.2.2.2.2.2.2.2.2.1 b rfl (by omega) (by decide) (h2 b hb h20) dX6_beginSource_41 ?_
      refine V_iload_n dX6_beginSource_42 rfl rfl ?_
      refine V_cv1 (ctX6_beginSource_7 hM hG hw h2 hv h3 (par_rc hw hb h20) (by have := dep_par hw hb h20; omega)) mvX6_beginSource lkX6_174 hM.1 rfl rfl rfl (Nat.le_of_ble_eq_true rfl) ⟨⟨Nat.le_of_ble_eq_true rfl, Nat.le_of_ble_eq_true rfl⟩, Nat.le_of_ble_eq_true rfl, Nat.le_of_ble_eq_true rfl⟩ dX6_beginSource_43 ?_
      refine V_cv1 (ctX6_endSource hM hG hw hp14 hv) mvX6_endSource lkX6_177 hM.1 rfl rfl rfl (Nat.le_of_ble_eq_true rfl) ⟨⟨Nat.le_of_ble_eq_true rfl, Nat.le_of_ble_eq_true rfl⟩, Nat.le_of_ble_eq_true rfl, Nat.le_of_ble_eq_true rfl⟩ dX6_beginSource_46 ?_
      exact V_iret rfl (oI (by rw [srcB_p hw hb h10 h20])) rfl ⟨Nat.le_of_ble_eq_true rfl, Nat.le_of_ble_eq_true rfl⟩ dX6_beginSource_49
    · refine V_sipush (v := nI 2000) dX6_beginSource_23 (by decide) ?_
      exact V_iret rfl (oI (by subst h20; rw [srcB_0 h10])) rfl ⟨Nat.le_of_ble_eq_true rfl, Nat.le_of_ble_eq_true rfl⟩ dX6_beginSource_26
  · refine V_sipush (v := nI 1000) dX6_beginSource_13 (by decide) ?_
    refine V_iload_n dX6_beginSource_16 rfl rfl ?_
    refine V_iadd dX6_beginSource_17 ?_
    exact V_iret rfl (oI (by rw [nI_add, srcB_m h10])) rfl ⟨Nat.le_of_ble_eq_true rfl, Nat.le_of_ble_eq_true rfl⟩ dX6_beginSource_18

theorem ctX6_beginSource_9 (hM : ML σ m) (hG : GM mi m G) (hw : Wf G) (h2 : ∀ b, Rc G b → b ≠ 0 → mi (m + 49) b = nI (par G b)) {v b : Nat} (hv : v < 4) (h3 : mi (m + 53) v = msk (fun b => bp (PM G v b))) (hb : Rc G b) (hd : dep G b ≤ 9) : Ct κ 0 0 11 mrX6_beginSource [.ref m, .int (nI b), .int (nI v)] (MM σ mi ml) (.inl (some (.int (nI (srcB G v b))))) (MM σ mi ml) := by
  refine Ct.of rfl (by simp [Value.category]) (Nat.le_of_ble_eq_true rfl) ?_
  have hb2 := hb.lt14 hw
  refine V_aload_n dX6_beginSource_0 rfl rfl ?_
  refine V_getR frX6_65 hM.1 rfl dX6_beginSource_1 ?_
  refine V_iload_n dX6_beginSource_4 rfl rfl ?_
  refine V_ialdE hM.2.2.2.2.2.2.2.2.2.2.2.2.1 v rfl (by omega) (by decide) h3 dX6_beginSource_5 ?_
  refine V_iload_n dX6_beginSource_6 rfl rfl ?_
  refine V_cs1 (ctX6_hasM hb2) msX6_has lkX6_158 rfl rfl (Nat.le_of_ble_eq_true rfl) ⟨⟨Nat.le_of_ble_eq_true rfl, Nat.le_of_ble_eq_true rfl⟩, Nat.le_of_ble_eq_true rfl, Nat.le_of_ble_eq_true rfl⟩ dX6_beginSource_7 ?_
  refine V_ifeqB 19 dX6_beginSource_10 (by decide) (fun h10 => ?_) (fun h10 => ?_)
  · refine V_iload_n dX6_beginSource_19 rfl rfl ?_
    refine V_Z_ne (by omega) 27 dX6_beginSource_20 (by decide) (fun h20 => ?_) (fun h20 => ?_)
    · have hp14 := par14 hw hb h20
      refine V_aload_n dX6_beginSource_27 rfl rfl ?_
      refine V_aload_n dX6_beginSource_28 rfl rfl ?_
      refine V_getR frX6_53 hM.1 rfl dX6_beginSource_29 ?_
      refine V_iload_n dX6_beginSource_32 rfl rfl ?_
      refine V_ialdE hM.2.2.2.2.2.2.2.2.1 b rfl (by omega) (by decide) (h2 b hb h20) dX6_beginSource_33 ?_
      refine V_iload_n dX6_beginSource_34 rfl rfl ?_
      refine V_aload_n dX6_beginSource_35 rfl rfl ?_
      refine V_aload_n dX6_beginSource_36 rfl rfl ?_
      refine V_getR frX6_53 hM.1 rfl dX6_beginSource_37 ?_
      refine V_iload_n dX6_beginSource_40 rfl rfl ?_
      refine V_ialdE hM.2.2.2.2.2.2.2.2.1 b rfl (by omega) (by decide) (h2 b hb h20) dX6_beginSource_41 ?_
      refine V_iload_n dX6_beginSource_42 rfl rfl ?_
      refine V_cv1 (ctX6_beginSource_8 hM hG hw h2 hv h3 (par_rc hw hb h20) (by have := dep_par hw hb h20; omega)) mvX6_beginSource lkX6_174 hM.1 rfl rfl rfl (Nat.le_of_ble_eq_true rfl) ⟨⟨Nat.le_of_ble_eq_true rfl, Nat.le_of_ble_eq_true rfl⟩, Nat.le_of_ble_eq_true rfl, Nat.le_of_ble_eq_true rfl⟩ dX6_beginSource_43 ?_
      refine V_cv1 (ctX6_endSource hM hG hw hp14 hv) mvX6_endSource lkX6_177 hM.1 rfl rfl rfl (Nat.le_of_ble_eq_true rfl) ⟨⟨Nat.le_of_ble_eq_true rfl, Nat.le_of_ble_eq_true rfl⟩, Nat.le_of_ble_eq_true rfl, Nat.le_of_ble_eq_true rfl⟩ dX6_beginSource_46 ?_
      exact V_iret rfl (oI (by rw [srcB_p hw hb h10 h20])) rfl ⟨Nat.le_of_ble_eq_true rfl, Nat.le_of_ble_eq_true rfl⟩ dX6_beginSource_49
    · refine V_sipush (v := nI 2000) dX6_beginSource_23 (by decide) ?_
      exact V_iret rfl (oI (by subst h20; rw [srcB_0 h10])) rfl ⟨Nat.le_of_ble_eq_true rfl, Nat.le_of_ble_eq_true rfl⟩ dX6_beginSource_26
  · refine V_sipush (v := nI 1000) dX6_beginSource_13 (by decide) ?_
    refine V_iload_n dX6_beginSource_16 rfl rfl ?_
    refine V_iadd dX6_beginSource_17 ?_
    exact V_iret rfl (oI (by rw [nI_add, srcB_m h10])) rfl ⟨Nat.le_of_ble_eq_true rfl, Nat.le_of_ble_eq_true rfl⟩ dX6_beginSource_18

theorem ctX6_beginSource_10 (hM : ML σ m) (hG : GM mi m G) (hw : Wf G) (h2 : ∀ b, Rc G b → b ≠ 0 → mi (m + 49) b = nI (par G b)) {v b : Nat} (hv : v < 4) (h3 : mi (m + 53) v = msk (fun b => bp (PM G v b))) (hb : Rc G b) (hd : dep G b ≤ 10) : Ct κ 0 0 12 mrX6_beginSource [.ref m, .int (nI b), .int (nI v)] (MM σ mi ml) (.inl (some (.int (nI (srcB G v b))))) (MM σ mi ml) := by
  refine Ct.of rfl (by simp [Value.category]) (Nat.le_of_ble_eq_true rfl) ?_
  have hb2 := hb.lt14 hw
  refine V_aload_n dX6_beginSource_0 rfl rfl ?_
  refine V_getR frX6_65 hM.1 rfl dX6_beginSource_1 ?_
  refine V_iload_n dX6_beginSource_4 rfl rfl ?_
  refine V_ialdE hM.2.2.2.2.2.2.2.2.2.2.2.2.1 v rfl (by omega) (by decide) h3 dX6_beginSource_5 ?_
  refine V_iload_n dX6_beginSource_6 rfl rfl ?_
  refine V_cs1 (ctX6_hasM hb2) msX6_has lkX6_158 rfl rfl (Nat.le_of_ble_eq_true rfl) ⟨⟨Nat.le_of_ble_eq_true rfl, Nat.le_of_ble_eq_true rfl⟩, Nat.le_of_ble_eq_true rfl, Nat.le_of_ble_eq_true rfl⟩ dX6_beginSource_7 ?_
  refine V_ifeqB 19 dX6_beginSource_10 (by decide) (fun h10 => ?_) (fun h10 => ?_)
  · refine V_iload_n dX6_beginSource_19 rfl rfl ?_
    refine V_Z_ne (by omega) 27 dX6_beginSource_20 (by decide) (fun h20 => ?_) (fun h20 => ?_)
    · have hp14 := par14 hw hb h20
      refine V_aload_n dX6_beginSource_27 rfl rfl ?_
      refine V_aload_n dX6_beginSource_28 rfl rfl ?_
      refine V_getR frX6_53 hM.1 rfl dX6_beginSource_29 ?_
      refine V_iload_n dX6_beginSource_32 rfl rfl ?_
      refine V_ialdE hM.2.2.2.2.2.2.2.2.1 b rfl (by omega) (by decide) (h2 b hb h20) dX6_beginSource_33 ?_
      refine V_iload_n dX6_beginSource_34 rfl rfl ?_
      refine V_aload_n dX6_beginSource_35 rfl rfl ?_
      refine V_aload_n dX6_beginSource_36 rfl rfl ?_
      refine V_getR frX6_53 hM.1 rfl dX6_beginSource_37 ?_
      refine V_iload_n dX6_beginSource_40 rfl rfl ?_
      refine V_ialdE hM.2.2.2.2.2.2.2.2.1 b rfl (by omega) (by decide) (h2 b hb h20) dX6_beginSource_41 ?_
      refine V_iload_n dX6_beginSource_42 rfl rfl ?_
      refine V_cv1 (ctX6_beginSource_9 hM hG hw h2 hv h3 (par_rc hw hb h20) (by have := dep_par hw hb h20; omega)) mvX6_beginSource lkX6_174 hM.1 rfl rfl rfl (Nat.le_of_ble_eq_true rfl) ⟨⟨Nat.le_of_ble_eq_true rfl, Nat.le_of_ble_eq_true rfl⟩, Nat.le_of_ble_eq_true rfl, Nat.le_of_ble_eq_true rfl⟩ dX6_beginSource_43 ?_
      refine V_cv1 (ctX6_endSource hM hG hw hp14 hv) mvX6_endSource lkX6_177 hM.1 rfl rfl rfl (Nat.le_of_ble_eq_true rfl) ⟨⟨Nat.le_of_ble_eq_true rfl, Nat.le_of_ble_eq_true rfl⟩, Nat.le_of_ble_eq_true rfl, Nat.le_of_ble_eq_true rfl⟩ dX6_beginSource_46 ?_
      exact V_iret rfl (oI (by rw [srcB_p hw hb h10 h20])) rfl ⟨Nat.le_of_ble_eq_true rfl, Nat.le_of_ble_eq_true rfl⟩ dX6_beginSource_49
    · refine V_sipush (v := nI 2000) dX6_beginSource_23 (by decide) ?_
      exact V_iret rfl (oI (by subst h20; rw [srcB_0 h10])) rfl ⟨Nat.le_of_ble_eq_true rfl, Nat.le_of_ble_eq_true rfl⟩ dX6_beginSource_26
  · refine V_sipush (v := nI 1000) dX6_beginSource_13 (by decide) ?_
    refine V_iload_n dX6_beginSource_16 rfl rfl ?_
    refine V_iadd dX6_beginSource_17 ?_
    exact V_iret rfl (oI (by rw [nI_add, srcB_m h10])) rfl ⟨Nat.le_of_ble_eq_true rfl, Nat.le_of_ble_eq_true rfl⟩ dX6_beginSource_18

theorem ctX6_beginSource_11 (hM : ML σ m) (hG : GM mi m G) (hw : Wf G) (h2 : ∀ b, Rc G b → b ≠ 0 → mi (m + 49) b = nI (par G b)) {v b : Nat} (hv : v < 4) (h3 : mi (m + 53) v = msk (fun b => bp (PM G v b))) (hb : Rc G b) (hd : dep G b ≤ 11) : Ct κ 0 0 13 mrX6_beginSource [.ref m, .int (nI b), .int (nI v)] (MM σ mi ml) (.inl (some (.int (nI (srcB G v b))))) (MM σ mi ml) := by
  refine Ct.of rfl (by simp [Value.category]) (Nat.le_of_ble_eq_true rfl) ?_
  have hb2 := hb.lt14 hw
  refine V_aload_n dX6_beginSource_0 rfl rfl ?_
  refine V_getR frX6_65 hM.1 rfl dX6_beginSource_1 ?_
  refine V_iload_n dX6_beginSource_4 rfl rfl ?_
  refine V_ialdE hM.2.2.2.2.2.2.2.2.2.2.2.2.1 v rfl (by omega) (by decide) h3 dX6_beginSource_5 ?_
  refine V_iload_n dX6_beginSource_6 rfl rfl ?_
  refine V_cs1 (ctX6_hasM hb2) msX6_has lkX6_158 rfl rfl (Nat.le_of_ble_eq_true rfl) ⟨⟨Nat.le_of_ble_eq_true rfl, Nat.le_of_ble_eq_true rfl⟩, Nat.le_of_ble_eq_true rfl, Nat.le_of_ble_eq_true rfl⟩ dX6_beginSource_7 ?_
  refine V_ifeqB 19 dX6_beginSource_10 (by decide) (fun h10 => ?_) (fun h10 => ?_)
  · refine V_iload_n dX6_beginSource_19 rfl rfl ?_
    refine V_Z_ne (by omega) 27 dX6_beginSource_20 (by decide) (fun h20 => ?_) (fun h20 => ?_)
    · have hp14 := par14 hw hb h20
      refine V_aload_n dX6_beginSource_27 rfl rfl ?_
      refine V_aload_n dX6_beginSource_28 rfl rfl ?_
      refine V_getR frX6_53 hM.1 rfl dX6_beginSource_29 ?_
      refine V_iload_n dX6_beginSource_32 rfl rfl ?_
      refine V_ialdE hM.2.2.2.2.2.2.2.2.1 b rfl (by omega) (by decide) (h2 b hb h20) dX6_beginSource_33 ?_
      refine V_iload_n dX6_beginSource_34 rfl rfl ?_
      refine V_aload_n dX6_beginSource_35 rfl rfl ?_
      refine V_aload_n dX6_beginSource_36 rfl rfl ?_
      refine V_getR frX6_53 hM.1 rfl dX6_beginSource_37 ?_
      refine V_iload_n dX6_beginSource_40 rfl rfl ?_
      refine V_ialdE hM.2.2.2.2.2.2.2.2.1 b rfl (by omega) (by decide) (h2 b hb h20) dX6_beginSource_41 ?_
      refine V_iload_n dX6_beginSource_42 rfl rfl ?_
      refine V_cv1 (ctX6_beginSource_10 hM hG hw h2 hv h3 (par_rc hw hb h20) (by have := dep_par hw hb h20; omega)) mvX6_beginSource lkX6_174 hM.1 rfl rfl rfl (Nat.le_of_ble_eq_true rfl) ⟨⟨Nat.le_of_ble_eq_true rfl, Nat.le_of_ble_eq_true rfl⟩, Nat.le_of_ble_eq_true rfl, Nat.le_of_ble_eq_true rfl⟩ dX6_beginSource_43 ?_
      refine V_cv1 (ctX6_endSource hM hG hw hp14 hv) mvX6_endSource lkX6_177 hM.1 rfl rfl rfl (Nat.le_of_ble_eq_true rfl) ⟨⟨Nat.le_of_ble_eq_true rfl, Nat.le_of_ble_eq_true rfl⟩, Nat.le_of_ble_eq_true rfl, Nat.le_of_ble_eq_true rfl⟩ dX6_beginSource_46 ?_
      exact V_iret rfl (oI (by rw [srcB_p hw hb h10 h20])) rfl ⟨Nat.le_of_ble_eq_true rfl, Nat.le_of_ble_eq_true rfl⟩ dX6_beginSource_49
    · refine V_sipush (v := nI 2000) dX6_beginSource_23 (by decide) ?_
      exact V_iret rfl (oI (by subst h20; rw [srcB_0 h10])) rfl ⟨Nat.le_of_ble_eq_true rfl, Nat.le_of_ble_eq_true rfl⟩ dX6_beginSource_26
  · refine V_sipush (v := nI 1000) dX6_beginSource_13 (by decide) ?_
    refine V_iload_n dX6_beginSource_16 rfl rfl ?_
    refine V_iadd dX6_beginSource_17 ?_
    exact V_iret rfl (oI (by rw [nI_add, srcB_m h10])) rfl ⟨Nat.le_of_ble_eq_true rfl, Nat.le_of_ble_eq_true rfl⟩ dX6_beginSource_18

theorem ctX6_beginSource_12 (hM : ML σ m) (hG : GM mi m G) (hw : Wf G) (h2 : ∀ b, Rc G b → b ≠ 0 → mi (m + 49) b = nI (par G b)) {v b : Nat} (hv : v < 4) (h3 : mi (m + 53) v = msk (fun b => bp (PM G v b))) (hb : Rc G b) (hd : dep G b ≤ 12) : Ct κ 0 0 14 mrX6_beginSource [.ref m, .int (nI b), .int (nI v)] (MM σ mi ml) (.inl (some (.int (nI (srcB G v b))))) (MM σ mi ml) := by
  refine Ct.of rfl (by simp [Value.category]) (Nat.le_of_ble_eq_true rfl) ?_
  have hb2 := hb.lt14 hw
  refine V_aload_n dX6_beginSource_0 rfl rfl ?_
  refine V_getR frX6_65 hM.1 rfl dX6_beginSource_1 ?_
  refine V_iload_n dX6_beginSource_4 rfl rfl ?_
  refine V_ialdE hM.2.2.2.2.2.2.2.2.2.2.2.2.1 v rfl (by omega) (by decide) h3 dX6_beginSource_5 ?_
  refine V_iload_n dX6_beginSource_6 rfl rfl ?_
  refine V_cs1 (ctX6_hasM hb2) msX6_has lkX6_158 rfl rfl (Nat.le_of_ble_eq_true rfl) ⟨⟨Nat.le_of_ble_eq_true rfl, Nat.le_of_ble_eq_true rfl⟩, Nat.le_of_ble_eq_true rfl, Nat.le_of_ble_eq_true rfl⟩ dX6_beginSource_7 ?_
  refine V_ifeqB 19 dX6_beginSource_10 (by decide) (fun h10 => ?_) (fun h10 => ?_)
  · refine V_iload_n dX6_beginSource_19 rfl rfl ?_
    refine V_Z_ne (by omega) 27 dX6_beginSource_20 (by decide) (fun h20 => ?_) (fun h20 => ?_)
    · have hp14 := par14 hw hb h20
      refine V_aload_n dX6_beginSource_27 rfl rfl ?_
      refine V_aload_n dX6_beginSource_28 rfl rfl ?_
      refine V_getR frX6_53 hM.1 rfl dX6_beginSource_29 ?_
      refine V_iload_n dX6_beginSource_32 rfl rfl ?_
      refine V_ialdE hM.2.2.2.2.2.2.2.2.1 b rfl (by omega) (by decide) (h2 b hb h20) dX6_beginSource_33 ?_
      refine V_iload_n dX6_beginSource_34 rfl rfl ?_
      refine V_aload_n dX6_beginSource_35 rfl rfl ?_
      refine V_aload_n dX6_beginSource_36 rfl rfl ?_
      refine V_getR frX6_53 hM.1 rfl dX6_beginSource_37 ?_
      refine V_iload_n dX6_beginSource_40 rfl rfl ?_
      refine V_ialdE hM.2.2.2.2.2.2.2.2.1 b rfl (by omega) (by decide) (h2 b hb h20) dX6_beginSource_41 ?_
      refine V_iload_n dX6_beginSource_42 rfl rfl ?_
      refine V_cv1 (ctX6_beginSource_11 hM hG hw h2 hv h3 (par_rc hw hb h20) (by have := dep_par hw hb h20; omega)) mvX6_beginSource lkX6_174 hM.1 rfl rfl rfl (Nat.le_of_ble_eq_true rfl) ⟨⟨Nat.le_of_ble_eq_true rfl, Nat.le_of_ble_eq_true rfl⟩, Nat.le_of_ble_eq_true rfl, Nat.le_of_ble_eq_true rfl⟩ dX6_beginSource_43 ?_
      refine V_cv1 (ctX6_endSource hM hG hw hp14 hv) mvX6_endSource lkX6_177 hM.1 rfl rfl rfl (Nat.le_of_ble_eq_true rfl) ⟨⟨Nat.le_of_ble_eq_true rfl, Nat.le_of_ble_eq_true rfl⟩, Nat.le_of_ble_eq_true rfl, Nat.le_of_ble_eq_true rfl⟩ dX6_beginSource_46 ?_
      exact V_iret rfl (oI (by rw [srcB_p hw hb h10 h20])) rfl ⟨Nat.le_of_ble_eq_true rfl, Nat.le_of_ble_eq_true rfl⟩ dX6_beginSource_49
    · refine V_sipush (v := nI 2000) dX6_beginSource_23 (by decide) ?_
      exact V_iret rfl (oI (by subst h20; rw [srcB_0 h10])) rfl ⟨Nat.le_of_ble_eq_true rfl, Nat.le_of_ble_eq_true rfl⟩ dX6_beginSource_26
  · refine V_sipush (v := nI 1000) dX6_beginSource_13 (by decide) ?_
    refine V_iload_n dX6_beginSource_16 rfl rfl ?_
    refine V_iadd dX6_beginSource_17 ?_
    exact V_iret rfl (oI (by rw [nI_add, srcB_m h10])) rfl ⟨Nat.le_of_ble_eq_true rfl, Nat.le_of_ble_eq_true rfl⟩ dX6_beginSource_18

theorem ctX6_beginSource_13 (hM : ML σ m) (hG : GM mi m G) (hw : Wf G) (h2 : ∀ b, Rc G b → b ≠ 0 → mi (m + 49) b = nI (par G b)) {v b : Nat} (hv : v < 4) (h3 : mi (m + 53) v = msk (fun b => bp (PM G v b))) (hb : Rc G b) (hd : dep G b ≤ 13) : Ct κ 0 0 15 mrX6_beginSource [.ref m, .int (nI b), .int (nI v)] (MM σ mi ml) (.inl (some (.int (nI (srcB G v b))))) (MM σ mi ml) := by
  refine Ct.of rfl (by simp [Value.category]) (Nat.le_of_ble_eq_true rfl) ?_
  have hb2 := hb.lt14 hw
  refine V_aload_n dX6_beginSource_0 rfl rfl ?_
  refine V_getR frX6_65 hM.1 rfl dX6_beginSource_1 ?_
  refine V_iload_n dX6_beginSource_4 rfl rfl ?_
  refine V_ialdE hM.2.2.2.2.2.2.2.2.2.2.2.2.1 v rfl (by omega) (by decide) h3 dX6_beginSource_5 ?_
  refine V_iload_n dX6_beginSource_6 rfl rfl ?_
  refine V_cs1 (ctX6_hasM hb2) msX6_has lkX6_158 rfl rfl (Nat.le_of_ble_eq_true rfl) ⟨⟨Nat.le_of_ble_eq_true rfl, Nat.le_of_ble_eq_true rfl⟩, Nat.le_of_ble_eq_true rfl, Nat.le_of_ble_eq_true rfl⟩ dX6_beginSource_7 ?_
  refine V_ifeqB 19 dX6_beginSource_10 (by decide) (fun h10 => ?_) (fun h10 => ?_)
  · refine V_iload_n dX6_beginSource_19 rfl rfl ?_
    refine V_Z_ne (by omega) 27 dX6_beginSource_20 (by decide) (fun h20 => ?_) (fun h20 => ?_)
    · have hp14 := par14 hw hb h20
      refine V_aload_n dX6_beginSource_27 rfl rfl ?_
      refine V_aload_n dX6_beginSource_28 rfl rfl ?_
      refine V_getR frX6_53 hM.1 rfl dX6_beginSource_29 ?_
      refine V_iload_n dX6_beginSource_32 rfl rfl ?_
      refine V_ialdE hM.2.2.2.2.2.2.2.2.1 b rfl (by omega) (by decide) (h2 b hb h20) dX6_beginSource_33 ?_
      refine V_iload_n dX6_beginSource_34 rfl rfl ?_
      refine V_aload_n dX6_beginSource_35 rfl rfl ?_
      refine V_aload_n dX6_beginSource_36 rfl rfl ?_
      refine V_getR frX6_53 hM.1 rfl dX6_beginSource_37 ?_
      refine V_iload_n dX6_beginSource_40 rfl rfl ?_
      refine V_ialdE hM.2.2.2.2.2.2.2.2.1 b rfl (by omega) (by decide) (h2 b hb h20) dX6_beginSource_41 ?_
      refine V_iload_n dX6_beginSource_42 rfl rfl ?_
      refine V_cv1 (ctX6_beginSource_12 hM hG hw h2 hv h3 (par_rc hw hb h20) (by have := dep_par hw hb h20; omega)) mvX6_beginSource lkX6_174 hM.1 rfl rfl rfl (Nat.le_of_ble_eq_true rfl) ⟨⟨Nat.le_of_ble_eq_true rfl, Nat.le_of_ble_eq_true rfl⟩, Nat.le_of_ble_eq_true rfl, Nat.le_of_ble_eq_true rfl⟩ dX6_beginSource_43 ?_
      refine V_cv1 (ctX6_endSource hM hG hw hp14 hv) mvX6_endSource lkX6_177 hM.1 rfl rfl rfl (Nat.le_of_ble_eq_true rfl) ⟨⟨Nat.le_of_ble_eq_true rfl, Nat.le_of_ble_eq_true rfl⟩, Nat.le_of_ble_eq_true rfl, Nat.le_of_ble_eq_true rfl⟩ dX6_beginSource_46 ?_
      exact V_iret rfl (oI (by rw [srcB_p hw hb h10 h20])) rfl ⟨Nat.le_of_ble_eq_true rfl, Nat.le_of_ble_eq_true rfl⟩ dX6_beginSource_49
    · refine V_sipush (v := nI 2000) dX6_beginSource_23 (by decide) ?_
      exact V_iret rfl (oI (by subst h20; rw [srcB_0 h10])) rfl ⟨Nat.le_of_ble_eq_true rfl, Nat.le_of_ble_eq_true rfl⟩ dX6_beginSource_26
  · refine V_sipush (v := nI 1000) dX6_beginSource_13 (by decide) ?_
    refine V_iload_n dX6_beginSource_16 rfl rfl ?_
    refine V_iadd dX6_beginSource_17 ?_
    exact V_iret rfl (oI (by rw [nI_add, srcB_m h10])) rfl ⟨Nat.le_of_ble_eq_true rfl, Nat.le_of_ble_eq_true rfl⟩ dX6_beginSource_18

theorem ctX6_beginSource_14 (hM : ML σ m) (hG : GM mi m G) (hw : Wf G) (h2 : ∀ b, Rc G b → b ≠ 0 → mi (m + 49) b = nI (par G b)) {v b : Nat} (hv : v < 4) (h3 : mi (m + 53) v = msk (fun b => bp (PM G v b))) (hb : Rc G b) (hd : dep G b ≤ 14) : Ct κ 0 0 16 mrX6_beginSource [.ref m, .int (nI b), .int (nI v)] (MM σ mi ml) (.inl (some (.int (nI (srcB G v b))))) (MM σ mi ml) := by
  refine Ct.of rfl (by simp [Value.category]) (Nat.le_of_ble_eq_true rfl) ?_
  have hb2 := hb.lt14 hw
  refine V_aload_n dX6_beginSource_0 rfl rfl ?_
  refine V_getR frX6_65 hM.1 rfl dX6_beginSource_1 ?_
  refine V_iload_n dX6_beginSource_4 rfl rfl ?_
  refine V_ialdE hM.2.2.2.2.2.2.2.2.2.2.2.2.1 v rfl (by omega) (by decide) h3 dX6_beginSource_5 ?_
  refine V_iload_n dX6_beginSource_6 rfl rfl ?_
  refine V_cs1 (ctX6_hasM hb2) msX6_has lkX6_158 rfl rfl (Nat.le_of_ble_eq_true rfl) ⟨⟨Nat.le_of_ble_eq_true rfl, Nat.le_of_ble_eq_true rfl⟩, Nat.le_of_ble_eq_true rfl, Nat.le_of_ble_eq_true rfl⟩ dX6_beginSource_7 ?_
  refine V_ifeqB 19 dX6_beginSource_10 (by decide) (fun h10 => ?_) (fun h10 => ?_)
  · refine V_iload_n dX6_beginSource_19 rfl rfl ?_
    refine V_Z_ne (by omega) 27 dX6_beginSource_20 (by decide) (fun h20 => ?_) (fun h20 => ?_)
    · have hp14 := par14 hw hb h20
      refine V_aload_n dX6_beginSource_27 rfl rfl ?_
      refine V_aload_n dX6_beginSource_28 rfl rfl ?_
      refine V_getR frX6_53 hM.1 rfl dX6_beginSource_29 ?_
      refine V_iload_n dX6_beginSource_32 rfl rfl ?_
      refine V_ialdE hM.2.2.2.2.2.2.2.2.1 b rfl (by omega) (by decide) (h2 b hb h20) dX6_beginSource_33 ?_
      refine V_iload_n dX6_beginSource_34 rfl rfl ?_
      refine V_aload_n dX6_beginSource_35 rfl rfl ?_
      refine V_aload_n dX6_beginSource_36 rfl rfl ?_
      refine V_getR frX6_53 hM.1 rfl dX6_beginSource_37 ?_
      refine V_iload_n dX6_beginSource_40 rfl rfl ?_
      refine V_ialdE hM.2.2.2.2.2.2.2.2.1 b rfl (by omega) (by decide) (h2 b hb h20) dX6_beginSource_41 ?_
      refine V_iload_n dX6_beginSource_42 rfl rfl ?_
      refine V_cv1 (ctX6_beginSource_13 hM hG hw h2 hv h3 (par_rc hw hb h20) (by have := dep_par hw hb h20; omega)) mvX6_beginSource lkX6_174 hM.1 rfl rfl rfl (Nat.le_of_ble_eq_true rfl) ⟨⟨Nat.le_of_ble_eq_true rfl, Nat.le_of_ble_eq_true rfl⟩, Nat.le_of_ble_eq_true rfl, Nat.le_of_ble_eq_true rfl⟩ dX6_beginSource_43 ?_
      refine V_cv1 (ctX6_endSource hM hG hw hp14 hv) mvX6_endSource lkX6_177 hM.1 rfl rfl rfl (Nat.le_of_ble_eq_true rfl) ⟨⟨Nat.le_of_ble_eq_true rfl, Nat.le_of_ble_eq_true rfl⟩, Nat.le_of_ble_eq_true rfl, Nat.le_of_ble_eq_true rfl⟩ dX6_beginSource_46 ?_
      exact V_iret rfl (oI (by rw [srcB_p hw hb h10 h20])) rfl ⟨Nat.le_of_ble_eq_true rfl, Nat.le_of_ble_eq_true rfl⟩ dX6_beginSource_49
    · refine V_sipush (v := nI 2000) dX6_beginSource_23 (by decide) ?_
      exact V_iret rfl (oI (by subst h20; rw [srcB_0 h10])) rfl ⟨Nat.le_of_ble_eq_true rfl, Nat.le_of_ble_eq_true rfl⟩ dX6_beginSource_26
  · refine V_sipush (v := nI 1000) dX6_beginSource_13 (by decide) ?_
    refine V_iload_n dX6_beginSource_16 rfl rfl ?_
    refine V_iadd dX6_beginSource_17 ?_
    exact V_iret rfl (oI (by rw [nI_add, srcB_m h10])) rfl ⟨Nat.le_of_ble_eq_true rfl, Nat.le_of_ble_eq_true rfl⟩ dX6_beginSource_18

def A3 (mi : Nat → Nat → Int32) (m : Nat) (G : Gr) (v : Nat) : Prop := mi (m + 51) v = msk (fun b => bp (LV G v b)) ∧ mi (m + 52) v = msk (fun b => bp (MN G v b)) ∧ mi (m + 53) v = msk (fun b => bp (PM G v b)) ∧ ∀ b, Rc G b → mi (m + 55 + b) v = nI (srcB G v b) ∧ mi (m + 70 + b) v = nI (srcE G v b)
def AN (mi : Nat → Nat → Int32) (m : Nat) (G : Gr) : Prop := A1 mi m G ∧ A2d mi m G ∧ A2p mi m G ∧ ∀ v, v < 4 → A3 mi m G v
theorem A1.keep {m1 : Nat → Nat → Int32} (h : A1 mi m G) (hk : ∀ a i, (a = m ∧ i = 20) ∨ a = m + 47 → m1 a i = mi a i) : A1 m1 m G := ⟨(hk _ _ (Or.inl ⟨rfl, rfl⟩)).trans h.1, fun t ht => (hk _ _ (Or.inr rfl)).trans (h.2 t ht)⟩
theorem A2d.keep {m1 : Nat → Nat → Int32} (h : A2d mi m G) (hk : ∀ i, m1 (m + 48) i = mi (m + 48) i) : A2d m1 m G := fun b hb => (hk b).trans (h b hb)
theorem A2p.keep {m1 : Nat → Nat → Int32} (h : A2p mi m G) (hk : ∀ a i, a = m + 49 ∨ a = m + 50 → m1 a i = mi a i) : A2p m1 m G := ⟨fun b hb h0 => (hk _ _ (Or.inl rfl)).trans (h.1 b hb h0), fun x hx => (hk _ _ (Or.inr rfl)).trans (h.2 x hx)⟩
theorem A3.keep (hw : Wf G) {m1 : Nat → Nat → Int32} {v : Nat} (h : A3 mi m G v) (hk : ∀ a, m + 51 ≤ a → a < m + 84 → m1 a v = mi a v) : A3 m1 m G v :=
  ⟨(hk _ (by omega) (by omega)).trans h.1, (hk _ (by omega) (by omega)).trans h.2.1, (hk _ (by omega) (by omega)).trans h.2.2.1, fun b hb => by
    have := hb.lt14 hw
    exact ⟨(hk _ (by omega) (by omega)).trans (h.2.2.2 b hb).1, (hk _ (by omega) (by omega)).trans (h.2.2.2 b hb).2⟩⟩
theorem ctX6_analyze (hM : ML σ m) (hG : GM mi m G) (hw : Wf G) : CtP κ 0 0 18 mrX6_analyze [.ref m] (MM σ mi ml) (fun o μ' => o = .inl none ∧ ∃ m', μ' = MM σ m' ml ∧ AN m' m G ∧ offA mi m' m) := by
  refine CtP.of rfl (by simp [Value.category]) (Nat.le_of_ble_eq_true rfl) ?_
  have h14 := hw.2.1
  have lpV : ∀ v, v ≤ 4 → ∀ m1 o2, offA mi m1 m → (A1 m1 m G ∧ A2d m1 m G ∧ A2p m1 m G) → (∀ u, u < v → A3 m1 m G u) → V κ (phiP κ mrX6_analyze 18 0 0 (fun o μ' => o = .inl none ∧ ∃ m', μ' = MM σ m' ml ∧ AN m' m G ∧ offA mi m' m)) 0 0 14 [some (.ref m), some (.int (nI v)), o2] [] (MM σ m1 ml) := loop_up _ (fun v hv ih m1 o2 ho hk h3 => by
    have lpB : v < 4 → ∀ b, b ≤ G.1 → ∀ m1, offA mi m1 m → (A1 m1 m G ∧ A2d m1 m G ∧ A2p m1 m G) → (∀ u, u < v → A3 m1 m G u) → m1 (m + 51) v = msk (fun b => bp (LV G v b)) → m1 (m + 52) v = msk (fun b => bp (MN G v b)) → m1 (m + 53) v = msk (fun b => bp (PM G v b)) → (∀ c, c < b → Rc G c → m1 (m + 55 + c) v = nI (srcB G v c) ∧ m1 (m + 70 + c) v = nI (srcE G v c)) → V κ (phiP κ mrX6_analyze 18 0 0 (fun o μ' => o = .inl none ∧ ∃ m', μ' = MM σ m' ml ∧ AN m' m G ∧ offA mi m' m)) 0 0 31 [some (.ref m), some (.int (nI v)), some (.int (nI b))] [] (MM σ m1 ml) := fun hv2 => loop_up _ (fun b hb ih2 m1 ho hk h3 g1 g2 g3 g4 => by
      have hG1 := GM_off hG ho
      refine V_iload_n dX6_analyze_31 rfl rfl ?_
      refine V_aload_n dX6_analyze_32 rfl rfl ?_
      refine V_getE frX6_7 hM.1 rfl hG1.1 dX6_analyze_33 ?_
      refine V_N_ge (by omega) (by omega) 92 dX6_analyze_36 (by decide) (fun h36 => ?_) (fun h36 => ?_)
      · refine V_iinc1 dX6_analyze_92 rfl (Nat.le_of_ble_eq_true rfl) ?_
        refine V_goto 14 dX6_analyze_95 (by decide) ?_
        exact ih hv2 m1 _ ho hk (fun u hu => by
          rcases Nat.lt_or_ge u v with q | q
          · exact h3 u q
          · have e : u = v := by omega
            subst e
            exact ⟨g1, g2, g3, fun c hc => g4 c (by have := hc.lt hw; omega) hc⟩)
      · refine V_aload_n dX6_analyze_39 rfl rfl ?_
        refine V_getE frX6_155 hM.1 rfl hk.1.1 dX6_analyze_40 ?_
        refine V_iload_n dX6_analyze_43 rfl rfl ?_
        refine V_cs1 (ctX6_hasM (by omega)) msX6_has lkX6_158 rfl rfl (Nat.le_of_ble_eq_true rfl) ⟨⟨Nat.le_of_ble_eq_true rfl, Nat.le_of_ble_eq_true rfl⟩, Nat.le_of_ble_eq_true rfl, Nat.le_of_ble_eq_true rfl⟩ dX6_analyze_44 ?_
        refine V_ifeqB 86 dX6_analyze_47 (by decide) (fun h47 => ?_) (fun h47 => ?_)
        · refine V_iinc1 dX6_analyze_86 rfl (Nat.le_of_ble_eq_true rfl) ?_
          refine V_goto 31 dX6_analyze_89 (by decide) ?_
          exact ih2 h36 m1 ho hk h3 g1 g2 g3 (fun c hc hR => g4 c (by
            rcases Nat.lt_or_ge c b with q | q
            · exact q
            · have e : c = b := by omega
              subst e; exact absurd hR (bp_f.mp h47)) hR)
        · have hR : Rc G b := bp_t.mp h47
          refine V_aload_n dX6_analyze_50 rfl rfl ?_
          refine V_getR frX6_68 hM.1 rfl dX6_analyze_51 ?_
          refine V_iload_n dX6_analyze_54 rfl rfl ?_
          refine V_aaldR hM.2.2.2.2.2.2.2.2.2.2.2.2.2.2.2.2.2.2.2.1 (b) rfl (show b < 14 by omega) (by decide) dX6_analyze_55 ?_
          refine V_iload_n dX6_analyze_56 rfl rfl ?_
          refine V_aload_n dX6_analyze_57 rfl rfl ?_
          refine V_iload_n dX6_analyze_58 rfl rfl ?_
          refine V_iload_n dX6_analyze_59 rfl rfl ?_
          refine V_cv1 (ctX6_beginSource_14 hM hG1 hw hk.2.2.1 hv2 g3 hR (dep_le G b)) mvX6_beginSource lkX6_174 hM.1 rfl rfl rfl (Nat.le_of_ble_eq_true rfl) ⟨⟨Nat.le_of_ble_eq_true rfl, Nat.le_of_ble_eq_true rfl⟩, Nat.le_of_ble_eq_true rfl, Nat.le_of_ble_eq_true rfl⟩ dX6_analyze_60 ?_
          refine V_iastN (hM.2.2.2.2.2.2.2.2.2.2.2.2.2.2.2.2.2.2.2.1.row (j := b) (show b < 14 by omega)) v rfl (by omega) (by decide) dX6_analyze_63 ?_
          refine V_aload_n dX6_analyze_64 rfl rfl ?_
          refine V_getR frX6_71 hM.1 rfl dX6_analyze_65 ?_
          refine V_iload_n dX6_analyze_68 rfl rfl ?_
          refine V_aaldR hM.2.2.2.2.2.2.2.2.2.2.2.2.2.2.2.2.2.2.2.2.1 (b) rfl (show b < 14 by omega) (by decide) dX6_analyze_69 ?_
          refine V_iload_n dX6_analyze_70 rfl rfl ?_
          refine V_aload_n dX6_analyze_71 rfl rfl ?_
          refine V_iload_n dX6_analyze_72 rfl rfl ?_
          refine V_iload_n dX6_analyze_73 rfl rfl ?_
          refine V_aload_n dX6_analyze_74 rfl rfl ?_
          refine V_getR frX6_68 hM.1 rfl dX6_analyze_75 ?_
          refine V_iload_n dX6_analyze_78 rfl rfl ?_
          refine V_aaldR hM.2.2.2.2.2.2.2.2.2.2.2.2.2.2.2.2.2.2.2.1 (b) rfl (show b < 14 by omega) (by decide) dX6_analyze_79 ?_
          refine V_iload_n dX6_analyze_80 rfl rfl ?_
          refine V_ialdE (hM.2.2.2.2.2.2.2.2.2.2.2.2.2.2.2.2.2.2.2.1.row (j := b) (show b < 14 by omega)) v rfl (by omega) (by decide) (u2_s _ _ _ _) dX6_analyze_81 ?_
          refine V_cv1 (ctX6_endSource hM (hG1.keep (fun a i q => u2_n _ _ (Or.inl (by omega)))) hw (by omega) hv2) mvX6_endSource lkX6_177 hM.1 rfl rfl rfl (Nat.le_of_ble_eq_true rfl) ⟨⟨Nat.le_of_ble_eq_true rfl, Nat.le_of_ble_eq_true rfl⟩, Nat.le_of_ble_eq_true rfl, Nat.le_of_ble_eq_true rfl⟩ dX6_analyze_82 ?_
          refine V_iastN (hM.2.2.2.2.2.2.2.2.2.2.2.2.2.2.2.2.2.2.2.2.1.row (j := b) (show b < 14 by omega)) v rfl (by omega) (by decide) dX6_analyze_85 ?_
          refine V_iinc1 dX6_analyze_86 rfl (Nat.le_of_ble_eq_true rfl) ?_
          refine V_goto 31 dX6_analyze_89 (by decide) ?_
          refine ih2 h36 _ ((ho.u2 (Or.inr (by omega))).u2 (Or.inr (by omega))) ⟨hk.1.keep (fun a i q => ((u2_n _ _ (Or.inl (by omega))).trans (u2_n _ _ (Or.inl (by omega))))), hk.2.1.keep (fun i => ((u2_n _ _ (Or.inl (by omega))).trans (u2_n _ _ (Or.inl (by omega))))), hk.2.2.keep (fun a i q => ((u2_n _ _ (Or.inl (by omega))).trans (u2_n _ _ (Or.inl (by omega)))))⟩ (fun u hu => (h3 u hu).keep hw (fun a q1 q2 => (u2_n _ _ (Or.inr (by omega))).trans (u2_n _ _ (Or.inr (by omega))))) (((u2_n _ _ (Or.inl (by omega))).trans (u2_n _ _ (Or.inl (by omega)))).trans g1) (((u2_n _ _ (Or.inl (by omega))).trans (u2_n _ _ (Or.inl (by omega)))).trans g2) (((u2_n _ _ (Or.inl (by omega))).trans (u2_n _ _ (Or.inl (by omega)))).trans g3) (fun c hc hRc => ?_)
          have hc14 := hRc.lt14 hw
          by_cases e : c = b
          · subst e
            exact ⟨(u2_n _ _ (Or.inl (by omega))).trans (u2_s _ _ _ _), u2_s _ _ _ _⟩
          · exact ⟨((u2_n _ _ (Or.inl (by omega))).trans (u2_n _ _ (Or.inl (by omega)))).trans (g4 c (by omega) hRc).1, ((u2_n _ _ (Or.inl (by omega))).trans (u2_n _ _ (Or.inl (by omega)))).trans (g4 c (by omega) hRc).2⟩
      )
    refine V_iload_n dX6_analyze_14 rfl rfl ?_
    refine V_iconst (v := nI 4) dX6_analyze_15 (by decide) ?_
    refine V_N_ge (by omega) (by omega) 98 dX6_analyze_16 (by decide) (fun h16 => ?_) (fun h16 => ?_)
    · exact V_vretP rfl ⟨rfl, m1, rfl, ⟨hk.1, hk.2.1, hk.2.2, fun u hu => h3 u (by omega)⟩, ho⟩ ⟨Nat.le_of_ble_eq_true rfl, Nat.le_of_ble_eq_true rfl⟩ dX6_analyze_98
    · refine V_aload_n dX6_analyze_19 rfl rfl ?_
      refine V_iload_n dX6_analyze_20 rfl rfl ?_
      refine V_cp0 (ctX6_findLive hM (GM_off hG ho) hw hk.1 h16) mvX6_findLive lkX6_189 hM.1 rfl rfl rfl (Nat.le_of_ble_eq_true rfl) ⟨⟨Nat.le_of_ble_eq_true rfl, Nat.le_of_ble_eq_true rfl⟩, Nat.le_of_ble_eq_true rfl, Nat.le_of_ble_eq_true rfl⟩ dX6_analyze_21 (fun μ1 hx => ?_)
      obtain rfl := hx
      refine V_aload_n dX6_analyze_24 rfl rfl ?_
      refine V_iload_n dX6_analyze_25 rfl rfl ?_
      refine V_cp0 (ctX6_findMerges hM ((GM_off hG ho).keep (fun a i q => (u2_n _ _ (Or.inl (by omega))))) hw (hk.1.keep (fun a i q => (u2_n _ _ (Or.inl (by omega))))) (hk.2.2.keep (fun a i q => (u2_n _ _ (Or.inl (by omega))))) h16 (u2_s _ _ _ _)) mvX6_findMerges lkX6_193 hM.1 rfl rfl rfl (Nat.le_of_ble_eq_true rfl) ⟨⟨Nat.le_of_ble_eq_true rfl, Nat.le_of_ble_eq_true rfl⟩, Nat.le_of_ble_eq_true rfl, Nat.le_of_ble_eq_true rfl⟩ dX6_analyze_26 (fun μ2 hx => ?_)
      obtain rfl := hx
      refine V_iconst (v := nI 0) dX6_analyze_29 (by decide) ?_
      refine V_istore_n dX6_analyze_30 rfl (Nat.le_of_ble_eq_true rfl) ?_
      exact lpB h16 0 (Nat.zero_le _) _ (((ho.u2 (Or.inr (by omega))).u2 (Or.inr (by omega))).u2 (Or.inr (by omega))) ⟨hk.1.keep (fun a i q => (u2_n _ _ (Or.inl (by omega))).trans ((u2_n _ _ (Or.inl (by omega))).trans (u2_n _ _ (Or.inl (by omega))))), hk.2.1.keep (fun i => (u2_n _ _ (Or.inl (by omega))).trans ((u2_n _ _ (Or.inl (by omega))).trans (u2_n _ _ (Or.inl (by omega))))), hk.2.2.keep (fun a i q => (u2_n _ _ (Or.inl (by omega))).trans ((u2_n _ _ (Or.inl (by omega))).trans (u2_n _ _ (Or.inl (by omega)))))⟩ (fun u hu => (h3 u hu).keep hw (fun a q1 q2 => (u2_n _ _ (Or.inr (by omega))).trans ((u2_n _ _ (Or.inr (by omega))).trans (u2_n _ _ (Or.inr (by omega)))))) ((u2_n _ _ (Or.inl (by omega))).trans ((u2_n _ _ (Or.inl (by omega))).trans (u2_s _ _ _ _))) ((u2_n _ _ (Or.inl (by omega))).trans (u2_s _ _ _ _)) (u2_s _ _ _ _) (fun c hc => absurd hc (Nat.not_lt_zero c))
    )
  refine V_aload_n dX6_analyze_0 rfl rfl ?_
  refine V_cp0 (ctX6_findReached hM hG hw) mvX6_findReached lkX6_180 hM.1 rfl rfl rfl (Nat.le_of_ble_eq_true rfl) ⟨⟨Nat.le_of_ble_eq_true rfl, Nat.le_of_ble_eq_true rfl⟩, Nat.le_of_ble_eq_true rfl, Nat.le_of_ble_eq_true rfl⟩ dX6_analyze_1 (fun μ1 hx => ?_)
  obtain ⟨m1, rfl, k1, o1⟩ := hx
  refine V_aload_n dX6_analyze_4 rfl rfl ?_
  refine V_cp0 (ctX6_findDominators hM (GM_off hG o1) hw k1) mvX6_findDominators lkX6_183 hM.1 rfl rfl rfl (Nat.le_of_ble_eq_true rfl) ⟨⟨Nat.le_of_ble_eq_true rfl, Nat.le_of_ble_eq_true rfl⟩, Nat.le_of_ble_eq_true rfl, Nat.le_of_ble_eq_true rfl⟩ dX6_analyze_5 (fun μ2 hx => ?_)
  obtain ⟨m2, rfl, k2, o2⟩ := hx
  have k12 : A1 m2 m G := k1.keep (fun a i q => o2 a i (by omega))
  have oo2 : offA mi m2 m := o1.tr (fun a i q1 q2 => o2 a i (by omega))
  refine V_aload_n dX6_analyze_8 rfl rfl ?_
  refine V_cp0 (ctX6_findParents hM (GM_off hG oo2) hw k12 k2) mvX6_findParents lkX6_186 hM.1 rfl rfl rfl (Nat.le_of_ble_eq_true rfl) ⟨⟨Nat.le_of_ble_eq_true rfl, Nat.le_of_ble_eq_true rfl⟩, Nat.le_of_ble_eq_true rfl, Nat.le_of_ble_eq_true rfl⟩ dX6_analyze_9 (fun μ3 hx => ?_)
  obtain ⟨m3, rfl, k3, o3⟩ := hx
  refine V_iconst (v := nI 0) dX6_analyze_12 (by decide) ?_
  refine V_istore_n dX6_analyze_13 rfl (Nat.le_of_ble_eq_true rfl) ?_
  exact lpV 0 (Nat.zero_le _) m3 _ (oo2.tr (fun a i q1 q2 => o3 a i (by omega) (by omega))) ⟨k12.keep (fun a i q => o3 a i (by omega) (by omega)), k2.keep (fun i => o3 _ i (by omega) (by omega)), k3⟩ (fun u hu => absurd hu (Nat.not_lt_zero u))

end Mdl3
