/-! SsaRepair: thread, define, undo, walks, saving -/
section Cls4
variable {κ : K0} {σ : Nat → Option Kd} {mi : Nat → Nat → Int32} {ml : Nat → Nat → Int64} {x : Nat} {S : SS} {μ : Mem}
theorem pr_lt {C : List Nat} {B e : Nat} (hc : Cok C) (h : pr C B = .inl e) : e < 100 := by
  have h6 := nA_le C
  have h3 := tgo_le (C := C) (B := B) (s := 2 + 2 * nA C + 1) 3 []
  simp only [List.length_nil] at h3
  unfold pr at h
  split at h
  · cases h; omega
  · split at h
    · cases h; omega
    · split at h
      · cases h
      · split at h
        · cases h; omega
        · split at h
          · cases h; omega
          · split at h
            · cases h
            · cases h; omega
theorem GA_addCopy {g : Nat} {G : Gr} (hA : GA mi g G) (hw : Wf G) {u t : Nat} (hu : u < G.1) (h14 : G.1 < 14) : GA (putEs G.1 g [t] 0 (putAs G.1 g (G.2.1 u) 0 (emB (u2 mi g 0 (nI (G.1 + 1))) g G.1))) g (G.1 + 1, va_up G.2.1 G.1 (G.2.1 u), va_up G.2.2 G.1 [t]) ∧ offG mi (putEs G.1 g [t] 0 (putAs G.1 g (G.2.1 u) 0 (emB (u2 mi g 0 (nI (G.1 + 1))) g G.1))) g := by
  have a1 : GA (u2 mi g 0 (nI (G.1 + 1))) g (G.1 + 1, G.2.1, G.2.2) := by
    refine ⟨u2_s _ _ _ _, fun b hb => ?_⟩
    obtain ⟨h1, h2, h3, h4⟩ := hA.2 b hb
    exact ⟨(u2_n _ _ (Or.inl (by omega))).trans h1, (u2_n _ _ (Or.inl (by omega))).trans h2, fun k hk => (u2_n _ _ (Or.inl (by omega))).trans (h3 k hk), fun k hk => (u2_n _ _ (Or.inl (by omega))).trans (h4 k hk)⟩
  have a2 := GA_empty a1 h14
  have e1 : (va_up G.2.1 G.1 ([] : List Nat)) G.1 = [] := va_up_self _ _ _
  have e2 : (va_up G.2.2 G.1 ([] : List Nat)) G.1 = [] := va_up_self _ _ _
  have h6 : ∀ b, ((va_up G.2.1 G.1 ([] : List Nat)) b).length ≤ 6 := va_up_cases (P := fun _ (l : List Nat) => l.length ≤ 6) (fun k _ => (hw.2.2.1 k).1) (Nat.zero_le _)
  have h3 : ∀ b, ((va_up G.2.2 G.1 ([] : List Nat)) b).length ≤ 3 := va_up_cases (P := fun _ (l : List Nat) => l.length ≤ 3) (fun k _ => (hw.2.2.2.1 k).1) (Nat.zero_le _)
  have a3 := putAs_GA (g := g) h14 (G.2.1 u) _ _ a2 h6 (by show ((va_up G.2.1 G.1 ([] : List Nat)) G.1).length + _ ≤ 6; rw [e1]; simp; exact (hw.2.2.1 u).1)
  have a4 := putEs_GA (g := g) h14 [t] _ _ a3.1 h3 (by show ((va_up G.2.2 G.1 ([] : List Nat)) G.1).length + _ ≤ 3; rw [e2]; simp)
  simp only [e1, e2, va_up_up, List.nil_append, List.length_nil] at a3 a4
  refine ⟨a4.1, fun a i q => ?_⟩
  exact (a4.2 a i q).trans ((a3.2 a i q).trans ((u2_n _ _ (Or.inl (by omega))).trans ((u2_n _ _ (Or.inl (by omega))).trans (u2_n _ _ (Or.inl (by omega))))))
theorem GA_repl {g : Nat} {G : Gr} (hA : GA mi g G) (hw : Wf G) {b : Nat} {la le : List Nat} (hb : b < 14) (h6 : la.length ≤ 6) (h3 : le.length ≤ 3) : GA (putEs b g le 0 (putAs b g la 0 (emB mi g b))) g (G.1, va_up G.2.1 b la, va_up G.2.2 b le) ∧ offG mi (putEs b g le 0 (putAs b g la 0 (emB mi g b))) g := by
  have a2 := GA_empty hA hb
  have e1 : (va_up G.2.1 b ([] : List Nat)) b = [] := va_up_self _ _ _
  have e2 : (va_up G.2.2 b ([] : List Nat)) b = [] := va_up_self _ _ _
  have h6' : ∀ k, ((va_up G.2.1 b ([] : List Nat)) k).length ≤ 6 := va_up_cases (P := fun _ (l : List Nat) => l.length ≤ 6) (fun k _ => (hw.2.2.1 k).1) (Nat.zero_le _)
  have h3' : ∀ k, ((va_up G.2.2 b ([] : List Nat)) k).length ≤ 3 := va_up_cases (P := fun _ (l : List Nat) => l.length ≤ 3) (fun k _ => (hw.2.2.2.1 k).1) (Nat.zero_le _)
  have a3 := putAs_GA (g := g) hb la _ _ a2 h6' (by show ((va_up G.2.1 b ([] : List Nat)) b).length + _ ≤ 6; rw [e1]; simpa using h6)
  have a4 := putEs_GA (g := g) hb le _ _ a3.1 h3' (by show ((va_up G.2.2 b ([] : List Nat)) b).length + _ ≤ 3; rw [e2]; simpa using h3)
  simp only [e1, e2, va_up_up, List.nil_append, List.length_nil] at a3 a4
  refine ⟨a4.1, fun a i q => ?_⟩
  exact (a4.2 a i q).trans ((a3.2 a i q).trans ((u2_n _ _ (Or.inl (by omega))).trans (u2_n _ _ (Or.inl (by omega)))))
theorem ctX5_thread (hL : XL σ x) (hX : XA mi x S) (hS : SOK S) {b u t : Int32} : CtP κ 1 6 12 mrX5_thread [.ref x, .int b, .int u, .int t] (MM σ mi ml) (XR σ mi ml x [EIOB, ENSE, EISE] (rs_thread S b u t)) := by
  have hq := XQ (ml := ml) (σ := σ) hX
  have hw := hS.1
  have h14 := hw.2.1
  obtain ⟨ℓ, hHA⟩ := hX.2.2.1
  cases hb : inR b S.1.1 with
  | false =>
    rw [show rs_thread S b u t = (1, 0, S) from by unfold rs_thread; rw [if_pos (by rw [hb]; rfl)]]
    refine CtP.of rfl (by simp [Value.category]) (Nat.le_of_ble_eq_true rfl) ?_
    refine V_aload_n dX5_thread_0 rfl rfl ?_
    refine V_iload_n dX5_thread_1 rfl rfl ?_
    refine V_callVX (ctX5_requireBlock_f hL hX hS hb) mvX5_requireBlock lkX5_132 hL.1 rfl rfl rfl (Nat.le_of_ble_eq_true rfl) ⟨⟨Nat.le_of_ble_eq_true rfl, Nat.le_of_ble_eq_true rfl⟩, Nat.le_of_ble_eq_true rfl, Nat.le_of_ble_eq_true rfl⟩ dX5_thread_2 ?_
    exact VX_outP ⟨rfl, hq⟩ ⟨Nat.le_of_ble_eq_true rfl, Nat.le_of_ble_eq_true rfl⟩

  | true =>
    cases hu : inR u S.1.1 with
    | false =>
      rw [show rs_thread S b u t = (1, 0, S) from by unfold rs_thread; rw [if_pos (by rw [hu, Bool.false_and, Bool.and_false])]]
      refine CtP.of rfl (by simp [Value.category]) (Nat.le_of_ble_eq_true rfl) ?_
      refine V_aload_n dX5_thread_0 rfl rfl ?_
      refine V_iload_n dX5_thread_1 rfl rfl ?_
      refine V_cv0 (ctX5_requireBlock_t hL hX hS hb) mvX5_requireBlock lkX5_132 hL.1 rfl rfl rfl (Nat.le_of_ble_eq_true rfl) ⟨⟨Nat.le_of_ble_eq_true rfl, Nat.le_of_ble_eq_true rfl⟩, Nat.le_of_ble_eq_true rfl, Nat.le_of_ble_eq_true rfl⟩ dX5_thread_2 ?_
      refine V_aload_n dX5_thread_5 rfl rfl ?_
      refine V_iload_n dX5_thread_6 rfl rfl ?_
      refine V_callVX (ctX5_requireBlock_f hL hX hS hu) mvX5_requireBlock lkX5_132 hL.1 rfl rfl rfl (Nat.le_of_ble_eq_true rfl) ⟨⟨Nat.le_of_ble_eq_true rfl, Nat.le_of_ble_eq_true rfl⟩, Nat.le_of_ble_eq_true rfl, Nat.le_of_ble_eq_true rfl⟩ dX5_thread_7 ?_
      exact VX_outP ⟨rfl, hq⟩ ⟨Nat.le_of_ble_eq_true rfl, Nat.le_of_ble_eq_true rfl⟩

    | true =>
      cases ht : inR t S.1.1 with
      | false =>
        rw [show rs_thread S b u t = (1, 0, S) from by unfold rs_thread; rw [if_pos (by rw [ht, Bool.and_false, Bool.and_false])]]
        refine CtP.of rfl (by simp [Value.category]) (Nat.le_of_ble_eq_true rfl) ?_
        refine V_aload_n dX5_thread_0 rfl rfl ?_
        refine V_iload_n dX5_thread_1 rfl rfl ?_
        refine V_cv0 (ctX5_requireBlock_t hL hX hS hb) mvX5_requireBlock lkX5_132 hL.1 rfl rfl rfl (Nat.le_of_ble_eq_true rfl) ⟨⟨Nat.le_of_ble_eq_true rfl, Nat.le_of_ble_eq_true rfl⟩, Nat.le_of_ble_eq_true rfl, Nat.le_of_ble_eq_true rfl⟩ dX5_thread_2 ?_
        refine V_aload_n dX5_thread_5 rfl rfl ?_
        refine V_iload_n dX5_thread_6 rfl rfl ?_
        refine V_cv0 (ctX5_requireBlock_t hL hX hS hu) mvX5_requireBlock lkX5_132 hL.1 rfl rfl rfl (Nat.le_of_ble_eq_true rfl) ⟨⟨Nat.le_of_ble_eq_true rfl, Nat.le_of_ble_eq_true rfl⟩, Nat.le_of_ble_eq_true rfl, Nat.le_of_ble_eq_true rfl⟩ dX5_thread_7 ?_
        refine V_aload_n dX5_thread_10 rfl rfl ?_
        refine V_iload_n dX5_thread_11 rfl rfl ?_
        refine V_callVX (ctX5_requireBlock_f hL hX hS ht) mvX5_requireBlock lkX5_132 hL.1 rfl rfl rfl (Nat.le_of_ble_eq_true rfl) ⟨⟨Nat.le_of_ble_eq_true rfl, Nat.le_of_ble_eq_true rfl⟩, Nat.le_of_ble_eq_true rfl, Nat.le_of_ble_eq_true rfl⟩ dX5_thread_12 ?_
        exact VX_outP ⟨rfl, hq⟩ ⟨Nat.le_of_ble_eq_true rfl, Nat.le_of_ble_eq_true rfl⟩

      | true =>
        obtain ⟨j, hj, rfl⟩ := inR_t (by omega) hb
        have tj := tn_nI (show j < 2 ^ 31 by omega)
        obtain ⟨i, hi, rfl⟩ := inR_t (by omega) hu
        have ti := tn_nI (show i < 2 ^ 31 by omega)
        obtain ⟨q, hq1, rfl⟩ := inR_t (by omega) ht
        have tq := tn_nI (show q < 2 ^ 31 by omega)
        have h1 : ¬ (inR (nI j) S.1.1 && (inR (nI i) S.1.1 && inR (nI q) S.1.1)) = false := by rw [hb, hu, ht]; decide
        have h3l := (hw.2.2.2.1 j).1
        have h3m := (hw.2.2.2.1 i).1
        by_cases hm : i ∈ S.1.2.2 j
        · by_cases hm2 : q ∈ S.1.2.2 i
          · have h2 : ¬ (decide (i ∈ S.1.2.2 j) && decide (q ∈ S.1.2.2 i)) = false := by rw [decide_eq_true hm, decide_eq_true hm2]; decide
            have ht1 := ((hw.2.2.2.1 i).2.1 _ hm2).1
            by_cases h3 : 14 ≤ S.1.1
            · rw [show rs_thread S (nI j) (nI i) (nI q) = (3, 0, S) from by unfold rs_thread; rw [tj, ti, tq, if_neg h1, if_neg h2, if_pos h3]]
              refine CtP.of rfl (by simp [Value.category]) (Nat.le_of_ble_eq_true rfl) ?_
              refine V_aload_n dX5_thread_0 rfl rfl ?_
              refine V_iload_n dX5_thread_1 rfl rfl ?_
              refine V_cv0 (ctX5_requireBlock_t hL hX hS hb) mvX5_requireBlock lkX5_132 hL.1 rfl rfl rfl (Nat.le_of_ble_eq_true rfl) ⟨⟨Nat.le_of_ble_eq_true rfl, Nat.le_of_ble_eq_true rfl⟩, Nat.le_of_ble_eq_true rfl, Nat.le_of_ble_eq_true rfl⟩ dX5_thread_2 ?_
              refine V_aload_n dX5_thread_5 rfl rfl ?_
              refine V_iload_n dX5_thread_6 rfl rfl ?_
              refine V_cv0 (ctX5_requireBlock_t hL hX hS hu) mvX5_requireBlock lkX5_132 hL.1 rfl rfl rfl (Nat.le_of_ble_eq_true rfl) ⟨⟨Nat.le_of_ble_eq_true rfl, Nat.le_of_ble_eq_true rfl⟩, Nat.le_of_ble_eq_true rfl, Nat.le_of_ble_eq_true rfl⟩ dX5_thread_7 ?_
              refine V_aload_n dX5_thread_10 rfl rfl ?_
              refine V_iload_n dX5_thread_11 rfl rfl ?_
              refine V_cv0 (ctX5_requireBlock_t hL hX hS ht) mvX5_requireBlock lkX5_132 hL.1 rfl rfl rfl (Nat.le_of_ble_eq_true rfl) ⟨⟨Nat.le_of_ble_eq_true rfl, Nat.le_of_ble_eq_true rfl⟩, Nat.le_of_ble_eq_true rfl, Nat.le_of_ble_eq_true rfl⟩ dX5_thread_12 ?_
              refine V_aload_n dX5_thread_15 rfl rfl ?_
              refine V_getR frX5_20 hL.1 rfl dX5_thread_16 ?_
              refine V_iload_n dX5_thread_19 rfl rfl ?_
              refine V_iload_n dX5_thread_20 rfl rfl ?_
              refine V_cv1 (ctX1_edgeBetween hL.2.1.2.1 hX.1 hw (by omega) (by omega)) mvX1_edgeBetween lkX5_135 hL.2.1.2.1.1 rfl rfl rfl (Nat.le_of_ble_eq_true rfl) ⟨⟨Nat.le_of_ble_eq_true rfl, Nat.le_of_ble_eq_true rfl⟩, Nat.le_of_ble_eq_true rfl, Nat.le_of_ble_eq_true rfl⟩ dX5_thread_21 ?_
              refine V_top (eix_in hm) ?_
              refine V_istore dX5_thread_24 (Nat.le_of_ble_eq_true rfl) ?_
              refine V_iload dX5_thread_26 rfl ?_
              refine V_iconst (v := (-1)) dX5_thread_28 (by decide) ?_
              refine V_icmp_eq 45 dX5_thread_29 (by decide) (fun h29 => ?_) (fun h29 => ?_)
              · exact absurd h29 (nI_m1 (by have := idxOf_lt' hm; omega))
              · refine V_aload_n dX5_thread_32 rfl rfl ?_
                refine V_getR frX5_20 hL.1 rfl dX5_thread_33 ?_
                refine V_iload_n dX5_thread_36 rfl rfl ?_
                refine V_iload_n dX5_thread_37 rfl rfl ?_
                refine V_cv1 (ctX1_edgeBetween hL.2.1.2.1 hX.1 hw (by omega) (by omega)) mvX1_edgeBetween lkX5_135 hL.2.1.2.1.1 rfl rfl rfl (Nat.le_of_ble_eq_true rfl) ⟨⟨Nat.le_of_ble_eq_true rfl, Nat.le_of_ble_eq_true rfl⟩, Nat.le_of_ble_eq_true rfl, Nat.le_of_ble_eq_true rfl⟩ dX5_thread_38 ?_
                refine V_top (eix_in hm2) ?_
                refine V_iconst (v := (-1)) dX5_thread_41 (by decide) ?_
                refine V_icmp_ne 55 dX5_thread_42 (by decide) (fun h42 => ?_) (fun h42 => absurd h42 (nI_m1 (by have := idxOf_lt' hm2; omega)))
                refine V_aload_n dX5_thread_55 rfl rfl ?_
                refine V_getR frX5_20 hL.1 rfl dX5_thread_56 ?_
                refine V_getE frX5_72 hL.2.1.2.1.1 rfl hX.1.1 dX5_thread_59 ?_
                refine V_bipush (v := nI 14) dX5_thread_62 (by decide) ?_
                refine V_N_lt (by omega) (by omega) 77 dX5_thread_64 (by decide) (fun h64 => ?_) (fun h64 => ?_)
                · exfalso
                  omega
                · refine V_thrP ⟨rfl, hq⟩ ?_
                  exact V_throwS thrISE rfl str_156 rfl rfl rfl ⟨Nat.le_of_ble_eq_true rfl, Nat.le_of_ble_eq_true rfl⟩ (Nat.le_of_ble_eq_true rfl) (Nat.le_of_ble_eq_true rfl) dX5_thread_67 dX5_thread_70 dX5_thread_71 dX5_thread_73 dX5_thread_76

            · rw [show rs_thread S (nI j) (nI i) (nI q) = (0, nI S.1.1, chg S (thrG S.1 j i q)) from by unfold rs_thread; rw [tj, ti, tq, if_neg h1, if_neg h2, if_neg h3]; rfl]
              refine CtP.of rfl (by simp [Value.category]) (Nat.le_of_ble_eq_true rfl) ?_
              refine V_aload_n dX5_thread_0 rfl rfl ?_
              refine V_iload_n dX5_thread_1 rfl rfl ?_
              refine V_cv0 (ctX5_requireBlock_t hL hX hS hb) mvX5_requireBlock lkX5_132 hL.1 rfl rfl rfl (Nat.le_of_ble_eq_true rfl) ⟨⟨Nat.le_of_ble_eq_true rfl, Nat.le_of_ble_eq_true rfl⟩, Nat.le_of_ble_eq_true rfl, Nat.le_of_ble_eq_true rfl⟩ dX5_thread_2 ?_
              refine V_aload_n dX5_thread_5 rfl rfl ?_
              refine V_iload_n dX5_thread_6 rfl rfl ?_
              refine V_cv0 (ctX5_requireBlock_t hL hX hS hu) mvX5_requireBlock lkX5_132 hL.1 rfl rfl rfl (Nat.le_of_ble_eq_true rfl) ⟨⟨Nat.le_of_ble_eq_true rfl, Nat.le_of_ble_eq_true rfl⟩, Nat.le_of_ble_eq_true rfl, Nat.le_of_ble_eq_true rfl⟩ dX5_thread_7 ?_
              refine V_aload_n dX5_thread_10 rfl rfl ?_
              refine V_iload_n dX5_thread_11 rfl rfl ?_
              refine V_cv0 (ctX5_requireBlock_t hL hX hS ht) mvX5_requireBlock lkX5_132 hL.1 rfl rfl rfl (Nat.le_of_ble_eq_true rfl) ⟨⟨Nat.le_of_ble_eq_true rfl, Nat.le_of_ble_eq_true rfl⟩, Nat.le_of_ble_eq_true rfl, Nat.le_of_ble_eq_true rfl⟩ dX5_thread_12 ?_
              refine V_aload_n dX5_thread_15 rfl rfl ?_
              refine V_getR frX5_20 hL.1 rfl dX5_thread_16 ?_
              refine V_iload_n dX5_thread_19 rfl rfl ?_
              refine V_iload_n dX5_thread_20 rfl rfl ?_
              refine V_cv1 (ctX1_edgeBetween hL.2.1.2.1 hX.1 hw (by omega) (by omega)) mvX1_edgeBetween lkX5_135 hL.2.1.2.1.1 rfl rfl rfl (Nat.le_of_ble_eq_true rfl) ⟨⟨Nat.le_of_ble_eq_true rfl, Nat.le_of_ble_eq_true rfl⟩, Nat.le_of_ble_eq_true rfl, Nat.le_of_ble_eq_true rfl⟩ dX5_thread_21 ?_
              refine V_top (eix_in hm) ?_
              refine V_istore dX5_thread_24 (Nat.le_of_ble_eq_true rfl) ?_
              refine V_iload dX5_thread_26 rfl ?_
              refine V_iconst (v := (-1)) dX5_thread_28 (by decide) ?_
              refine V_icmp_eq 45 dX5_thread_29 (by decide) (fun h29 => ?_) (fun h29 => ?_)
              · exact absurd h29 (nI_m1 (by have := idxOf_lt' hm; omega))
              · refine V_aload_n dX5_thread_32 rfl rfl ?_
                refine V_getR frX5_20 hL.1 rfl dX5_thread_33 ?_
                refine V_iload_n dX5_thread_36 rfl rfl ?_
                refine V_iload_n dX5_thread_37 rfl rfl ?_
                refine V_cv1 (ctX1_edgeBetween hL.2.1.2.1 hX.1 hw (by omega) (by omega)) mvX1_edgeBetween lkX5_135 hL.2.1.2.1.1 rfl rfl rfl (Nat.le_of_ble_eq_true rfl) ⟨⟨Nat.le_of_ble_eq_true rfl, Nat.le_of_ble_eq_true rfl⟩, Nat.le_of_ble_eq_true rfl, Nat.le_of_ble_eq_true rfl⟩ dX5_thread_38 ?_
                refine V_top (eix_in hm2) ?_
                refine V_iconst (v := (-1)) dX5_thread_41 (by decide) ?_
                refine V_icmp_ne 55 dX5_thread_42 (by decide) (fun h42 => ?_) (fun h42 => absurd h42 (nI_m1 (by have := idxOf_lt' hm2; omega)))
                refine V_aload_n dX5_thread_55 rfl rfl ?_
                refine V_getR frX5_20 hL.1 rfl dX5_thread_56 ?_
                refine V_getE frX5_72 hL.2.1.2.1.1 rfl hX.1.1 dX5_thread_59 ?_
                refine V_bipush (v := nI 14) dX5_thread_62 (by decide) ?_
                refine V_N_lt (by omega) (by omega) 77 dX5_thread_64 (by decide) (fun h64 => ?_) (fun h64 => ?_)
                · refine V_aload_n dX5_thread_77 rfl rfl ?_
                  refine V_getR frX5_40 hL.1 rfl dX5_thread_78 ?_
                  refine V_aload_n dX5_thread_81 rfl rfl ?_
                  refine V_getR frX5_20 hL.1 rfl dX5_thread_82 ?_
                  refine V_cp0 (ctX2_remember hL.2.2.2.2.1 hL.2.1.2.1 (by omega) hHA hX.1 hw) mvX2_remember lkX5_105 hL.2.2.2.2.1.1 rfl rfl rfl (Nat.le_of_ble_eq_true rfl) ⟨⟨Nat.le_of_ble_eq_true rfl, Nat.le_of_ble_eq_true rfl⟩, Nat.le_of_ble_eq_true rfl, Nat.le_of_ble_eq_true rfl⟩ dX5_thread_85 (fun μ1 hx => ?_)
                  obtain ⟨m1, rfl, ⟨ℓ1, hH1⟩, ho1⟩ := hx
                  have hA1 : GA m1 (x + 1 + 1) S.1 := hX.1.keep (fun a i q1 q2 => ho1 a i (by omega))
                  refine V_aload_n dX5_thread_88 rfl rfl ?_
                  refine V_getR frX5_20 hL.1 rfl dX5_thread_89 ?_
                  refine V_iload_n dX5_thread_92 rfl rfl ?_
                  refine V_iload_n dX5_thread_93 rfl rfl ?_
                  refine V_cv1 (ctX1_addCopy hL.2.1.2.1 hA1 hw rfl hi (by omega)) mvX1_addCopy lkX5_158 hL.2.1.2.1.1 rfl rfl rfl (Nat.le_of_ble_eq_true rfl) ⟨⟨Nat.le_of_ble_eq_true rfl, Nat.le_of_ble_eq_true rfl⟩, Nat.le_of_ble_eq_true rfl, Nat.le_of_ble_eq_true rfl⟩ dX5_thread_94 ?_
                  obtain ⟨hA2, hof2⟩ := GA_addCopy (t := q) hA1 hw hi (by omega)
                  have hne : va_up S.1.2.2 S.1.1 [q] j = S.1.2.2 j := va_up_ne _ _ (by omega)
                  have hA3 := GA_redir hA2 (va_up_cases (P := fun _ (l : List Nat) => l.length ≤ 3) (fun k _ => (hw.2.2.2.1 k).1) (by simp)) (b := j) (i := (S.1.2.2 j).idxOf i) (x := S.1.1) (by omega) (by show _ < (va_up S.1.2.2 S.1.1 [q] j).length; rw [hne]; exact idxOf_lt' hm)
                  rw [show (va_up (S.1.1 + 1, va_up S.1.2.1 S.1.1 (S.1.2.1 i), va_up S.1.2.2 S.1.1 [q]).2.2 j (((S.1.1 + 1, va_up S.1.2.1 S.1.1 (S.1.2.1 i), va_up S.1.2.2 S.1.1 [q]).2.2 j).set ((S.1.2.2 j).idxOf i) S.1.1)) = va_up (va_up S.1.2.2 S.1.1 [q]) j ((S.1.2.2 j).set ((S.1.2.2 j).idxOf i) S.1.1) from by show va_up (va_up S.1.2.2 S.1.1 [q]) j ((va_up S.1.2.2 S.1.1 [q] j).set _ _) = _; rw [hne]] at hA3
                  refine V_istore dX5_thread_97 (Nat.le_of_ble_eq_true rfl) ?_
                  refine V_aload_n dX5_thread_99 rfl rfl ?_
                  refine V_getR frX5_20 hL.1 rfl dX5_thread_100 ?_
                  refine V_iload_n dX5_thread_103 rfl rfl ?_
                  refine V_iload dX5_thread_104 rfl ?_
                  refine V_iload dX5_thread_106 rfl ?_
                  refine V_cv0 (ctX1_redirect hL.2.1.2.1 (by omega) (by have := idxOf_lt' hm; omega)) mvX1_redirect lkX5_161 hL.2.1.2.1.1 rfl rfl rfl (Nat.le_of_ble_eq_true rfl) ⟨⟨Nat.le_of_ble_eq_true rfl, Nat.le_of_ble_eq_true rfl⟩, Nat.le_of_ble_eq_true rfl, Nat.le_of_ble_eq_true rfl⟩ dX5_thread_108 ?_
                  refine V_aload_n dX5_thread_111 rfl rfl ?_
                  refine V_cp0 (ctX5_followGraph hL hA3 (hw.thr hj hi hq1 ht1 (by omega))) mvX5_followGraph lkX5_82 hL.1 rfl rfl rfl (Nat.le_of_ble_eq_true rfl) ⟨⟨Nat.le_of_ble_eq_true rfl, Nat.le_of_ble_eq_true rfl⟩, Nat.le_of_ble_eq_true rfl, Nat.le_of_ble_eq_true rfl⟩ dX5_thread_112 (fun μ3 hx => ?_)
                  obtain ⟨m3, rfl, hf3, hc3, ho3⟩ := hx
                  refine V_iload dX5_thread_115 rfl ?_
                  exact V_iretP rfl ⟨rfl, m3, ml, rfl, hX.new ((hA3).keep (fun a i q1 q2 => ho3 a i (by omega) (by omega) (by omega))) hf3 ⟨ℓ1, hH1.keep (fun a i q1 q2 => (ho3 a i (by omega) (by omega) (by omega)).trans ((fun a i (q : a < x + 1 + 1 ∨ x + 1 + 1 + 5 ≤ a) => (u2_n _ _ (Or.inl (by omega))).trans (hof2 a i q)) a i (by omega)))⟩ (hX.2.2.2.2.1.keep (fun a i q => (ho3 a i (by omega) (by omega) (by omega)).trans (((fun a i (q : a < x + 1 + 1 ∨ x + 1 + 1 + 5 ≤ a) => (u2_n _ _ (Or.inl (by omega))).trans (hof2 a i q)) a i (by omega)).trans (ho1 a i (by omega))))) hc3 (fun a i q => (ho3 a i (by omega) (by omega) (by omega)).trans (((fun a i (q : a < x + 1 + 1 ∨ x + 1 + 1 + 5 ≤ a) => (u2_n _ _ (Or.inl (by omega))).trans (hof2 a i q)) a i (by omega)).trans (ho1 a i (by omega)))), fun a i q => ⟨(ho3 a i (by omega) (by omega) (by omega)).trans (((fun a i (q : a < x + 1 + 1 ∨ x + 1 + 1 + 5 ≤ a) => (u2_n _ _ (Or.inl (by omega))).trans (hof2 a i q)) a i (by omega)).trans (ho1 a i (by omega))), rfl⟩⟩ ⟨Nat.le_of_ble_eq_true rfl, Nat.le_of_ble_eq_true rfl⟩ dX5_thread_117
                · exfalso
                  omega

          · rw [show rs_thread S (nI j) (nI i) (nI q) = (2, 0, S) from by unfold rs_thread; rw [tj, ti, tq, if_neg h1, if_pos (by rw [decide_eq_false hm2, Bool.and_false])]]
            refine CtP.of rfl (by simp [Value.category]) (Nat.le_of_ble_eq_true rfl) ?_
            refine V_aload_n dX5_thread_0 rfl rfl ?_
            refine V_iload_n dX5_thread_1 rfl rfl ?_
            refine V_cv0 (ctX5_requireBlock_t hL hX hS hb) mvX5_requireBlock lkX5_132 hL.1 rfl rfl rfl (Nat.le_of_ble_eq_true rfl) ⟨⟨Nat.le_of_ble_eq_true rfl, Nat.le_of_ble_eq_true rfl⟩, Nat.le_of_ble_eq_true rfl, Nat.le_of_ble_eq_true rfl⟩ dX5_thread_2 ?_
            refine V_aload_n dX5_thread_5 rfl rfl ?_
            refine V_iload_n dX5_thread_6 rfl rfl ?_
            refine V_cv0 (ctX5_requireBlock_t hL hX hS hu) mvX5_requireBlock lkX5_132 hL.1 rfl rfl rfl (Nat.le_of_ble_eq_true rfl) ⟨⟨Nat.le_of_ble_eq_true rfl, Nat.le_of_ble_eq_true rfl⟩, Nat.le_of_ble_eq_true rfl, Nat.le_of_ble_eq_true rfl⟩ dX5_thread_7 ?_
            refine V_aload_n dX5_thread_10 rfl rfl ?_
            refine V_iload_n dX5_thread_11 rfl rfl ?_
            refine V_cv0 (ctX5_requireBlock_t hL hX hS ht) mvX5_requireBlock lkX5_132 hL.1 rfl rfl rfl (Nat.le_of_ble_eq_true rfl) ⟨⟨Nat.le_of_ble_eq_true rfl, Nat.le_of_ble_eq_true rfl⟩, Nat.le_of_ble_eq_true rfl, Nat.le_of_ble_eq_true rfl⟩ dX5_thread_12 ?_
            refine V_aload_n dX5_thread_15 rfl rfl ?_
            refine V_getR frX5_20 hL.1 rfl dX5_thread_16 ?_
            refine V_iload_n dX5_thread_19 rfl rfl ?_
            refine V_iload_n dX5_thread_20 rfl rfl ?_
            refine V_cv1 (ctX1_edgeBetween hL.2.1.2.1 hX.1 hw (by omega) (by omega)) mvX1_edgeBetween lkX5_135 hL.2.1.2.1.1 rfl rfl rfl (Nat.le_of_ble_eq_true rfl) ⟨⟨Nat.le_of_ble_eq_true rfl, Nat.le_of_ble_eq_true rfl⟩, Nat.le_of_ble_eq_true rfl, Nat.le_of_ble_eq_true rfl⟩ dX5_thread_21 ?_
            refine V_top (eix_in hm) ?_
            refine V_istore dX5_thread_24 (Nat.le_of_ble_eq_true rfl) ?_
            refine V_iload dX5_thread_26 rfl ?_
            refine V_iconst (v := (-1)) dX5_thread_28 (by decide) ?_
            refine V_icmp_eq 45 dX5_thread_29 (by decide) (fun h29 => ?_) (fun h29 => ?_)
            · exact absurd h29 (nI_m1 (by have := idxOf_lt' hm; omega))
            · refine V_aload_n dX5_thread_32 rfl rfl ?_
              refine V_getR frX5_20 hL.1 rfl dX5_thread_33 ?_
              refine V_iload_n dX5_thread_36 rfl rfl ?_
              refine V_iload_n dX5_thread_37 rfl rfl ?_
              refine V_cv1 (ctX1_edgeBetween hL.2.1.2.1 hX.1 hw (by omega) (by omega)) mvX1_edgeBetween lkX5_135 hL.2.1.2.1.1 rfl rfl rfl (Nat.le_of_ble_eq_true rfl) ⟨⟨Nat.le_of_ble_eq_true rfl, Nat.le_of_ble_eq_true rfl⟩, Nat.le_of_ble_eq_true rfl, Nat.le_of_ble_eq_true rfl⟩ dX5_thread_38 ?_
              refine V_top (eix_out hm2) ?_
              refine V_iconst (v := (-1)) dX5_thread_41 (by decide) ?_
              refine V_icmp_ne 55 dX5_thread_42 (by decide) (fun h42 => absurd h42 (fun q => q rfl)) (fun h42 => ?_)
              refine V_thrP ⟨rfl, hq⟩ ?_
              exact V_throwX nse0 nse1 nse2 nse5 thrNSE rfl str_154 rfl rfl rfl ⟨Nat.le_of_ble_eq_true rfl, Nat.le_of_ble_eq_true rfl⟩ (Nat.le_of_ble_eq_true rfl) (Nat.le_of_ble_eq_true rfl) dX5_thread_45 dX5_thread_48 dX5_thread_49 dX5_thread_51 dX5_thread_54

        · rw [show rs_thread S (nI j) (nI i) (nI q) = (2, 0, S) from by unfold rs_thread; rw [tj, ti, tq, if_neg h1, if_pos (by rw [decide_eq_false hm]; rfl)]]
          refine CtP.of rfl (by simp [Value.category]) (Nat.le_of_ble_eq_true rfl) ?_
          refine V_aload_n dX5_thread_0 rfl rfl ?_
          refine V_iload_n dX5_thread_1 rfl rfl ?_
          refine V_cv0 (ctX5_requireBlock_t hL hX hS hb) mvX5_requireBlock lkX5_132 hL.1 rfl rfl rfl (Nat.le_of_ble_eq_true rfl) ⟨⟨Nat.le_of_ble_eq_true rfl, Nat.le_of_ble_eq_true rfl⟩, Nat.le_of_ble_eq_true rfl, Nat.le_of_ble_eq_true rfl⟩ dX5_thread_2 ?_
          refine V_aload_n dX5_thread_5 rfl rfl ?_
          refine V_iload_n dX5_thread_6 rfl rfl ?_
          refine V_cv0 (ctX5_requireBlock_t hL hX hS hu) mvX5_requireBlock lkX5_132 hL.1 rfl rfl rfl (Nat.le_of_ble_eq_true rfl) ⟨⟨Nat.le_of_ble_eq_true rfl, Nat.le_of_ble_eq_true rfl⟩, Nat.le_of_ble_eq_true rfl, Nat.le_of_ble_eq_true rfl⟩ dX5_thread_7 ?_
          refine V_aload_n dX5_thread_10 rfl rfl ?_
          refine V_iload_n dX5_thread_11 rfl rfl ?_
          refine V_cv0 (ctX5_requireBlock_t hL hX hS ht) mvX5_requireBlock lkX5_132 hL.1 rfl rfl rfl (Nat.le_of_ble_eq_true rfl) ⟨⟨Nat.le_of_ble_eq_true rfl, Nat.le_of_ble_eq_true rfl⟩, Nat.le_of_ble_eq_true rfl, Nat.le_of_ble_eq_true rfl⟩ dX5_thread_12 ?_
          refine V_aload_n dX5_thread_15 rfl rfl ?_
          refine V_getR frX5_20 hL.1 rfl dX5_thread_16 ?_
          refine V_iload_n dX5_thread_19 rfl rfl ?_
          refine V_iload_n dX5_thread_20 rfl rfl ?_
          refine V_cv1 (ctX1_edgeBetween hL.2.1.2.1 hX.1 hw (by omega) (by omega)) mvX1_edgeBetween lkX5_135 hL.2.1.2.1.1 rfl rfl rfl (Nat.le_of_ble_eq_true rfl) ⟨⟨Nat.le_of_ble_eq_true rfl, Nat.le_of_ble_eq_true rfl⟩, Nat.le_of_ble_eq_true rfl, Nat.le_of_ble_eq_true rfl⟩ dX5_thread_21 ?_
          refine V_top (eix_out hm) ?_
          refine V_istore dX5_thread_24 (Nat.le_of_ble_eq_true rfl) ?_
          refine V_iload dX5_thread_26 rfl ?_
          refine V_iconst (v := (-1)) dX5_thread_28 (by decide) ?_
          refine V_icmp_eq 45 dX5_thread_29 (by decide) (fun h29 => ?_) (fun h29 => absurd rfl h29)
          refine V_thrP ⟨rfl, hq⟩ ?_
          exact V_throwX nse0 nse1 nse2 nse5 thrNSE rfl str_154 rfl rfl rfl ⟨Nat.le_of_ble_eq_true rfl, Nat.le_of_ble_eq_true rfl⟩ (Nat.le_of_ble_eq_true rfl) (Nat.le_of_ble_eq_true rfl) dX5_thread_45 dX5_thread_48 dX5_thread_49 dX5_thread_51 dX5_thread_54

theorem ctX5_define (hL : XL σ x) (hX : XA mi x S) (hS : SOK S)  : CtP κ 1 6 12 mrX5_define [.ref x] (MM σ mi ml) (XR σ mi ml x [EIAE] (rs_define S)) := by
  have hq := XQ (ml := ml) (σ := σ) hX
  have hw := hS.1
  have h14 := hw.2.1
  obtain ⟨ℓ, hHA⟩ := hX.2.2.1
  cases hp : pr S.2.2.2.1 S.1.1 with
  | inl e =>
    rw [show rs_define S = (1, 0, (S.1, S.2.1, S.2.2.1, [], nI e, S.2.2.2.2.2)) from by unfold rs_define; rw [hp]]
    have he : e < 100 := pr_lt hS.2.2.2.1 hp
    refine CtP.of rfl (by simp [Value.category]) (Nat.le_of_ble_eq_true rfl) ?_
    refine V_aload_n dX5_define_0 rfl rfl ?_
    refine V_getR frX5_47 hL.1 rfl dX5_define_1 ?_
    refine V_aload_n dX5_define_4 rfl rfl ?_
    refine V_getR frX5_20 hL.1 rfl dX5_define_5 ?_
    refine V_getE frX5_72 hL.2.1.2.1.1 rfl hX.1.1 dX5_define_8 ?_
    refine V_cp1 (ctX3_read hL.2.2.2.2.2.1 hX.2.2.2.2.1 hS.2.2.2.1 h14 hw.1) mvX3_read lkX5_99 hL.2.2.2.2.2.1.1 rfl rfl rfl (Nat.le_of_ble_eq_true rfl) ⟨⟨Nat.le_of_ble_eq_true rfl, Nat.le_of_ble_eq_true rfl⟩, Nat.le_of_ble_eq_true rfl, Nat.le_of_ble_eq_true rfl⟩ dX5_define_11 (fun y μ0 hx => ?_)
    obtain ⟨rfl, m0, rfl, hln, hl1, ho0⟩ := hx
    rw [hp]
    show V κ _ _ _ _ _ [.int (nI e)] _
    refine V_istore_n dX5_define_14 rfl (Nat.le_of_ble_eq_true rfl) ?_
    refine V_aload_n dX5_define_15 rfl rfl ?_
    refine V_getR frX5_47 hL.1 rfl dX5_define_16 ?_
    refine V_iconst (v := nI 0) dX5_define_19 (by decide) ?_
    refine V_putI fpX5_87 rfl rfl hL.2.2.2.2.2.1.1 rfl dX5_define_20 ?_
    refine V_iload_n dX5_define_23 rfl rfl ?_
    refine V_iconst (v := (-1)) dX5_define_24 (by decide) ?_
    refine V_icmp_eq 43 dX5_define_25 (by decide) (fun h25 => ?_) (fun h25 => ?_)
    · exact absurd h25 (nI_m1 (by omega))
    · refine V_aload_n dX5_define_28 rfl rfl ?_
      refine V_iload_n dX5_define_29 rfl rfl ?_
      refine V_putI fpX5_51 rfl rfl hL.1 rfl dX5_define_30 ?_
      refine V_thrP ⟨rfl, _, ml, rfl, ⟨hX.1.keep (fun a i q1 q2 => (u2_n _ _ (Or.inl (by omega))).trans ((u2_n _ _ (Or.inl (by omega))).trans (ho0 a i (by omega)))), hX.2.1.keep (fun a i q => (u2_n _ _ (Or.inl (by omega))).trans ((u2_n _ _ (Or.inl (by omega))).trans (ho0 a i (by omega)))), ⟨ℓ, hHA.keep (fun a i q1 q2 => (u2_n _ _ (Or.inl (by omega))).trans ((u2_n _ _ (Or.inl (by omega))).trans (ho0 a i (by omega))))⟩, ⟨((u2_n _ _ (Or.inr (by decide))).trans ((u2_n _ _ (Or.inl (by omega))).trans (ho0 _ _ (by omega)))).trans hX.2.2.2.1.1, fun g hg => (hX.2.2.2.1.2 g hg).keep (fun a i q1 q2 => (u2_n _ _ (Or.inl (by omega))).trans ((u2_n _ _ (Or.inl (by omega))).trans (ho0 a i (by omega))))⟩, ⟨(u2_n _ _ (Or.inl (by omega))).trans (u2_s _ _ _ _), fun i hi => absurd hi (Nat.not_lt_zero i)⟩, u2_s _ _ _ _, hX.2.2.2.2.2.2.keep (fun a i q1 q2 => (u2_n _ _ (Or.inl (by omega))).trans ((u2_n _ _ (Or.inl (by omega))).trans (ho0 a i (by omega))))⟩, fun a i q => ⟨(u2_n _ _ (Or.inl (by omega))).trans ((u2_n _ _ (Or.inl (by omega))).trans (ho0 a i (by omega))), rfl⟩⟩ ?_
      exact V_throwS thrIAE rfl str_103 rfl rfl rfl ⟨Nat.le_of_ble_eq_true rfl, Nat.le_of_ble_eq_true rfl⟩ (Nat.le_of_ble_eq_true rfl) (Nat.le_of_ble_eq_true rfl) dX5_define_33 dX5_define_36 dX5_define_37 dX5_define_39 dX5_define_42

  | inr r =>
    obtain ⟨b, la, le⟩ := r
    obtain ⟨p1, p2, p3, p4, p5, p6⟩ := pr_ok hp
    rw [show rs_define S = (0, nI b, chg (S.1, S.2.1, S.2.2.1, [], S.2.2.2.2) (S.1.1, va_up S.1.2.1 b la, va_up S.1.2.2 b le)) from by unfold rs_define; rw [hp]]
    refine CtP.of rfl (by simp [Value.category]) (Nat.le_of_ble_eq_true rfl) ?_
    refine V_aload_n dX5_define_0 rfl rfl ?_
    refine V_getR frX5_47 hL.1 rfl dX5_define_1 ?_
    refine V_aload_n dX5_define_4 rfl rfl ?_
    refine V_getR frX5_20 hL.1 rfl dX5_define_5 ?_
    refine V_getE frX5_72 hL.2.1.2.1.1 rfl hX.1.1 dX5_define_8 ?_
    refine V_cp1 (ctX3_read hL.2.2.2.2.2.1 hX.2.2.2.2.1 hS.2.2.2.1 h14 hw.1) mvX3_read lkX5_99 hL.2.2.2.2.2.1.1 rfl rfl rfl (Nat.le_of_ble_eq_true rfl) ⟨⟨Nat.le_of_ble_eq_true rfl, Nat.le_of_ble_eq_true rfl⟩, Nat.le_of_ble_eq_true rfl, Nat.le_of_ble_eq_true rfl⟩ dX5_define_11 (fun y μ0 hx => ?_)
    obtain ⟨rfl, m0, rfl, hln, hl1, ho0⟩ := hx
    rw [hp]
    show V κ _ _ _ _ _ [.int (-1)] _
    refine V_istore_n dX5_define_14 rfl (Nat.le_of_ble_eq_true rfl) ?_
    refine V_aload_n dX5_define_15 rfl rfl ?_
    refine V_getR frX5_47 hL.1 rfl dX5_define_16 ?_
    refine V_iconst (v := nI 0) dX5_define_19 (by decide) ?_
    refine V_putI fpX5_87 rfl rfl hL.2.2.2.2.2.1.1 rfl dX5_define_20 ?_
    have hX0 : ∀ a i, (a < x + 82 ∨ x + 86 ≤ a) → u2 m0 (x + 82) 1 (nI 0) a i = mi a i := fun a i q => (u2_n _ _ (Or.inl (by omega))).trans (ho0 a i (by omega))
    have hln0 : LnA (u2 m0 (x + 82) 1 (nI 0)) (x + 82) b la le := by
      obtain ⟨l1, l2, l3, l4, l5⟩ := hln b la le hp
      exact ⟨(u2_n _ _ (Or.inr (by decide))).trans l1, (u2_n _ _ (Or.inr (by decide))).trans l2, (u2_n _ _ (Or.inr (by decide))).trans l3, fun k hk => (u2_n _ _ (Or.inl (by omega))).trans (l4 k hk), fun k hk => (u2_n _ _ (Or.inl (by omega))).trans (l5 k hk)⟩
    have hA0 : GA (u2 m0 (x + 82) 1 (nI 0)) (x + 1 + 1) S.1 := hX.1.keep (fun a i q1 q2 => hX0 a i (by omega))
    refine V_iload_n dX5_define_23 rfl rfl ?_
    refine V_iconst (v := (-1)) dX5_define_24 (by decide) ?_
    refine V_icmp_eq 43 dX5_define_25 (by decide) (fun h25 => ?_) (fun h25 => absurd rfl h25)
    refine V_aload_n dX5_define_43 rfl rfl ?_
    refine V_getR frX5_40 hL.1 rfl dX5_define_44 ?_
    refine V_aload_n dX5_define_47 rfl rfl ?_
    refine V_getR frX5_20 hL.1 rfl dX5_define_48 ?_
    refine V_cp0 (ctX2_remember hL.2.2.2.2.1 hL.2.1.2.1 (by omega) (hHA.keep (fun a i q1 q2 => hX0 a i (by omega))) hA0 hw) mvX2_remember lkX5_105 hL.2.2.2.2.1.1 rfl rfl rfl (Nat.le_of_ble_eq_true rfl) ⟨⟨Nat.le_of_ble_eq_true rfl, Nat.le_of_ble_eq_true rfl⟩, Nat.le_of_ble_eq_true rfl, Nat.le_of_ble_eq_true rfl⟩ dX5_define_51 (fun μ1 hx => ?_)
    obtain ⟨m1, rfl, ⟨ℓ1, hH1⟩, ho1⟩ := hx
    have hA1 : GA m1 (x + 1 + 1) S.1 := hA0.keep (fun a i q1 q2 => ho1 a i (by omega))
    have hln1 : LnA m1 (x + 82) b la le := by
      obtain ⟨l1, l2, l3, l4, l5⟩ := hln0
      exact ⟨(ho1 _ _ (by omega)).trans l1, (ho1 _ _ (by omega)).trans l2, (ho1 _ _ (by omega)).trans l3, fun k hk => (ho1 _ _ (by omega)).trans (l4 k hk), fun k hk => (ho1 _ _ (by omega)).trans (l5 k hk)⟩
    obtain ⟨hA2, hof2⟩ := GA_repl hA1 hw (show b < 14 by omega) p2 p4
    refine V_aload_n dX5_define_54 rfl rfl ?_
    refine V_getR frX5_20 hL.1 rfl dX5_define_55 ?_
    refine V_aload_n dX5_define_58 rfl rfl ?_
    refine V_getR frX5_47 hL.1 rfl dX5_define_59 ?_
    refine V_cv0 (ctX1_replaceBlock hL.2.1.2.1 hL.2.2.2.2.2.1 (by omega) (by omega) hln1 p2 p4) mvX1_replaceBlock lkX5_109 hL.2.1.2.1.1 rfl rfl rfl (Nat.le_of_ble_eq_true rfl) ⟨⟨Nat.le_of_ble_eq_true rfl, Nat.le_of_ble_eq_true rfl⟩, Nat.le_of_ble_eq_true rfl, Nat.le_of_ble_eq_true rfl⟩ dX5_define_62 ?_
    refine V_aload_n dX5_define_65 rfl rfl ?_
    refine V_cp0 (ctX5_followGraph hL hA2 ((hw.upA p1 p2 p3).upE p1 p4 p5 p6)) mvX5_followGraph lkX5_82 hL.1 rfl rfl rfl (Nat.le_of_ble_eq_true rfl) ⟨⟨Nat.le_of_ble_eq_true rfl, Nat.le_of_ble_eq_true rfl⟩, Nat.le_of_ble_eq_true rfl, Nat.le_of_ble_eq_true rfl⟩ dX5_define_66 (fun μ3 hx => ?_)
    obtain ⟨m3, rfl, hf3, hc3, ho3⟩ := hx
    refine V_aload_n dX5_define_69 rfl rfl ?_
    refine V_getR frX5_47 hL.1 rfl dX5_define_70 ?_
    refine V_getE frX5_113 hL.2.2.2.2.2.1.1 rfl ((ho3 _ _ (by omega) (by omega) (by omega)).trans ((hof2 _ _ (by omega)).trans hln1.1)) dX5_define_73 ?_
    exact V_iretP rfl ⟨rfl, m3, ml, rfl, hX.new (hA2.keep (fun a i q1 q2 => ho3 a i (by omega) (by omega) (by omega))) hf3 ⟨ℓ1, hH1.keep (fun a i q1 q2 => (ho3 a i (by omega) (by omega) (by omega)).trans (hof2 a i (by omega)))⟩ (show LC m3 (x + 82) [] from ⟨(ho3 _ _ (by omega) (by omega) (by omega)).trans ((hof2 _ _ (by omega)).trans ((ho1 _ _ (by omega)).trans (u2_s _ _ _ _))), fun i hi => absurd hi (Nat.not_lt_zero i)⟩) hc3 (fun a i q => (ho3 a i (by omega) (by omega) (by omega)).trans ((hof2 a i (by omega)).trans ((ho1 a i (by omega)).trans (hX0 a i (by omega))))), fun a i q => ⟨(ho3 a i (by omega) (by omega) (by omega)).trans ((hof2 a i (by omega)).trans ((ho1 a i (by omega)).trans (hX0 a i (by omega)))), rfl⟩⟩ ⟨Nat.le_of_ble_eq_true rfl, Nat.le_of_ble_eq_true rfl⟩ dX5_define_76

theorem ctX5_undo (hL : XL σ x) (hX : XA mi x S) (hS : SOK S)  : CtP κ 1 6 12 mrX5_undo [.ref x] (MM σ mi ml) (XR σ mi ml x [ENSE] (rs_undo S)) := by
  have hq := XQ (ml := ml) (σ := σ) hX
  have hw := hS.1
  have h14 := hw.2.1
  obtain ⟨ℓ, hHA⟩ := hX.2.2.1
  have h8 := hS.2.1.1
  by_cases h0 : S.2.1.1 = 0
  · rw [show rs_undo S = (1, 0, S) from by unfold rs_undo; rw [if_pos h0]]
    refine CtP.of rfl (by simp [Value.category]) (Nat.le_of_ble_eq_true rfl) ?_
    refine V_aload_n dX5_undo_0 rfl rfl ?_
    refine V_getR frX5_40 hL.1 rfl dX5_undo_1 ?_
    refine V_getE frX5_278 hL.2.2.2.2.1.1 rfl hHA.2.2.1 dX5_undo_4 ?_
    refine V_Z_ne (by omega) 21 dX5_undo_7 (by decide) (fun h7 => absurd h7 (fun q => q h0)) (fun h7 => ?_)
    refine V_thrP ⟨rfl, hq⟩ ?_
    exact V_throwXW nse0 nse1 nse2 nse5 thrNSE rfl str_281 rfl rfl rfl ⟨Nat.le_of_ble_eq_true rfl, Nat.le_of_ble_eq_true rfl⟩ (Nat.le_of_ble_eq_true rfl) (Nat.le_of_ble_eq_true rfl) dX5_undo_10 dX5_undo_13 dX5_undo_14 dX5_undo_17 dX5_undo_20

  · have hw0 := hS.2.1.2 0 (by omega)
    rw [show rs_undo S = (0, nI (S.2.1.1 - 1), (S.2.1.2 0, (S.2.1.1 - 1, fun i => S.2.1.2 (i + 1)), S.2.2.1, S.2.2.2.1, S.2.2.2.2.1, 0, S.2.2.2.2.2.2)) from by unfold rs_undo; rw [if_neg h0]]
    refine CtP.of rfl (by simp [Value.category]) (Nat.le_of_ble_eq_true rfl) ?_
    refine V_aload_n dX5_undo_0 rfl rfl ?_
    refine V_getR frX5_40 hL.1 rfl dX5_undo_1 ?_
    refine V_getE frX5_278 hL.2.2.2.2.1.1 rfl hHA.2.2.1 dX5_undo_4 ?_
    refine V_Z_ne (by omega) 21 dX5_undo_7 (by decide) (fun h7 => ?_) (fun h7 => absurd h7 h0)
    refine V_aload_n dX5_undo_21 rfl rfl ?_
    refine V_getR frX5_40 hL.1 rfl dX5_undo_22 ?_
    refine V_aload_n dX5_undo_25 rfl rfl ?_
    refine V_getR frX5_20 hL.1 rfl dX5_undo_26 ?_
    refine V_cp0 (ctX2_takeBack hL.2.2.2.2.1 hL.2.1.2.1 (by omega) hHA (by omega) hw0) mvX2_takeBack lkX5_283 hL.2.2.2.2.1.1 rfl rfl rfl (Nat.le_of_ble_eq_true rfl) ⟨⟨Nat.le_of_ble_eq_true rfl, Nat.le_of_ble_eq_true rfl⟩, Nat.le_of_ble_eq_true rfl, Nat.le_of_ble_eq_true rfl⟩ dX5_undo_29 (fun μ1 hx => ?_)
    obtain ⟨m1, rfl, ⟨ℓ1, hH1⟩, hA1, ho1⟩ := hx
    refine V_aload_n dX5_undo_32 rfl rfl ?_
    refine V_cp0 (ctX5_followGraph hL hA1 hw0) mvX5_followGraph lkX5_82 hL.1 rfl rfl rfl (Nat.le_of_ble_eq_true rfl) ⟨⟨Nat.le_of_ble_eq_true rfl, Nat.le_of_ble_eq_true rfl⟩, Nat.le_of_ble_eq_true rfl, Nat.le_of_ble_eq_true rfl⟩ dX5_undo_33 (fun μ3 hx => ?_)
    obtain ⟨m3, rfl, hf3, hc3, ho3⟩ := hx
    refine V_aload_n dX5_undo_36 rfl rfl ?_
    refine V_getR frX5_40 hL.1 rfl dX5_undo_37 ?_
    refine V_getE frX5_278 hL.2.2.2.2.1.1 rfl ((ho3 _ _ (by omega) (by omega) (by omega)).trans hH1.2.2.1) dX5_undo_40 ?_
    exact V_iretP rfl ⟨rfl, m3, ml, rfl, hX.new (hA1.keep (fun a i q1 q2 => ho3 a i (by omega) (by omega) (by omega))) hf3 ⟨ℓ1, hH1.keep (fun a i q1 q2 => ho3 a i (by omega) (by omega) (by omega))⟩ (hX.2.2.2.2.1.keep (fun a i q => (ho3 a i (by omega) (by omega) (by omega)).trans (ho1 a i (by omega) (by omega)))) hc3 (fun a i q => (ho3 a i (by omega) (by omega) (by omega)).trans (ho1 a i (by omega) (by omega))), fun a i q => ⟨(ho3 a i (by omega) (by omega) (by omega)).trans (ho1 a i (by omega) (by omega)), rfl⟩⟩ ⟨Nat.le_of_ble_eq_true rfl, Nat.le_of_ble_eq_true rfl⟩ dX5_undo_43

theorem ctX5_walk (hL : XL σ x) (hX : XA mi x S) (hS : SOK S) {e : Int32} : CtP κ 1 6 12 mrX5_walk [.ref x, .int e] (MM σ mi ml) (XR σ mi ml x [EISE, ENSE] (rs_walk S e)) := by
  have hq := XQ (ml := ml) (σ := σ) hX
  have hw := hS.1
  have h14 := hw.2.1
  have h30 := hS.2.2.2.2.2.1
  have hRc := (walk_rc hS S.2.2.2.2.2.1 (Nat.le_refl _))
  have hlt := hRc.lt hw
  by_cases h0 : 30 ≤ S.2.2.2.2.2.1
  · rw [show rs_walk S e = (1, 0, S) from by unfold rs_walk; rw [if_pos h0]]
    refine CtP.of rfl (by simp [Value.category]) (Nat.le_of_ble_eq_true rfl) ?_
    refine V_aload_n dX5_walk_0 rfl rfl ?_
    refine V_getR frX5_58 hL.1 rfl dX5_walk_1 ?_
    refine V_getE frX5_286 hL.2.2.2.2.2.2.1 rfl hX.2.2.2.2.2.2.1 dX5_walk_4 ?_
    refine V_bipush (v := nI 30) dX5_walk_7 (by decide) ?_
    refine V_N_lt (by omega) (by omega) 23 dX5_walk_9 (by decide) (fun h9 => ?_) (fun h9 => ?_)
    · exfalso
      omega
    · refine V_thrP ⟨rfl, hq⟩ ?_
      exact V_throwSW thrISE rfl str_289 rfl rfl rfl ⟨Nat.le_of_ble_eq_true rfl, Nat.le_of_ble_eq_true rfl⟩ (Nat.le_of_ble_eq_true rfl) (Nat.le_of_ble_eq_true rfl) dX5_walk_12 dX5_walk_15 dX5_walk_16 dX5_walk_19 dX5_walk_22

  · have hes : hasEdg S.1 (nI (S.2.2.2.2.2.2 S.2.2.2.2.2.1)) e = inR e (S.1.2.2 (S.2.2.2.2.2.2 S.2.2.2.2.2.1)).length := by unfold hasEdg; rw [inR_nI hlt (by omega), nI_clamp (by omega)]; rfl
    have h3l := (hw.2.2.2.1 (S.2.2.2.2.2.2 S.2.2.2.2.2.1)).1
    cases he : inR e (S.1.2.2 (S.2.2.2.2.2.2 S.2.2.2.2.2.1)).length with
    | false =>
      rw [show rs_walk S e = (2, 0, S) from by unfold rs_walk; rw [if_neg h0, if_pos he]]
      refine CtP.of rfl (by simp [Value.category]) (Nat.le_of_ble_eq_true rfl) ?_
      refine V_aload_n dX5_walk_0 rfl rfl ?_
      refine V_getR frX5_58 hL.1 rfl dX5_walk_1 ?_
      refine V_getE frX5_286 hL.2.2.2.2.2.2.1 rfl hX.2.2.2.2.2.2.1 dX5_walk_4 ?_
      refine V_bipush (v := nI 30) dX5_walk_7 (by decide) ?_
      refine V_N_lt (by omega) (by omega) 23 dX5_walk_9 (by decide) (fun h9 => ?_) (fun h9 => ?_)
      · refine V_aload_n dX5_walk_23 rfl rfl ?_
        refine V_getR frX5_20 hL.1 rfl dX5_walk_24 ?_
        refine V_aload_n dX5_walk_27 rfl rfl ?_
        refine V_getR frX5_58 hL.1 rfl dX5_walk_28 ?_
        refine V_cv1 (ctX4_end hL.2.2.2.2.2.2 hX.2.2.2.2.2.2 h30) mvX4_end lkX5_291 hL.2.2.2.2.2.2.1 rfl rfl rfl (Nat.le_of_ble_eq_true rfl) ⟨⟨Nat.le_of_ble_eq_true rfl, Nat.le_of_ble_eq_true rfl⟩, Nat.le_of_ble_eq_true rfl, Nat.le_of_ble_eq_true rfl⟩ dX5_walk_31 ?_
        refine V_iload_n dX5_walk_34 rfl rfl ?_
        refine V_cv1 (ctX1_hasEdge hL.2.1.2.1 hX.1 hw) mvX1_hasEdge lkX5_168 hL.2.1.2.1.1 rfl rfl rfl (Nat.le_of_ble_eq_true rfl) ⟨⟨Nat.le_of_ble_eq_true rfl, Nat.le_of_ble_eq_true rfl⟩, Nat.le_of_ble_eq_true rfl, Nat.le_of_ble_eq_true rfl⟩ dX5_walk_35 ?_
        rw [hes]
        refine V_ifneB 52 dX5_walk_38 (by decide) (fun h38 => absurd (h38.symm.trans he) (by decide)) (fun h38 => ?_)
        refine V_thrP ⟨rfl, hq⟩ ?_
        exact V_throwXW nse0 nse1 nse2 nse5 thrNSE rfl str_294 rfl rfl rfl ⟨Nat.le_of_ble_eq_true rfl, Nat.le_of_ble_eq_true rfl⟩ (Nat.le_of_ble_eq_true rfl) (Nat.le_of_ble_eq_true rfl) dX5_walk_41 dX5_walk_44 dX5_walk_45 dX5_walk_48 dX5_walk_51
      · exfalso
        omega

    | true =>
      obtain ⟨i, hi, rfl⟩ := inR_t (by omega) he
      have ti := tn_nI (show i < 2 ^ 31 by omega)
      rw [show rs_walk S (nI i) = (0, nI ((S.1.2.2 (S.2.2.2.2.2.2 S.2.2.2.2.2.1)).getD i 0), (S.1, S.2.1, S.2.2.1, S.2.2.2.1, S.2.2.2.2.1, S.2.2.2.2.2.1 + 1, fun k => if k = S.2.2.2.2.2.1 + 1 then (S.1.2.2 (S.2.2.2.2.2.2 S.2.2.2.2.2.1)).getD i 0 else S.2.2.2.2.2.2 k)) from by unfold rs_walk; rw [if_neg h0, if_neg (by rw [he]; decide), ti]]
      refine CtP.of rfl (by simp [Value.category]) (Nat.le_of_ble_eq_true rfl) ?_
      refine V_aload_n dX5_walk_0 rfl rfl ?_
      refine V_getR frX5_58 hL.1 rfl dX5_walk_1 ?_
      refine V_getE frX5_286 hL.2.2.2.2.2.2.1 rfl hX.2.2.2.2.2.2.1 dX5_walk_4 ?_
      refine V_bipush (v := nI 30) dX5_walk_7 (by decide) ?_
      refine V_N_lt (by omega) (by omega) 23 dX5_walk_9 (by decide) (fun h9 => ?_) (fun h9 => ?_)
      · refine V_aload_n dX5_walk_23 rfl rfl ?_
        refine V_getR frX5_20 hL.1 rfl dX5_walk_24 ?_
        refine V_aload_n dX5_walk_27 rfl rfl ?_
        refine V_getR frX5_58 hL.1 rfl dX5_walk_28 ?_
        refine V_cv1 (ctX4_end hL.2.2.2.2.2.2 hX.2.2.2.2.2.2 h30) mvX4_end lkX5_291 hL.2.2.2.2.2.2.1 rfl rfl rfl (Nat.le_of_ble_eq_true rfl) ⟨⟨Nat.le_of_ble_eq_true rfl, Nat.le_of_ble_eq_true rfl⟩, Nat.le_of_ble_eq_true rfl, Nat.le_of_ble_eq_true rfl⟩ dX5_walk_31 ?_
        refine V_iload_n dX5_walk_34 rfl rfl ?_
        refine V_cv1 (ctX1_hasEdge hL.2.1.2.1 hX.1 hw) mvX1_hasEdge lkX5_168 hL.2.1.2.1.1 rfl rfl rfl (Nat.le_of_ble_eq_true rfl) ⟨⟨Nat.le_of_ble_eq_true rfl, Nat.le_of_ble_eq_true rfl⟩, Nat.le_of_ble_eq_true rfl, Nat.le_of_ble_eq_true rfl⟩ dX5_walk_35 ?_
        rw [hes]
        refine V_ifneB 52 dX5_walk_38 (by decide) (fun h38 => ?_) (fun h38 => absurd (h38.symm.trans he) (by decide))
        refine V_aload_n dX5_walk_52 rfl rfl ?_
        refine V_getR frX5_58 hL.1 rfl dX5_walk_53 ?_
        refine V_aload_n dX5_walk_56 rfl rfl ?_
        refine V_getR frX5_20 hL.1 rfl dX5_walk_57 ?_
        refine V_aload_n dX5_walk_60 rfl rfl ?_
        refine V_getR frX5_58 hL.1 rfl dX5_walk_61 ?_
        refine V_cv1 (ctX4_end hL.2.2.2.2.2.2 hX.2.2.2.2.2.2 h30) mvX4_end lkX5_291 hL.2.2.2.2.2.2.1 rfl rfl rfl (Nat.le_of_ble_eq_true rfl) ⟨⟨Nat.le_of_ble_eq_true rfl, Nat.le_of_ble_eq_true rfl⟩, Nat.le_of_ble_eq_true rfl, Nat.le_of_ble_eq_true rfl⟩ dX5_walk_64 ?_
        refine V_iload_n dX5_walk_67 rfl rfl ?_
        refine V_cv1 (ctX1_targetAt hL.2.1.2.1 (by omega) (by omega)) mvX1_targetAt lkX5_177 hL.2.1.2.1.1 rfl rfl rfl (Nat.le_of_ble_eq_true rfl) ⟨⟨Nat.le_of_ble_eq_true rfl, Nat.le_of_ble_eq_true rfl⟩, Nat.le_of_ble_eq_true rfl, Nat.le_of_ble_eq_true rfl⟩ dX5_walk_68 ?_
        refine V_top ((hX.1.2 (S.2.2.2.2.2.2 S.2.2.2.2.2.1) (by omega)).2.2.2 i hi) ?_
        refine V_cv0 (ctX4_goTo hL.2.2.2.2.2.2 hX.2.2.2.2.2.2 (by omega)) mvX4_goTo lkX5_296 hL.2.2.2.2.2.2.1 rfl rfl rfl (Nat.le_of_ble_eq_true rfl) ⟨⟨Nat.le_of_ble_eq_true rfl, Nat.le_of_ble_eq_true rfl⟩, Nat.le_of_ble_eq_true rfl, Nat.le_of_ble_eq_true rfl⟩ dX5_walk_71 ?_
        refine V_aload_n dX5_walk_74 rfl rfl ?_
        refine V_getR frX5_58 hL.1 rfl dX5_walk_75 ?_
        refine V_cv1 (ctX4_end hL.2.2.2.2.2.2 (WA.go hX.2.2.2.2.2.2) (by omega)) mvX4_end lkX5_291 hL.2.2.2.2.2.2.1 rfl rfl rfl (Nat.le_of_ble_eq_true rfl) ⟨⟨Nat.le_of_ble_eq_true rfl, Nat.le_of_ble_eq_true rfl⟩, Nat.le_of_ble_eq_true rfl, Nat.le_of_ble_eq_true rfl⟩ dX5_walk_78 ?_
        exact V_iretP rfl ⟨by rw [if_pos rfl]; rfl, _, ml, rfl, ⟨hX.1.keep (fun a i q1 q2 => ((u2_n _ _ (Or.inl (by omega))).trans (u2_n _ _ (Or.inl (by omega))))), hX.2.1.keep (fun a i q => ((u2_n _ _ (Or.inl (by omega))).trans (u2_n _ _ (Or.inl (by omega))))), by
                obtain ⟨ℓ, hHA⟩ := hX.2.2.1
                exact ⟨ℓ, hHA.keep (fun a i q1 q2 => ((u2_n _ _ (Or.inl (by omega))).trans (u2_n _ _ (Or.inl (by omega)))))⟩, ⟨((u2_n _ _ (Or.inl (by omega))).trans (u2_n _ _ (Or.inl (by omega)))).trans hX.2.2.2.1.1, fun g hg => (hX.2.2.2.1.2 g hg).keep (fun a i q1 q2 => ((u2_n _ _ (Or.inl (by omega))).trans (u2_n _ _ (Or.inl (by omega)))))⟩, hX.2.2.2.2.1.keep (fun a i q => ((u2_n _ _ (Or.inl (by omega))).trans (u2_n _ _ (Or.inl (by omega))))), ((u2_n _ _ (Or.inl (by omega))).trans (u2_n _ _ (Or.inl (by omega)))).trans hX.2.2.2.2.2.1, WA.go hX.2.2.2.2.2.2⟩, fun a i q => ⟨((u2_n _ _ (Or.inl (by omega))).trans (u2_n _ _ (Or.inl (by omega)))), rfl⟩⟩ ⟨Nat.le_of_ble_eq_true rfl, Nat.le_of_ble_eq_true rfl⟩ dX5_walk_81
      · exfalso
        omega

theorem ctX5_clearWalk (hL : XL σ x) (hX : XA mi x S) (hS : SOK S)  : CtP κ 1 6 12 mrX5_clearWalk [.ref x] (MM σ mi ml) (XR σ mi ml x [] (rs_clearWalk S)) := by
  have hq := XQ (ml := ml) (σ := σ) hX
  have hw := hS.1
  have h14 := hw.2.1
  rw [show rs_clearWalk S = (0, nI S.2.2.2.2.2.1, (S.1, S.2.1, S.2.2.1, S.2.2.2.1, S.2.2.2.2.1, 0, S.2.2.2.2.2.2)) from by unfold rs_clearWalk; rfl]
  refine CtP.of rfl (by simp [Value.category]) (Nat.le_of_ble_eq_true rfl) ?_
  refine V_aload_n dX5_clearWalk_0 rfl rfl ?_
  refine V_getR frX5_58 hL.1 rfl dX5_clearWalk_1 ?_
  refine V_getE frX5_286 hL.2.2.2.2.2.2.1 rfl hX.2.2.2.2.2.2.1 dX5_clearWalk_4 ?_
  refine V_istore_n dX5_clearWalk_7 rfl (Nat.le_of_ble_eq_true rfl) ?_
  refine V_aload_n dX5_clearWalk_8 rfl rfl ?_
  refine V_getR frX5_58 hL.1 rfl dX5_clearWalk_9 ?_
  refine V_iconst (v := nI 0) dX5_clearWalk_12 (by decide) ?_
  refine V_putI fpX5_286 rfl rfl hL.2.2.2.2.2.2.1 rfl dX5_clearWalk_13 ?_
  refine V_iload_n dX5_clearWalk_16 rfl rfl ?_
  exact V_iretP rfl ⟨rfl, _, ml, rfl, hX.new (hX.1.keep (fun a i q1 q2 => (u2_n _ _ (Or.inl (by omega))))) (hX.2.1.keep (fun a i q => (u2_n _ _ (Or.inl (by omega))))) (by
      obtain ⟨ℓ, hHA⟩ := hX.2.2.1
      exact ⟨ℓ, hHA.keep (fun a i q1 q2 => (u2_n _ _ (Or.inl (by omega))))⟩) (hX.2.2.2.2.1.keep (fun a i q => (u2_n _ _ (Or.inl (by omega))))) (u2_s _ _ _ _) (fun a i q => (u2_n _ _ (Or.inl (by omega)))), fun a i q => ⟨(u2_n _ _ (Or.inl (by omega))), rfl⟩⟩ ⟨Nat.le_of_ble_eq_true rfl, Nat.le_of_ble_eq_true rfl⟩ dX5_clearWalk_17

theorem ctX5_save (hL : XL σ x) (hX : XA mi x S) (hS : SOK S)  : CtP κ 1 6 12 mrX5_save [.ref x] (MM σ mi ml) (XR σ mi ml x [] (rs_save S)) := by
  have hq := XQ (ml := ml) (σ := σ) hX
  have hw := hS.1
  have h14 := hw.2.1
  rw [show rs_save S = (0, nI S.1.1, (S.1, S.2.1, some S.1, S.2.2.2)) from by unfold rs_save; rfl]
  refine CtP.of rfl (by simp [Value.category]) (Nat.le_of_ble_eq_true rfl) ?_
  refine V_aload_n dX5_save_0 rfl rfl ?_
  refine V_getR frX5_30 hL.1 rfl dX5_save_1 ?_
  refine V_aload_n dX5_save_4 rfl rfl ?_
  refine V_getR frX5_20 hL.1 rfl dX5_save_5 ?_
  refine V_cv0 (ctX1_become hL.2.2.2.1 hL.2.1.2.1 (by omega)) mvX1_become lkX5_319 hL.2.2.2.1.1 rfl rfl rfl (Nat.le_of_ble_eq_true rfl) ⟨⟨Nat.le_of_ble_eq_true rfl, Nat.le_of_ble_eq_true rfl⟩, Nat.le_of_ble_eq_true rfl, Nat.le_of_ble_eq_true rfl⟩ dX5_save_8 ?_
  refine V_aload_n dX5_save_11 rfl rfl ?_
  refine V_iconst (v := nI 1) dX5_save_12 (by decide) ?_
  refine V_putI fpX5_33 rfl rfl hL.1 rfl dX5_save_13 ?_
  refine V_aload_n dX5_save_16 rfl rfl ?_
  refine V_getR frX5_20 hL.1 rfl dX5_save_17 ?_
  refine V_getE frX5_72 hL.2.1.2.1.1 rfl (((u2_n _ _ (Or.inl (by omega))).trans (bcm_off _ _ (by omega))).trans hX.1.1) dX5_save_20 ?_
  exact V_iretP rfl ⟨rfl, _, ml, rfl, ⟨hX.1.keep (fun a i q1 q2 => ((u2_n _ _ (Or.inl (by omega))).trans (bcm_off _ _ (by omega)))), hX.2.1.keep (fun a i q => ((u2_n _ _ (Or.inl (by omega))).trans (bcm_off _ _ (by omega)))), by
      obtain ⟨ℓ, hHA⟩ := hX.2.2.1
      exact ⟨ℓ, hHA.keep (fun a i q1 q2 => ((u2_n _ _ (Or.inl (by omega))).trans (bcm_off _ _ (by omega))))⟩, ⟨u2_s _ _ _ _, fun g hg => by
        cases hg
        exact (bcm_GA hX.1 hw).keep (fun a i q1 q2 => u2_n _ _ (Or.inl (by omega)))⟩, hX.2.2.2.2.1.keep (fun a i q => ((u2_n _ _ (Or.inl (by omega))).trans (bcm_off _ _ (by omega)))), ((u2_n _ _ (Or.inr (by decide))).trans (bcm_off _ _ (by omega))).trans hX.2.2.2.2.2.1, hX.2.2.2.2.2.2.keep (fun a i q1 q2 => ((u2_n _ _ (Or.inl (by omega))).trans (bcm_off _ _ (by omega))))⟩, fun a i q => ⟨((u2_n _ _ (Or.inl (by omega))).trans (bcm_off _ _ (by omega))), rfl⟩⟩ ⟨Nat.le_of_ble_eq_true rfl, Nat.le_of_ble_eq_true rfl⟩ dX5_save_23

theorem ctX5_restore (hL : XL σ x) (hX : XA mi x S) (hS : SOK S)  : CtP κ 1 6 12 mrX5_restore [.ref x] (MM σ mi ml) (XR σ mi ml x [EISE] (rs_restore S)) := by
  have hq := XQ (ml := ml) (σ := σ) hX
  have hw := hS.1
  have h14 := hw.2.1
  obtain ⟨ℓ, hHA⟩ := hX.2.2.1
  have h5 := hX.2.2.2.1.1
  cases hs : S.2.2.1 with
  | none =>
    rw [hs] at h5
    rw [show rs_restore S = (1, 0, S) from by unfold rs_restore; rw [hs]]
    refine CtP.of rfl (by simp [Value.category]) (Nat.le_of_ble_eq_true rfl) ?_
    refine V_aload_n dX5_restore_0 rfl rfl ?_
    refine V_getE frX5_33 hL.1 rfl h5 dX5_restore_1 ?_
    refine V_if_ne 18 dX5_restore_4 (by decide) (fun h4 => absurd h4 (fun q => q rfl)) (fun h4 => ?_)
    refine V_thrP ⟨rfl, hq⟩ ?_
    exact V_throwSW thrISE rfl str_322 rfl rfl rfl ⟨Nat.le_of_ble_eq_true rfl, Nat.le_of_ble_eq_true rfl⟩ (Nat.le_of_ble_eq_true rfl) (Nat.le_of_ble_eq_true rfl) dX5_restore_7 dX5_restore_10 dX5_restore_11 dX5_restore_14 dX5_restore_17

  | some g =>
    have hwg := hS.2.2.1 g hs
    have hgA := hX.2.2.2.1.2 g hs
    rw [hs] at h5
    rw [show rs_restore S = (0, nI g.1, (g, (0, S.2.1.2), S.2.2.1, S.2.2.2.1, S.2.2.2.2.1, 0, S.2.2.2.2.2.2)) from by unfold rs_restore; rw [hs]]
    refine CtP.of rfl (by simp [Value.category]) (Nat.le_of_ble_eq_true rfl) ?_
    refine V_aload_n dX5_restore_0 rfl rfl ?_
    refine V_getE frX5_33 hL.1 rfl h5 dX5_restore_1 ?_
    refine V_if_ne 18 dX5_restore_4 (by decide) (fun h4 => ?_) (fun h4 => absurd h4 (show ¬ nI 1 = 0 by decide))
    refine V_aload_n dX5_restore_18 rfl rfl ?_
    refine V_getR frX5_20 hL.1 rfl dX5_restore_19 ?_
    refine V_aload_n dX5_restore_22 rfl rfl ?_
    refine V_getR frX5_30 hL.1 rfl dX5_restore_23 ?_
    refine V_cv0 (ctX1_become hL.2.1.2.1 hL.2.2.2.1 (by omega)) mvX1_become lkX5_319 hL.2.1.2.1.1 rfl rfl rfl (Nat.le_of_ble_eq_true rfl) ⟨⟨Nat.le_of_ble_eq_true rfl, Nat.le_of_ble_eq_true rfl⟩, Nat.le_of_ble_eq_true rfl, Nat.le_of_ble_eq_true rfl⟩ dX5_restore_26 ?_
    refine V_aload_n dX5_restore_29 rfl rfl ?_
    refine V_getR frX5_40 hL.1 rfl dX5_restore_30 ?_
    refine V_cv0 (ctX2_forgetAll hL.2.2.2.2.1) mvX2_forgetAll lkX5_79 hL.2.2.2.2.1.1 rfl rfl rfl (Nat.le_of_ble_eq_true rfl) ⟨⟨Nat.le_of_ble_eq_true rfl, Nat.le_of_ble_eq_true rfl⟩, Nat.le_of_ble_eq_true rfl, Nat.le_of_ble_eq_true rfl⟩ dX5_restore_33 ?_
    have hA2 : GA (u2 (bcm mi (x + 1 + 1) (x + 35)) (x + 40) 2 (nI 0)) (x + 1 + 1) g := (bcm_GA hgA hwg).keep (fun a i q1 q2 => u2_n _ _ (Or.inl (by omega)))
    refine V_aload_n dX5_restore_36 rfl rfl ?_
    refine V_cp0 (ctX5_followGraph hL hA2 hwg) mvX5_followGraph lkX5_82 hL.1 rfl rfl rfl (Nat.le_of_ble_eq_true rfl) ⟨⟨Nat.le_of_ble_eq_true rfl, Nat.le_of_ble_eq_true rfl⟩, Nat.le_of_ble_eq_true rfl, Nat.le_of_ble_eq_true rfl⟩ dX5_restore_37 (fun μ3 hx => ?_)
    obtain ⟨m3, rfl, hf3, hc3, ho3⟩ := hx
    refine V_aload_n dX5_restore_40 rfl rfl ?_
    refine V_getR frX5_20 hL.1 rfl dX5_restore_41 ?_
    refine V_getE frX5_72 hL.2.1.2.1.1 rfl ((ho3 _ _ (by omega) (by omega) (by omega)).trans hA2.1) dX5_restore_44 ?_
    exact V_iretP rfl ⟨rfl, m3, ml, rfl, hX.new (hA2.keep (fun a i q1 q2 => ho3 a i (by omega) (by omega) (by omega))) hf3 ⟨ℓ, ((hHA.keep (m := bcm mi (x + 1 + 1) (x + 35)) (fun a i q1 q2 => bcm_off _ _ (by omega))).forget).keep (fun a i q1 q2 => ho3 a i (by omega) (by omega) (by omega))⟩ (hX.2.2.2.2.1.keep (fun a i q => (ho3 a i (by omega) (by omega) (by omega)).trans ((u2_n _ _ (Or.inl (by omega))).trans (bcm_off _ _ (by omega))))) hc3 (fun a i q => (ho3 a i (by omega) (by omega) (by omega)).trans ((u2_n _ _ (Or.inl (by omega))).trans (bcm_off _ _ (by omega)))), fun a i q => ⟨(ho3 a i (by omega) (by omega) (by omega)).trans ((u2_n _ _ (Or.inl (by omega))).trans (bcm_off _ _ (by omega))), rfl⟩⟩ ⟨Nat.le_of_ble_eq_true rfl, Nat.le_of_ble_eq_true rfl⟩ dX5_restore_47

theorem le30 {n : Int32} : n ≤ nI 30 ↔ n < nI 31 := by
  rw [Int32.le_iff_toInt_le, Int32.lt_iff_toInt_lt, nI_toInt (by decide), nI_toInt (by decide)]
  omega
theorem ctX5_walks (hL : XL σ x) (hX : XA mi x S) (hS : SOK S) {b n : Int32} : CtP κ 1 6 12 mrX5_walks [.ref x, .int b, .int n] (MM σ mi ml) (fun o μ' => o = (if rk_walks S b n = 0 then .inl (some (.long (rv_walks S b n))) else .inr ([EIOB, EIAE].getD (rk_walks S b n - 1) "")) ∧ XM σ mi ml x S μ') := by
  have hq := XQ (ml := ml) (σ := σ) hX
  have hw := hS.1
  have h14 := hw.2.1
  cases hb : inR b S.1.1 with
  | false =>
    have hk : rk_walks S b n = 1 := by unfold rk_walks; rw [if_pos hb]
    rw [hk]
    refine CtP.of rfl (by simp [Value.category]) (Nat.le_of_ble_eq_true rfl) ?_
    refine V_aload_n dX5_walks_0 rfl rfl ?_
    refine V_iload_n dX5_walks_1 rfl rfl ?_
    refine V_callVX (ctX5_requireBlock_f hL hX hS hb) mvX5_requireBlock lkX5_132 hL.1 rfl rfl rfl (Nat.le_of_ble_eq_true rfl) ⟨⟨Nat.le_of_ble_eq_true rfl, Nat.le_of_ble_eq_true rfl⟩, Nat.le_of_ble_eq_true rfl, Nat.le_of_ble_eq_true rfl⟩ dX5_walks_2 ?_
    exact VX_outP ⟨rfl, hq⟩ ⟨Nat.le_of_ble_eq_true rfl, Nat.le_of_ble_eq_true rfl⟩

  | true =>
    obtain ⟨j, hj, rfl⟩ := inR_t (by omega) hb
    have tj := tn_nI (show j < 2 ^ 31 by omega)
    have h1 : ¬ inR (nI j) S.1.1 = false := by rw [hb]; decide
    cases hn : inR n 31 with
    | false =>
      have hk : rk_walks S (nI j) n = 2 := by unfold rk_walks; rw [if_neg h1, if_pos hn]
      rw [hk]
      refine CtP.of rfl (by simp [Value.category]) (Nat.le_of_ble_eq_true rfl) ?_
      refine V_aload_n dX5_walks_0 rfl rfl ?_
      refine V_iload_n dX5_walks_1 rfl rfl ?_
      refine V_cv0 (ctX5_requireBlock_t hL hX hS hb) mvX5_requireBlock lkX5_132 hL.1 rfl rfl rfl (Nat.le_of_ble_eq_true rfl) ⟨⟨Nat.le_of_ble_eq_true rfl, Nat.le_of_ble_eq_true rfl⟩, Nat.le_of_ble_eq_true rfl, Nat.le_of_ble_eq_true rfl⟩ dX5_walks_2 ?_
      refine V_iload_n dX5_walks_5 rfl rfl ?_
      refine V_if_lt 15 dX5_walks_6 (by decide) (fun h6 => ?_) (fun h6 => ?_)
      · refine V_thrP ⟨rfl, hq⟩ ?_
        exact V_throwSW thrIAE rfl str_304 rfl rfl rfl ⟨Nat.le_of_ble_eq_true rfl, Nat.le_of_ble_eq_true rfl⟩ (Nat.le_of_ble_eq_true rfl) (Nat.le_of_ble_eq_true rfl) dX5_walks_15 dX5_walks_18 dX5_walks_19 dX5_walks_22 dX5_walks_25
      · refine V_iload_n dX5_walks_9 rfl rfl ?_
        refine V_bipush (v := nI 30) dX5_walks_10 (by decide) ?_
        refine V_icmp_le 26 dX5_walks_12 (by decide) (fun h12 => ?_) (fun h12 => ?_)
        · exfalso
          rw [inR_in h6 (Int32.not_le.mpr (le30.mp h12))] at hn
          cases hn
        · refine V_thrP ⟨rfl, hq⟩ ?_
          exact V_throwSW thrIAE rfl str_304 rfl rfl rfl ⟨Nat.le_of_ble_eq_true rfl, Nat.le_of_ble_eq_true rfl⟩ (Nat.le_of_ble_eq_true rfl) (Nat.le_of_ble_eq_true rfl) dX5_walks_15 dX5_walks_18 dX5_walks_19 dX5_walks_22 dX5_walks_25

    | true =>
      obtain ⟨i, hi, rfl⟩ := inR_t (by omega) hn
      have ti := tn_nI (show i < 2 ^ 31 by omega)
      have hk : rk_walks S (nI j) (nI i) = 0 := by unfold rk_walks; rw [if_neg h1, if_neg (by rw [hn]; decide)]
      have hv : rv_walks S (nI j) (nI i) = wkN S.1 i j := by unfold rv_walks; rw [ti, tj]
      rw [hk, hv]
      refine CtP.of rfl (by simp [Value.category]) (Nat.le_of_ble_eq_true rfl) ?_
      refine V_aload_n dX5_walks_0 rfl rfl ?_
      refine V_iload_n dX5_walks_1 rfl rfl ?_
      refine V_cv0 (ctX5_requireBlock_t hL hX hS hb) mvX5_requireBlock lkX5_132 hL.1 rfl rfl rfl (Nat.le_of_ble_eq_true rfl) ⟨⟨Nat.le_of_ble_eq_true rfl, Nat.le_of_ble_eq_true rfl⟩, Nat.le_of_ble_eq_true rfl, Nat.le_of_ble_eq_true rfl⟩ dX5_walks_2 ?_
      refine V_iload_n dX5_walks_5 rfl rfl ?_
      refine V_if_lt 15 dX5_walks_6 (by decide) (fun h6 => absurd h6 (nI_pos (by omega))) (fun h6 => ?_)
      refine V_iload_n dX5_walks_9 rfl rfl ?_
      refine V_bipush (v := nI 30) dX5_walks_10 (by decide) ?_
      refine V_N_le (by omega) (by omega) 26 dX5_walks_12 (by decide) (fun h12 => ?_) (fun h12 => ?_)
      · refine V_aload_n dX5_walks_26 rfl rfl ?_
        refine V_getR frX5_58 hL.1 rfl dX5_walks_27 ?_
        refine V_aload_n dX5_walks_30 rfl rfl ?_
        refine V_getR frX5_20 hL.1 rfl dX5_walks_31 ?_
        refine V_iload_n dX5_walks_34 rfl rfl ?_
        refine V_cp0 (ctX4_countWalks hL.2.2.2.2.2.2 hL.2.1.2.1 hX.1 hw (by omega)) mvX4_countWalks lkX5_306 hL.2.2.2.2.2.2.1 rfl rfl rfl (Nat.le_of_ble_eq_true rfl) ⟨⟨Nat.le_of_ble_eq_true rfl, Nat.le_of_ble_eq_true rfl⟩, Nat.le_of_ble_eq_true rfl, Nat.le_of_ble_eq_true rfl⟩ dX5_walks_35 (fun μ1 hx => ?_)
        obtain ⟨l1, rfl, k1, k2⟩ := hx
        refine V_aload_n dX5_walks_38 rfl rfl ?_
        refine V_getR frX5_58 hL.1 rfl dX5_walks_39 ?_
        refine V_getR frX5_310 hL.2.2.2.2.2.2.1 rfl dX5_walks_42 ?_
        refine V_iload_n dX5_walks_45 rfl rfl ?_
        refine V_laldN hL.2.2.2.2.2.2.2.2.1 j rfl (by omega) (by decide) dX5_walks_46 ?_
        rw [show (MM σ mi l1).2.2.1 (x + 86 + 2) j = wkN S.1 i j from k1 j (by omega)]
        exact V_lretP rfl ⟨rfl, mi, l1, rfl, hX, fun a i q => ⟨rfl, k2 a i (by omega)⟩⟩ ⟨Nat.le_of_ble_eq_true rfl, Nat.le_of_ble_eq_true rfl⟩ dX5_walks_47
      · exfalso
        omega

end Cls4
