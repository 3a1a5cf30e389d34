/-! SsaRepairModel: removeAction, addEdge, removeEdge, thread -/
section Mdl9
variable {κ : K0} {σ : Nat → Option Kd} {mi : Nat → Nat → Int32} {ml : Nat → Nat → Int64} {m : Nat} {G : Gr} {S : SS} {μ : Mem}
theorem nodup_idx : ∀ (l : List Nat) (t k : Nat), l.Nodup → k < l.length → l.getD k 0 = t → l.idxOf t = k
  | [], t, k, _, h, _ => absurd h (Nat.not_lt_zero k)
  | a :: l, t, 0, _, _, h => by
    have e : a = t := h
    rw [e, List.idxOf_cons_self]
  | a :: l, t, k + 1, hn, hk, h => by
    rw [List.nodup_cons] at hn
    have hk' : k < l.length := by simpa using hk
    have h' : l.getD k 0 = t := by simpa using h
    have hne : a ≠ t := fun e => hn.1 (by rw [e]; exact mem_getD.mpr ⟨k, hk', h'⟩)
    rw [List.idxOf_cons, beq_false_of_ne hne, nodup_idx l t k hn.2 hk' h']
    rfl
theorem lxI_in {l : List Nat} {t : Nat} (hn : l.Nodup) (h : t ∈ l) : lxI l t l.length = nI (l.idxOf t) := by
  cases hd : ldef l t l.length with
  | none =>
    obtain ⟨k, hk, e⟩ := mem_getD.mp h
    exact absurd e ((ldef_none _).mp hd k hk)
  | some k =>
    have h1 := ldef_some _ _ hd
    rw [lxI_s hd, nodup_idx l t k hn h1.1 h1.2]
theorem lxI_out {l : List Nat} {t : Nat} (h : ¬ t ∈ l) : lxI l t l.length = -1 := by
  have hd : ldef l t l.length = none := (ldef_none _).mpr (fun k hk e => h (mem_getD.mpr ⟨k, hk, e⟩))
  unfold lxI
  rw [hd]
theorem MA.fin {m0 m1 mF : Nat → Nat → Int32} {G' : Gr} (hA : MA mi m S) (hS : SOK S) (hk0 : kep mi m0 m) (h00 : m0 m 0 = nI 0) (hH : m1 m 8 = nI (min (S.2.1.1 + 1) 8) ∧ ∀ i, i < min (S.2.1.1 + 1) 8 → RowA m1 (m + 34 + (min (S.2.1.1 + 1) 8 - 1 - i)) (hcons S.1 S.2.1.2 i)) (hz1 : m1 m 34 = nI 0) (ho1 : ∀ a i, ¬ (a = m ∧ (i = 8 ∨ i = 34)) → (a < m + 34 ∨ m + 42 ≤ a) → m1 a i = m0 a i) (hof : ∀ a i, ((a = m ∧ i ≠ 1) ∨ a < m ∨ m + 33 ≤ a) → mF a i = m1 a i) (hGF : GM mF m G') : ∃ m', MM σ mF ml = MM σ m' ml ∧ MA m' m (chg S G') ∧ m' m 0 = nI 0 ∧ ∀ a i, (a < m ∨ m + 101 ≤ a) → m' a i = mi a i := by
  have hq : ∀ a i, ((a = m ∧ (i = 9 ∨ i = 11 ∨ i = 13)) ∨ a = m + 43 ∨ a = m + 44 ∨ a < m ∨ m + 101 ≤ a) → mF a i = mi a i := fun a i q => (hof a i (by omega)).trans ((ho1 a i (by omega) (by omega)).trans (hk0 a i (by omega)))
  exact ⟨mF, rfl, hA.new hGF ⟨(hof _ _ (by omega)).trans hH.1, fun i hi => (hH.2 i hi).keep (fun j => hof _ _ (by omega))⟩ ((hof _ _ (by omega)).trans hz1) (hA.inp (fun a i q => hq a i (by omega))) ((hq _ _ (by omega)).trans hA.2.2.2.2.1) (fun a i q => hq a i (by omega)), (hof _ _ (by omega)).trans ((ho1 _ _ (by omega) (by omega)).trans h00), fun a i q => hq a i (by omega)⟩
theorem Wf.thr1 (hw : Wf G) {u t : Nat} (ht : t < G.1) (h1 : 1 ≤ t) (h14 : G.1 < 14) : Wf (G.1 + 1, va_up G.2.1 G.1 (G.2.1 u), va_up G.2.2 G.1 [t]) := by
  have w1 := hw.grow h14
  have w2 := w1.upA (b := G.1) (la := G.2.1 u) (by show G.1 < G.1 + 1; omega) (hw.2.2.1 u).1 (hw.2.2.1 u).2
  exact w2.upE (b := G.1) (le := [t]) (by show G.1 < G.1 + 1; omega) (by simp) (fun a ha => by rw [List.mem_singleton.mp ha]; show 1 ≤ t ∧ t < G.1 + 1; omega) (by simp)
theorem ctX6_removeAction (hM : ML σ m) (hA : MA mi m S) (hS : SOK S) {b k : Int32} : CtP κ 0 0 24 mrX6_removeAction [.ref m, .int b, .int k] (MM σ mi ml) (MRz σ mi ml m (rs_removeAction S b k)) := by
  have hw := hS.1
  have h14 := hw.2.1
  have hG := hA.1
  have h8 := hS.2.1.1
  cases hb : hasAct S.1 b k with
  | false =>
    rw [show rs_removeAction S b k = (1, 0, S) from by unfold rs_removeAction; rw [if_pos hb]]
    refine CtP.of rfl (by simp [Value.category]) (Nat.le_of_ble_eq_true rfl) ?_
    refine V_aload_n dX6_removeAction_0 rfl rfl ?_
    refine V_iconst (v := nI 1) dX6_removeAction_1 (by decide) ?_
    refine V_aload_n dX6_removeAction_2 rfl rfl ?_
    refine V_iload_n dX6_removeAction_3 rfl rfl ?_
    refine V_iload_n dX6_removeAction_4 rfl rfl ?_
    refine V_cv1 (ctX6_isAction hM hG hw) mvX6_isAction lkX6_147 hM.1 rfl rfl rfl (Nat.le_of_ble_eq_true rfl) ⟨⟨Nat.le_of_ble_eq_true rfl, Nat.le_of_ble_eq_true rfl⟩, Nat.le_of_ble_eq_true rfl, Nat.le_of_ble_eq_true rfl⟩ dX6_removeAction_5 ?_
    refine V_ifneB 15 dX6_removeAction_8 (by decide) (fun h8 => absurd (h8.symm.trans hb) (by decide)) (fun h8 => ?_)
    refine V_iconst (v := nI 1) dX6_removeAction_11 (by decide) ?_
    refine V_goto 16 dX6_removeAction_12 (by decide) ?_
    refine V_cv1 (ctX6_fails hM (k := nI 1) (c := true)) mvX6_fails lkX6_100 hM.1 rfl rfl rfl (Nat.le_of_ble_eq_true rfl) ⟨⟨Nat.le_of_ble_eq_true rfl, Nat.le_of_ble_eq_true rfl⟩, Nat.le_of_ble_eq_true rfl, Nat.le_of_ble_eq_true rfl⟩ dX6_removeAction_16 ?_
    refine V_ifeqB 24 dX6_removeAction_19 (by decide) (fun h19 => absurd (h19.symm.trans rfl) (by decide)) (fun h19 => ?_)
    refine V_iconst (v := nI 0) dX6_removeAction_22 (by decide) ?_
    exact V_iretP rfl ⟨rfl, MQz hA hS (by first | exact kep.rf.z | exact kep.rf.z.z | exact kep.rf.z.z.z) (u2_s _ _ _ _)⟩ ⟨Nat.le_of_ble_eq_true rfl, Nat.le_of_ble_eq_true rfl⟩ dX6_removeAction_23

  | true =>
    obtain ⟨j, i, hj, hi, rfl, rfl⟩ := hasAct_t hw hb
    have h6 := (hw.2.2.1 j).1
    have tj := tn_nI (show j < 2 ^ 31 by omega)
    have ti := tn_nI (show i < 2 ^ 31 by omega)
    rw [show rs_removeAction S (nI j) (nI i) = (0, nI ((S.1.2.1 j).length - 1), chg S (S.1.1, va_up S.1.2.1 j ((S.1.2.1 j).eraseIdx i), S.1.2.2)) from by unfold rs_removeAction; rw [tj, ti, if_neg (by rw [hb]; decide)]]
    refine CtP.of rfl (by simp [Value.category]) (Nat.le_of_ble_eq_true rfl) ?_
    have lp : ∀ m1, (∀ mF, (∀ a z, a ≠ m + 1 → a ≠ m + 4 + j → mF a z = m1 a z) → GM mF m (S.1.1, va_up S.1.2.1 j ((S.1.2.1 j).eraseIdx i), S.1.2.2) → MRz σ mi ml m (0, nI ((S.1.2.1 j).length - 1), chg S (S.1.1, va_up S.1.2.1 j ((S.1.2.1 j).eraseIdx i), S.1.2.2)) (.inl (some (.int (nI ((S.1.2.1 j).length - 1))))) (MM σ mF ml)) → GM m1 m S.1 → ∀ k, k ≤ (S.1.2.1 j).length - 1 → i ≤ k → ∀ mF, (∀ a z, a ≠ m + 1 → a ≠ m + 4 + j → mF a z = m1 a z) → (∀ c, c ≠ j → mF (m + 1) c = m1 (m + 1) c) → mF (m + 1) j = nI ((S.1.2.1 j).length - 1) → (∀ z, z < (S.1.2.1 j).length → mF (m + 4 + j) z = nI (if i ≤ z ∧ z < k then (S.1.2.1 j).getD (z + 1) 0 else (S.1.2.1 j).getD z 0)) → V κ (phiP κ mrX6_removeAction 24 0 0 (MRz σ mi ml m (0, nI ((S.1.2.1 j).length - 1), chg S (S.1.1, va_up S.1.2.1 j ((S.1.2.1 j).eraseIdx i), S.1.2.2)))) 0 0 40 [some (.ref m), some (.int (nI j)), some (.int (nI i)), some (.int (nI k))] [] (MM σ mF ml) := fun m1 fin hG1 => loop_up _ (fun k hk ih hik mF o1 o2 o3 o4 => by
      refine V_iload_n dX6_removeAction_40 rfl rfl ?_
      refine V_aload_n dX6_removeAction_41 rfl rfl ?_
      refine V_getR frX6_13 hM.1 rfl dX6_removeAction_42 ?_
      refine V_iload_n dX6_removeAction_45 rfl rfl ?_
      refine V_ialdE hM.2.1 j rfl (by omega) (by decide) o3 dX6_removeAction_46 ?_
      refine V_N_ge (by omega) (by omega) 74 dX6_removeAction_47 (by decide) (fun h47 => ?_) (fun h47 => ?_)
      · refine V_aload_n dX6_removeAction_74 rfl rfl ?_
        refine V_getR frX6_13 hM.1 rfl dX6_removeAction_75 ?_
        refine V_iload_n dX6_removeAction_78 rfl rfl ?_
        refine V_ialdE hM.2.1 j rfl (by omega) (by decide) o3 dX6_removeAction_79 ?_
        exact V_iretP rfl (fin mF o1 (by
                have hg := GM.upd (G := S.1) (m1 := mF) (la := (S.1.2.1 j).eraseIdx i) (le := S.1.2.2 j) hG1 (show j < 14 by omega) ((o1 _ _ (by omega) (by omega)).trans hG1.1) (by rw [len_erase hi]; exact o3) ((o1 _ _ (by omega) (by omega)).trans (hG1.2 j (by omega)).2.1) (fun z hz => by
                  rw [len_erase hi] at hz
                  rw [o4 z (by omega), getD_erase]
                  by_cases q : z < i
                  · rw [if_neg (fun w => by omega), if_pos q]
                  · rw [if_pos ⟨by omega, by omega⟩, if_neg q]) (fun z hz => (o1 _ _ (by omega) (by omega)).trans ((hG1.2 j (by omega)).2.2.2 z hz)) (fun c hc hne => ⟨o2 c hne, o1 _ _ (by omega) (by omega), fun z => o1 _ _ (by omega) (by omega), fun z => o1 _ _ (by omega) (by omega)⟩)
                rw [va_up_id] at hg
                exact hg)) ⟨Nat.le_of_ble_eq_true rfl, Nat.le_of_ble_eq_true rfl⟩ dX6_removeAction_80
      · refine V_aload_n dX6_removeAction_50 rfl rfl ?_
        refine V_getR frX6_22 hM.1 rfl dX6_removeAction_51 ?_
        refine V_iload_n dX6_removeAction_54 rfl rfl ?_
        refine V_aaldR hM.2.2.2.2.2.2.2.2.2.2.2.2.2.2.2.2.1 (j) rfl (show j < 14 by omega) (by decide) dX6_removeAction_55 ?_
        refine V_iload_n dX6_removeAction_56 rfl rfl ?_
        refine V_aload_n dX6_removeAction_57 rfl rfl ?_
        refine V_getR frX6_22 hM.1 rfl dX6_removeAction_58 ?_
        refine V_iload_n dX6_removeAction_61 rfl rfl ?_
        refine V_aaldR hM.2.2.2.2.2.2.2.2.2.2.2.2.2.2.2.2.1 (j) rfl (show j < 14 by omega) (by decide) dX6_removeAction_62 ?_
        refine V_iload_n dX6_removeAction_63 rfl rfl ?_
        refine V_iconst (v := nI 1) dX6_removeAction_64 (by decide) ?_
        refine V_iadd dX6_removeAction_65 ?_
        refine V_top (nI_add k 1) ?_
        refine V_ialdE (hM.2.2.2.2.2.2.2.2.2.2.2.2.2.2.2.2.1.row (j := j) (show j < 14 by omega)) (k + 1) rfl (by omega) (by decide) ((o4 (k + 1) (by omega)).trans (by rw [if_neg (fun q => by omega)])) dX6_removeAction_66 ?_
        refine V_iastN (hM.2.2.2.2.2.2.2.2.2.2.2.2.2.2.2.2.1.row (j := j) (show j < 14 by omega)) k rfl (by omega) (by decide) dX6_removeAction_67 ?_
        refine V_iinc1 dX6_removeAction_68 rfl (Nat.le_of_ble_eq_true rfl) ?_
        refine V_goto 40 dX6_removeAction_71 (by decide) ?_
        exact ih (by omega) (by omega) _ (fun a z q1 q2 => (u2_n _ _ (Or.inl q2)).trans (o1 a z q1 q2)) (fun c hc => (u2_n _ _ (Or.inl (by omega))).trans (o2 c hc)) ((u2_n _ _ (Or.inl (by omega))).trans o3) (fun z hz => by
          by_cases e : z = k
          · subst e
            rw [if_pos ⟨hik, by omega⟩]; exact u2_s _ _ _ _
          · refine (u2_n _ _ (Or.inr e)).trans ((o4 z hz).trans ?_)
            by_cases q : i ≤ z ∧ z < k
            · rw [if_pos q, if_pos (by omega)]
            · rw [if_neg q, if_neg (by omega)])
      )
    refine V_aload_n dX6_removeAction_0 rfl rfl ?_
    refine V_iconst (v := nI 1) dX6_removeAction_1 (by decide) ?_
    refine V_aload_n dX6_removeAction_2 rfl rfl ?_
    refine V_iload_n dX6_removeAction_3 rfl rfl ?_
    refine V_iload_n dX6_removeAction_4 rfl rfl ?_
    refine V_cv1 (ctX6_isAction hM hG hw) mvX6_isAction lkX6_147 hM.1 rfl rfl rfl (Nat.le_of_ble_eq_true rfl) ⟨⟨Nat.le_of_ble_eq_true rfl, Nat.le_of_ble_eq_true rfl⟩, Nat.le_of_ble_eq_true rfl, Nat.le_of_ble_eq_true rfl⟩ dX6_removeAction_5 ?_
    refine V_ifneB 15 dX6_removeAction_8 (by decide) (fun h8 => ?_) (fun h8 => absurd (h8.symm.trans hb) (by decide))
    refine V_iconst (v := nI 0) dX6_removeAction_15 (by decide) ?_
    refine V_cv1 (ctX6_fails hM (k := nI 1) (c := false)) mvX6_fails lkX6_100 hM.1 rfl rfl rfl (Nat.le_of_ble_eq_true rfl) ⟨⟨Nat.le_of_ble_eq_true rfl, Nat.le_of_ble_eq_true rfl⟩, Nat.le_of_ble_eq_true rfl, Nat.le_of_ble_eq_true rfl⟩ dX6_removeAction_16 ?_
    refine V_ifeqB 24 dX6_removeAction_19 (by decide) (fun h19 => ?_) (fun h19 => absurd (h19.symm.trans rfl) (by decide))
    refine V_aload_n dX6_removeAction_24 rfl rfl ?_
    refine V_cp0 (ctX6_remember hM (hG.kp (show kep mi _ m from kep.rf.z)) hw hS.2.1.1 (((show kep mi _ m from kep.rf.z) _ _ (by omega)).trans hA.2.1.1) (fun i hi => (hA.2.1.2 i hi).keep (fun j => (show kep mi _ m from kep.rf.z) _ _ (by omega))) hS.2.1.2) mvX6_remember lkX6_141 hM.1 rfl rfl rfl (Nat.le_of_ble_eq_true rfl) ⟨⟨Nat.le_of_ble_eq_true rfl, Nat.le_of_ble_eq_true rfl⟩, Nat.le_of_ble_eq_true rfl, Nat.le_of_ble_eq_true rfl⟩ dX6_removeAction_25 (fun μ1 hx => ?_)
    obtain ⟨m1, rfl, hH1, hz1, ho1⟩ := hx
    have hG1 : GM m1 m S.1 := (hG.kp (show kep mi _ m from kep.rf.z)).keep (fun a i q => ho1 a i (by omega) (by omega))
    refine V_aload_n dX6_removeAction_28 rfl rfl ?_
    refine V_getR frX6_13 hM.1 rfl dX6_removeAction_29 ?_
    refine V_iload_n dX6_removeAction_32 rfl rfl ?_
    refine V_dup2 dX6_removeAction_33 rfl rfl ?_
    refine V_ialdE hM.2.1 j rfl (by omega) (by decide) ((hG1.2 j (by omega)).1) dX6_removeAction_34 ?_
    refine V_iconst (v := nI 1) dX6_removeAction_35 (by decide) ?_
    refine V_isub dX6_removeAction_36 ?_
    refine V_top (nI_subN (by omega)) ?_
    refine V_iastN hM.2.1 j rfl (by omega) (by decide) dX6_removeAction_37 ?_
    refine V_iload_n dX6_removeAction_38 rfl rfl ?_
    refine V_istore_n dX6_removeAction_39 rfl (Nat.le_of_ble_eq_true rfl) ?_
    exact lp m1 (fun mF o1 hg => ⟨rfl, hA.fin hS kep.rf.z (u2_s _ _ _ _) hH1 hz1 ho1 (fun a i q => o1 a i (by omega) (by omega)) hg⟩) hG1 i (by omega) (Nat.le_refl _) _ (fun a z q1 q2 => u2_n _ _ (Or.inl q1)) (fun c hc => u2_n _ _ (Or.inr hc)) (u2_s _ _ _ _) (fun z hz => by
      rw [if_neg (fun q => by omega)]
      exact (u2_n _ _ (Or.inl (by omega))).trans ((hG1.2 j (by omega)).2.2.1 z hz))

theorem ctX6_addEdge (hM : ML σ m) (hA : MA mi m S) (hS : SOK S) {b t : Int32} : CtP κ 0 0 24 mrX6_addEdge [.ref m, .int b, .int t] (MM σ mi ml) (MRz σ mi ml m (rs_addEdge S b t)) := by
  have hw := hS.1
  have h14 := hw.2.1
  have hG := hA.1
  have h8 := hS.2.1.1
  cases hb : inR b S.1.1 with
  | false =>
    rw [show rs_addEdge S b t = (1, 0, S) from by unfold rs_addEdge; rw [if_pos (by rw [hb]; rfl)]]
    refine CtP.of rfl (by simp [Value.category]) (Nat.le_of_ble_eq_true rfl) ?_
    refine V_aload_n dX6_addEdge_0 rfl rfl ?_
    refine V_iconst (v := nI 1) dX6_addEdge_1 (by decide) ?_
    refine V_aload_n dX6_addEdge_2 rfl rfl ?_
    refine V_iload_n dX6_addEdge_3 rfl rfl ?_
    refine V_cv1 (ctX6_isBlock hM (show S.1.1 < 2 ^ 31 by omega) hG.1) mvX6_isBlock lkX6_144 hM.1 rfl rfl rfl (Nat.le_of_ble_eq_true rfl) ⟨⟨Nat.le_of_ble_eq_true rfl, Nat.le_of_ble_eq_true rfl⟩, Nat.le_of_ble_eq_true rfl, Nat.le_of_ble_eq_true rfl⟩ dX6_addEdge_4 ?_
    refine V_ifeqB 18 dX6_addEdge_7 (by decide) (fun h7 => ?_) (fun h7 => absurd (h7.symm.trans hb) (by decide))
    refine V_iconst (v := nI 1) dX6_addEdge_18 (by decide) ?_
    refine V_goto 23 dX6_addEdge_19 (by decide) ?_
    refine V_cv1 (ctX6_fails hM (k := nI 1) (c := true)) mvX6_fails lkX6_100 hM.1 rfl rfl rfl (Nat.le_of_ble_eq_true rfl) ⟨⟨Nat.le_of_ble_eq_true rfl, Nat.le_of_ble_eq_true rfl⟩, Nat.le_of_ble_eq_true rfl, Nat.le_of_ble_eq_true rfl⟩ dX6_addEdge_23 ?_
    refine V_ifneB 78 dX6_addEdge_26 (by decide) (fun h26 => ?_) (fun h26 => absurd (h26.symm.trans rfl) (by decide))
    refine V_iconst (v := nI 0) dX6_addEdge_78 (by decide) ?_
    exact V_iretP rfl ⟨rfl, MQz hA hS (by first | exact kep.rf.z | exact kep.rf.z.z | exact kep.rf.z.z.z) (u2_s _ _ _ _)⟩ ⟨Nat.le_of_ble_eq_true rfl, Nat.le_of_ble_eq_true rfl⟩ dX6_addEdge_79

  | true =>
    cases ht : inR t S.1.1 with
    | false =>
      rw [show rs_addEdge S b t = (1, 0, S) from by unfold rs_addEdge; rw [if_pos (by rw [ht, Bool.and_false])]]
      refine CtP.of rfl (by simp [Value.category]) (Nat.le_of_ble_eq_true rfl) ?_
      refine V_aload_n dX6_addEdge_0 rfl rfl ?_
      refine V_iconst (v := nI 1) dX6_addEdge_1 (by decide) ?_
      refine V_aload_n dX6_addEdge_2 rfl rfl ?_
      refine V_iload_n dX6_addEdge_3 rfl rfl ?_
      refine V_cv1 (ctX6_isBlock hM (show S.1.1 < 2 ^ 31 by omega) hG.1) mvX6_isBlock lkX6_144 hM.1 rfl rfl rfl (Nat.le_of_ble_eq_true rfl) ⟨⟨Nat.le_of_ble_eq_true rfl, Nat.le_of_ble_eq_true rfl⟩, Nat.le_of_ble_eq_true rfl, Nat.le_of_ble_eq_true rfl⟩ dX6_addEdge_4 ?_
      refine V_ifeqB 18 dX6_addEdge_7 (by decide) (fun h7 => absurd (h7.symm.trans hb) (by decide)) (fun h7 => ?_)
      refine V_aload_n dX6_addEdge_10 rfl rfl ?_
      refine V_iload_n dX6_addEdge_11 rfl rfl ?_
      refine V_cv1 (ctX6_isBlock hM (show S.1.1 < 2 ^ 31 by omega) hG.1) mvX6_isBlock lkX6_144 hM.1 rfl rfl rfl (Nat.le_of_ble_eq_true rfl) ⟨⟨Nat.le_of_ble_eq_true rfl, Nat.le_of_ble_eq_true rfl⟩, Nat.le_of_ble_eq_true rfl, Nat.le_of_ble_eq_true rfl⟩ dX6_addEdge_12 ?_
      refine V_ifneB 22 dX6_addEdge_15 (by decide) (fun h15 => absurd (h15.symm.trans ht) (by decide)) (fun h15 => ?_)
      refine V_iconst (v := nI 1) dX6_addEdge_18 (by decide) ?_
      refine V_goto 23 dX6_addEdge_19 (by decide) ?_
      refine V_cv1 (ctX6_fails hM (k := nI 1) (c := true)) mvX6_fails lkX6_100 hM.1 rfl rfl rfl (Nat.le_of_ble_eq_true rfl) ⟨⟨Nat.le_of_ble_eq_true rfl, Nat.le_of_ble_eq_true rfl⟩, Nat.le_of_ble_eq_true rfl, Nat.le_of_ble_eq_true rfl⟩ dX6_addEdge_23 ?_
      refine V_ifneB 78 dX6_addEdge_26 (by decide) (fun h26 => ?_) (fun h26 => absurd (h26.symm.trans rfl) (by decide))
      refine V_iconst (v := nI 0) dX6_addEdge_78 (by decide) ?_
      exact V_iretP rfl ⟨rfl, MQz hA hS (by first | exact kep.rf.z | exact kep.rf.z.z | exact kep.rf.z.z.z) (u2_s _ _ _ _)⟩ ⟨Nat.le_of_ble_eq_true rfl, Nat.le_of_ble_eq_true rfl⟩ dX6_addEdge_79

    | true =>
      obtain ⟨j, hj, rfl⟩ := inR_t (by omega) hb
      have tj := tn_nI (show j < 2 ^ 31 by omega)
      obtain ⟨i, hi, rfl⟩ := inR_t (by omega) ht
      have ti := tn_nI (show i < 2 ^ 31 by omega)
      have h1 : ¬ (inR (nI j) S.1.1 && inR (nI i) S.1.1) = false := by rw [hb, ht]; decide
      have h3l := (hw.2.2.2.1 j).1
      have hnd := (hw.2.2.2.1 j).2.2
      by_cases h0 : i = 0
      · rw [show rs_addEdge S (nI j) (nI i) = (2, 0, S) from by unfold rs_addEdge; rw [tj, ti, if_neg h1, if_pos (by rw [decide_eq_true h0]; rfl)]]
        refine CtP.of rfl (by simp [Value.category]) (Nat.le_of_ble_eq_true rfl) ?_
        refine V_aload_n dX6_addEdge_0 rfl rfl ?_
        refine V_iconst (v := nI 1) dX6_addEdge_1 (by decide) ?_
        refine V_aload_n dX6_addEdge_2 rfl rfl ?_
        refine V_iload_n dX6_addEdge_3 rfl rfl ?_
        refine V_cv1 (ctX6_isBlock hM (show S.1.1 < 2 ^ 31 by omega) hG.1) mvX6_isBlock lkX6_144 hM.1 rfl rfl rfl (Nat.le_of_ble_eq_true rfl) ⟨⟨Nat.le_of_ble_eq_true rfl, Nat.le_of_ble_eq_true rfl⟩, Nat.le_of_ble_eq_true rfl, Nat.le_of_ble_eq_true rfl⟩ dX6_addEdge_4 ?_
        refine V_ifeqB 18 dX6_addEdge_7 (by decide) (fun h7 => absurd (h7.symm.trans hb) (by decide)) (fun h7 => ?_)
        refine V_aload_n dX6_addEdge_10 rfl rfl ?_
        refine V_iload_n dX6_addEdge_11 rfl rfl ?_
        refine V_cv1 (ctX6_isBlock hM (show S.1.1 < 2 ^ 31 by omega) hG.1) mvX6_isBlock lkX6_144 hM.1 rfl rfl rfl (Nat.le_of_ble_eq_true rfl) ⟨⟨Nat.le_of_ble_eq_true rfl, Nat.le_of_ble_eq_true rfl⟩, Nat.le_of_ble_eq_true rfl, Nat.le_of_ble_eq_true rfl⟩ dX6_addEdge_12 ?_
        refine V_ifneB 22 dX6_addEdge_15 (by decide) (fun h15 => ?_) (fun h15 => absurd (h15.symm.trans ht) (by decide))
        refine V_iconst (v := nI 0) dX6_addEdge_22 (by decide) ?_
        refine V_cv1 (ctX6_fails hM (k := nI 1) (c := false)) mvX6_fails lkX6_100 hM.1 rfl rfl rfl (Nat.le_of_ble_eq_true rfl) ⟨⟨Nat.le_of_ble_eq_true rfl, Nat.le_of_ble_eq_true rfl⟩, Nat.le_of_ble_eq_true rfl, Nat.le_of_ble_eq_true rfl⟩ dX6_addEdge_23 ?_
        refine V_ifneB 78 dX6_addEdge_26 (by decide) (fun h26 => absurd (h26.symm.trans rfl) (by decide)) (fun h26 => ?_)
        refine V_aload_n dX6_addEdge_29 rfl rfl ?_
        refine V_iconst (v := nI 2) dX6_addEdge_30 (by decide) ?_
        refine V_iload_n dX6_addEdge_31 rfl rfl ?_
        refine V_Z_eq (by omega) 44 dX6_addEdge_32 (by decide) (fun h32 => ?_) (fun h32 => absurd h0 h32)
        refine V_iconst (v := nI 1) dX6_addEdge_44 (by decide) ?_
        refine V_goto 49 dX6_addEdge_45 (by decide) ?_
        refine V_cv1 (ctX6_fails hM (k := nI 2) (c := true)) mvX6_fails lkX6_100 hM.1 rfl rfl rfl (Nat.le_of_ble_eq_true rfl) ⟨⟨Nat.le_of_ble_eq_true rfl, Nat.le_of_ble_eq_true rfl⟩, Nat.le_of_ble_eq_true rfl, Nat.le_of_ble_eq_true rfl⟩ dX6_addEdge_49 ?_
        refine V_ifneB 78 dX6_addEdge_52 (by decide) (fun h52 => ?_) (fun h52 => absurd (h52.symm.trans rfl) (by decide))
        refine V_iconst (v := nI 0) dX6_addEdge_78 (by decide) ?_
        exact V_iretP rfl ⟨rfl, MQz hA hS (by first | exact kep.rf.z | exact kep.rf.z.z | exact kep.rf.z.z.z) (u2_s _ _ _ _)⟩ ⟨Nat.le_of_ble_eq_true rfl, Nat.le_of_ble_eq_true rfl⟩ dX6_addEdge_79

      · by_cases hm : i ∈ S.1.2.2 j
        · rw [show rs_addEdge S (nI j) (nI i) = (2, 0, S) from by unfold rs_addEdge; rw [tj, ti, if_neg h1, if_pos (by rw [decide_eq_true hm, Bool.or_true])]]
          refine CtP.of rfl (by simp [Value.category]) (Nat.le_of_ble_eq_true rfl) ?_
          refine V_aload_n dX6_addEdge_0 rfl rfl ?_
          refine V_iconst (v := nI 1) dX6_addEdge_1 (by decide) ?_
          refine V_aload_n dX6_addEdge_2 rfl rfl ?_
          refine V_iload_n dX6_addEdge_3 rfl rfl ?_
          refine V_cv1 (ctX6_isBlock hM (show S.1.1 < 2 ^ 31 by omega) hG.1) mvX6_isBlock lkX6_144 hM.1 rfl rfl rfl (Nat.le_of_ble_eq_true rfl) ⟨⟨Nat.le_of_ble_eq_true rfl, Nat.le_of_ble_eq_true rfl⟩, Nat.le_of_ble_eq_true rfl, Nat.le_of_ble_eq_true rfl⟩ dX6_addEdge_4 ?_
          refine V_ifeqB 18 dX6_addEdge_7 (by decide) (fun h7 => absurd (h7.symm.trans hb) (by decide)) (fun h7 => ?_)
          refine V_aload_n dX6_addEdge_10 rfl rfl ?_
          refine V_iload_n dX6_addEdge_11 rfl rfl ?_
          refine V_cv1 (ctX6_isBlock hM (show S.1.1 < 2 ^ 31 by omega) hG.1) mvX6_isBlock lkX6_144 hM.1 rfl rfl rfl (Nat.le_of_ble_eq_true rfl) ⟨⟨Nat.le_of_ble_eq_true rfl, Nat.le_of_ble_eq_true rfl⟩, Nat.le_of_ble_eq_true rfl, Nat.le_of_ble_eq_true rfl⟩ dX6_addEdge_12 ?_
          refine V_ifneB 22 dX6_addEdge_15 (by decide) (fun h15 => ?_) (fun h15 => absurd (h15.symm.trans ht) (by decide))
          refine V_iconst (v := nI 0) dX6_addEdge_22 (by decide) ?_
          refine V_cv1 (ctX6_fails hM (k := nI 1) (c := false)) mvX6_fails lkX6_100 hM.1 rfl rfl rfl (Nat.le_of_ble_eq_true rfl) ⟨⟨Nat.le_of_ble_eq_true rfl, Nat.le_of_ble_eq_true rfl⟩, Nat.le_of_ble_eq_true rfl, Nat.le_of_ble_eq_true rfl⟩ dX6_addEdge_23 ?_
          refine V_ifneB 78 dX6_addEdge_26 (by decide) (fun h26 => absurd (h26.symm.trans rfl) (by decide)) (fun h26 => ?_)
          refine V_aload_n dX6_addEdge_29 rfl rfl ?_
          refine V_iconst (v := nI 2) dX6_addEdge_30 (by decide) ?_
          refine V_iload_n dX6_addEdge_31 rfl rfl ?_
          refine V_Z_eq (by omega) 44 dX6_addEdge_32 (by decide) (fun h32 => absurd h32 h0) (fun h32 => ?_)
          refine V_aload_n dX6_addEdge_35 rfl rfl ?_
          refine V_iload_n dX6_addEdge_36 rfl rfl ?_
          refine V_iload_n dX6_addEdge_37 rfl rfl ?_
          refine V_cv1 (ctX6_edgeTo hM hG.z hw (show j < 14 by omega) (by omega)) mvX6_edgeTo lkX6_151 hM.1 rfl rfl rfl (Nat.le_of_ble_eq_true rfl) ⟨⟨Nat.le_of_ble_eq_true rfl, Nat.le_of_ble_eq_true rfl⟩, Nat.le_of_ble_eq_true rfl, Nat.le_of_ble_eq_true rfl⟩ dX6_addEdge_38 ?_
          refine V_top (lxI_in hnd hm) ?_
          refine V_if_lt 48 dX6_addEdge_41 (by decide) (fun h41 => absurd h41 (nI_pos (by have := idxOf_lt' hm; omega))) (fun h41 => ?_)
          refine V_iconst (v := nI 1) dX6_addEdge_44 (by decide) ?_
          refine V_goto 49 dX6_addEdge_45 (by decide) ?_
          refine V_cv1 (ctX6_fails hM (k := nI 2) (c := true)) mvX6_fails lkX6_100 hM.1 rfl rfl rfl (Nat.le_of_ble_eq_true rfl) ⟨⟨Nat.le_of_ble_eq_true rfl, Nat.le_of_ble_eq_true rfl⟩, Nat.le_of_ble_eq_true rfl, Nat.le_of_ble_eq_true rfl⟩ dX6_addEdge_49 ?_
          refine V_ifneB 78 dX6_addEdge_52 (by decide) (fun h52 => ?_) (fun h52 => absurd (h52.symm.trans rfl) (by decide))
          refine V_iconst (v := nI 0) dX6_addEdge_78 (by decide) ?_
          exact V_iretP rfl ⟨rfl, MQz hA hS (by first | exact kep.rf.z | exact kep.rf.z.z | exact kep.rf.z.z.z) (u2_s _ _ _ _)⟩ ⟨Nat.le_of_ble_eq_true rfl, Nat.le_of_ble_eq_true rfl⟩ dX6_addEdge_79

        · have h2 : ¬ (decide (i = 0) || decide (i ∈ S.1.2.2 j)) = true := by rw [decide_eq_false h0, decide_eq_false hm]; decide
          by_cases h3 : 3 ≤ (S.1.2.2 j).length
          · rw [show rs_addEdge S (nI j) (nI i) = (3, 0, S) from by unfold rs_addEdge; rw [tj, ti, if_neg h1, if_neg h2, if_pos h3]]
            refine CtP.of rfl (by simp [Value.category]) (Nat.le_of_ble_eq_true rfl) ?_
            refine V_aload_n dX6_addEdge_0 rfl rfl ?_
            refine V_iconst (v := nI 1) dX6_addEdge_1 (by decide) ?_
            refine V_aload_n dX6_addEdge_2 rfl rfl ?_
            refine V_iload_n dX6_addEdge_3 rfl rfl ?_
            refine V_cv1 (ctX6_isBlock hM (show S.1.1 < 2 ^ 31 by omega) hG.1) mvX6_isBlock lkX6_144 hM.1 rfl rfl rfl (Nat.le_of_ble_eq_true rfl) ⟨⟨Nat.le_of_ble_eq_true rfl, Nat.le_of_ble_eq_true rfl⟩, Nat.le_of_ble_eq_true rfl, Nat.le_of_ble_eq_true rfl⟩ dX6_addEdge_4 ?_
            refine V_ifeqB 18 dX6_addEdge_7 (by decide) (fun h7 => absurd (h7.symm.trans hb) (by decide)) (fun h7 => ?_)
            refine V_aload_n dX6_addEdge_10 rfl rfl ?_
            refine V_iload_n dX6_addEdge_11 rfl rfl ?_
            refine V_cv1 (ctX6_isBlock hM (show S.1.1 < 2 ^ 31 by omega) hG.1) mvX6_isBlock lkX6_144 hM.1 rfl rfl rfl (Nat.le_of_ble_eq_true rfl) ⟨⟨Nat.le_of_ble_eq_true rfl, Nat.le_of_ble_eq_true rfl⟩, Nat.le_of_ble_eq_true rfl, Nat.le_of_ble_eq_true rfl⟩ dX6_addEdge_12 ?_
            refine V_ifneB 22 dX6_addEdge_15 (by decide) (fun h15 => ?_) (fun h15 => absurd (h15.symm.trans ht) (by decide))
            refine V_iconst (v := nI 0) dX6_addEdge_22 (by decide) ?_
            refine V_cv1 (ctX6_fails hM (k := nI 1) (c := false)) mvX6_fails lkX6_100 hM.1 rfl rfl rfl (Nat.le_of_ble_eq_true rfl) ⟨⟨Nat.le_of_ble_eq_true rfl, Nat.le_of_ble_eq_true rfl⟩, Nat.le_of_ble_eq_true rfl, Nat.le_of_ble_eq_true rfl⟩ dX6_addEdge_23 ?_
            refine V_ifneB 78 dX6_addEdge_26 (by decide) (fun h26 => absurd (h26.symm.trans rfl) (by decide)) (fun h26 => ?_)
            refine V_aload_n dX6_addEdge_29 rfl rfl ?_
            refine V_iconst (v := nI 2) dX6_addEdge_30 (by decide) ?_
            refine V_iload_n dX6_addEdge_31 rfl rfl ?_
            refine V_Z_eq (by omega) 44 dX6_addEdge_32 (by decide) (fun h32 => absurd h32 h0) (fun h32 => ?_)
            refine V_aload_n dX6_addEdge_35 rfl rfl ?_
            refine V_iload_n dX6_addEdge_36 rfl rfl ?_
            refine V_iload_n dX6_addEdge_37 rfl rfl ?_
            refine V_cv1 (ctX6_edgeTo hM hG.z hw (show j < 14 by omega) (by omega)) mvX6_edgeTo lkX6_151 hM.1 rfl rfl rfl (Nat.le_of_ble_eq_true rfl) ⟨⟨Nat.le_of_ble_eq_true rfl, Nat.le_of_ble_eq_true rfl⟩, Nat.le_of_ble_eq_true rfl, Nat.le_of_ble_eq_true rfl⟩ dX6_addEdge_38 ?_
            refine V_top (lxI_out hm) ?_
            refine V_if_lt 48 dX6_addEdge_41 (by decide) (fun h41 => ?_) (fun h41 => absurd (by decide) h41)
            refine V_iconst (v := nI 0) dX6_addEdge_48 (by decide) ?_
            refine V_cv1 (ctX6_fails hM (k := nI 2) (c := false)) mvX6_fails lkX6_100 hM.1 rfl rfl rfl (Nat.le_of_ble_eq_true rfl) ⟨⟨Nat.le_of_ble_eq_true rfl, Nat.le_of_ble_eq_true rfl⟩, Nat.le_of_ble_eq_true rfl, Nat.le_of_ble_eq_true rfl⟩ dX6_addEdge_49 ?_
            refine V_ifneB 78 dX6_addEdge_52 (by decide) (fun h52 => absurd (h52.symm.trans rfl) (by decide)) (fun h52 => ?_)
            refine V_aload_n dX6_addEdge_55 rfl rfl ?_
            refine V_iconst (v := nI 3) dX6_addEdge_56 (by decide) ?_
            refine V_aload_n dX6_addEdge_57 rfl rfl ?_
            refine V_getR frX6_17 hM.1 rfl dX6_addEdge_58 ?_
            refine V_iload_n dX6_addEdge_61 rfl rfl ?_
            refine V_ialdE hM.2.2.1 j rfl (by omega) (by decide) ((hG.z.z.2 j (by omega)).2.1) dX6_addEdge_62 ?_
            refine V_iconst (v := nI 3) dX6_addEdge_63 (by decide) ?_
            refine V_N_ne (by omega) (by omega) 71 dX6_addEdge_64 (by decide) (fun h64 => ?_) (fun h64 => ?_)
            · exfalso
              omega
            · refine V_iconst (v := nI 1) dX6_addEdge_67 (by decide) ?_
              refine V_goto 72 dX6_addEdge_68 (by decide) ?_
              refine V_cv1 (ctX6_fails hM (k := nI 3) (c := true)) mvX6_fails lkX6_100 hM.1 rfl rfl rfl (Nat.le_of_ble_eq_true rfl) ⟨⟨Nat.le_of_ble_eq_true rfl, Nat.le_of_ble_eq_true rfl⟩, Nat.le_of_ble_eq_true rfl, Nat.le_of_ble_eq_true rfl⟩ dX6_addEdge_72 ?_
              refine V_ifeqB 80 dX6_addEdge_75 (by decide) (fun h75 => absurd (h75.symm.trans rfl) (by decide)) (fun h75 => ?_)
              refine V_iconst (v := nI 0) dX6_addEdge_78 (by decide) ?_
              exact V_iretP rfl ⟨rfl, MQz hA hS (by first | exact kep.rf.z | exact kep.rf.z.z | exact kep.rf.z.z.z) (u2_s _ _ _ _)⟩ ⟨Nat.le_of_ble_eq_true rfl, Nat.le_of_ble_eq_true rfl⟩ dX6_addEdge_79

          · rw [show rs_addEdge S (nI j) (nI i) = (0, nI (S.1.2.2 j).length, chg S (S.1.1, S.1.2.1, va_up S.1.2.2 j (S.1.2.2 j ++ [i]))) from by unfold rs_addEdge; rw [tj, ti, if_neg h1, if_neg h2, if_neg h3]]
            refine CtP.of rfl (by simp [Value.category]) (Nat.le_of_ble_eq_true rfl) ?_
            refine V_aload_n dX6_addEdge_0 rfl rfl ?_
            refine V_iconst (v := nI 1) dX6_addEdge_1 (by decide) ?_
            refine V_aload_n dX6_addEdge_2 rfl rfl ?_
            refine V_iload_n dX6_addEdge_3 rfl rfl ?_
            refine V_cv1 (ctX6_isBlock hM (show S.1.1 < 2 ^ 31 by omega) hG.1) mvX6_isBlock lkX6_144 hM.1 rfl rfl rfl (Nat.le_of_ble_eq_true rfl) ⟨⟨Nat.le_of_ble_eq_true rfl, Nat.le_of_ble_eq_true rfl⟩, Nat.le_of_ble_eq_true rfl, Nat.le_of_ble_eq_true rfl⟩ dX6_addEdge_4 ?_
            refine V_ifeqB 18 dX6_addEdge_7 (by decide) (fun h7 => absurd (h7.symm.trans hb) (by decide)) (fun h7 => ?_)
            refine V_aload_n dX6_addEdge_10 rfl rfl ?_
            refine V_iload_n dX6_addEdge_11 rfl rfl ?_
            refine V_cv1 (ctX6_isBlock hM (show S.1.1 < 2 ^ 31 by omega) hG.1) mvX6_isBlock lkX6_144 hM.1 rfl rfl rfl (Nat.le_of_ble_eq_true rfl) ⟨⟨Nat.le_of_ble_eq_true rfl, Nat.le_of_ble_eq_true rfl⟩, Nat.le_of_ble_eq_true rfl, Nat.le_of_ble_eq_true rfl⟩ dX6_addEdge_12 ?_
            refine V_ifneB 22 dX6_addEdge_15 (by decide) (fun h15 => ?_) (fun h15 => absurd (h15.symm.trans ht) (by decide))
            refine V_iconst (v := nI 0) dX6_addEdge_22 (by decide) ?_
            refine V_cv1 (ctX6_fails hM (k := nI 1) (c := false)) mvX6_fails lkX6_100 hM.1 rfl rfl rfl (Nat.le_of_ble_eq_true rfl) ⟨⟨Nat.le_of_ble_eq_true rfl, Nat.le_of_ble_eq_true rfl⟩, Nat.le_of_ble_eq_true rfl, Nat.le_of_ble_eq_true rfl⟩ dX6_addEdge_23 ?_
            refine V_ifneB 78 dX6_addEdge_26 (by decide) (fun h26 => absurd (h26.symm.trans rfl) (by decide)) (fun h26 => ?_)
            refine V_aload_n dX6_addEdge_29 rfl rfl ?_
            refine V_iconst (v := nI 2) dX6_addEdge_30 (by decide) ?_
            refine V_iload_n dX6_addEdge_31 rfl rfl ?_
            refine V_Z_eq (by omega) 44 dX6_addEdge_32 (by decide) (fun h32 => absurd h32 h0) (fun h32 => ?_)
            refine V_aload_n dX6_addEdge_35 rfl rfl ?_
            refine V_iload_n dX6_addEdge_36 rfl rfl ?_
            refine V_iload_n dX6_addEdge_37 rfl rfl ?_
            refine V_cv1 (ctX6_edgeTo hM hG.z hw (show j < 14 by omega) (by omega)) mvX6_edgeTo lkX6_151 hM.1 rfl rfl rfl (Nat.le_of_ble_eq_true rfl) ⟨⟨Nat.le_of_ble_eq_true rfl, Nat.le_of_ble_eq_true rfl⟩, Nat.le_of_ble_eq_true rfl, Nat.le_of_ble_eq_true rfl⟩ dX6_addEdge_38 ?_
            refine V_top (lxI_out hm) ?_
            refine V_if_lt 48 dX6_addEdge_41 (by decide) (fun h41 => ?_) (fun h41 => absurd (by decide) h41)
            refine V_iconst (v := nI 0) dX6_addEdge_48 (by decide) ?_
            refine V_cv1 (ctX6_fails hM (k := nI 2) (c := false)) mvX6_fails lkX6_100 hM.1 rfl rfl rfl (Nat.le_of_ble_eq_true rfl) ⟨⟨Nat.le_of_ble_eq_true rfl, Nat.le_of_ble_eq_true rfl⟩, Nat.le_of_ble_eq_true rfl, Nat.le_of_ble_eq_true rfl⟩ dX6_addEdge_49 ?_
            refine V_ifneB 78 dX6_addEdge_52 (by decide) (fun h52 => absurd (h52.symm.trans rfl) (by decide)) (fun h52 => ?_)
            refine V_aload_n dX6_addEdge_55 rfl rfl ?_
            refine V_iconst (v := nI 3) dX6_addEdge_56 (by decide) ?_
            refine V_aload_n dX6_addEdge_57 rfl rfl ?_
            refine V_getR frX6_17 hM.1 rfl dX6_addEdge_58 ?_
            refine V_iload_n dX6_addEdge_61 rfl rfl ?_
            refine V_ialdE hM.2.2.1 j rfl (by omega) (by decide) ((hG.z.z.2 j (by omega)).2.1) dX6_addEdge_62 ?_
            refine V_iconst (v := nI 3) dX6_addEdge_63 (by decide) ?_
            refine V_N_ne (by omega) (by omega) 71 dX6_addEdge_64 (by decide) (fun h64 => ?_) (fun h64 => ?_)
            · refine V_iconst (v := nI 0) dX6_addEdge_71 (by decide) ?_
              refine V_cv1 (ctX6_fails hM (k := nI 3) (c := false)) mvX6_fails lkX6_100 hM.1 rfl rfl rfl (Nat.le_of_ble_eq_true rfl) ⟨⟨Nat.le_of_ble_eq_true rfl, Nat.le_of_ble_eq_true rfl⟩, Nat.le_of_ble_eq_true rfl, Nat.le_of_ble_eq_true rfl⟩ dX6_addEdge_72 ?_
              refine V_ifeqB 80 dX6_addEdge_75 (by decide) (fun h75 => ?_) (fun h75 => absurd (h75.symm.trans rfl) (by decide))
              refine V_aload_n dX6_addEdge_80 rfl rfl ?_
              refine V_cp0 (ctX6_remember hM (hG.kp (show kep mi _ m from kep.rf.z.z.z)) hw hS.2.1.1 (((show kep mi _ m from kep.rf.z.z.z) _ _ (by omega)).trans hA.2.1.1) (fun i hi => (hA.2.1.2 i hi).keep (fun j => (show kep mi _ m from kep.rf.z.z.z) _ _ (by omega))) hS.2.1.2) mvX6_remember lkX6_141 hM.1 rfl rfl rfl (Nat.le_of_ble_eq_true rfl) ⟨⟨Nat.le_of_ble_eq_true rfl, Nat.le_of_ble_eq_true rfl⟩, Nat.le_of_ble_eq_true rfl, Nat.le_of_ble_eq_true rfl⟩ dX6_addEdge_81 (fun μ1 hx => ?_)
              obtain ⟨m1, rfl, hH1, hz1, ho1⟩ := hx
              have hG1 : GM m1 m S.1 := (hG.kp (show kep mi _ m from kep.rf.z.z.z)).keep (fun a i q => ho1 a i (by omega) (by omega))
              refine V_aload_n dX6_addEdge_84 rfl rfl ?_
              refine V_getR frX6_25 hM.1 rfl dX6_addEdge_85 ?_
              refine V_iload_n dX6_addEdge_88 rfl rfl ?_
              refine V_aaldR hM.2.2.2.2.2.2.2.2.2.2.2.2.2.2.2.2.2.1 (j) rfl (show j < 14 by omega) (by decide) dX6_addEdge_89 ?_
              refine V_aload_n dX6_addEdge_90 rfl rfl ?_
              refine V_getR frX6_17 hM.1 rfl dX6_addEdge_91 ?_
              refine V_iload_n dX6_addEdge_94 rfl rfl ?_
              refine V_ialdE hM.2.2.1 j rfl (by omega) (by decide) ((hG1.2 j (by omega)).2.1) dX6_addEdge_95 ?_
              refine V_iload_n dX6_addEdge_96 rfl rfl ?_
              refine V_iastN (hM.2.2.2.2.2.2.2.2.2.2.2.2.2.2.2.2.2.1.row (j := j) (show j < 14 by omega)) (S.1.2.2 j).length rfl (by omega) (by decide) dX6_addEdge_97 ?_
              refine V_aload_n dX6_addEdge_98 rfl rfl ?_
              refine V_getR frX6_17 hM.1 rfl dX6_addEdge_99 ?_
              refine V_iload_n dX6_addEdge_102 rfl rfl ?_
              refine V_dup2 dX6_addEdge_103 rfl rfl ?_
              refine V_ialdE hM.2.2.1 j rfl (by omega) (by decide) ((u2_n _ _ (Or.inl (by omega))).trans (hG1.2 j (by omega)).2.1) dX6_addEdge_104 ?_
              refine V_iconst (v := nI 1) dX6_addEdge_105 (by decide) ?_
              refine V_iadd dX6_addEdge_106 ?_
              refine V_top (nI_add _ 1) ?_
              refine V_iastN hM.2.2.1 j rfl (by omega) (by decide) dX6_addEdge_107 ?_
              refine V_aload_n dX6_addEdge_108 rfl rfl ?_
              refine V_getR frX6_17 hM.1 rfl dX6_addEdge_109 ?_
              refine V_iload_n dX6_addEdge_112 rfl rfl ?_
              refine V_ialdE hM.2.2.1 j rfl (by omega) (by decide) (u2_s _ _ _ _) dX6_addEdge_113 ?_
              refine V_iconst (v := nI 1) dX6_addEdge_114 (by decide) ?_
              refine V_isub dX6_addEdge_115 ?_
              refine V_top ((nI_subN (by omega)).trans (congrArg nI (Nat.add_sub_cancel _ 1))) ?_
              exact V_iretP rfl ⟨rfl, hA.fin hS kep.rf.z.z.z (u2_s _ _ _ _) hH1 hz1 ho1 (fun a i q => ((u2_n _ _ (by omega)).trans (u2_n _ _ (by omega)))) (by
                            have hg := GM.upd (G := S.1) (m1 := u2 (u2 m1 (m + 19 + j) (S.1.2.2 j).length (nI i)) (m + 2) j (nI ((S.1.2.2 j).length + 1))) (la := S.1.2.1 j) (le := S.1.2.2 j ++ [i]) hG1 (show j < 14 by omega) (((u2_n _ _ (by omega)).trans (u2_n _ _ (by omega))).trans hG1.1) (((u2_n _ _ (by omega)).trans (u2_n _ _ (by omega))).trans (hG1.2 j (by omega)).1) ((u2_s _ _ _ _).trans (by simp)) (fun z hz => ((u2_n _ _ (by omega)).trans (u2_n _ _ (by omega))).trans ((hG1.2 j (by omega)).2.2.1 z hz)) (fun z hz => by
                              have hz' : z < (S.1.2.2 j).length + 1 := by simpa using hz
                              rw [getD_app hz']
                              refine (u2_n _ _ (Or.inl (by omega))).trans ?_
                              by_cases e : z = (S.1.2.2 j).length
                              · subst e; rw [if_pos rfl]; exact u2_s _ _ _ _
                              · rw [if_neg e]; exact (u2_n _ _ (Or.inr e)).trans ((hG1.2 j (by omega)).2.2.2 z (by omega))) (fun c hc hne => ⟨((u2_n _ _ (by omega)).trans (u2_n _ _ (by omega))), ((u2_n _ _ (by omega)).trans (u2_n _ _ (by omega))), fun z => ((u2_n _ _ (by omega)).trans (u2_n _ _ (by omega))), fun z => ((u2_n _ _ (by omega)).trans (u2_n _ _ (by omega)))⟩)
                            rw [va_up_id] at hg
                            exact hg)⟩ ⟨Nat.le_of_ble_eq_true rfl, Nat.le_of_ble_eq_true rfl⟩ dX6_addEdge_116
            · exfalso
              omega

theorem ctX6_removeEdge (hM : ML σ m) (hA : MA mi m S) (hS : SOK S) {b t : Int32} : CtP κ 0 0 24 mrX6_removeEdge [.ref m, .int b, .int t] (MM σ mi ml) (MRz σ mi ml m (rs_removeEdge S b t)) := by
  have hw := hS.1
  have h14 := hw.2.1
  have hG := hA.1
  have h8 := hS.2.1.1
  cases hb : inR b S.1.1 with
  | false =>
    rw [show rs_removeEdge S b t = (1, 0, S) from by unfold rs_removeEdge; rw [if_pos (by rw [hb]; rfl)]]
    refine CtP.of rfl (by simp [Value.category]) (Nat.le_of_ble_eq_true rfl) ?_
    refine V_aload_n dX6_removeEdge_0 rfl rfl ?_
    refine V_iconst (v := nI 1) dX6_removeEdge_1 (by decide) ?_
    refine V_aload_n dX6_removeEdge_2 rfl rfl ?_
    refine V_iload_n dX6_removeEdge_3 rfl rfl ?_
    refine V_cv1 (ctX6_isBlock hM (show S.1.1 < 2 ^ 31 by omega) hG.1) mvX6_isBlock lkX6_144 hM.1 rfl rfl rfl (Nat.le_of_ble_eq_true rfl) ⟨⟨Nat.le_of_ble_eq_true rfl, Nat.le_of_ble_eq_true rfl⟩, Nat.le_of_ble_eq_true rfl, Nat.le_of_ble_eq_true rfl⟩ dX6_removeEdge_4 ?_
    refine V_ifeqB 18 dX6_removeEdge_7 (by decide) (fun h7 => ?_) (fun h7 => absurd (h7.symm.trans hb) (by decide))
    refine V_iconst (v := nI 1) dX6_removeEdge_18 (by decide) ?_
    refine V_goto 23 dX6_removeEdge_19 (by decide) ?_
    refine V_cv1 (ctX6_fails hM (k := nI 1) (c := true)) mvX6_fails lkX6_100 hM.1 rfl rfl rfl (Nat.le_of_ble_eq_true rfl) ⟨⟨Nat.le_of_ble_eq_true rfl, Nat.le_of_ble_eq_true rfl⟩, Nat.le_of_ble_eq_true rfl, Nat.le_of_ble_eq_true rfl⟩ dX6_removeEdge_23 ?_
    refine V_ifneB 51 dX6_removeEdge_26 (by decide) (fun h26 => ?_) (fun h26 => absurd (h26.symm.trans rfl) (by decide))
    refine V_iconst (v := nI 0) dX6_removeEdge_51 (by decide) ?_
    exact V_iretP rfl ⟨rfl, MQz hA hS (by first | exact kep.rf.z | exact kep.rf.z.z | exact kep.rf.z.z.z) (u2_s _ _ _ _)⟩ ⟨Nat.le_of_ble_eq_true rfl, Nat.le_of_ble_eq_true rfl⟩ dX6_removeEdge_52

  | true =>
    cases ht : inR t S.1.1 with
    | false =>
      rw [show rs_removeEdge S b t = (1, 0, S) from by unfold rs_removeEdge; rw [if_pos (by rw [ht, Bool.and_false])]]
      refine CtP.of rfl (by simp [Value.category]) (Nat.le_of_ble_eq_true rfl) ?_
      refine V_aload_n dX6_removeEdge_0 rfl rfl ?_
      refine V_iconst (v := nI 1) dX6_removeEdge_1 (by decide) ?_
      refine V_aload_n dX6_removeEdge_2 rfl rfl ?_
      refine V_iload_n dX6_removeEdge_3 rfl rfl ?_
      refine V_cv1 (ctX6_isBlock hM (show S.1.1 < 2 ^ 31 by omega) hG.1) mvX6_isBlock lkX6_144 hM.1 rfl rfl rfl (Nat.le_of_ble_eq_true rfl) ⟨⟨Nat.le_of_ble_eq_true rfl, Nat.le_of_ble_eq_true rfl⟩, Nat.le_of_ble_eq_true rfl, Nat.le_of_ble_eq_true rfl⟩ dX6_removeEdge_4 ?_
      refine V_ifeqB 18 dX6_removeEdge_7 (by decide) (fun h7 => absurd (h7.symm.trans hb) (by decide)) (fun h7 => ?_)
      refine V_aload_n dX6_removeEdge_10 rfl rfl ?_
      refine V_iload_n dX6_removeEdge_11 rfl rfl ?_
      refine V_cv1 (ctX6_isBlock hM (show S.1.1 < 2 ^ 31 by omega) hG.1) mvX6_isBlock lkX6_144 hM.1 rfl rfl rfl (Nat.le_of_ble_eq_true rfl) ⟨⟨Nat.le_of_ble_eq_true rfl, Nat.le_of_ble_eq_true rfl⟩, Nat.le_of_ble_eq_true rfl, Nat.le_of_ble_eq_true rfl⟩ dX6_removeEdge_12 ?_
      refine V_ifneB 22 dX6_removeEdge_15 (by decide) (fun h15 => absurd (h15.symm.trans ht) (by decide)) (fun h15 => ?_)
      refine V_iconst (v := nI 1) dX6_removeEdge_18 (by decide) ?_
      refine V_goto 23 dX6_removeEdge_19 (by decide) ?_
      refine V_cv1 (ctX6_fails hM (k := nI 1) (c := true)) mvX6_fails lkX6_100 hM.1 rfl rfl rfl (Nat.le_of_ble_eq_true rfl) ⟨⟨Nat.le_of_ble_eq_true rfl, Nat.le_of_ble_eq_true rfl⟩, Nat.le_of_ble_eq_true rfl, Nat.le_of_ble_eq_true rfl⟩ dX6_removeEdge_23 ?_
      refine V_ifneB 51 dX6_removeEdge_26 (by decide) (fun h26 => ?_) (fun h26 => absurd (h26.symm.trans rfl) (by decide))
      refine V_iconst (v := nI 0) dX6_removeEdge_51 (by decide) ?_
      exact V_iretP rfl ⟨rfl, MQz hA hS (by first | exact kep.rf.z | exact kep.rf.z.z | exact kep.rf.z.z.z) (u2_s _ _ _ _)⟩ ⟨Nat.le_of_ble_eq_true rfl, Nat.le_of_ble_eq_true rfl⟩ dX6_removeEdge_52

    | true =>
      obtain ⟨j, hj, rfl⟩ := inR_t (by omega) hb
      have tj := tn_nI (show j < 2 ^ 31 by omega)
      obtain ⟨i, hi, rfl⟩ := inR_t (by omega) ht
      have ti := tn_nI (show i < 2 ^ 31 by omega)
      have h1 : ¬ (inR (nI j) S.1.1 && inR (nI i) S.1.1) = false := by rw [hb, ht]; decide
      have h3l := (hw.2.2.2.1 j).1
      have hnd := (hw.2.2.2.1 j).2.2
      by_cases hm : i ∈ S.1.2.2 j
      · have hix := idxOf_lt' hm
        rw [show rs_removeEdge S (nI j) (nI i) = (0, nI ((S.1.2.2 j).length - 1), chg S (S.1.1, S.1.2.1, va_up S.1.2.2 j ((S.1.2.2 j).eraseIdx ((S.1.2.2 j).idxOf i)))) from by unfold rs_removeEdge; rw [tj, ti, if_neg h1, if_neg (fun q => q hm)]]
        refine CtP.of rfl (by simp [Value.category]) (Nat.le_of_ble_eq_true rfl) ?_
        have lp : ∀ m1, (∀ mF, (∀ a z, a ≠ m + 2 → a ≠ m + 19 + j → mF a z = m1 a z) → GM mF m (S.1.1, S.1.2.1, va_up S.1.2.2 j ((S.1.2.2 j).eraseIdx ((S.1.2.2 j).idxOf i))) → MRz σ mi ml m (0, nI ((S.1.2.2 j).length - 1), chg S (S.1.1, S.1.2.1, va_up S.1.2.2 j ((S.1.2.2 j).eraseIdx ((S.1.2.2 j).idxOf i)))) (.inl (some (.int (nI ((S.1.2.2 j).length - 1))))) (MM σ mF ml)) → GM m1 m S.1 → ∀ k, k ≤ (S.1.2.2 j).length - 1 → (S.1.2.2 j).idxOf i ≤ k → ∀ mF, (∀ a z, a ≠ m + 2 → a ≠ m + 19 + j → mF a z = m1 a z) → (∀ c, c ≠ j → mF (m + 2) c = m1 (m + 2) c) → mF (m + 2) j = nI ((S.1.2.2 j).length - 1) → (∀ z, z < (S.1.2.2 j).length → mF (m + 19 + j) z = nI (if (S.1.2.2 j).idxOf i ≤ z ∧ z < k then (S.1.2.2 j).getD (z + 1) 0 else (S.1.2.2 j).getD z 0)) → V κ (phiP κ mrX6_removeEdge 24 0 0 (MRz σ mi ml m (0, nI ((S.1.2.2 j).length - 1), chg S (S.1.1, S.1.2.1, va_up S.1.2.2 j ((S.1.2.2 j).eraseIdx ((S.1.2.2 j).idxOf i)))))) 0 0 77 [some (.ref m), some (.int (nI j)), some (.int (nI i)), some (.int (nI ((S.1.2.2 j).idxOf i))), some (.int (nI k))] [] (MM σ mF ml) := fun m1 fin hG1 => loop_up _ (fun k hk ih hik mF o1 o2 o3 o4 => by
          refine V_iload dX6_removeEdge_77 rfl ?_
          refine V_aload_n dX6_removeEdge_79 rfl rfl ?_
          refine V_getR frX6_17 hM.1 rfl dX6_removeEdge_80 ?_
          refine V_iload_n dX6_removeEdge_83 rfl rfl ?_
          refine V_ialdE hM.2.2.1 j rfl (by omega) (by decide) o3 dX6_removeEdge_84 ?_
          refine V_N_ge (by omega) (by omega) 114 dX6_removeEdge_85 (by decide) (fun h85 => ?_) (fun h85 => ?_)
          · refine V_aload_n dX6_removeEdge_114 rfl rfl ?_
            refine V_getR frX6_17 hM.1 rfl dX6_removeEdge_115 ?_
            refine V_iload_n dX6_removeEdge_118 rfl rfl ?_
            refine V_ialdE hM.2.2.1 j rfl (by omega) (by decide) o3 dX6_removeEdge_119 ?_
            exact V_iretP rfl (fin mF o1 (by
                        have hg := GM.upd (G := S.1) (m1 := mF) (la := S.1.2.1 j) (le := (S.1.2.2 j).eraseIdx ((S.1.2.2 j).idxOf i)) hG1 (show j < 14 by omega) ((o1 _ _ (by omega) (by omega)).trans hG1.1) ((o1 _ _ (by omega) (by omega)).trans (hG1.2 j (by omega)).1) (by rw [len_erase hix]; exact o3) (fun z hz => (o1 _ _ (by omega) (by omega)).trans ((hG1.2 j (by omega)).2.2.1 z hz)) (fun z hz => by
                          rw [len_erase hix] at hz
                          rw [o4 z (by omega), getD_erase]
                          by_cases q : z < (S.1.2.2 j).idxOf i
                          · rw [if_neg (fun w => by omega), if_pos q]
                          · rw [if_pos ⟨by omega, by omega⟩, if_neg q]) (fun c hc hne => ⟨o1 _ _ (by omega) (by omega), o2 c hne, fun z => o1 _ _ (by omega) (by omega), fun z => o1 _ _ (by omega) (by omega)⟩)
                        rw [va_up_id] at hg
                        exact hg)) ⟨Nat.le_of_ble_eq_true rfl, Nat.le_of_ble_eq_true rfl⟩ dX6_removeEdge_120
          · refine V_aload_n dX6_removeEdge_88 rfl rfl ?_
            refine V_getR frX6_25 hM.1 rfl dX6_removeEdge_89 ?_
            refine V_iload_n dX6_removeEdge_92 rfl rfl ?_
            refine V_aaldR hM.2.2.2.2.2.2.2.2.2.2.2.2.2.2.2.2.2.1 (j) rfl (show j < 14 by omega) (by decide) dX6_removeEdge_93 ?_
            refine V_iload dX6_removeEdge_94 rfl ?_
            refine V_aload_n dX6_removeEdge_96 rfl rfl ?_
            refine V_getR frX6_25 hM.1 rfl dX6_removeEdge_97 ?_
            refine V_iload_n dX6_removeEdge_100 rfl rfl ?_
            refine V_aaldR hM.2.2.2.2.2.2.2.2.2.2.2.2.2.2.2.2.2.1 (j) rfl (show j < 14 by omega) (by decide) dX6_removeEdge_101 ?_
            refine V_iload dX6_removeEdge_102 rfl ?_
            refine V_iconst (v := nI 1) dX6_removeEdge_104 (by decide) ?_
            refine V_iadd dX6_removeEdge_105 ?_
            refine V_top (nI_add k 1) ?_
            refine V_ialdE (hM.2.2.2.2.2.2.2.2.2.2.2.2.2.2.2.2.2.1.row (j := j) (show j < 14 by omega)) (k + 1) rfl (by omega) (by decide) ((o4 (k + 1) (by omega)).trans (by rw [if_neg (fun q => by omega)])) dX6_removeEdge_106 ?_
            refine V_iastN (hM.2.2.2.2.2.2.2.2.2.2.2.2.2.2.2.2.2.1.row (j := j) (show j < 14 by omega)) k rfl (by omega) (by decide) dX6_removeEdge_107 ?_
            refine V_iinc1 dX6_removeEdge_108 rfl (Nat.le_of_ble_eq_true rfl) ?_
            refine V_goto 77 dX6_removeEdge_111 (by decide) ?_
            exact ih (by omega) (by omega) _ (fun a z q1 q2 => (u2_n _ _ (Or.inl q2)).trans (o1 a z q1 q2)) (fun c hc => (u2_n _ _ (Or.inl (by omega))).trans (o2 c hc)) ((u2_n _ _ (Or.inl (by omega))).trans o3) (fun z hz => by
              by_cases e : z = k
              · subst e
                rw [if_pos ⟨hik, by omega⟩]; exact u2_s _ _ _ _
              · refine (u2_n _ _ (Or.inr e)).trans ((o4 z hz).trans ?_)
                by_cases q : (S.1.2.2 j).idxOf i ≤ z ∧ z < k
                · rw [if_pos q, if_pos (by omega)]
                · rw [if_neg q, if_neg (by omega)])
          )
        refine V_aload_n dX6_removeEdge_0 rfl rfl ?_
        refine V_iconst (v := nI 1) dX6_removeEdge_1 (by decide) ?_
        refine V_aload_n dX6_removeEdge_2 rfl rfl ?_
        refine V_iload_n dX6_removeEdge_3 rfl rfl ?_
        refine V_cv1 (ctX6_isBlock hM (show S.1.1 < 2 ^ 31 by omega) hG.1) mvX6_isBlock lkX6_144 hM.1 rfl rfl rfl (Nat.le_of_ble_eq_true rfl) ⟨⟨Nat.le_of_ble_eq_true rfl, Nat.le_of_ble_eq_true rfl⟩, Nat.le_of_ble_eq_true rfl, Nat.le_of_ble_eq_true rfl⟩ dX6_removeEdge_4 ?_
        refine V_ifeqB 18 dX6_removeEdge_7 (by decide) (fun h7 => absurd (h7.symm.trans hb) (by decide)) (fun h7 => ?_)
        refine V_aload_n dX6_removeEdge_10 rfl rfl ?_
        refine V_iload_n dX6_removeEdge_11 rfl rfl ?_
        refine V_cv1 (ctX6_isBlock hM (show S.1.1 < 2 ^ 31 by omega) hG.1) mvX6_isBlock lkX6_144 hM.1 rfl rfl rfl (Nat.le_of_ble_eq_true rfl) ⟨⟨Nat.le_of_ble_eq_true rfl, Nat.le_of_ble_eq_true rfl⟩, Nat.le_of_ble_eq_true rfl, Nat.le_of_ble_eq_true rfl⟩ dX6_removeEdge_12 ?_
        refine V_ifneB 22 dX6_removeEdge_15 (by decide) (fun h15 => ?_) (fun h15 => absurd (h15.symm.trans ht) (by decide))
        refine V_iconst (v := nI 0) dX6_removeEdge_22 (by decide) ?_
        refine V_cv1 (ctX6_fails hM (k := nI 1) (c := false)) mvX6_fails lkX6_100 hM.1 rfl rfl rfl (Nat.le_of_ble_eq_true rfl) ⟨⟨Nat.le_of_ble_eq_true rfl, Nat.le_of_ble_eq_true rfl⟩, Nat.le_of_ble_eq_true rfl, Nat.le_of_ble_eq_true rfl⟩ dX6_removeEdge_23 ?_
        refine V_ifneB 51 dX6_removeEdge_26 (by decide) (fun h26 => absurd (h26.symm.trans rfl) (by decide)) (fun h26 => ?_)
        refine V_aload_n dX6_removeEdge_29 rfl rfl ?_
        refine V_iconst (v := nI 2) dX6_removeEdge_30 (by decide) ?_
        refine V_aload_n dX6_removeEdge_31 rfl rfl ?_
        refine V_iload_n dX6_removeEdge_32 rfl rfl ?_
        refine V_iload_n dX6_removeEdge_33 rfl rfl ?_
        refine V_cv1 (ctX6_edgeTo hM hG.z hw (show j < 14 by omega) (by omega)) mvX6_edgeTo lkX6_151 hM.1 rfl rfl rfl (Nat.le_of_ble_eq_true rfl) ⟨⟨Nat.le_of_ble_eq_true rfl, Nat.le_of_ble_eq_true rfl⟩, Nat.le_of_ble_eq_true rfl, Nat.le_of_ble_eq_true rfl⟩ dX6_removeEdge_34 ?_
        refine V_top (lxI_in hnd hm) ?_
        refine V_if_ge 44 dX6_removeEdge_37 (by decide) (fun h37 => ?_) (fun h37 => absurd (Int32.not_lt.mp (nI_pos (by omega))) h37)
        refine V_iconst (v := nI 0) dX6_removeEdge_44 (by decide) ?_
        refine V_cv1 (ctX6_fails hM (k := nI 2) (c := false)) mvX6_fails lkX6_100 hM.1 rfl rfl rfl (Nat.le_of_ble_eq_true rfl) ⟨⟨Nat.le_of_ble_eq_true rfl, Nat.le_of_ble_eq_true rfl⟩, Nat.le_of_ble_eq_true rfl, Nat.le_of_ble_eq_true rfl⟩ dX6_removeEdge_45 ?_
        refine V_ifeqB 53 dX6_removeEdge_48 (by decide) (fun h48 => ?_) (fun h48 => absurd (h48.symm.trans rfl) (by decide))
        refine V_aload_n dX6_removeEdge_53 rfl rfl ?_
        refine V_cp0 (ctX6_remember hM (hG.kp (show kep mi _ m from kep.rf.z.z)) hw hS.2.1.1 (((show kep mi _ m from kep.rf.z.z) _ _ (by omega)).trans hA.2.1.1) (fun i hi => (hA.2.1.2 i hi).keep (fun j => (show kep mi _ m from kep.rf.z.z) _ _ (by omega))) hS.2.1.2) mvX6_remember lkX6_141 hM.1 rfl rfl rfl (Nat.le_of_ble_eq_true rfl) ⟨⟨Nat.le_of_ble_eq_true rfl, Nat.le_of_ble_eq_true rfl⟩, Nat.le_of_ble_eq_true rfl, Nat.le_of_ble_eq_true rfl⟩ dX6_removeEdge_54 (fun μ1 hx => ?_)
        obtain ⟨m1, rfl, hH1, hz1, ho1⟩ := hx
        have hG1 : GM m1 m S.1 := (hG.kp (show kep mi _ m from kep.rf.z.z)).keep (fun a i q => ho1 a i (by omega) (by omega))
        refine V_aload_n dX6_removeEdge_57 rfl rfl ?_
        refine V_iload_n dX6_removeEdge_58 rfl rfl ?_
        refine V_iload_n dX6_removeEdge_59 rfl rfl ?_
        refine V_cv1 (ctX6_edgeTo hM hG1 hw (show j < 14 by omega) (by omega)) mvX6_edgeTo lkX6_151 hM.1 rfl rfl rfl (Nat.le_of_ble_eq_true rfl) ⟨⟨Nat.le_of_ble_eq_true rfl, Nat.le_of_ble_eq_true rfl⟩, Nat.le_of_ble_eq_true rfl, Nat.le_of_ble_eq_true rfl⟩ dX6_removeEdge_60 ?_
        refine V_top (lxI_in hnd hm) ?_
        refine V_istore_n dX6_removeEdge_63 rfl (Nat.le_of_ble_eq_true rfl) ?_
        refine V_aload_n dX6_removeEdge_64 rfl rfl ?_
        refine V_getR frX6_17 hM.1 rfl dX6_removeEdge_65 ?_
        refine V_iload_n dX6_removeEdge_68 rfl rfl ?_
        refine V_dup2 dX6_removeEdge_69 rfl rfl ?_
        refine V_ialdE hM.2.2.1 j rfl (by omega) (by decide) ((hG1.2 j (by omega)).2.1) dX6_removeEdge_70 ?_
        refine V_iconst (v := nI 1) dX6_removeEdge_71 (by decide) ?_
        refine V_isub dX6_removeEdge_72 ?_
        refine V_top (nI_subN (by omega)) ?_
        refine V_iastN hM.2.2.1 j rfl (by omega) (by decide) dX6_removeEdge_73 ?_
        refine V_iload_n dX6_removeEdge_74 rfl rfl ?_
        refine V_istore dX6_removeEdge_75 (Nat.le_of_ble_eq_true rfl) ?_
        exact lp m1 (fun mF o1 hg => ⟨rfl, hA.fin hS kep.rf.z.z (u2_s _ _ _ _) hH1 hz1 ho1 (fun a i q => o1 a i (by omega) (by omega)) hg⟩) hG1 ((S.1.2.2 j).idxOf i) (by omega) (Nat.le_refl _) _ (fun a z q1 q2 => u2_n _ _ (Or.inl q1)) (fun c hc => u2_n _ _ (Or.inr hc)) (u2_s _ _ _ _) (fun z hz => by
          rw [if_neg (fun q => by omega)]
          exact (u2_n _ _ (Or.inl (by omega))).trans ((hG1.2 j (by omega)).2.2.2 z hz))

      · rw [show rs_removeEdge S (nI j) (nI i) = (2, 0, S) from by unfold rs_removeEdge; rw [tj, ti, if_neg h1, if_pos hm]]
        refine CtP.of rfl (by simp [Value.category]) (Nat.le_of_ble_eq_true rfl) ?_
        refine V_aload_n dX6_removeEdge_0 rfl rfl ?_
        refine V_iconst (v := nI 1) dX6_removeEdge_1 (by decide) ?_
        refine V_aload_n dX6_removeEdge_2 rfl rfl ?_
        refine V_iload_n dX6_removeEdge_3 rfl rfl ?_
        refine V_cv1 (ctX6_isBlock hM (show S.1.1 < 2 ^ 31 by omega) hG.1) mvX6_isBlock lkX6_144 hM.1 rfl rfl rfl (Nat.le_of_ble_eq_true rfl) ⟨⟨Nat.le_of_ble_eq_true rfl, Nat.le_of_ble_eq_true rfl⟩, Nat.le_of_ble_eq_true rfl, Nat.le_of_ble_eq_true rfl⟩ dX6_removeEdge_4 ?_
        refine V_ifeqB 18 dX6_removeEdge_7 (by decide) (fun h7 => absurd (h7.symm.trans hb) (by decide)) (fun h7 => ?_)
        refine V_aload_n dX6_removeEdge_10 rfl rfl ?_
        refine V_iload_n dX6_removeEdge_11 rfl rfl ?_
        refine V_cv1 (ctX6_isBlock hM (show S.1.1 < 2 ^ 31 by omega) hG.1) mvX6_isBlock lkX6_144 hM.1 rfl rfl rfl (Nat.le_of_ble_eq_true rfl) ⟨⟨Nat.le_of_ble_eq_true rfl, Nat.le_of_ble_eq_true rfl⟩, Nat.le_of_ble_eq_true rfl, Nat.le_of_ble_eq_true rfl⟩ dX6_removeEdge_12 ?_
        refine V_ifneB 22 dX6_removeEdge_15 (by decide) (fun h15 => ?_) (fun h15 => absurd (h15.symm.trans ht) (by decide))
        refine V_iconst (v := nI 0) dX6_removeEdge_22 (by decide) ?_
        refine V_cv1 (ctX6_fails hM (k := nI 1) (c := false)) mvX6_fails lkX6_100 hM.1 rfl rfl rfl (Nat.le_of_ble_eq_true rfl) ⟨⟨Nat.le_of_ble_eq_true rfl, Nat.le_of_ble_eq_true rfl⟩, Nat.le_of_ble_eq_true rfl, Nat.le_of_ble_eq_true rfl⟩ dX6_removeEdge_23 ?_
        refine V_ifneB 51 dX6_removeEdge_26 (by decide) (fun h26 => absurd (h26.symm.trans rfl) (by decide)) (fun h26 => ?_)
        refine V_aload_n dX6_removeEdge_29 rfl rfl ?_
        refine V_iconst (v := nI 2) dX6_removeEdge_30 (by decide) ?_
        refine V_aload_n dX6_removeEdge_31 rfl rfl ?_
        refine V_iload_n dX6_removeEdge_32 rfl rfl ?_
        refine V_iload_n dX6_removeEdge_33 rfl rfl ?_
        refine V_cv1 (ctX6_edgeTo hM hG.z hw (show j < 14 by omega) (by omega)) mvX6_edgeTo lkX6_151 hM.1 rfl rfl rfl (Nat.le_of_ble_eq_true rfl) ⟨⟨Nat.le_of_ble_eq_true rfl, Nat.le_of_ble_eq_true rfl⟩, Nat.le_of_ble_eq_true rfl, Nat.le_of_ble_eq_true rfl⟩ dX6_removeEdge_34 ?_
        refine V_top (lxI_out hm) ?_
        refine V_if_ge 44 dX6_removeEdge_37 (by decide) (fun h37 => absurd h37 (by decide)) (fun h37 => ?_)
        refine V_iconst (v := nI 1) dX6_removeEdge_40 (by decide) ?_
        refine V_goto 45 dX6_removeEdge_41 (by decide) ?_
        refine V_cv1 (ctX6_fails hM (k := nI 2) (c := true)) mvX6_fails lkX6_100 hM.1 rfl rfl rfl (Nat.le_of_ble_eq_true rfl) ⟨⟨Nat.le_of_ble_eq_true rfl, Nat.le_of_ble_eq_true rfl⟩, Nat.le_of_ble_eq_true rfl, Nat.le_of_ble_eq_true rfl⟩ dX6_removeEdge_45 ?_
        refine V_ifeqB 53 dX6_removeEdge_48 (by decide) (fun h48 => absurd (h48.symm.trans rfl) (by decide)) (fun h48 => ?_)
        refine V_iconst (v := nI 0) dX6_removeEdge_51 (by decide) ?_
        exact V_iretP rfl ⟨rfl, MQz hA hS (by first | exact kep.rf.z | exact kep.rf.z.z | exact kep.rf.z.z.z) (u2_s _ _ _ _)⟩ ⟨Nat.le_of_ble_eq_true rfl, Nat.le_of_ble_eq_true rfl⟩ dX6_removeEdge_52

theorem ctX6_thread (hM : ML σ m) (hA : MA mi m S) (hS : SOK S) {b u t : Int32} : CtP κ 0 0 24 mrX6_thread [.ref m, .int b, .int u, .int t] (MM σ mi ml) (MRz σ mi ml m (rs_thread S b u t)) := by
  have hw := hS.1
  have h14 := hw.2.1
  have hG := hA.1
  have h8 := hS.2.1.1
  cases hb : inR b S.1.1 with
  | false =>
    rw [show rs_thread S b u t = (1, 0, S) from by unfold rs_thread; rw [if_pos (by rw [hb]; rfl)]]
    refine CtP.of rfl (by simp [Value.category]) (Nat.le_of_ble_eq_true rfl) ?_
    refine V_aload_n dX6_thread_0 rfl rfl ?_
    refine V_iconst (v := nI 1) dX6_thread_1 (by decide) ?_
    refine V_aload_n dX6_thread_2 rfl rfl ?_
    refine V_iload_n dX6_thread_3 rfl rfl ?_
    refine V_cv1 (ctX6_isBlock hM (show S.1.1 < 2 ^ 31 by omega) hG.1) mvX6_isBlock lkX6_144 hM.1 rfl rfl rfl (Nat.le_of_ble_eq_true rfl) ⟨⟨Nat.le_of_ble_eq_true rfl, Nat.le_of_ble_eq_true rfl⟩, Nat.le_of_ble_eq_true rfl, Nat.le_of_ble_eq_true rfl⟩ dX6_thread_4 ?_
    refine V_ifeqB 26 dX6_thread_7 (by decide) (fun h7 => ?_) (fun h7 => absurd (h7.symm.trans hb) (by decide))
    refine V_iconst (v := nI 1) dX6_thread_26 (by decide) ?_
    refine V_goto 31 dX6_thread_27 (by decide) ?_
    refine V_cv1 (ctX6_fails hM (k := nI 1) (c := true)) mvX6_fails lkX6_100 hM.1 rfl rfl rfl (Nat.le_of_ble_eq_true rfl) ⟨⟨Nat.le_of_ble_eq_true rfl, Nat.le_of_ble_eq_true rfl⟩, Nat.le_of_ble_eq_true rfl, Nat.le_of_ble_eq_true rfl⟩ dX6_thread_31 ?_
    refine V_ifeqB 39 dX6_thread_34 (by decide) (fun h34 => absurd (h34.symm.trans rfl) (by decide)) (fun h34 => ?_)
    refine V_iconst (v := nI 0) dX6_thread_37 (by decide) ?_
    exact V_iretP rfl ⟨rfl, MQz hA hS (by first | exact kep.rf.z | exact kep.rf.z.z | exact kep.rf.z.z.z) (u2_s _ _ _ _)⟩ ⟨Nat.le_of_ble_eq_true rfl, Nat.le_of_ble_eq_true rfl⟩ dX6_thread_38

  | true =>
    cases hu : inR u S.1.1 with
    | false =>
      rw [show rs_thread S b u t = (1, 0, S) from by unfold rs_thread; rw [if_pos (by rw [hu, Bool.false_and, Bool.and_false])]]
      refine CtP.of rfl (by simp [Value.category]) (Nat.le_of_ble_eq_true rfl) ?_
      refine V_aload_n dX6_thread_0 rfl rfl ?_
      refine V_iconst (v := nI 1) dX6_thread_1 (by decide) ?_
      refine V_aload_n dX6_thread_2 rfl rfl ?_
      refine V_iload_n dX6_thread_3 rfl rfl ?_
      refine V_cv1 (ctX6_isBlock hM (show S.1.1 < 2 ^ 31 by omega) hG.1) mvX6_isBlock lkX6_144 hM.1 rfl rfl rfl (Nat.le_of_ble_eq_true rfl) ⟨⟨Nat.le_of_ble_eq_true rfl, Nat.le_of_ble_eq_true rfl⟩, Nat.le_of_ble_eq_true rfl, Nat.le_of_ble_eq_true rfl⟩ dX6_thread_4 ?_
      refine V_ifeqB 26 dX6_thread_7 (by decide) (fun h7 => absurd (h7.symm.trans hb) (by decide)) (fun h7 => ?_)
      refine V_aload_n dX6_thread_10 rfl rfl ?_
      refine V_iload_n dX6_thread_11 rfl rfl ?_
      refine V_cv1 (ctX6_isBlock hM (show S.1.1 < 2 ^ 31 by omega) hG.1) mvX6_isBlock lkX6_144 hM.1 rfl rfl rfl (Nat.le_of_ble_eq_true rfl) ⟨⟨Nat.le_of_ble_eq_true rfl, Nat.le_of_ble_eq_true rfl⟩, Nat.le_of_ble_eq_true rfl, Nat.le_of_ble_eq_true rfl⟩ dX6_thread_12 ?_
      refine V_ifeqB 26 dX6_thread_15 (by decide) (fun h15 => ?_) (fun h15 => absurd (h15.symm.trans hu) (by decide))
      refine V_iconst (v := nI 1) dX6_thread_26 (by decide) ?_
      refine V_goto 31 dX6_thread_27 (by decide) ?_
      refine V_cv1 (ctX6_fails hM (k := nI 1) (c := true)) mvX6_fails lkX6_100 hM.1 rfl rfl rfl (Nat.le_of_ble_eq_true rfl) ⟨⟨Nat.le_of_ble_eq_true rfl, Nat.le_of_ble_eq_true rfl⟩, Nat.le_of_ble_eq_true rfl, Nat.le_of_ble_eq_true rfl⟩ dX6_thread_31 ?_
      refine V_ifeqB 39 dX6_thread_34 (by decide) (fun h34 => absurd (h34.symm.trans rfl) (by decide)) (fun h34 => ?_)
      refine V_iconst (v := nI 0) dX6_thread_37 (by decide) ?_
      exact V_iretP rfl ⟨rfl, MQz hA hS (by first | exact kep.rf.z | exact kep.rf.z.z | exact kep.rf.z.z.z) (u2_s _ _ _ _)⟩ ⟨Nat.le_of_ble_eq_true rfl, Nat.le_of_ble_eq_true rfl⟩ dX6_thread_38

    | true =>
      cases ht : inR t S.1.1 with
      | false =>
        rw [show rs_thread S b u t = (1, 0, S) from by unfold rs_thread; rw [if_pos (by rw [ht, Bool.and_false, Bool.and_false])]]
        refine CtP.of rfl (by simp [Value.category]) (Nat.le_of_ble_eq_true rfl) ?_
        refine V_aload_n dX6_thread_0 rfl rfl ?_
        refine V_iconst (v := nI 1) dX6_thread_1 (by decide) ?_
        refine V_aload_n dX6_thread_2 rfl rfl ?_
        refine V_iload_n dX6_thread_3 rfl rfl ?_
        refine V_cv1 (ctX6_isBlock hM (show S.1.1 < 2 ^ 31 by omega) hG.1) mvX6_isBlock lkX6_144 hM.1 rfl rfl rfl (Nat.le_of_ble_eq_true rfl) ⟨⟨Nat.le_of_ble_eq_true rfl, Nat.le_of_ble_eq_true rfl⟩, Nat.le_of_ble_eq_true rfl, Nat.le_of_ble_eq_true rfl⟩ dX6_thread_4 ?_
        refine V_ifeqB 26 dX6_thread_7 (by decide) (fun h7 => absurd (h7.symm.trans hb) (by decide)) (fun h7 => ?_)
        refine V_aload_n dX6_thread_10 rfl rfl ?_
        refine V_iload_n dX6_thread_11 rfl rfl ?_
        refine V_cv1 (ctX6_isBlock hM (show S.1.1 < 2 ^ 31 by omega) hG.1) mvX6_isBlock lkX6_144 hM.1 rfl rfl rfl (Nat.le_of_ble_eq_true rfl) ⟨⟨Nat.le_of_ble_eq_true rfl, Nat.le_of_ble_eq_true rfl⟩, Nat.le_of_ble_eq_true rfl, Nat.le_of_ble_eq_true rfl⟩ dX6_thread_12 ?_
        refine V_ifeqB 26 dX6_thread_15 (by decide) (fun h15 => absurd (h15.symm.trans hu) (by decide)) (fun h15 => ?_)
        refine V_aload_n dX6_thread_18 rfl rfl ?_
        refine V_iload_n dX6_thread_19 rfl rfl ?_
        refine V_cv1 (ctX6_isBlock hM (show S.1.1 < 2 ^ 31 by omega) hG.1) mvX6_isBlock lkX6_144 hM.1 rfl rfl rfl (Nat.le_of_ble_eq_true rfl) ⟨⟨Nat.le_of_ble_eq_true rfl, Nat.le_of_ble_eq_true rfl⟩, Nat.le_of_ble_eq_true rfl, Nat.le_of_ble_eq_true rfl⟩ dX6_thread_20 ?_
        refine V_ifneB 30 dX6_thread_23 (by decide) (fun h23 => absurd (h23.symm.trans ht) (by decide)) (fun h23 => ?_)
        refine V_iconst (v := nI 1) dX6_thread_26 (by decide) ?_
        refine V_goto 31 dX6_thread_27 (by decide) ?_
        refine V_cv1 (ctX6_fails hM (k := nI 1) (c := true)) mvX6_fails lkX6_100 hM.1 rfl rfl rfl (Nat.le_of_ble_eq_true rfl) ⟨⟨Nat.le_of_ble_eq_true rfl, Nat.le_of_ble_eq_true rfl⟩, Nat.le_of_ble_eq_true rfl, Nat.le_of_ble_eq_true rfl⟩ dX6_thread_31 ?_
        refine V_ifeqB 39 dX6_thread_34 (by decide) (fun h34 => absurd (h34.symm.trans rfl) (by decide)) (fun h34 => ?_)
        refine V_iconst (v := nI 0) dX6_thread_37 (by decide) ?_
        exact V_iretP rfl ⟨rfl, MQz hA hS (by first | exact kep.rf.z | exact kep.rf.z.z | exact kep.rf.z.z.z) (u2_s _ _ _ _)⟩ ⟨Nat.le_of_ble_eq_true rfl, Nat.le_of_ble_eq_true rfl⟩ dX6_thread_38

      | true =>
        obtain ⟨j, hj, rfl⟩ := inR_t (by omega) hb
        have tj := tn_nI (show j < 2 ^ 31 by omega)
        obtain ⟨i, hi, rfl⟩ := inR_t (by omega) hu
        have ti := tn_nI (show i < 2 ^ 31 by omega)
        obtain ⟨q, hq1, rfl⟩ := inR_t (by omega) ht
        have tq := tn_nI (show q < 2 ^ 31 by omega)
        have h1 : ¬ (inR (nI j) S.1.1 && (inR (nI i) S.1.1 && inR (nI q) S.1.1)) = false := by rw [hb, hu, ht]; decide
        have h3l := (hw.2.2.2.1 j).1
        have h3m := (hw.2.2.2.1 i).1
        have h6 := (hw.2.2.1 i).1
        have hnd := (hw.2.2.2.1 j).2.2
        have hnd2 := (hw.2.2.2.1 i).2.2
        by_cases hm : i ∈ S.1.2.2 j
        · by_cases hm2 : q ∈ S.1.2.2 i
          · have h2 : ¬ (decide (i ∈ S.1.2.2 j) && decide (q ∈ S.1.2.2 i)) = false := by rw [decide_eq_true hm, decide_eq_true hm2]; decide
            have ht1 := ((hw.2.2.2.1 i).2.1 _ hm2).1
            by_cases h3 : 14 ≤ S.1.1
            · rw [show rs_thread S (nI j) (nI i) (nI q) = (3, 0, S) from by unfold rs_thread; rw [tj, ti, tq, if_neg h1, if_neg h2, if_pos h3]]
              refine CtP.of rfl (by simp [Value.category]) (Nat.le_of_ble_eq_true rfl) ?_
              refine V_aload_n dX6_thread_0 rfl rfl ?_
              refine V_iconst (v := nI 1) dX6_thread_1 (by decide) ?_
              refine V_aload_n dX6_thread_2 rfl rfl ?_
              refine V_iload_n dX6_thread_3 rfl rfl ?_
              refine V_cv1 (ctX6_isBlock hM (show S.1.1 < 2 ^ 31 by omega) hG.1) mvX6_isBlock lkX6_144 hM.1 rfl rfl rfl (Nat.le_of_ble_eq_true rfl) ⟨⟨Nat.le_of_ble_eq_true rfl, Nat.le_of_ble_eq_true rfl⟩, Nat.le_of_ble_eq_true rfl, Nat.le_of_ble_eq_true rfl⟩ dX6_thread_4 ?_
              refine V_ifeqB 26 dX6_thread_7 (by decide) (fun h7 => absurd (h7.symm.trans hb) (by decide)) (fun h7 => ?_)
              refine V_aload_n dX6_thread_10 rfl rfl ?_
              refine V_iload_n dX6_thread_11 rfl rfl ?_
              refine V_cv1 (ctX6_isBlock hM (show S.1.1 < 2 ^ 31 by omega) hG.1) mvX6_isBlock lkX6_144 hM.1 rfl rfl rfl (Nat.le_of_ble_eq_true rfl) ⟨⟨Nat.le_of_ble_eq_true rfl, Nat.le_of_ble_eq_true rfl⟩, Nat.le_of_ble_eq_true rfl, Nat.le_of_ble_eq_true rfl⟩ dX6_thread_12 ?_
              refine V_ifeqB 26 dX6_thread_15 (by decide) (fun h15 => absurd (h15.symm.trans hu) (by decide)) (fun h15 => ?_)
              refine V_aload_n dX6_thread_18 rfl rfl ?_
              refine V_iload_n dX6_thread_19 rfl rfl ?_
              refine V_cv1 (ctX6_isBlock hM (show S.1.1 < 2 ^ 31 by omega) hG.1) mvX6_isBlock lkX6_144 hM.1 rfl rfl rfl (Nat.le_of_ble_eq_true rfl) ⟨⟨Nat.le_of_ble_eq_true rfl, Nat.le_of_ble_eq_true rfl⟩, Nat.le_of_ble_eq_true rfl, Nat.le_of_ble_eq_true rfl⟩ dX6_thread_20 ?_
              refine V_ifneB 30 dX6_thread_23 (by decide) (fun h23 => ?_) (fun h23 => absurd (h23.symm.trans ht) (by decide))
              refine V_iconst (v := nI 0) dX6_thread_30 (by decide) ?_
              refine V_cv1 (ctX6_fails hM (k := nI 1) (c := false)) mvX6_fails lkX6_100 hM.1 rfl rfl rfl (Nat.le_of_ble_eq_true rfl) ⟨⟨Nat.le_of_ble_eq_true rfl, Nat.le_of_ble_eq_true rfl⟩, Nat.le_of_ble_eq_true rfl, Nat.le_of_ble_eq_true rfl⟩ dX6_thread_31 ?_
              refine V_ifeqB 39 dX6_thread_34 (by decide) (fun h34 => ?_) (fun h34 => absurd (h34.symm.trans rfl) (by decide))
              refine V_aload_n dX6_thread_39 rfl rfl ?_
              refine V_iconst (v := nI 2) dX6_thread_40 (by decide) ?_
              refine V_aload_n dX6_thread_41 rfl rfl ?_
              refine V_iload_n dX6_thread_42 rfl rfl ?_
              refine V_iload_n dX6_thread_43 rfl rfl ?_
              refine V_cv1 (ctX6_edgeTo hM hG.z hw (show j < 14 by omega) (by omega)) mvX6_edgeTo lkX6_151 hM.1 rfl rfl rfl (Nat.le_of_ble_eq_true rfl) ⟨⟨Nat.le_of_ble_eq_true rfl, Nat.le_of_ble_eq_true rfl⟩, Nat.le_of_ble_eq_true rfl, Nat.le_of_ble_eq_true rfl⟩ dX6_thread_44 ?_
              refine V_top (lxI_in hnd hm) ?_
              refine V_if_lt 59 dX6_thread_47 (by decide) (fun h47 => absurd h47 (nI_pos (by have := idxOf_lt' hm; omega))) (fun h47 => ?_)
              refine V_aload_n dX6_thread_50 rfl rfl ?_
              refine V_iload_n dX6_thread_51 rfl rfl ?_
              refine V_iload_n dX6_thread_52 rfl rfl ?_
              refine V_cv1 (ctX6_edgeTo hM hG.z hw (show i < 14 by omega) (by omega)) mvX6_edgeTo lkX6_151 hM.1 rfl rfl rfl (Nat.le_of_ble_eq_true rfl) ⟨⟨Nat.le_of_ble_eq_true rfl, Nat.le_of_ble_eq_true rfl⟩, Nat.le_of_ble_eq_true rfl, Nat.le_of_ble_eq_true rfl⟩ dX6_thread_53 ?_
              refine V_top (lxI_in hnd2 hm2) ?_
              refine V_if_ge 63 dX6_thread_56 (by decide) (fun h56 => ?_) (fun h56 => absurd (Int32.not_lt.mp (nI_pos (by have := idxOf_lt' hm2; omega))) h56)
              refine V_iconst (v := nI 0) dX6_thread_63 (by decide) ?_
              refine V_cv1 (ctX6_fails hM (k := nI 2) (c := false)) mvX6_fails lkX6_100 hM.1 rfl rfl rfl (Nat.le_of_ble_eq_true rfl) ⟨⟨Nat.le_of_ble_eq_true rfl, Nat.le_of_ble_eq_true rfl⟩, Nat.le_of_ble_eq_true rfl, Nat.le_of_ble_eq_true rfl⟩ dX6_thread_64 ?_
              refine V_ifneB 92 dX6_thread_67 (by decide) (fun h67 => absurd (h67.symm.trans rfl) (by decide)) (fun h67 => ?_)
              refine V_aload_n dX6_thread_70 rfl rfl ?_
              refine V_iconst (v := nI 3) dX6_thread_71 (by decide) ?_
              refine V_aload_n dX6_thread_72 rfl rfl ?_
              refine V_getE frX6_7 hM.1 rfl (hG.z.z.1) dX6_thread_73 ?_
              refine V_bipush (v := nI 14) dX6_thread_76 (by decide) ?_
              refine V_N_ne (by omega) (by omega) 85 dX6_thread_78 (by decide) (fun h78 => ?_) (fun h78 => ?_)
              · exfalso
                omega
              · refine V_iconst (v := nI 1) dX6_thread_81 (by decide) ?_
                refine V_goto 86 dX6_thread_82 (by decide) ?_
                refine V_cv1 (ctX6_fails hM (k := nI 3) (c := true)) mvX6_fails lkX6_100 hM.1 rfl rfl rfl (Nat.le_of_ble_eq_true rfl) ⟨⟨Nat.le_of_ble_eq_true rfl, Nat.le_of_ble_eq_true rfl⟩, Nat.le_of_ble_eq_true rfl, Nat.le_of_ble_eq_true rfl⟩ dX6_thread_86 ?_
                refine V_ifeqB 94 dX6_thread_89 (by decide) (fun h89 => absurd (h89.symm.trans rfl) (by decide)) (fun h89 => ?_)
                refine V_iconst (v := nI 0) dX6_thread_92 (by decide) ?_
                exact V_iretP rfl ⟨rfl, MQz hA hS (by first | exact kep.rf.z | exact kep.rf.z.z | exact kep.rf.z.z.z) (u2_s _ _ _ _)⟩ ⟨Nat.le_of_ble_eq_true rfl, Nat.le_of_ble_eq_true rfl⟩ dX6_thread_93

            · have hix := idxOf_lt' hm
              rw [show rs_thread S (nI j) (nI i) (nI q) = (0, nI S.1.1, chg S (thrG S.1 j i q)) from by unfold rs_thread; rw [tj, ti, tq, if_neg h1, if_neg h2, if_neg h3]; rfl]
              refine CtP.of rfl (by simp [Value.category]) (Nat.le_of_ble_eq_true rfl) ?_
              have lp : ∀ m1, (∀ mF, (∀ a z, ((a = m ∧ z ≠ 1) ∨ a < m ∨ m + 33 ≤ a) → mF a z = m1 a z) → GM mF m (thrG S.1 j i q) → MRz σ mi ml m (0, nI S.1.1, chg S (thrG S.1 j i q)) (.inl (some (.int (nI S.1.1)))) (MM σ mF ml)) → GM m1 m S.1 → ∀ k, k ≤ (S.1.2.1 i).length → ∀ m2, m2 m 1 = nI (S.1.1 + 1) → m2 (m + 1) S.1.1 = nI (S.1.2.1 i).length → (∀ c, c ≠ S.1.1 → m2 (m + 1) c = m1 (m + 1) c) → (∀ z, z < k → m2 (m + 4 + S.1.1) z = nI ((S.1.2.1 i).getD z 0)) → (∀ a z, ¬ (a = m ∧ z = 1) → a ≠ m + 1 → a ≠ m + 4 + S.1.1 → m2 a z = m1 a z) → V κ (phiP κ mrX6_thread 24 0 0 (MRz σ mi ml m (0, nI S.1.1, chg S (thrG S.1 j i q)))) 0 0 130 [some (.ref m), some (.int (nI j)), some (.int (nI i)), some (.int (nI q)), some (.int (nI S.1.1)), some (.int (nI k))] [] (MM σ m2 ml) := fun m1 fin hG1 => loop_up _ (fun k hk ih m2 o1 o2 o3 o4 o5 => by
                have hci : m2 (m + 1) i = nI (S.1.2.1 i).length := (o3 i (by omega)).trans (hG1.2 i (by omega)).1
                refine V_iload dX6_thread_130 rfl ?_
                refine V_aload_n dX6_thread_132 rfl rfl ?_
                refine V_getR frX6_13 hM.1 rfl dX6_thread_133 ?_
                refine V_iload_n dX6_thread_136 rfl rfl ?_
                refine V_ialdE hM.2.1 i rfl (by omega) (by decide) hci dX6_thread_137 ?_
                refine V_N_ge (by omega) (by omega) 166 dX6_thread_138 (by decide) (fun h138 => ?_) (fun h138 => ?_)
                · refine V_aload_n dX6_thread_166 rfl rfl ?_
                  refine V_getR frX6_17 hM.1 rfl dX6_thread_167 ?_
                  refine V_iload dX6_thread_170 rfl ?_
                  refine V_iconst (v := nI 1) dX6_thread_172 (by decide) ?_
                  refine V_iastN hM.2.2.1 S.1.1 rfl (by omega) (by decide) dX6_thread_173 ?_
                  refine V_aload_n dX6_thread_174 rfl rfl ?_
                  refine V_getR frX6_25 hM.1 rfl dX6_thread_175 ?_
                  refine V_iload dX6_thread_178 rfl ?_
                  refine V_aaldR hM.2.2.2.2.2.2.2.2.2.2.2.2.2.2.2.2.2.1 (S.1.1) rfl (show S.1.1 < 14 by omega) (by decide) dX6_thread_180 ?_
                  refine V_iconst (v := nI 0) dX6_thread_181 (by decide) ?_
                  refine V_iload_n dX6_thread_182 rfl rfl ?_
                  refine V_iastN (hM.2.2.2.2.2.2.2.2.2.2.2.2.2.2.2.2.2.1.row (j := S.1.1) (show S.1.1 < 14 by omega)) 0 rfl (by omega) (by decide) dX6_thread_183 ?_
                  have hg1 : GM (u2 (u2 m2 (m + 2) S.1.1 (nI 1)) (m + 19 + S.1.1) 0 (nI q)) m (S.1.1 + 1, va_up S.1.2.1 S.1.1 (S.1.2.1 i), va_up S.1.2.2 S.1.1 [q]) := GM.upd (G := S.1) hG1 (show S.1.1 < 14 by omega) (((u2_n _ _ (by omega)).trans (u2_n _ _ (by omega))).trans o1) (((u2_n _ _ (by omega)).trans (u2_n _ _ (by omega))).trans o2) ((u2_n _ _ (by omega)).trans (u2_s _ _ _ _)) (fun z hz => ((u2_n _ _ (by omega)).trans (u2_n _ _ (by omega))).trans (o4 z (by omega))) (fun z hz => by
                    have hz0 : z = 0 := by simpa using hz
                    subst hz0
                    exact u2_s _ _ _ _) (fun c hc hne => ⟨((u2_n _ _ (by omega)).trans (u2_n _ _ (by omega))).trans (o3 c hne), ((u2_n _ _ (by omega)).trans (u2_n _ _ (by omega))).trans (o5 _ _ (by omega) (by omega) (by omega)), fun z => ((u2_n _ _ (by omega)).trans (u2_n _ _ (by omega))).trans (o5 _ _ (by omega) (by omega) (by omega)), fun z => ((u2_n _ _ (by omega)).trans (u2_n _ _ (by omega))).trans (o5 _ _ (by omega) (by omega) (by omega))⟩)
                  have hne : va_up S.1.2.2 S.1.1 [q] j = S.1.2.2 j := va_up_ne _ _ (by omega)
                  refine V_aload_n dX6_thread_184 rfl rfl ?_
                  refine V_getR frX6_25 hM.1 rfl dX6_thread_185 ?_
                  refine V_iload_n dX6_thread_188 rfl rfl ?_
                  refine V_aaldR hM.2.2.2.2.2.2.2.2.2.2.2.2.2.2.2.2.2.1 (j) rfl (show j < 14 by omega) (by decide) dX6_thread_189 ?_
                  refine V_aload_n dX6_thread_190 rfl rfl ?_
                  refine V_iload_n dX6_thread_191 rfl rfl ?_
                  refine V_iload_n dX6_thread_192 rfl rfl ?_
                  refine V_cv1 (ctX6_edgeTo hM hg1 (hw.thr1 hq1 ht1 (by omega)) (show j < 14 by omega) (by omega)) mvX6_edgeTo lkX6_151 hM.1 rfl rfl rfl (Nat.le_of_ble_eq_true rfl) ⟨⟨Nat.le_of_ble_eq_true rfl, Nat.le_of_ble_eq_true rfl⟩, Nat.le_of_ble_eq_true rfl, Nat.le_of_ble_eq_true rfl⟩ dX6_thread_193 ?_
                  refine V_top (show lxI (va_up S.1.2.2 S.1.1 [q] j) i (va_up S.1.2.2 S.1.1 [q] j).length = nI ((S.1.2.2 j).idxOf i) by rw [hne]; exact lxI_in hnd hm) ?_
                  refine V_iload dX6_thread_196 rfl ?_
                  refine V_iastN (hM.2.2.2.2.2.2.2.2.2.2.2.2.2.2.2.2.2.1.row (j := j) (show j < 14 by omega)) ((S.1.2.2 j).idxOf i) rfl (by omega) (by decide) dX6_thread_198 ?_
                  refine V_iload dX6_thread_199 rfl ?_
                  exact V_iretP rfl (fin _ (fun a z w => (u2_n _ _ (by omega)).trans (((u2_n _ _ (by omega)).trans (u2_n _ _ (by omega))).trans (o5 a z (by omega) (by omega) (by omega)))) (by
                                    have hg := GM.upd (G := (S.1.1 + 1, va_up S.1.2.1 S.1.1 (S.1.2.1 i), va_up S.1.2.2 S.1.1 [q])) (m1 := u2 (u2 (u2 m2 (m + 2) S.1.1 (nI 1)) (m + 19 + S.1.1) 0 (nI q)) (m + 19 + j) ((S.1.2.2 j).idxOf i) (nI S.1.1)) (la := S.1.2.1 j) (le := (S.1.2.2 j).set ((S.1.2.2 j).idxOf i) S.1.1) hg1 (show j < 14 by omega) ((u2_n _ _ (by omega)).trans hg1.1) ((u2_n _ _ (by omega)).trans ((((u2_n _ _ (by omega)).trans (u2_n _ _ (by omega))).trans (o3 j (by omega))).trans (hG1.2 j (by omega)).1)) ((u2_n _ _ (by omega)).trans (by rw [List.length_set]; exact (((u2_n _ _ (by omega)).trans (u2_n _ _ (by omega))).trans (o5 _ _ (by omega) (by omega) (by omega))).trans (hG1.2 j (by omega)).2.1)) (fun z hz => (u2_n _ _ (by omega)).trans ((((u2_n _ _ (by omega)).trans (u2_n _ _ (by omega))).trans (o5 _ _ (by omega) (by omega) (by omega))).trans ((hG1.2 j (by omega)).2.2.1 z hz))) (fun z hz => by
                                      rw [List.length_set] at hz
                                      rw [getD_set hix]
                                      by_cases e : z = (S.1.2.2 j).idxOf i
                                      · rw [if_pos e, e]; exact u2_s _ _ _ _
                                      · rw [if_neg e]; exact (u2_n _ _ (Or.inr e)).trans ((((u2_n _ _ (by omega)).trans (u2_n _ _ (by omega))).trans (o5 _ _ (by omega) (by omega) (by omega))).trans ((hG1.2 j (by omega)).2.2.2 z hz))) (fun c hc hnc => ⟨u2_n _ _ (by omega), u2_n _ _ (by omega), fun z => u2_n _ _ (by omega), fun z => u2_n _ _ (by omega)⟩)
                                    have e1 : va_up (va_up S.1.2.1 S.1.1 (S.1.2.1 i)) j (S.1.2.1 j) = va_up S.1.2.1 S.1.1 (S.1.2.1 i) := by
                                      have e0 : va_up S.1.2.1 S.1.1 (S.1.2.1 i) j = S.1.2.1 j := va_up_ne _ _ (by omega)
                                      rw [← e0, va_up_id]
                                    unfold thrG
                                    rw [← e1]
                                    exact hg)) ⟨Nat.le_of_ble_eq_true rfl, Nat.le_of_ble_eq_true rfl⟩ dX6_thread_201
                · refine V_aload_n dX6_thread_141 rfl rfl ?_
                  refine V_getR frX6_22 hM.1 rfl dX6_thread_142 ?_
                  refine V_iload dX6_thread_145 rfl ?_
                  refine V_aaldR hM.2.2.2.2.2.2.2.2.2.2.2.2.2.2.2.2.1 (S.1.1) rfl (show S.1.1 < 14 by omega) (by decide) dX6_thread_147 ?_
                  refine V_iload dX6_thread_148 rfl ?_
                  refine V_aload_n dX6_thread_150 rfl rfl ?_
                  refine V_getR frX6_22 hM.1 rfl dX6_thread_151 ?_
                  refine V_iload_n dX6_thread_154 rfl rfl ?_
                  refine V_aaldR hM.2.2.2.2.2.2.2.2.2.2.2.2.2.2.2.2.1 (i) rfl (show i < 14 by omega) (by decide) dX6_thread_155 ?_
                  refine V_iload dX6_thread_156 rfl ?_
                  refine V_ialdE (hM.2.2.2.2.2.2.2.2.2.2.2.2.2.2.2.2.1.row (j := i) (show i < 14 by omega)) k rfl (by omega) (by decide) ((o5 _ _ (by omega) (by omega) (by omega)).trans ((hG1.2 i (by omega)).2.2.1 k h138)) dX6_thread_158 ?_
                  refine V_iastN (hM.2.2.2.2.2.2.2.2.2.2.2.2.2.2.2.2.1.row (j := S.1.1) (show S.1.1 < 14 by omega)) k rfl (by omega) (by decide) dX6_thread_159 ?_
                  refine V_iinc1 dX6_thread_160 rfl (Nat.le_of_ble_eq_true rfl) ?_
                  refine V_goto 130 dX6_thread_163 (by decide) ?_
                  exact ih h138 _ ((u2_n _ _ (by omega)).trans o1) ((u2_n _ _ (by omega)).trans o2) (fun c hc => (u2_n _ _ (by omega)).trans (o3 c hc)) (fun z hz => by
                    by_cases e : z = k
                    · subst e; exact u2_s _ _ _ _
                    · exact (u2_n _ _ (Or.inr e)).trans (o4 z (by omega))) (fun a z q1 q2 q3 => (u2_n _ _ (Or.inl q3)).trans (o5 a z q1 q2 q3))
                )
              refine V_aload_n dX6_thread_0 rfl rfl ?_
              refine V_iconst (v := nI 1) dX6_thread_1 (by decide) ?_
              refine V_aload_n dX6_thread_2 rfl rfl ?_
              refine V_iload_n dX6_thread_3 rfl rfl ?_
              refine V_cv1 (ctX6_isBlock hM (show S.1.1 < 2 ^ 31 by omega) hG.1) mvX6_isBlock lkX6_144 hM.1 rfl rfl rfl (Nat.le_of_ble_eq_true rfl) ⟨⟨Nat.le_of_ble_eq_true rfl, Nat.le_of_ble_eq_true rfl⟩, Nat.le_of_ble_eq_true rfl, Nat.le_of_ble_eq_true rfl⟩ dX6_thread_4 ?_
              refine V_ifeqB 26 dX6_thread_7 (by decide) (fun h7 => absurd (h7.symm.trans hb) (by decide)) (fun h7 => ?_)
              refine V_aload_n dX6_thread_10 rfl rfl ?_
              refine V_iload_n dX6_thread_11 rfl rfl ?_
              refine V_cv1 (ctX6_isBlock hM (show S.1.1 < 2 ^ 31 by omega) hG.1) mvX6_isBlock lkX6_144 hM.1 rfl rfl rfl (Nat.le_of_ble_eq_true rfl) ⟨⟨Nat.le_of_ble_eq_true rfl, Nat.le_of_ble_eq_true rfl⟩, Nat.le_of_ble_eq_true rfl, Nat.le_of_ble_eq_true rfl⟩ dX6_thread_12 ?_
              refine V_ifeqB 26 dX6_thread_15 (by decide) (fun h15 => absurd (h15.symm.trans hu) (by decide)) (fun h15 => ?_)
              refine V_aload_n dX6_thread_18 rfl rfl ?_
              refine V_iload_n dX6_thread_19 rfl rfl ?_
              refine V_cv1 (ctX6_isBlock hM (show S.1.1 < 2 ^ 31 by omega) hG.1) mvX6_isBlock lkX6_144 hM.1 rfl rfl rfl (Nat.le_of_ble_eq_true rfl) ⟨⟨Nat.le_of_ble_eq_true rfl, Nat.le_of_ble_eq_true rfl⟩, Nat.le_of_ble_eq_true rfl, Nat.le_of_ble_eq_true rfl⟩ dX6_thread_20 ?_
              refine V_ifneB 30 dX6_thread_23 (by decide) (fun h23 => ?_) (fun h23 => absurd (h23.symm.trans ht) (by decide))
              refine V_iconst (v := nI 0) dX6_thread_30 (by decide) ?_
              refine V_cv1 (ctX6_fails hM (k := nI 1) (c := false)) mvX6_fails lkX6_100 hM.1 rfl rfl rfl (Nat.le_of_ble_eq_true rfl) ⟨⟨Nat.le_of_ble_eq_true rfl, Nat.le_of_ble_eq_true rfl⟩, Nat.le_of_ble_eq_true rfl, Nat.le_of_ble_eq_true rfl⟩ dX6_thread_31 ?_
              refine V_ifeqB 39 dX6_thread_34 (by decide) (fun h34 => ?_) (fun h34 => absurd (h34.symm.trans rfl) (by decide))
              refine V_aload_n dX6_thread_39 rfl rfl ?_
              refine V_iconst (v := nI 2) dX6_thread_40 (by decide) ?_
              refine V_aload_n dX6_thread_41 rfl rfl ?_
              refine V_iload_n dX6_thread_42 rfl rfl ?_
              refine V_iload_n dX6_thread_43 rfl rfl ?_
              refine V_cv1 (ctX6_edgeTo hM hG.z hw (show j < 14 by omega) (by omega)) mvX6_edgeTo lkX6_151 hM.1 rfl rfl rfl (Nat.le_of_ble_eq_true rfl) ⟨⟨Nat.le_of_ble_eq_true rfl, Nat.le_of_ble_eq_true rfl⟩, Nat.le_of_ble_eq_true rfl, Nat.le_of_ble_eq_true rfl⟩ dX6_thread_44 ?_
              refine V_top (lxI_in hnd hm) ?_
              refine V_if_lt 59 dX6_thread_47 (by decide) (fun h47 => absurd h47 (nI_pos (by have := idxOf_lt' hm; omega))) (fun h47 => ?_)
              refine V_aload_n dX6_thread_50 rfl rfl ?_
              refine V_iload_n dX6_thread_51 rfl rfl ?_
              refine V_iload_n dX6_thread_52 rfl rfl ?_
              refine V_cv1 (ctX6_edgeTo hM hG.z hw (show i < 14 by omega) (by omega)) mvX6_edgeTo lkX6_151 hM.1 rfl rfl rfl (Nat.le_of_ble_eq_true rfl) ⟨⟨Nat.le_of_ble_eq_true rfl, Nat.le_of_ble_eq_true rfl⟩, Nat.le_of_ble_eq_true rfl, Nat.le_of_ble_eq_true rfl⟩ dX6_thread_53 ?_
              refine V_top (lxI_in hnd2 hm2) ?_
              refine V_if_ge 63 dX6_thread_56 (by decide) (fun h56 => ?_) (fun h56 => absurd (Int32.not_lt.mp (nI_pos (by have := idxOf_lt' hm2; omega))) h56)
              refine V_iconst (v := nI 0) dX6_thread_63 (by decide) ?_
              refine V_cv1 (ctX6_fails hM (k := nI 2) (c := false)) mvX6_fails lkX6_100 hM.1 rfl rfl rfl (Nat.le_of_ble_eq_true rfl) ⟨⟨Nat.le_of_ble_eq_true rfl, Nat.le_of_ble_eq_true rfl⟩, Nat.le_of_ble_eq_true rfl, Nat.le_of_ble_eq_true rfl⟩ dX6_thread_64 ?_
              refine V_ifneB 92 dX6_thread_67 (by decide) (fun h67 => absurd (h67.symm.trans rfl) (by decide)) (fun h67 => ?_)
              refine V_aload_n dX6_thread_70 rfl rfl ?_
              refine V_iconst (v := nI 3) dX6_thread_71 (by decide) ?_
              refine V_aload_n dX6_thread_72 rfl rfl ?_
              refine V_getE frX6_7 hM.1 rfl (hG.z.z.1) dX6_thread_73 ?_
              refine V_bipush (v := nI 14) dX6_thread_76 (by decide) ?_
              refine V_N_ne (by omega) (by omega) 85 dX6_thread_78 (by decide) (fun h78 => ?_) (fun h78 => ?_)
              · refine V_iconst (v := nI 0) dX6_thread_85 (by decide) ?_
                refine V_cv1 (ctX6_fails hM (k := nI 3) (c := false)) mvX6_fails lkX6_100 hM.1 rfl rfl rfl (Nat.le_of_ble_eq_true rfl) ⟨⟨Nat.le_of_ble_eq_true rfl, Nat.le_of_ble_eq_true rfl⟩, Nat.le_of_ble_eq_true rfl, Nat.le_of_ble_eq_true rfl⟩ dX6_thread_86 ?_
                refine V_ifeqB 94 dX6_thread_89 (by decide) (fun h89 => ?_) (fun h89 => absurd (h89.symm.trans rfl) (by decide))
                refine V_aload_n dX6_thread_94 rfl rfl ?_
                refine V_cp0 (ctX6_remember hM (hG.kp (show kep mi _ m from kep.rf.z.z.z)) hw hS.2.1.1 (((show kep mi _ m from kep.rf.z.z.z) _ _ (by omega)).trans hA.2.1.1) (fun i hi => (hA.2.1.2 i hi).keep (fun j => (show kep mi _ m from kep.rf.z.z.z) _ _ (by omega))) hS.2.1.2) mvX6_remember lkX6_141 hM.1 rfl rfl rfl (Nat.le_of_ble_eq_true rfl) ⟨⟨Nat.le_of_ble_eq_true rfl, Nat.le_of_ble_eq_true rfl⟩, Nat.le_of_ble_eq_true rfl, Nat.le_of_ble_eq_true rfl⟩ dX6_thread_95 (fun μ1 hx => ?_)
                obtain ⟨m1, rfl, hH1, hz1, ho1⟩ := hx
                have hG1 : GM m1 m S.1 := (hG.kp (show kep mi _ m from kep.rf.z.z.z)).keep (fun a i q => ho1 a i (by omega) (by omega))
                refine V_aload_n dX6_thread_98 rfl rfl ?_
                refine V_getE frX6_7 hM.1 rfl hG1.1 dX6_thread_99 ?_
                refine V_istore dX6_thread_102 (Nat.le_of_ble_eq_true rfl) ?_
                refine V_aload_n dX6_thread_104 rfl rfl ?_
                refine V_dup dX6_thread_105 rfl ?_
                refine V_getE frX6_7 hM.1 rfl hG1.1 dX6_thread_106 ?_
                refine V_iconst (v := nI 1) dX6_thread_109 (by decide) ?_
                refine V_iadd dX6_thread_110 ?_
                refine V_top (nI_add _ 1) ?_
                refine V_putI fpX6_7 rfl rfl hM.1 rfl dX6_thread_111 ?_
                refine V_aload_n dX6_thread_114 rfl rfl ?_
                refine V_getR frX6_13 hM.1 rfl dX6_thread_115 ?_
                refine V_iload dX6_thread_118 rfl ?_
                refine V_aload_n dX6_thread_120 rfl rfl ?_
                refine V_getR frX6_13 hM.1 rfl dX6_thread_121 ?_
                refine V_iload_n dX6_thread_124 rfl rfl ?_
                refine V_ialdE hM.2.1 i rfl (by omega) (by decide) ((u2_n _ _ (by omega)).trans (hG1.2 i (by omega)).1) dX6_thread_125 ?_
                refine V_iastN hM.2.1 S.1.1 rfl (by omega) (by decide) dX6_thread_126 ?_
                refine V_iconst (v := nI 0) dX6_thread_127 (by decide) ?_
                refine V_istore dX6_thread_128 (Nat.le_of_ble_eq_true rfl) ?_
                exact lp m1 (fun mF o1 hg => ⟨rfl, hA.fin hS kep.rf.z.z.z (u2_s _ _ _ _) hH1 hz1 ho1 o1 hg⟩) hG1 0 (Nat.zero_le _) _ ((u2_n _ _ (by omega)).trans (u2_s _ _ _ _)) (u2_s _ _ _ _) (fun c hc => (u2_n _ _ (Or.inr hc)).trans (u2_n _ _ (by omega))) (fun z hz => absurd hz (Nat.not_lt_zero z)) (fun a z q1 q2 q3 => (u2_n _ _ (Or.inl q2)).trans (u2_n _ _ (by omega)))
              · exfalso
                omega

          · rw [show rs_thread S (nI j) (nI i) (nI q) = (2, 0, S) from by unfold rs_thread; rw [tj, ti, tq, if_neg h1, if_pos (by rw [decide_eq_false hm2, Bool.and_false])]]
            refine CtP.of rfl (by simp [Value.category]) (Nat.le_of_ble_eq_true rfl) ?_
            refine V_aload_n dX6_thread_0 rfl rfl ?_
            refine V_iconst (v := nI 1) dX6_thread_1 (by decide) ?_
            refine V_aload_n dX6_thread_2 rfl rfl ?_
            refine V_iload_n dX6_thread_3 rfl rfl ?_
            refine V_cv1 (ctX6_isBlock hM (show S.1.1 < 2 ^ 31 by omega) hG.1) mvX6_isBlock lkX6_144 hM.1 rfl rfl rfl (Nat.le_of_ble_eq_true rfl) ⟨⟨Nat.le_of_ble_eq_true rfl, Nat.le_of_ble_eq_true rfl⟩, Nat.le_of_ble_eq_true rfl, Nat.le_of_ble_eq_true rfl⟩ dX6_thread_4 ?_
            refine V_ifeqB 26 dX6_thread_7 (by decide) (fun h7 => absurd (h7.symm.trans hb) (by decide)) (fun h7 => ?_)
            refine V_aload_n dX6_thread_10 rfl rfl ?_
            refine V_iload_n dX6_thread_11 rfl rfl ?_
            refine V_cv1 (ctX6_isBlock hM (show S.1.1 < 2 ^ 31 by omega) hG.1) mvX6_isBlock lkX6_144 hM.1 rfl rfl rfl (Nat.le_of_ble_eq_true rfl) ⟨⟨Nat.le_of_ble_eq_true rfl, Nat.le_of_ble_eq_true rfl⟩, Nat.le_of_ble_eq_true rfl, Nat.le_of_ble_eq_true rfl⟩ dX6_thread_12 ?_
            refine V_ifeqB 26 dX6_thread_15 (by decide) (fun h15 => absurd (h15.symm.trans hu) (by decide)) (fun h15 => ?_)
            refine V_aload_n dX6_thread_18 rfl rfl ?_
            refine V_iload_n dX6_thread_19 rfl rfl ?_
            refine V_cv1 (ctX6_isBlock hM (show S.1.1 < 2 ^ 31 by omega) hG.1) mvX6_isBlock lkX6_144 hM.1 rfl rfl rfl (Nat.le_of_ble_eq_true rfl) ⟨⟨Nat.le_of_ble_eq_true rfl, Nat.le_of_ble_eq_true rfl⟩, Nat.le_of_ble_eq_true rfl, Nat.le_of_ble_eq_true rfl⟩ dX6_thread_20 ?_
            refine V_ifneB 30 dX6_thread_23 (by decide) (fun h23 => ?_) (fun h23 => absurd (h23.symm.trans ht) (by decide))
            refine V_iconst (v := nI 0) dX6_thread_30 (by decide) ?_
            refine V_cv1 (ctX6_fails hM (k := nI 1) (c := false)) mvX6_fails lkX6_100 hM.1 rfl rfl rfl (Nat.le_of_ble_eq_true rfl) ⟨⟨Nat.le_of_ble_eq_true rfl, Nat.le_of_ble_eq_true rfl⟩, Nat.le_of_ble_eq_true rfl, Nat.le_of_ble_eq_true rfl⟩ dX6_thread_31 ?_
            refine V_ifeqB 39 dX6_thread_34 (by decide) (fun h34 => ?_) (fun h34 => absurd (h34.symm.trans rfl) (by decide))
            refine V_aload_n dX6_thread_39 rfl rfl ?_
            refine V_iconst (v := nI 2) dX6_thread_40 (by decide) ?_
            refine V_aload_n dX6_thread_41 rfl rfl ?_
            refine V_iload_n dX6_thread_42 rfl rfl ?_
            refine V_iload_n dX6_thread_43 rfl rfl ?_
            refine V_cv1 (ctX6_edgeTo hM hG.z hw (show j < 14 by omega) (by omega)) mvX6_edgeTo lkX6_151 hM.1 rfl rfl rfl (Nat.le_of_ble_eq_true rfl) ⟨⟨Nat.le_of_ble_eq_true rfl, Nat.le_of_ble_eq_true rfl⟩, Nat.le_of_ble_eq_true rfl, Nat.le_of_ble_eq_true rfl⟩ dX6_thread_44 ?_
            refine V_top (lxI_in hnd hm) ?_
            refine V_if_lt 59 dX6_thread_47 (by decide) (fun h47 => absurd h47 (nI_pos (by have := idxOf_lt' hm; omega))) (fun h47 => ?_)
            refine V_aload_n dX6_thread_50 rfl rfl ?_
            refine V_iload_n dX6_thread_51 rfl rfl ?_
            refine V_iload_n dX6_thread_52 rfl rfl ?_
            refine V_cv1 (ctX6_edgeTo hM hG.z hw (show i < 14 by omega) (by omega)) mvX6_edgeTo lkX6_151 hM.1 rfl rfl rfl (Nat.le_of_ble_eq_true rfl) ⟨⟨Nat.le_of_ble_eq_true rfl, Nat.le_of_ble_eq_true rfl⟩, Nat.le_of_ble_eq_true rfl, Nat.le_of_ble_eq_true rfl⟩ dX6_thread_53 ?_
            refine V_top (lxI_out hm2) ?_
            refine V_if_ge 63 dX6_thread_56 (by decide) (fun h56 => absurd h56 (by decide)) (fun h56 => ?_)
            refine V_iconst (v := nI 1) dX6_thread_59 (by decide) ?_
            refine V_goto 64 dX6_thread_60 (by decide) ?_
            refine V_cv1 (ctX6_fails hM (k := nI 2) (c := true)) mvX6_fails lkX6_100 hM.1 rfl rfl rfl (Nat.le_of_ble_eq_true rfl) ⟨⟨Nat.le_of_ble_eq_true rfl, Nat.le_of_ble_eq_true rfl⟩, Nat.le_of_ble_eq_true rfl, Nat.le_of_ble_eq_true rfl⟩ dX6_thread_64 ?_
            refine V_ifneB 92 dX6_thread_67 (by decide) (fun h67 => ?_) (fun h67 => absurd (h67.symm.trans rfl) (by decide))
            refine V_iconst (v := nI 0) dX6_thread_92 (by decide) ?_
            exact V_iretP rfl ⟨rfl, MQz hA hS (by first | exact kep.rf.z | exact kep.rf.z.z | exact kep.rf.z.z.z) (u2_s _ _ _ _)⟩ ⟨Nat.le_of_ble_eq_true rfl, Nat.le_of_ble_eq_true rfl⟩ dX6_thread_93

        · rw [show rs_thread S (nI j) (nI i) (nI q) = (2, 0, S) from by unfold rs_thread; rw [tj, ti, tq, if_neg h1, if_pos (by rw [decide_eq_false hm]; rfl)]]
          refine CtP.of rfl (by simp [Value.category]) (Nat.le_of_ble_eq_true rfl) ?_
          refine V_aload_n dX6_thread_0 rfl rfl ?_
          refine V_iconst (v := nI 1) dX6_thread_1 (by decide) ?_
          refine V_aload_n dX6_thread_2 rfl rfl ?_
          refine V_iload_n dX6_thread_3 rfl rfl ?_
          refine V_cv1 (ctX6_isBlock hM (show S.1.1 < 2 ^ 31 by omega) hG.1) mvX6_isBlock lkX6_144 hM.1 rfl rfl rfl (Nat.le_of_ble_eq_true rfl) ⟨⟨Nat.le_of_ble_eq_true rfl, Nat.le_of_ble_eq_true rfl⟩, Nat.le_of_ble_eq_true rfl, Nat.le_of_ble_eq_true rfl⟩ dX6_thread_4 ?_
          refine V_ifeqB 26 dX6_thread_7 (by decide) (fun h7 => absurd (h7.symm.trans hb) (by decide)) (fun h7 => ?_)
          refine V_aload_n dX6_thread_10 rfl rfl ?_
          refine V_iload_n dX6_thread_11 rfl rfl ?_
          refine V_cv1 (ctX6_isBlock hM (show S.1.1 < 2 ^ 31 by omega) hG.1) mvX6_isBlock lkX6_144 hM.1 rfl rfl rfl (Nat.le_of_ble_eq_true rfl) ⟨⟨Nat.le_of_ble_eq_true rfl, Nat.le_of_ble_eq_true rfl⟩, Nat.le_of_ble_eq_true rfl, Nat.le_of_ble_eq_true rfl⟩ dX6_thread_12 ?_
          refine V_ifeqB 26 dX6_thread_15 (by decide) (fun h15 => absurd (h15.symm.trans hu) (by decide)) (fun h15 => ?_)
          refine V_aload_n dX6_thread_18 rfl rfl ?_
          refine V_iload_n dX6_thread_19 rfl rfl ?_
          refine V_cv1 (ctX6_isBlock hM (show S.1.1 < 2 ^ 31 by omega) hG.1) mvX6_isBlock lkX6_144 hM.1 rfl rfl rfl (Nat.le_of_ble_eq_true rfl) ⟨⟨Nat.le_of_ble_eq_true rfl, Nat.le_of_ble_eq_true rfl⟩, Nat.le_of_ble_eq_true rfl, Nat.le_of_ble_eq_true rfl⟩ dX6_thread_20 ?_
          refine V_ifneB 30 dX6_thread_23 (by decide) (fun h23 => ?_) (fun h23 => absurd (h23.symm.trans ht) (by decide))
          refine V_iconst (v := nI 0) dX6_thread_30 (by decide) ?_
          refine V_cv1 (ctX6_fails hM (k := nI 1) (c := false)) mvX6_fails lkX6_100 hM.1 rfl rfl rfl (Nat.le_of_ble_eq_true rfl) ⟨⟨Nat.le_of_ble_eq_true rfl, Nat.le_of_ble_eq_true rfl⟩, Nat.le_of_ble_eq_true rfl, Nat.le_of_ble_eq_true rfl⟩ dX6_thread_31 ?_
          refine V_ifeqB 39 dX6_thread_34 (by decide) (fun h34 => ?_) (fun h34 => absurd (h34.symm.trans rfl) (by decide))
          refine V_aload_n dX6_thread_39 rfl rfl ?_
          refine V_iconst (v := nI 2) dX6_thread_40 (by decide) ?_
          refine V_aload_n dX6_thread_41 rfl rfl ?_
          refine V_iload_n dX6_thread_42 rfl rfl ?_
          refine V_iload_n dX6_thread_43 rfl rfl ?_
          refine V_cv1 (ctX6_edgeTo hM hG.z hw (show j < 14 by omega) (by omega)) mvX6_edgeTo lkX6_151 hM.1 rfl rfl rfl (Nat.le_of_ble_eq_true rfl) ⟨⟨Nat.le_of_ble_eq_true rfl, Nat.le_of_ble_eq_true rfl⟩, Nat.le_of_ble_eq_true rfl, Nat.le_of_ble_eq_true rfl⟩ dX6_thread_44 ?_
          refine V_top (lxI_out hm) ?_
          refine V_if_lt 59 dX6_thread_47 (by decide) (fun h47 => ?_) (fun h47 => absurd (by decide) h47)
          refine V_iconst (v := nI 1) dX6_thread_59 (by decide) ?_
          refine V_goto 64 dX6_thread_60 (by decide) ?_
          refine V_cv1 (ctX6_fails hM (k := nI 2) (c := true)) mvX6_fails lkX6_100 hM.1 rfl rfl rfl (Nat.le_of_ble_eq_true rfl) ⟨⟨Nat.le_of_ble_eq_true rfl, Nat.le_of_ble_eq_true rfl⟩, Nat.le_of_ble_eq_true rfl, Nat.le_of_ble_eq_true rfl⟩ dX6_thread_64 ?_
          refine V_ifneB 92 dX6_thread_67 (by decide) (fun h67 => ?_) (fun h67 => absurd (h67.symm.trans rfl) (by decide))
          refine V_iconst (v := nI 0) dX6_thread_92 (by decide) ?_
          exact V_iretP rfl ⟨rfl, MQz hA hS (by first | exact kep.rf.z | exact kep.rf.z.z | exact kep.rf.z.z.z) (u2_s _ _ _ _)⟩ ⟨Nat.le_of_ble_eq_true rfl, Nat.le_of_ble_eq_true rfl⟩ dX6_thread_93

end Mdl9
