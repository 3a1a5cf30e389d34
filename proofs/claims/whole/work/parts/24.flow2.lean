/-! SsaRepair.Flow: what it has worked out of a graph -/
def sbG (G : Gr) (a t : Nat) : Bool := decide (t ∈ G.2.2 a)
def F1 (mi : Nat → Nat → Int32) (f : Nat) (G : Gr) : Prop := (∀ a, a < 14 → mi (f + 6) a = msk (sbG G a)) ∧ mi f 1 = msk (fun k => bp (Rc G k)) ∧ ∀ b, b < 14 → mi (f + 7) b = msk (fun p => bp (Pd G p b))
def F2 (mi : Nat → Nat → Int32) (f : Nat) (G : Gr) : Prop := (∀ x, x < 14 → mi (f + 8) x = msk (fun y => bp (Dm G x y))) ∧ (∀ b, b < 14 → Rc G b → b ≠ 0 → mi (f + 9) b = nI (par G b)) ∧ ∀ x, x < 14 → mi (f + 10) x = msk (fun y => bp (Fr' G x y))
/-- the last definition of a variable in a block, as a source; -1 if there is none, or the block isn't reachable -/
noncomputable def lastD (G : Gr) (v b : Nat) : Int32 := if bp (Rc G b) = true then ldI b (ldef (G.2.1 b) v (G.2.1 b).length) else -1
def F3d (mi : Nat → Nat → Int32) (f : Nat) (G : Gr) (v : Nat) : Prop := mi (f + 11) v = msk (fun b => bp (Rc G b ∧ Df G v b)) ∧ ∀ b, b < 14 → mi (f + 12) (14 * v + b) = lastD G v b
def F3 (mi : Nat → Nat → Int32) (f : Nat) (G : Gr) (v : Nat) : Prop := F3d mi f G v ∧ mi (f + 13) v = msk (fun b => bp (LV G v b)) ∧ mi (f + 14) v = msk (fun b => bp (MN G v b)) ∧ mi (f + 15) v = msk (fun b => bp (PM G v b))
def FA (mi : Nat → Nat → Int32) (f : Nat) (G : Gr) : Prop := F1 mi f G ∧ F2 mi f G ∧ ∀ v, v < 4 → F3 mi f G v
def offF (mi mi' : Nat → Nat → Int32) (f : Nat) : Prop := ∀ a i, ¬ (a = f ∧ i = 1) → (a < f + 6 ∨ f + 17 ≤ a) → mi' a i = mi a i
theorem offF.rf {mi : Nat → Nat → Int32} {f : Nat} : offF mi mi f := fun _ _ _ _ => rfl
theorem offF.tr {m1 m2 m3 : Nat → Nat → Int32} {f : Nat} (h1 : offF m1 m2 f) (h2 : offF m2 m3 f) : offF m1 m3 f := fun a i h h' => (h2 a i h h').trans (h1 a i h h')
theorem offF.u2 {m1 m2 : Nat → Nat → Int32} {f a i : Nat} {x : Int32} (h : offF m1 m2 f) (ha : (a = f ∧ i = 1) ∨ (f + 6 ≤ a ∧ a < f + 17)) : offF m1 (u2 m2 a i x) f := fun b j h1 h2 => by
  rw [u2_n _ _ (by omega)]; exact h b j h1 h2
theorem GA_off {mi m : Nat → Nat → Int32} {f : Nat} {G : Gr} (hA : GA mi (f + 1) G) (ho : offF mi m f) : GA m (f + 1) G := by
  refine ⟨by rw [ho (f + 1) 0 (by omega) (by omega)]; exact hA.1, fun b hb => ?_⟩
  obtain ⟨h1, h2, h3, h4⟩ := hA.2 b hb
  exact ⟨by rw [ho _ _ (by omega) (by omega)]; exact h1, by rw [ho _ _ (by omega) (by omega)]; exact h2, fun k hk => by rw [ho _ _ (by omega) (by omega)]; exact h3 k hk, fun k hk => by rw [ho _ _ (by omega) (by omega)]; exact h4 k hk⟩
section Flow2
variable {κ : K0} {σ : Nat → Option Kd} {mi : Nat → Nat → Int32} {ml : Nat → Nat → Int64} {f : Nat} {G : Gr} {μ : Mem}
theorem sbG_lt (hw : Wf G) (a b : Nat) (h : sbG G a b = true) : b < 14 := by
  have h1 : b ∈ G.2.2 a := of_decide_eq_true h
  have := (Ed.lt hw (show Ed G a b from h1)).2.2
  have := hw.2.1
  omega
theorem sbG_t {a b : Nat} : sbG G a b = true ↔ Ed G a b := decide_eq_true_iff
theorem Rc_cl {k : Nat} : Cl (fun a => a = 0 ∧ (fun _ : Nat => false) a = false) (fun a b => sbG G a b = true ∧ (fun _ : Nat => false) b = false) k ↔ Rc G k :=
  Cl.congr (fun a => ⟨fun h => h.1, fun h => ⟨h, rfl⟩⟩) (fun a b => ⟨fun h => sbG_t.mp h.1, fun h => ⟨sbG_t.mpr h, rfl⟩⟩)
theorem RW_cl {x k : Nat} : Cl (fun a => a = 0 ∧ (fun j : Nat => decide (j = x)) a = false) (fun a b => sbG G a b = true ∧ (fun j : Nat => decide (j = x)) b = false) k ↔ RW G x k :=
  Cl.congr (fun a => ⟨fun h => ⟨h.1, of_decide_eq_false h.2⟩, fun h => ⟨h.1, decide_eq_false h.2⟩⟩) (fun a b => ⟨fun h => ⟨sbG_t.mp h.1, of_decide_eq_false h.2⟩, fun h => ⟨sbG_t.mpr h.1, decide_eq_false h.2⟩⟩)
theorem ctX0_findReachable (hF : FlowL σ f) (hA : GA mi (f + 1) G) (hw : Wf G) : CtP κ 0 0 3 mrX0_findReachable [.ref f] (MM σ mi ml) (fun o μ' => o = .inl none ∧ ∃ m', μ' = MM σ m' ml ∧ F1 m' f G ∧ offF mi m' f) := by
  refine CtP.of rfl (by simp [Value.category]) (Nat.le_of_ble_eq_true rfl) ?_
  have hn := hw.2.1
  have lp2 : ∀ i, i ≤ 14 → ∀ m, offF mi m f → (∀ a, a < 14 → m (f + 6) a = msk (sbG G a)) → m f 1 = msk (fun k => bp (Rc G k)) → (∀ b, b < i → m (f + 7) b = msk (fun p => bp (Pd G p b))) → V κ (phiP κ mrX0_findReachable 3 0 0 (fun o μ' => o = .inl none ∧ ∃ m', μ' = MM σ m' ml ∧ F1 m' f G ∧ offF mi m' f)) 0 0 54 [some (.ref f), some (.int (nI i))] [] (MM σ m ml) := loop_up 14 (fun i hi ih m ho h1 h2 h3 => by
    refine V_iload_n dX0_findReachable_54 rfl rfl ?_
    refine V_bipush (v := nI 14) dX0_findReachable_55 (by decide) ?_
    refine V_N_ge (by omega) (by omega) 77 dX0_findReachable_57 (by decide) (fun h57 => ?_) (fun h57 => ?_)
    · exact V_vretP rfl ⟨rfl, _, rfl, ⟨h1, h2, fun b hb => h3 b (by omega)⟩, ho⟩ ⟨Nat.le_of_ble_eq_true rfl, Nat.le_of_ble_eq_true rfl⟩ dX0_findReachable_77
    · refine V_aload_n dX0_findReachable_60 rfl rfl ?_
      refine V_getR frX0_26 hF.1 rfl dX0_findReachable_61 ?_
      refine V_iload_n dX0_findReachable_64 rfl rfl ?_
      refine V_aload_n dX0_findReachable_65 rfl rfl ?_
      refine V_iload_n dX0_findReachable_66 rfl rfl ?_
      refine V_cv1 (ctX0_findSourcesOfEdges hF h2 h1 h57) mvX0_findSourcesOfEdges lkX0_82 hF.1 rfl rfl rfl (Nat.le_of_ble_eq_true rfl) ⟨⟨Nat.le_of_ble_eq_true rfl, Nat.le_of_ble_eq_true rfl⟩, Nat.le_of_ble_eq_true rfl, Nat.le_of_ble_eq_true rfl⟩ dX0_findReachable_67 ?_
      refine V_iastN hF.2.2.2.1 i rfl (by omega) (by decide) dX0_findReachable_70 ?_
      refine V_iinc1 dX0_findReachable_71 rfl (Nat.le_of_ble_eq_true rfl) ?_
      refine V_goto 54 dX0_findReachable_74 (by decide) ?_
      exact ih h57 _ (ho.u2 (Or.inr (by omega))) (fun a ha => (u2_n _ _ (Or.inl (by omega))).trans (h1 a ha)) ((u2_n _ _ (Or.inl (by omega))).trans h2) (fun b hb => by
        by_cases e : b = i
        · subst e
          refine (u2_s _ _ _ _).trans (msk_congr (fun p _ => ?_))
          rw [show bp (Pd G p b) = (bp (Rc G p) && sbG G p b) from bp_eq (by rw [Bool.and_eq_true, bp_t, sbG_t]; exact Iff.rfl)]
        · exact (u2_n _ _ (Or.inr e)).trans (h3 b (by omega)))
    )
  have lp1 : ∀ i, i ≤ 14 → ∀ m, offF mi m f → (∀ a, a < i → m (f + 6) a = msk (sbG G a)) → V κ (phiP κ mrX0_findReachable 3 0 0 (fun o μ' => o = .inl none ∧ ∃ m', μ' = MM σ m' ml ∧ F1 m' f G ∧ offF mi m' f)) 0 0 2 [some (.ref f), some (.int (nI i))] [] (MM σ m ml) := loop_up 14 (fun i hi ih m ho h1 => by
    have hA' := GA_off hA ho
    have J : i < 14 → V κ (phiP κ mrX0_findReachable 3 0 0 (fun o μ' => o = .inl none ∧ ∃ m', μ' = MM σ m' ml ∧ F1 m' f G ∧ offF mi m' f)) 0 0 36 [some (.ref f), some (.int (nI i))] [.int (msk (sbG G i)), .int (nI i), .ref (f + 6)] (MM σ m ml) := fun hi2 => by
      refine V_iastN hF.2.2.1 i rfl (by omega) (by decide) dX0_findReachable_36 ?_
      refine V_iinc1 dX0_findReachable_37 rfl (Nat.le_of_ble_eq_true rfl) ?_
      refine V_goto 2 dX0_findReachable_40 (by decide) ?_
      exact ih hi2 _ (ho.u2 (Or.inr (by omega))) (fun a ha => by
        by_cases e : a = i
        · subst e; exact u2_s _ _ _ _
        · exact (u2_n _ _ (Or.inr e)).trans (h1 a (by omega)))

    refine V_iload_n dX0_findReachable_2 rfl rfl ?_
    refine V_bipush (v := nI 14) dX0_findReachable_3 (by decide) ?_
    refine V_N_ge (by omega) (by omega) 43 dX0_findReachable_5 (by decide) (fun h5 => ?_) (fun h5 => ?_)
    · refine V_aload_n dX0_findReachable_43 rfl rfl ?_
      refine V_aload_n dX0_findReachable_44 rfl rfl ?_
      refine V_iconst (v := nI 0) dX0_findReachable_45 (by decide) ?_
      refine V_top (show nI 0 = msk (fun _ => false) by rw [msk_zero]; rfl) ?_
      refine V_cv1 (ctX0_reachedWithout hF (fun a ha => h1 a (by omega)) (sbG_lt hw)) mvX0_reachedWithout lkX0_79 hF.1 rfl rfl rfl (Nat.le_of_ble_eq_true rfl) ⟨⟨Nat.le_of_ble_eq_true rfl, Nat.le_of_ble_eq_true rfl⟩, Nat.le_of_ble_eq_true rfl, Nat.le_of_ble_eq_true rfl⟩ dX0_findReachable_46 ?_
      refine V_putI fpX0_18 rfl rfl hF.1 rfl dX0_findReachable_49 ?_
      refine V_iconst (v := nI 0) dX0_findReachable_52 (by decide) ?_
      refine V_istore_n dX0_findReachable_53 rfl (Nat.le_of_ble_eq_true rfl) ?_
      exact lp2 0 (Nat.zero_le _) _ (ho.u2 (Or.inl ⟨rfl, rfl⟩)) (fun a ha => (u2_n _ _ (Or.inl (by omega))).trans (h1 a (by omega))) ((u2_s _ _ _ _).trans (msk_congr (fun k _ => bp_congr Rc_cl))) (fun b hb => absurd hb (Nat.not_lt_zero b))
    · refine V_aload_n dX0_findReachable_8 rfl rfl ?_
      refine V_getR frX0_22 hF.1 rfl dX0_findReachable_9 ?_
      refine V_iload_n dX0_findReachable_12 rfl rfl ?_
      refine V_aload_n dX0_findReachable_13 rfl rfl ?_
      refine V_getR frX0_12 hF.1 rfl dX0_findReachable_14 ?_
      refine V_iload_n dX0_findReachable_17 rfl rfl ?_
      refine V_cv1 (ctX1_hasBlock hF.2.1 hA'.1) mvX1_hasBlock lkX0_72 hF.2.1.1 rfl rfl rfl (Nat.le_of_ble_eq_true rfl) ⟨⟨Nat.le_of_ble_eq_true rfl, Nat.le_of_ble_eq_true rfl⟩, Nat.le_of_ble_eq_true rfl, Nat.le_of_ble_eq_true rfl⟩ dX0_findReachable_18 ?_
      refine V_ifeqB 35 dX0_findReachable_21 (by decide) (fun h21 => ?_) (fun h21 => ?_)
      · refine V_iconst (v := nI 0) dX0_findReachable_35 (by decide) ?_
        exact V.cS (J h5) (by
          have hge : G.1 ≤ i := Nat.not_lt.mp (fun q => by rw [inR_nI q (by omega)] at h21; cases h21)
          rw [show sbG G i = fun _ => false from funext fun t => by unfold sbG; rw [(hw.2.2.2.2 i hge).2]; simp, msk_zero]; rfl)
      · refine V_aload_n dX0_findReachable_24 rfl rfl ?_
        refine V_getR frX0_12 hF.1 rfl dX0_findReachable_25 ?_
        refine V_iload_n dX0_findReachable_28 rfl rfl ?_
        refine V_cv1 (ctX1_targetSet hF.2.1 hA' hw h5) mvX1_targetSet lkX0_76 hF.2.1.1 rfl rfl rfl (Nat.le_of_ble_eq_true rfl) ⟨⟨Nat.le_of_ble_eq_true rfl, Nat.le_of_ble_eq_true rfl⟩, Nat.le_of_ble_eq_true rfl, Nat.le_of_ble_eq_true rfl⟩ dX0_findReachable_29 ?_
        refine V_goto 36 dX0_findReachable_32 (by decide) ?_
        exact J h5
    )
  refine V_iconst (v := nI 0) dX0_findReachable_0 (by decide) ?_
  refine V_istore_n dX0_findReachable_1 rfl (Nat.le_of_ble_eq_true rfl) ?_
  exact lp1 0 (Nat.zero_le _) mi offF.rf (fun a ha => absurd ha (Nat.not_lt_zero a))

theorem parF_is {b : Nat} (hb : Rc G b) (h0 : b ≠ 0) : ∀ n, Dm G (parF (fun x y => bp (Dm G x y)) b n) b ∧ parF (fun x y => bp (Dm G x y)) b n ≠ b ∧ ∀ x, x < n → Dm G x b → x ≠ b → Dm G x (parF (fun x y => bp (Dm G x y)) b n)
  | 0 => ⟨Dm.zero hb, fun e => h0 e.symm, fun x hx => absurd hx (Nat.not_lt_zero x)⟩
  | n + 1 => by
    obtain ⟨h1, h2, h3⟩ := parF_is hb h0 n
    rw [parF]
    by_cases hc : (n ≠ b ∧ bp (Dm G n b) = true ∧ bp (Dm G (parF (fun x y => bp (Dm G x y)) b n) n) = true) ∧ 1 ≤ n
    · rw [if_pos hc]
      have hd := bp_t.mp hc.1.2.1
      refine ⟨hd, hc.1.1, fun x hx hxb hne => ?_⟩
      rcases Nat.lt_or_ge x n with z | z
      · exact (h3 x z hxb hne).trans (bp_t.mp hc.1.2.2)
      · rw [show x = n by omega]; exact Dm.refl hd.1
    · rw [if_neg hc]
      refine ⟨h1, h2, fun x hx hxb hne => ?_⟩
      rcases Nat.lt_or_ge x n with z | z
      · exact h3 x z hxb hne
      · have e : x = n := by omega
        subst e
        rcases Dm.chain h1 hxb with q | q
        · by_cases hx1 : 1 ≤ x
          · exact absurd ⟨⟨hne, bp_pos hxb, bp_pos q⟩, hx1⟩ hc
          · have e0 : x = 0 := by omega
            subst e0
            exact Dm.zero h1.1
        · exact q
theorem parF_par (hw : Wf G) {b : Nat} (hb : Rc G b) (h0 : b ≠ 0) : parF (fun x y => bp (Dm G x y)) b 14 = par G b := by
  obtain ⟨h1, h2, h3⟩ := parF_is hb h0 14
  exact (IsPar.eq ⟨h1, h2, fun x hx hne => h3 x (hx.1.lt14 hw) hx hne⟩).symm
theorem any_msk {A B : Nat → Bool} : msk (fun k => A k && B k) ≠ 0 ↔ ∃ k, k < 14 ∧ A k = true ∧ B k = true := by
  rw [Ne, msk_eq0]
  constructor
  · intro h
    apply Classical.byContradiction
    intro hn
    refine h (fun k hk => ?_)
    cases ha : A k with
    | false => rfl
    | true =>
      cases hb : B k with
      | false => rfl
      | true => exact absurd ⟨k, hk, ha, hb⟩ hn
  · rintro ⟨k, hk, ha, hb⟩ h
    have := h k hk
    rw [ha, hb] at this
    cases this
theorem frF (hw : Wf G) {b y : Nat} : (decide (msk (fun k => bp (Pd G k y) && bp (Dm G b k)) ≠ 0) && (decide (y = b) || !bp (Dm G b y))) = bp (Fr' G b y) := by
  refine (bp_eq ?_).symm
  rw [Bool.and_eq_true, Bool.or_eq_true, decide_eq_true_iff, any_msk, decide_eq_true_iff, Bool.not_eq_true', bp_f]
  unfold Fr'
  constructor
  · rintro ⟨⟨k, hk, h1, h2⟩, h3⟩
    exact ⟨⟨k, bp_t.mp h1, bp_t.mp h2⟩, h3⟩
  · rintro ⟨⟨k, h1, h2⟩, h3⟩
    exact ⟨⟨k, h1.1.lt14 hw, bp_pos h1, bp_pos h2⟩, h3⟩
theorem ctX0_findDominators (hF : FlowL σ f) (hw : Wf G) (h0 : F1 mi f G) : CtP κ 0 0 3 mrX0_findDominators [.ref f] (MM σ mi ml) (fun o μ' => o = .inl none ∧ ∃ m', μ' = MM σ m' ml ∧ F1 m' f G ∧ F2 m' f G ∧ offF mi m' f) := by
  refine CtP.of rfl (by simp [Value.category]) (Nat.le_of_ble_eq_true rfl) ?_
  have lp2 : ∀ i, i ≤ 14 → ∀ m, offF mi m f → F1 m f G → (∀ x, x < 14 → m (f + 8) x = msk (fun y => bp (Dm G x y))) → (∀ b, b < i → Rc G b → b ≠ 0 → m (f + 9) b = nI (par G b)) → (∀ x, x < i → m (f + 10) x = msk (fun y => bp (Fr' G x y))) → V κ (phiP κ mrX0_findDominators 3 0 0 (fun o μ' => o = .inl none ∧ ∃ m', μ' = MM σ m' ml ∧ F1 m' f G ∧ F2 m' f G ∧ offF mi m' f)) 0 0 51 [some (.ref f), some (.int (nI i))] [] (MM σ m ml) := loop_up 14 (fun i hi ih m ho h1 h2 h3 h4 => by
    refine V_iload_n dX0_findDominators_51 rfl rfl ?_
    refine V_bipush (v := nI 14) dX0_findDominators_52 (by decide) ?_
    refine V_N_ge (by omega) (by omega) 85 dX0_findDominators_54 (by decide) (fun h54 => ?_) (fun h54 => ?_)
    · exact V_vretP rfl ⟨rfl, _, rfl, h1, ⟨h2, fun b hb => h3 b (by omega), fun x hx => h4 x (by omega)⟩, ho⟩ ⟨Nat.le_of_ble_eq_true rfl, Nat.le_of_ble_eq_true rfl⟩ dX0_findDominators_85
    · refine V_aload_n dX0_findDominators_57 rfl rfl ?_
      refine V_getR frX0_32 hF.1 rfl dX0_findDominators_58 ?_
      refine V_iload_n dX0_findDominators_61 rfl rfl ?_
      refine V_aload_n dX0_findDominators_62 rfl rfl ?_
      refine V_iload_n dX0_findDominators_63 rfl rfl ?_
      refine V_cv1 (ctX0_findParent hF h2 h54) mvX0_findParent lkX0_89 hF.1 rfl rfl rfl (Nat.le_of_ble_eq_true rfl) ⟨⟨Nat.le_of_ble_eq_true rfl, Nat.le_of_ble_eq_true rfl⟩, Nat.le_of_ble_eq_true rfl, Nat.le_of_ble_eq_true rfl⟩ dX0_findDominators_64 ?_
      refine V_iastN hF.2.2.2.2.2.1 i rfl (by omega) (by decide) dX0_findDominators_67 ?_
      have h2' : ∀ x, x < 14 → u2 m (f + 9) i (nI (parF (fun x y => bp (Dm G x y)) i 14)) (f + 8) x = msk (fun y => bp (Dm G x y)) := fun x hx => (u2_n _ _ (Or.inl (by omega))).trans (h2 x hx)
      have h1' : F1 (u2 m (f + 9) i (nI (parF (fun x y => bp (Dm G x y)) i 14))) f G := ⟨fun a ha => (u2_n _ _ (Or.inl (by omega))).trans (h1.1 a ha), (u2_n _ _ (Or.inl (by omega))).trans h1.2.1, fun b hb => (u2_n _ _ (Or.inl (by omega))).trans (h1.2.2 b hb)⟩
      refine V_aload_n dX0_findDominators_68 rfl rfl ?_
      refine V_getR frX0_35 hF.1 rfl dX0_findDominators_69 ?_
      refine V_iload_n dX0_findDominators_72 rfl rfl ?_
      refine V_aload_n dX0_findDominators_73 rfl rfl ?_
      refine V_iload_n dX0_findDominators_74 rfl rfl ?_
      refine V_cv1 (ctX0_findFrontier hF h2' h1'.2.2 h54) mvX0_findFrontier lkX0_92 hF.1 rfl rfl rfl (Nat.le_of_ble_eq_true rfl) ⟨⟨Nat.le_of_ble_eq_true rfl, Nat.le_of_ble_eq_true rfl⟩, Nat.le_of_ble_eq_true rfl, Nat.le_of_ble_eq_true rfl⟩ dX0_findDominators_75 ?_
      refine V_iastN hF.2.2.2.2.2.2.1 i rfl (by omega) (by decide) dX0_findDominators_78 ?_
      refine V_iinc1 dX0_findDominators_79 rfl (Nat.le_of_ble_eq_true rfl) ?_
      refine V_goto 51 dX0_findDominators_82 (by decide) ?_
      exact ih h54 _ ((ho.u2 (Or.inr (by omega))).u2 (Or.inr (by omega))) ⟨fun a ha => (u2_n _ _ (Or.inl (by omega))).trans (h1'.1 a ha), (u2_n _ _ (Or.inl (by omega))).trans h1'.2.1, fun b hb => (u2_n _ _ (Or.inl (by omega))).trans (h1'.2.2 b hb)⟩ (fun x hx => (u2_n _ _ (Or.inl (by omega))).trans (h2' x hx)) (fun b hb hR hb0 => by
        refine (u2_n _ _ (Or.inl (by omega))).trans ?_
        by_cases e : b = i
        · subst e
          refine (u2_s _ _ _ _).trans ?_
          rw [parF_par hw hR hb0]
        · exact (u2_n _ _ (Or.inr e)).trans (h3 b (by omega) hR hb0)) (fun x hx => by
        by_cases e : x = i
        · subst e
          exact (u2_s _ _ _ _).trans (msk_congr (fun y _ => frF hw))
        · exact (u2_n _ _ (Or.inr e)).trans ((u2_n _ _ (Or.inl (by omega))).trans (h4 x (by omega))))
    )
  have lp1 : ∀ i, i ≤ 14 → ∀ m, offF mi m f → F1 m f G → (∀ x, x < i → m (f + 8) x = msk (fun y => bp (Dm G x y))) → V κ (phiP κ mrX0_findDominators 3 0 0 (fun o μ' => o = .inl none ∧ ∃ m', μ' = MM σ m' ml ∧ F1 m' f G ∧ F2 m' f G ∧ offF mi m' f)) 0 0 2 [some (.ref f), some (.int (nI i))] [] (MM σ m ml) := loop_up 14 (fun i hi ih m ho h1 h2 => by
    have J : i < 14 → V κ (phiP κ mrX0_findDominators 3 0 0 (fun o μ' => o = .inl none ∧ ∃ m', μ' = MM σ m' ml ∧ F1 m' f G ∧ F2 m' f G ∧ offF mi m' f)) 0 0 42 [some (.ref f), some (.int (nI i))] [.int (msk (fun y => bp (Dm G i y))), .int (nI i), .ref (f + 8)] (MM σ m ml) := fun hi2 => by
      refine V_iastN hF.2.2.2.2.1 i rfl (by omega) (by decide) dX0_findDominators_42 ?_
      refine V_iinc1 dX0_findDominators_43 rfl (Nat.le_of_ble_eq_true rfl) ?_
      refine V_goto 2 dX0_findDominators_46 (by decide) ?_
      exact ih hi2 _ (ho.u2 (Or.inr (by omega))) ⟨fun a ha => (u2_n _ _ (Or.inl (by omega))).trans (h1.1 a ha), (u2_n _ _ (Or.inl (by omega))).trans h1.2.1, fun b hb => (u2_n _ _ (Or.inl (by omega))).trans (h1.2.2 b hb)⟩ (fun x hx => by
        by_cases e : x = i
        · subst e; exact u2_s _ _ _ _
        · exact (u2_n _ _ (Or.inr e)).trans (h2 x (by omega)))

    refine V_iload_n dX0_findDominators_2 rfl rfl ?_
    refine V_bipush (v := nI 14) dX0_findDominators_3 (by decide) ?_
    refine V_N_ge (by omega) (by omega) 49 dX0_findDominators_5 (by decide) (fun h5 => ?_) (fun h5 => ?_)
    · refine V_iconst (v := nI 0) dX0_findDominators_49 (by decide) ?_
      refine V_istore_n dX0_findDominators_50 rfl (Nat.le_of_ble_eq_true rfl) ?_
      exact lp2 0 (Nat.zero_le _) m ho h1 (fun x hx => h2 x (by omega)) (fun b hb => absurd hb (Nat.not_lt_zero b)) (fun b hb => absurd hb (Nat.not_lt_zero b))
    · refine V_aload_n dX0_findDominators_8 rfl rfl ?_
      refine V_getR frX0_29 hF.1 rfl dX0_findDominators_9 ?_
      refine V_iload_n dX0_findDominators_12 rfl rfl ?_
      refine V_aload_n dX0_findDominators_13 rfl rfl ?_
      refine V_getE frX0_18 hF.1 rfl h1.2.1 dX0_findDominators_14 ?_
      refine V_iload_n dX0_findDominators_17 rfl rfl ?_
      refine V_csn1 (ctX5_hasM (by omega)) msX5_has lnX0_85 rfl rfl (Nat.le_of_ble_eq_true rfl) ⟨⟨Nat.le_of_ble_eq_true rfl, Nat.le_of_ble_eq_true rfl⟩, Nat.le_of_ble_eq_true rfl, Nat.le_of_ble_eq_true rfl⟩ dX0_findDominators_18 ?_
      refine V_ifeqB 41 dX0_findDominators_21 (by decide) (fun h21 => ?_) (fun h21 => ?_)
      · refine V_iconst (v := nI 0) dX0_findDominators_41 (by decide) ?_
        exact V.cS (J h5) (by
          rw [show (msk fun y => bp (Dm G i y)) = nI 0 from (msk_congr (fun y _ => bp_neg (fun q => bp_f.mp h21 q.1))).trans msk_zero])
      · refine V_aload_n dX0_findDominators_24 rfl rfl ?_
        refine V_getE frX0_18 hF.1 rfl h1.2.1 dX0_findDominators_25 ?_
        refine V_aload_n dX0_findDominators_28 rfl rfl ?_
        refine V_iconst (v := nI 1) dX0_findDominators_29 (by decide) ?_
        refine V_iload_n dX0_findDominators_30 rfl rfl ?_
        refine V_ishl dX0_findDominators_31 ?_
        refine V_top (msk_one h5) ?_
        refine V_cv1 (ctX0_reachedWithout hF h1.1 (sbG_lt hw)) mvX0_reachedWithout lkX0_79 hF.1 rfl rfl rfl (Nat.le_of_ble_eq_true rfl) ⟨⟨Nat.le_of_ble_eq_true rfl, Nat.le_of_ble_eq_true rfl⟩, Nat.le_of_ble_eq_true rfl, Nat.le_of_ble_eq_true rfl⟩ dX0_findDominators_32 ?_
        refine V_iconst (v := (-1)) dX0_findDominators_35 (by decide) ?_
        refine V_ixor dX0_findDominators_36 ?_
        refine V_iand dX0_findDominators_37 ?_
        refine V_top (msk_andN _ _) ?_
        refine V_goto 42 dX0_findDominators_38 (by decide) ?_
        exact V.cS (J h5) (by
          rw [show (msk fun y => bp (Dm G i y)) = msk (fun k => bp (Rc G k) && !bp (Cl (fun a => a = 0 ∧ (fun j : Nat => decide (j = i)) a = false) (fun a b => sbG G a b = true ∧ (fun j : Nat => decide (j = i)) b = false) k)) from msk_congr (fun y _ => bp_eq (by
            rw [Bool.and_eq_true, bp_t, Bool.not_eq_true', bp_f, RW_cl]
            exact ⟨fun q => ⟨bp_t.mp h21, q.1, q.2⟩, fun q => ⟨q.2.1, q.2.2⟩⟩))])
    )
  refine V_iconst (v := nI 0) dX0_findDominators_0 (by decide) ?_
  refine V_istore_n dX0_findDominators_1 rfl (Nat.le_of_ble_eq_true rfl) ?_
  exact lp1 0 (Nat.zero_le _) mi offF.rf h0 (fun a ha => absurd ha (Nat.not_lt_zero a))

end Flow2
