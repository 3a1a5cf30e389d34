/-! SsaRepair.Flow: which definitions nobody needs -/
section Flow5
variable {κ : K0} {σ : Nat → Option Kd} {mi : Nat → Nat → Int32} {ml : Nat → Nat → Int64} {f : Nat} {G : Gr} {μ : Mem}
def of16 (mi m : Nat → Nat → Int32) (f : Nat) : Prop := ∀ a i, a ≠ f + 16 → m a i = mi a i
theorem GA_16 {m : Nat → Nat → Int32} (hA : GA mi (f + 1) G) (ho : of16 mi m f) : GA m (f + 1) G := GA_off hA (fun a i _ h => ho a i (by omega))
theorem FA_16 {m : Nat → Nat → Int32} (h : FA mi f G) (ho : of16 mi m f) : FA m f G :=
  ⟨h.1.keep (fun a i q => ho a i (by omega)), h.2.1.keep (fun a i q => ho a i (by omega)), fun v hv => by
    obtain ⟨⟨g1, g2⟩, g3, g4, g5⟩ := h.2.2 v hv
    exact ⟨⟨(ho _ _ (by omega)).trans g1, fun b hb => (ho _ _ (by omega)).trans (g2 b hb)⟩, (ho _ _ (by omega)).trans g3, (ho _ _ (by omega)).trans g4, (ho _ _ (by omega)).trans g5⟩⟩
/-- the definitions noted so far, by their numbers as sources -/
def NI (m : Nat → Nat → Int32) (f : Nat) (Q : Nat → Prop) : Prop := ∀ b, b < 14 → m (f + 16) b = msk (fun j => decide (j < 10) && bp (Q (10 * b + j)))
theorem NI.congr {m : Nat → Nat → Int32} {Q Q' : Nat → Prop} (h : NI m f Q) (hq : ∀ x, Q x ↔ Q' x) : NI m f Q' := by rw [← (funext fun x => propext (hq x) : Q = Q')]; exact h
/-- a number that is a source -/
def srcOk (s : Nat) : Prop := s ≤ 2000 ∧ (s < 1000 → ∃ b k, b < 14 ∧ k < 6 ∧ s = 10 * b + k)
theorem sBg_ok (hw : Wf G) {v : Nat} : ∀ n b, Rc G b → srcOk (sBg G v n b)
  | 0, b, _ => ⟨Nat.le_refl _, fun h => absurd h (show ¬ 2000 < 1000 by decide)⟩
  | n + 1, b, hb => by
    have hb2 := hb.lt14 hw
    rw [sBg]
    split
    · exact ⟨by omega, fun h => absurd h (by omega)⟩
    · split
      · exact ⟨Nat.le_refl _, fun h => absurd h (by decide)⟩
      · next h0 =>
        have hp := par14 hw hb h0
        split
        · next k hk => have := ldef6 hw (Nat.le_refl _) hk; exact ⟨by omega, fun _ => ⟨_, k, hp, this, rfl⟩⟩
        · exact sBg_ok hw n _ (par_rc hw hb h0)
theorem srcE_ok (hw : Wf G) {v b : Nat} (hb : Rc G b) : srcOk (srcE G v b) := by
  have hb2 := hb.lt14 hw
  unfold srcE
  split
  · next k hk => have := ldef6 hw (Nat.le_refl _) hk; exact ⟨by omega, fun _ => ⟨b, k, hb2, this, rfl⟩⟩
  · exact sBg_ok hw 14 b hb
theorem srcU_ok (hw : Wf G) {b k : Nat} (hb : Rc G b) (hk : k < (G.2.1 b).length) : srcOk (srcU G b k) := by
  have hb2 := hb.lt14 hw
  unfold srcU
  split
  · next j hj => have := ldef6 hw (Nat.le_of_lt hk) hj; exact ⟨by omega, fun _ => ⟨b, j, hb2, this, rfl⟩⟩
  · exact sBg_ok hw 14 b hb
theorem divT : ∀ s, s < 140 → nI s / nI 10 = nI (s / 10) ∧ nI s - nI s / nI 10 * nI 10 = nI (s % 10) := by decide +kernel
theorem ctX0_noteNeeded (hF : FlowL σ f) {s : Nat} {Q : Nat → Prop} (hs : srcOk s) (hN : NI mi f Q) : CtP κ 0 0 1 mrX0_noteNeeded [.ref f, .int (nI s)] (MM σ mi ml) (fun o μ' => o = .inl none ∧ ∃ m', μ' = MM σ m' ml ∧ of16 mi m' f ∧ NI m' f (fun x => Q x ∨ x = s)) := by
  refine CtP.of rfl (by simp [Value.category]) (Nat.le_of_ble_eq_true rfl) ?_
  have h2000 := hs.1
  have hlo : s < 1000 → s < 140 ∧ s % 10 < 6 := fun h => by obtain ⟨b, k, h1, h2, h3⟩ := hs.2 h; omega
  refine V_iload_n dX0_noteNeeded_0 rfl rfl ?_
  refine V_sipush (v := nI 1000) dX0_noteNeeded_1 (by decide) ?_
  refine V_N_ge (by omega) (by omega) 25 dX0_noteNeeded_4 (by decide) (fun h4 => ?_) (fun h4 => ?_)
  · exact V_vretP rfl ⟨rfl, _, rfl, fun _ _ _ => rfl, fun b hb => (hN b hb).trans (msk_congr (fun j _ => by
        by_cases hj : j < 10
        · rw [decide_eq_true hj, bp_congr (show Q (10 * b + j) ↔ (Q (10 * b + j) ∨ 10 * b + j = s) from ⟨Or.inl, fun h => h.elim id (fun e => absurd e (by omega))⟩)]
        · rw [decide_eq_false hj]; rfl))⟩ ⟨Nat.le_of_ble_eq_true rfl, Nat.le_of_ble_eq_true rfl⟩ dX0_noteNeeded_25
  · obtain ⟨hs1, hs2⟩ := hlo h4
    refine V_aload_n dX0_noteNeeded_7 rfl rfl ?_
    refine V_getR frX0_53 hF.1 rfl dX0_noteNeeded_8 ?_
    refine V_iload_n dX0_noteNeeded_11 rfl rfl ?_
    refine V_bipush (v := nI 10) dX0_noteNeeded_12 (by decide) ?_
    refine V_idiv dX0_noteNeeded_14 (by decide) ?_
    refine V_top ((divT s hs1).1) ?_
    refine V_dup2 dX0_noteNeeded_15 rfl rfl ?_
    refine V_ialdE hF.2.2.2.2.2.2.2.2.2.2.2.2 (s / 10) rfl (by omega) (by decide) (hN (s / 10) (by omega)) dX0_noteNeeded_16 ?_
    refine V_iconst (v := nI 1) dX0_noteNeeded_17 (by decide) ?_
    refine V_iload_n dX0_noteNeeded_18 rfl rfl ?_
    refine V_bipush (v := nI 10) dX0_noteNeeded_19 (by decide) ?_
    refine V_irem dX0_noteNeeded_21 (by decide) ?_
    refine V_top ((divT s hs1).2) ?_
    refine V_ishl dX0_noteNeeded_22 ?_
    refine V_top (msk_one (by omega)) ?_
    refine V_ior dX0_noteNeeded_23 ?_
    refine V_top (msk_or _ _) ?_
    refine V_iastN hF.2.2.2.2.2.2.2.2.2.2.2.2 (s / 10) rfl (by omega) (by decide) dX0_noteNeeded_24 ?_
    exact V_vretP rfl ⟨rfl, _, rfl, fun a i h => u2_n _ _ (Or.inl h), fun b hb => by
        by_cases e : b = s / 10
        · subst e
          rw [u2_s]
          refine msk_congr (fun j _ => ?_)
          by_cases hj : j = s % 10
          · have e2 : 10 * (s / 10) + j = s := by omega
            rw [e2, decide_eq_true (by omega : j < 10), decide_eq_true hj, bp_pos (Or.inr rfl)]; simp
          · rw [decide_eq_false hj, Bool.or_false]
            by_cases hj2 : j < 10
            · rw [decide_eq_true hj2, bp_congr (show Q (10 * (s / 10) + j) ↔ (Q (10 * (s / 10) + j) ∨ 10 * (s / 10) + j = s) from ⟨Or.inl, fun h => h.elim id (fun e => absurd e (by omega))⟩)]
            · rw [decide_eq_false hj2]; rfl
        · rw [u2_n _ _ (Or.inr e)]
          refine (hN b hb).trans (msk_congr (fun j _ => ?_))
          by_cases hj : j < 10
          · rw [decide_eq_true hj, bp_congr (show Q (10 * b + j) ↔ (Q (10 * b + j) ∨ 10 * b + j = s) from ⟨Or.inl, fun h => h.elim id (fun e => absurd e (by omega))⟩)]
          · rw [decide_eq_false hj]; rfl⟩ ⟨Nat.le_of_ble_eq_true rfl, Nat.le_of_ble_eq_true rfl⟩ dX0_noteNeeded_25

theorem ctX0_noteUses (hF : FlowL σ f) (hA : GA mi (f + 1) G) (hw : Wf G) (hQ : FA mi f G) {b : Nat} {Q : Nat → Prop} (hb : Rc G b) (hN : NI mi f Q) : CtP κ 0 0 4 mrX0_noteUses [.ref f, .int (nI b)] (MM σ mi ml) (fun o μ' => o = .inl none ∧ ∃ m', μ' = MM σ m' ml ∧ of16 mi m' f ∧ NI m' f (fun x => Q x ∨ ∃ k, k < (G.2.1 b).length ∧ 10 ≤ (G.2.1 b).getD k 0 ∧ x = srcU G b k)) := by
  refine CtP.of rfl (by simp [Value.category]) (Nat.le_of_ble_eq_true rfl) ?_
  have hb2 := hb.lt14 hw
  have h6 := (hw.2.2.1 b).1
  have lp : ∀ i, i ≤ (G.2.1 b).length → ∀ m, of16 mi m f → NI m f (fun x => Q x ∨ ∃ k, k < i ∧ 10 ≤ (G.2.1 b).getD k 0 ∧ x = srcU G b k) → V κ (phiP κ mrX0_noteUses 4 0 0 (fun o μ' => o = .inl none ∧ ∃ m', μ' = MM σ m' ml ∧ of16 mi m' f ∧ NI m' f (fun x => Q x ∨ ∃ k, k < (G.2.1 b).length ∧ 10 ≤ (G.2.1 b).getD k 0 ∧ x = srcU G b k))) 0 0 2 [some (.ref f), some (.int (nI b)), some (.int (nI i))] [] (MM σ m ml) := loop_up _ (fun i hi ih m ho hM => by
    have hA' := GA_16 hA ho
    have hQ' := FA_16 hQ ho
    refine V_iload_n dX0_noteUses_2 rfl rfl ?_
    refine V_aload_n dX0_noteUses_3 rfl rfl ?_
    refine V_getR frX0_12 hF.1 rfl dX0_noteUses_4 ?_
    refine V_getR frX0_95 hF.2.1.1 rfl dX0_noteUses_7 ?_
    refine V_iload_n dX0_noteUses_10 rfl rfl ?_
    refine V_ialdE hF.2.1.2.1 b rfl (by omega) (by decide) ((hA'.2 b hb2).1) dX0_noteUses_11 ?_
    refine V_N_ge (by omega) (by omega) 46 dX0_noteUses_12 (by decide) (fun h12 => ?_) (fun h12 => ?_)
    · exact V_vretP rfl ⟨rfl, _, rfl, ho, by rw [show i = (G.2.1 b).length by omega] at hM; exact hM⟩ ⟨Nat.le_of_ble_eq_true rfl, Nat.le_of_ble_eq_true rfl⟩ dX0_noteUses_46
    · have h14 := act14 hw h12
      refine V_aload_n dX0_noteUses_15 rfl rfl ?_
      refine V_getR frX0_12 hF.1 rfl dX0_noteUses_16 ?_
      refine V_iload_n dX0_noteUses_19 rfl rfl ?_
      refine V_iload_n dX0_noteUses_20 rfl rfl ?_
      refine V_cv1 (ctX1_actionAt hF.2.1 hb2 (by omega)) mvX1_actionAt lkX0_121 hF.2.1.1 rfl rfl rfl (Nat.le_of_ble_eq_true rfl) ⟨⟨Nat.le_of_ble_eq_true rfl, Nat.le_of_ble_eq_true rfl⟩, Nat.le_of_ble_eq_true rfl, Nat.le_of_ble_eq_true rfl⟩ dX0_noteUses_21 ?_
      refine V_top ((hA'.2 b hb2).2.2.1 i h12) ?_
      refine V_csn1 (ctX5_isUse (by omega)) msX5_isUse lnX0_146 rfl rfl (Nat.le_of_ble_eq_true rfl) ⟨⟨Nat.le_of_ble_eq_true rfl, Nat.le_of_ble_eq_true rfl⟩, Nat.le_of_ble_eq_true rfl, Nat.le_of_ble_eq_true rfl⟩ dX0_noteUses_24 ?_
      refine V_ifeqB 40 dX0_noteUses_27 (by decide) (fun h27 => ?_) (fun h27 => ?_)
      · refine V_iinc1 dX0_noteUses_40 rfl (Nat.le_of_ble_eq_true rfl) ?_
        refine V_goto 2 dX0_noteUses_43 (by decide) ?_
        exact ih h12 m ho (hM.congr (fun x => or_congr_right ⟨fun ⟨k, h1, h2⟩ => ⟨k, by omega, h2⟩, fun ⟨k, h1, h2, h3⟩ => ⟨k, by
          rcases Nat.lt_or_ge k i with q | q
          · exact q
          · rw [show k = i by omega] at h2; exact absurd h2 (of_decide_eq_false h27), h2, h3⟩⟩))
      · refine V_aload_n dX0_noteUses_30 rfl rfl ?_
        refine V_aload_n dX0_noteUses_31 rfl rfl ?_
        refine V_iload_n dX0_noteUses_32 rfl rfl ?_
        refine V_iload_n dX0_noteUses_33 rfl rfl ?_
        refine V_cv1 (ctX0_sourceAtUse hF hA' hw hQ' hb h12 (of_decide_eq_true h27)) mvX0_sourceAtUse lkX0_133 hF.1 rfl rfl rfl (Nat.le_of_ble_eq_true rfl) ⟨⟨Nat.le_of_ble_eq_true rfl, Nat.le_of_ble_eq_true rfl⟩, Nat.le_of_ble_eq_true rfl, Nat.le_of_ble_eq_true rfl⟩ dX0_noteUses_34 ?_
        refine V_cp0 (ctX0_noteNeeded hF (srcU_ok hw hb h12) hM) mvX0_noteNeeded lkX0_149 hF.1 rfl rfl rfl (Nat.le_of_ble_eq_true rfl) ⟨⟨Nat.le_of_ble_eq_true rfl, Nat.le_of_ble_eq_true rfl⟩, Nat.le_of_ble_eq_true rfl, Nat.le_of_ble_eq_true rfl⟩ dX0_noteUses_37 (fun μ1 hx => ?_)
        obtain ⟨m1, rfl, ho1, hM1⟩ := hx
        refine V_iinc1 dX0_noteUses_40 rfl (Nat.le_of_ble_eq_true rfl) ?_
        refine V_goto 2 dX0_noteUses_43 (by decide) ?_
        exact ih h12 m1 (fun a j h => (ho1 a j h).trans (ho a j h)) (hM1.congr (fun x => ⟨fun h => by
          rcases h with (h | ⟨k, h1, h2⟩) | h
          · exact Or.inl h
          · exact Or.inr ⟨k, by omega, h2⟩
          · exact Or.inr ⟨i, by omega, of_decide_eq_true h27, h⟩, fun h => by
          rcases h with h | ⟨k, h1, h2, h3⟩
          · exact Or.inl (Or.inl h)
          · rcases Nat.lt_or_ge k i with q | q
            · exact Or.inl (Or.inr ⟨k, q, h2, h3⟩)
            · rw [show k = i by omega] at h3; exact Or.inr h3⟩))
    )
  refine V_iconst (v := nI 0) dX0_noteUses_0 (by decide) ?_
  refine V_istore_n dX0_noteUses_1 rfl (Nat.le_of_ble_eq_true rfl) ?_
  exact lp 0 (Nat.zero_le _) mi (fun _ _ _ => rfl) (hN.congr (fun x => ⟨Or.inl, fun h => h.elim id (fun ⟨k, hk, _⟩ => absurd hk (Nat.not_lt_zero k))⟩))

theorem ctX0_noteOperands (hF : FlowL σ f) (hA : GA mi (f + 1) G) (hw : Wf G) (hQ : FA mi f G) {b : Nat} {Q : Nat → Prop} (hb : Rc G b) (hN : NI mi f Q) : CtP κ 0 0 4 mrX0_noteOperands [.ref f, .int (nI b)] (MM σ mi ml) (fun o μ' => o = .inl none ∧ ∃ m', μ' = MM σ m' ml ∧ of16 mi m' f ∧ NI m' f (fun x => Q x ∨ ∃ v, v < 4 ∧ (∃ y, Ed G b y ∧ PM G v y) ∧ x = srcE G v b)) := by
  refine CtP.of rfl (by simp [Value.category]) (Nat.le_of_ble_eq_true rfl) ?_
  have hb2 := hb.lt14 hw
  have hop : ∀ v, msk (fun k => sbG G b k && bp (PM G v k)) ≠ 0 ↔ ∃ y, Ed G b y ∧ PM G v y := fun v => by
    rw [any_msk]
    exact ⟨fun ⟨k, _, h1, h2⟩ => ⟨k, sbG_t.mp h1, bp_t.mp h2⟩, fun ⟨y, h1, h2⟩ => ⟨y, h2.1.rc.lt14 hw, sbG_t.mpr h1, bp_pos h2⟩⟩
  have lp : ∀ i, i ≤ 4 → ∀ m, of16 mi m f → NI m f (fun x => Q x ∨ ∃ v, v < i ∧ (∃ y, Ed G b y ∧ PM G v y) ∧ x = srcE G v b) → V κ (phiP κ mrX0_noteOperands 4 0 0 (fun o μ' => o = .inl none ∧ ∃ m', μ' = MM σ m' ml ∧ of16 mi m' f ∧ NI m' f (fun x => Q x ∨ ∃ v, v < 4 ∧ (∃ y, Ed G b y ∧ PM G v y) ∧ x = srcE G v b))) 0 0 2 [some (.ref f), some (.int (nI b)), some (.int (nI i))] [] (MM σ m ml) := loop_up _ (fun i hi ih m ho hM => by
    have hA' := GA_16 hA ho
    have hQ' := FA_16 hQ ho
    refine V_iload_n dX0_noteOperands_2 rfl rfl ?_
    refine V_iconst (v := nI 4) dX0_noteOperands_3 (by decide) ?_
    refine V_N_ge (by omega) (by omega) 39 dX0_noteOperands_4 (by decide) (fun h4 => ?_) (fun h4 => ?_)
    · exact V_vretP rfl ⟨rfl, _, rfl, ho, by rw [show i = 4 by omega] at hM; exact hM⟩ ⟨Nat.le_of_ble_eq_true rfl, Nat.le_of_ble_eq_true rfl⟩ dX0_noteOperands_39
    · refine V_aload_n dX0_noteOperands_7 rfl rfl ?_
      refine V_getR frX0_22 hF.1 rfl dX0_noteOperands_8 ?_
      refine V_iload_n dX0_noteOperands_11 rfl rfl ?_
      refine V_ialdE hF.2.2.1 b rfl (by omega) (by decide) (hQ'.1.1 b hb2) dX0_noteOperands_12 ?_
      refine V_aload_n dX0_noteOperands_13 rfl rfl ?_
      refine V_getR frX0_50 hF.1 rfl dX0_noteOperands_14 ?_
      refine V_iload_n dX0_noteOperands_17 rfl rfl ?_
      refine V_ialdE hF.2.2.2.2.2.2.2.2.2.2.2.1 i rfl (by omega) (by decide) ((hQ'.2.2 i h4).2.2.2) dX0_noteOperands_18 ?_
      refine V_iand dX0_noteOperands_19 ?_
      refine V_top (msk_and _ _) ?_
      refine V_if_eq 33 dX0_noteOperands_20 (by decide) (fun h20 => ?_) (fun h20 => ?_)
      · refine V_iinc1 dX0_noteOperands_33 rfl (Nat.le_of_ble_eq_true rfl) ?_
        refine V_goto 2 dX0_noteOperands_36 (by decide) ?_
        exact ih h4 m ho (hM.congr (fun x => or_congr_right ⟨fun ⟨k, h1, h2⟩ => ⟨k, by omega, h2⟩, fun ⟨k, h1, h2, h3⟩ => ⟨k, by
          rcases Nat.lt_or_ge k i with q | q
          · exact q
          · rw [show k = i by omega] at h2; exact absurd h20 ((hop i).mpr h2), h2, h3⟩⟩))
      · refine V_aload_n dX0_noteOperands_23 rfl rfl ?_
        refine V_aload_n dX0_noteOperands_24 rfl rfl ?_
        refine V_iload_n dX0_noteOperands_25 rfl rfl ?_
        refine V_iload_n dX0_noteOperands_26 rfl rfl ?_
        refine V_cv1 (ctX0_sourceAtEnd hF hA' hw hQ' hb h4) mvX0_sourceAtEnd lkX0_127 hF.1 rfl rfl rfl (Nat.le_of_ble_eq_true rfl) ⟨⟨Nat.le_of_ble_eq_true rfl, Nat.le_of_ble_eq_true rfl⟩, Nat.le_of_ble_eq_true rfl, Nat.le_of_ble_eq_true rfl⟩ dX0_noteOperands_27 ?_
        refine V_cp0 (ctX0_noteNeeded hF (srcE_ok hw hb) hM) mvX0_noteNeeded lkX0_149 hF.1 rfl rfl rfl (Nat.le_of_ble_eq_true rfl) ⟨⟨Nat.le_of_ble_eq_true rfl, Nat.le_of_ble_eq_true rfl⟩, Nat.le_of_ble_eq_true rfl, Nat.le_of_ble_eq_true rfl⟩ dX0_noteOperands_30 (fun μ1 hx => ?_)
        obtain ⟨m1, rfl, ho1, hM1⟩ := hx
        refine V_iinc1 dX0_noteOperands_33 rfl (Nat.le_of_ble_eq_true rfl) ?_
        refine V_goto 2 dX0_noteOperands_36 (by decide) ?_
        exact ih h4 m1 (fun a j h => (ho1 a j h).trans (ho a j h)) (hM1.congr (fun x => ⟨fun h => by
          rcases h with (h | ⟨k, h1, h2⟩) | h
          · exact Or.inl h
          · exact Or.inr ⟨k, by omega, h2⟩
          · exact Or.inr ⟨i, by omega, (hop i).mp h20, h⟩, fun h => by
          rcases h with h | ⟨k, h1, h2, h3⟩
          · exact Or.inl (Or.inl h)
          · rcases Nat.lt_or_ge k i with q | q
            · exact Or.inl (Or.inr ⟨k, q, h2, h3⟩)
            · rw [show k = i by omega] at h3; exact Or.inr h3⟩))
    )
  refine V_iconst (v := nI 0) dX0_noteOperands_0 (by decide) ?_
  refine V_istore_n dX0_noteOperands_1 rfl (Nat.le_of_ble_eq_true rfl) ?_
  exact lp 0 (Nat.zero_le _) mi (fun _ _ _ => rfl) (hN.congr (fun x => ⟨Or.inl, fun h => h.elim id (fun ⟨k, hk, _⟩ => absurd hk (Nat.not_lt_zero k))⟩))

theorem ctX0_countUnneededIn (hF : FlowL σ f) (hA : GA mi (f + 1) G) (hw : Wf G) (hQ : FA mi f G) {b : Nat} {Q : Nat → Prop} (hb : Rc G b) (hN : NI mi f Q) : Ct κ 0 0 2 mrX0_countUnneededIn [.ref f, .int (nI b)] (MM σ mi ml) (.inl (some (.int (nI (cnt (fun k => decide ((G.2.1 b).getD k 0 < 10) && !bp (Q (10 * b + k))) (G.2.1 b).length))))) (MM σ mi ml) := by
  refine Ct.of rfl (by simp [Value.category]) (Nat.le_of_ble_eq_true rfl) ?_
  have hb2 := hb.lt14 hw
  have h6 := (hw.2.2.1 b).1
  have lp : ∀ i, i ≤ (G.2.1 b).length → V κ (phi κ mrX0_countUnneededIn 2 0 0 (.inl (some (.int (nI (cnt (fun k => decide ((G.2.1 b).getD k 0 < 10) && !bp (Q (10 * b + k))) (G.2.1 b).length))))) (MM σ mi ml)) 0 0 4 [some (.ref f), some (.int (nI b)), some (.int (nI (cnt (fun k => decide ((G.2.1 b).getD k 0 < 10) && !bp (Q (10 * b + k))) i))), some (.int (nI i))] [] (MM σ mi ml) := loop_up _ (fun i hi ih => by
    refine V_iload_n dX0_countUnneededIn_4 rfl rfl ?_
    refine V_aload_n dX0_countUnneededIn_5 rfl rfl ?_
    refine V_getR frX0_12 hF.1 rfl dX0_countUnneededIn_6 ?_
    refine V_getR frX0_95 hF.2.1.1 rfl dX0_countUnneededIn_9 ?_
    refine V_iload_n dX0_countUnneededIn_12 rfl rfl ?_
    refine V_ialdE hF.2.1.2.1 b rfl (by omega) (by decide) ((hA.2 b hb2).1) dX0_countUnneededIn_13 ?_
    refine V_N_ge (by omega) (by omega) 54 dX0_countUnneededIn_14 (by decide) (fun h14 => ?_) (fun h14 => ?_)
    · refine V_iload_n dX0_countUnneededIn_54 rfl rfl ?_
      exact V_iret rfl (oI (by rw [show i = (G.2.1 b).length by omega])) rfl ⟨Nat.le_of_ble_eq_true rfl, Nat.le_of_ble_eq_true rfl⟩ dX0_countUnneededIn_55
    · have h14b := act14 hw h14
      refine V_aload_n dX0_countUnneededIn_17 rfl rfl ?_
      refine V_getR frX0_12 hF.1 rfl dX0_countUnneededIn_18 ?_
      refine V_iload_n dX0_countUnneededIn_21 rfl rfl ?_
      refine V_iload_n dX0_countUnneededIn_22 rfl rfl ?_
      refine V_cv1 (ctX1_actionAt hF.2.1 hb2 (by omega)) mvX1_actionAt lkX0_121 hF.2.1.1 rfl rfl rfl (Nat.le_of_ble_eq_true rfl) ⟨⟨Nat.le_of_ble_eq_true rfl, Nat.le_of_ble_eq_true rfl⟩, Nat.le_of_ble_eq_true rfl, Nat.le_of_ble_eq_true rfl⟩ dX0_countUnneededIn_23 ?_
      refine V_top ((hA.2 b hb2).2.2.1 i h14) ?_
      refine V_csn1 (ctX5_isUse (by omega)) msX5_isUse lnX0_146 rfl rfl (Nat.le_of_ble_eq_true rfl) ⟨⟨Nat.le_of_ble_eq_true rfl, Nat.le_of_ble_eq_true rfl⟩, Nat.le_of_ble_eq_true rfl, Nat.le_of_ble_eq_true rfl⟩ dX0_countUnneededIn_26 ?_
      refine V_ifneB 48 dX0_countUnneededIn_29 (by decide) (fun h29 => ?_) (fun h29 => ?_)
      · refine V_iinc1 dX0_countUnneededIn_48 rfl (Nat.le_of_ble_eq_true rfl) ?_
        refine V_goto 4 dX0_countUnneededIn_51 (by decide) ?_
        exact V.cL (ih h14) (by rw [cnt_f (P := fun k => decide ((G.2.1 b).getD k 0 < 10) && !bp (Q (10 * b + k))) (by show (_ && _) = false; rw [decide_eq_false (by have := of_decide_eq_true h29; omega)]; rfl)]; rfl)
      · refine V_aload_n dX0_countUnneededIn_32 rfl rfl ?_
        refine V_getR frX0_53 hF.1 rfl dX0_countUnneededIn_33 ?_
        refine V_iload_n dX0_countUnneededIn_36 rfl rfl ?_
        refine V_ialdE hF.2.2.2.2.2.2.2.2.2.2.2.2 b rfl (by omega) (by decide) (hN b hb2) dX0_countUnneededIn_37 ?_
        have hh := hasB_msk (fun j => decide (j < 10) && bp (Q (10 * b + j))) (k := i) (by omega)
        refine V_iload_n dX0_countUnneededIn_38 rfl rfl ?_
        refine V_ishr dX0_countUnneededIn_39 ?_
        refine V_iconst (v := nI 1) dX0_countUnneededIn_40 (by decide) ?_
        refine V_iand dX0_countUnneededIn_41 ?_
        refine V_if_ne 48 dX0_countUnneededIn_42 (by decide) (fun h42 => ?_) (fun h42 => ?_)
        · refine V_iinc1 dX0_countUnneededIn_48 rfl (Nat.le_of_ble_eq_true rfl) ?_
          refine V_goto 4 dX0_countUnneededIn_51 (by decide) ?_
          exact V.cL (ih h14) (by rw [cnt_f (P := fun k => decide ((G.2.1 b).getD k 0 < 10) && !bp (Q (10 * b + k))) (by 
            have h1 : (decide (i < 10) && bp (Q (10 * b + i))) = true := hh.symm.trans (decide_eq_true h42)
            rw [Bool.and_eq_true] at h1
            show (_ && _) = false; rw [h1.2]; exact Bool.and_false _)]; rfl)
        · refine V_iinc1 dX0_countUnneededIn_45 rfl (Nat.le_of_ble_eq_true rfl) ?_
          refine V_iinc1 dX0_countUnneededIn_48 rfl (Nat.le_of_ble_eq_true rfl) ?_
          refine V_goto 4 dX0_countUnneededIn_51 (by decide) ?_
          exact V.cL (ih h14) (by rw [← cnt_t (P := fun k => decide ((G.2.1 b).getD k 0 < 10) && !bp (Q (10 * b + k))) (by 
            have h1 : (decide (i < 10) && bp (Q (10 * b + i))) = false := hh.symm.trans (decide_eq_false (fun q => q h42))
            rw [decide_eq_true (by omega : i < 10), Bool.true_and] at h1
            show (_ && _) = true; rw [h1, decide_eq_true (by have := of_decide_eq_false h29; omega)]; rfl)]; rfl)
    )
  refine V_iconst (v := nI 0) dX0_countUnneededIn_0 (by decide) ?_
  refine V_istore_n dX0_countUnneededIn_1 rfl (Nat.le_of_ble_eq_true rfl) ?_
  refine V_iconst (v := nI 0) dX0_countUnneededIn_2 (by decide) ?_
  refine V_istore_n dX0_countUnneededIn_3 rfl (Nat.le_of_ble_eq_true rfl) ?_
  exact lp 0 (Nat.zero_le _)

/-- some use or some operand has the source x -/
def Need (G : Gr) (x : Nat) : Prop := ∃ b, Rc G b ∧ ((∃ k, k < (G.2.1 b).length ∧ 10 ≤ (G.2.1 b).getD k 0 ∧ x = srcU G b k) ∨ ∃ v, v < 4 ∧ (∃ y, Ed G b y ∧ PM G v y) ∧ x = srcE G v b)
noncomputable def unB (G : Gr) (b : Nat) : Nat := cnt (fun k => decide ((G.2.1 b).getD k 0 < 10) && !bp (Need G (10 * b + k))) (G.2.1 b).length
noncomputable def unN (G : Gr) : Nat := sm (fun b => if bp (Rc G b) = true then unB G b else 0) 14
theorem ctX0_countUnneeded (hF : FlowL σ f) (hA : GA mi (f + 1) G) (hw : Wf G) (hQ : FA mi f G) : CtP κ 0 0 5 mrX0_countUnneeded [.ref f] (MM σ mi ml) (fun o μ' => ∃ x, o = .inl (some (.int x)) ∧ x = nI (unN G) ∧ ∃ m', μ' = MM σ m' ml ∧ of16 mi m' f) := by
  refine CtP.of rfl (by simp [Value.category]) (Nat.le_of_ble_eq_true rfl) ?_
  have lp3 : ∀ i, i ≤ 14 → ∀ m, of16 mi m f → NI m f (Need G) → V κ (phiP κ mrX0_countUnneeded 5 0 0 (fun o μ' => ∃ x, o = .inl (some (.int x)) ∧ x = nI (unN G) ∧ ∃ m', μ' = MM σ m' ml ∧ of16 mi m' f)) 0 0 60 [some (.ref f), some (.int (nI (sm (fun b => if bp (Rc G b) = true then unB G b else 0) i))), some (.int (nI i))] [] (MM σ m ml) := loop_up _ (fun i hi ih m ho hM => by
    have hA' := GA_16 hA ho
    have hQ' := FA_16 hQ ho
    refine V_iload_n dX0_countUnneeded_60 rfl rfl ?_
    refine V_bipush (v := nI 14) dX0_countUnneeded_61 (by decide) ?_
    refine V_N_ge (by omega) (by omega) 91 dX0_countUnneeded_63 (by decide) (fun h63 => ?_) (fun h63 => ?_)
    · refine V_iload_n dX0_countUnneeded_91 rfl rfl ?_
      exact V_iretP rfl ⟨_, rfl, by unfold unN; rw [show i = 14 by omega], m, rfl, ho⟩ ⟨Nat.le_of_ble_eq_true rfl, Nat.le_of_ble_eq_true rfl⟩ dX0_countUnneeded_92
    · refine V_aload_n dX0_countUnneeded_66 rfl rfl ?_
      refine V_getE frX0_18 hF.1 rfl hQ'.1.2.1 dX0_countUnneeded_67 ?_
      refine V_iload_n dX0_countUnneeded_70 rfl rfl ?_
      refine V_csn1 (ctX5_hasM (by omega)) msX5_has lnX0_85 rfl rfl (Nat.le_of_ble_eq_true rfl) ⟨⟨Nat.le_of_ble_eq_true rfl, Nat.le_of_ble_eq_true rfl⟩, Nat.le_of_ble_eq_true rfl, Nat.le_of_ble_eq_true rfl⟩ dX0_countUnneeded_71 ?_
      refine V_ifeqB 85 dX0_countUnneeded_74 (by decide) (fun h74 => ?_) (fun h74 => ?_)
      · refine V_iinc1 dX0_countUnneeded_85 rfl (Nat.le_of_ble_eq_true rfl) ?_
        refine V_goto 60 dX0_countUnneeded_88 (by decide) ?_
        exact V.cL (ih h63 m ho hM) (by rw [sm, if_neg (by rw [h74]; decide)]; rfl)
      · refine V_iload_n dX0_countUnneeded_77 rfl rfl ?_
        refine V_aload_n dX0_countUnneeded_78 rfl rfl ?_
        refine V_iload_n dX0_countUnneeded_79 rfl rfl ?_
        refine V_cv1 (ctX0_countUnneededIn hF hA' hw hQ' (bp_t.mp h74) hM) mvX0_countUnneededIn lkX0_143 hF.1 rfl rfl rfl (Nat.le_of_ble_eq_true rfl) ⟨⟨Nat.le_of_ble_eq_true rfl, Nat.le_of_ble_eq_true rfl⟩, Nat.le_of_ble_eq_true rfl, Nat.le_of_ble_eq_true rfl⟩ dX0_countUnneeded_80 ?_
        refine V_iadd dX0_countUnneeded_83 ?_
        refine V_top (nI_add _ _) ?_
        refine V_istore_n dX0_countUnneeded_84 rfl (Nat.le_of_ble_eq_true rfl) ?_
        refine V_iinc1 dX0_countUnneeded_85 rfl (Nat.le_of_ble_eq_true rfl) ?_
        refine V_goto 60 dX0_countUnneeded_88 (by decide) ?_
        exact V.cL (ih h63 m ho hM) (by rw [sm, if_pos h74]; rfl)
    )
  have lp2 : ∀ i, i ≤ 14 → ∀ m o2, of16 mi m f → NI m f (fun x => ∃ b, b < i ∧ Rc G b ∧ ((∃ k, k < (G.2.1 b).length ∧ 10 ≤ (G.2.1 b).getD k 0 ∧ x = srcU G b k) ∨ ∃ v, v < 4 ∧ (∃ y, Ed G b y ∧ PM G v y) ∧ x = srcE G v b)) → V κ (phiP κ mrX0_countUnneeded 5 0 0 (fun o μ' => ∃ x, o = .inl (some (.int x)) ∧ x = nI (unN G) ∧ ∃ m', μ' = MM σ m' ml ∧ of16 mi m' f)) 0 0 23 [some (.ref f), some (.int (nI i)), o2] [] (MM σ m ml) := loop_up _ (fun i hi ih m o2 ho hM => by
    have hA' := GA_16 hA ho
    have hQ' := FA_16 hQ ho
    refine V_iload_n dX0_countUnneeded_23 rfl rfl ?_
    refine V_bipush (v := nI 14) dX0_countUnneeded_24 (by decide) ?_
    refine V_N_ge (by omega) (by omega) 56 dX0_countUnneeded_26 (by decide) (fun h26 => ?_) (fun h26 => ?_)
    · refine V_iconst (v := nI 0) dX0_countUnneeded_56 (by decide) ?_
      refine V_istore_n dX0_countUnneeded_57 rfl (Nat.le_of_ble_eq_true rfl) ?_
      refine V_iconst (v := nI 0) dX0_countUnneeded_58 (by decide) ?_
      refine V_istore_n dX0_countUnneeded_59 rfl (Nat.le_of_ble_eq_true rfl) ?_
      exact lp3 0 (Nat.zero_le _) m ho (hM.congr (fun x => ⟨fun ⟨b, _, h⟩ => ⟨b, h⟩, fun ⟨b, h⟩ => ⟨b, by have := h.1.lt14 hw; omega, h⟩⟩))
    · refine V_aload_n dX0_countUnneeded_29 rfl rfl ?_
      refine V_getE frX0_18 hF.1 rfl hQ'.1.2.1 dX0_countUnneeded_30 ?_
      refine V_iload_n dX0_countUnneeded_33 rfl rfl ?_
      refine V_csn1 (ctX5_hasM (by omega)) msX5_has lnX0_85 rfl rfl (Nat.le_of_ble_eq_true rfl) ⟨⟨Nat.le_of_ble_eq_true rfl, Nat.le_of_ble_eq_true rfl⟩, Nat.le_of_ble_eq_true rfl, Nat.le_of_ble_eq_true rfl⟩ dX0_countUnneeded_34 ?_
      refine V_ifeqB 50 dX0_countUnneeded_37 (by decide) (fun h37 => ?_) (fun h37 => ?_)
      · refine V_iinc1 dX0_countUnneeded_50 rfl (Nat.le_of_ble_eq_true rfl) ?_
        refine V_goto 23 dX0_countUnneeded_53 (by decide) ?_
        exact ih h26 m _ ho (hM.congr (fun x => ⟨fun ⟨b, h1, h⟩ => ⟨b, by omega, h⟩, fun ⟨b, h1, h⟩ => ⟨b, by
          rcases Nat.lt_or_ge b i with q | q
          · exact q
          · rw [show b = i by omega] at h; exact absurd h.1 (bp_f.mp h37), h⟩⟩))
      · refine V_aload_n dX0_countUnneeded_40 rfl rfl ?_
        refine V_iload_n dX0_countUnneeded_41 rfl rfl ?_
        refine V_cp0 (ctX0_noteUses hF hA' hw hQ' (bp_t.mp h37) hM) mvX0_noteUses lkX0_136 hF.1 rfl rfl rfl (Nat.le_of_ble_eq_true rfl) ⟨⟨Nat.le_of_ble_eq_true rfl, Nat.le_of_ble_eq_true rfl⟩, Nat.le_of_ble_eq_true rfl, Nat.le_of_ble_eq_true rfl⟩ dX0_countUnneeded_42 (fun μ1 hx => ?_)
        obtain ⟨m1, rfl, ho1, hM1⟩ := hx
        refine V_aload_n dX0_countUnneeded_45 rfl rfl ?_
        refine V_iload_n dX0_countUnneeded_46 rfl rfl ?_
        refine V_cp0 (ctX0_noteOperands hF (GA_16 hA' ho1) hw (FA_16 hQ' ho1) (bp_t.mp h37) hM1) mvX0_noteOperands lkX0_140 hF.1 rfl rfl rfl (Nat.le_of_ble_eq_true rfl) ⟨⟨Nat.le_of_ble_eq_true rfl, Nat.le_of_ble_eq_true rfl⟩, Nat.le_of_ble_eq_true rfl, Nat.le_of_ble_eq_true rfl⟩ dX0_countUnneeded_47 (fun μ2 hx => ?_)
        obtain ⟨m2, rfl, ho2, hM2⟩ := hx
        refine V_iinc1 dX0_countUnneeded_50 rfl (Nat.le_of_ble_eq_true rfl) ?_
        refine V_goto 23 dX0_countUnneeded_53 (by decide) ?_
        exact ih h26 m2 _ (fun a j h => ((ho2 a j h).trans (ho1 a j h)).trans (ho a j h)) (hM2.congr (fun x => ⟨fun h => by
          rcases h with (⟨b, h1, h⟩ | h) | h
          · exact ⟨b, by omega, h⟩
          · exact ⟨i, by omega, bp_t.mp h37, Or.inl h⟩
          · exact ⟨i, by omega, bp_t.mp h37, Or.inr h⟩, fun ⟨b, h1, h2, h⟩ => by
          rcases Nat.lt_or_ge b i with q | q
          · exact Or.inl (Or.inl ⟨b, q, h2, h⟩)
          · rw [show b = i by omega] at h
            rcases h with h | h
            · exact Or.inl (Or.inr h)
            · exact Or.inr h⟩))
    )
  have lp1 : ∀ i, i ≤ 14 → ∀ m o2, of16 mi m f → (∀ b, b < i → m (f + 16) b = nI 0) → V κ (phiP κ mrX0_countUnneeded 5 0 0 (fun o μ' => ∃ x, o = .inl (some (.int x)) ∧ x = nI (unN G) ∧ ∃ m', μ' = MM σ m' ml ∧ of16 mi m' f)) 0 0 2 [some (.ref f), some (.int (nI i)), o2] [] (MM σ m ml) := loop_up _ (fun i hi ih m o2 ho hM => by
    refine V_iload_n dX0_countUnneeded_2 rfl rfl ?_
    refine V_bipush (v := nI 14) dX0_countUnneeded_3 (by decide) ?_
    refine V_N_ge (by omega) (by omega) 21 dX0_countUnneeded_5 (by decide) (fun h5 => ?_) (fun h5 => ?_)
    · refine V_iconst (v := nI 0) dX0_countUnneeded_21 (by decide) ?_
      refine V_istore_n dX0_countUnneeded_22 rfl (Nat.le_of_ble_eq_true rfl) ?_
      exact lp2 0 (Nat.zero_le _) m _ ho (fun b hb => (hM b (by omega)).trans (msk_eq0.mpr (fun j _ => by
        rw [bp_neg (fun ⟨b, h, _⟩ => absurd h (Nat.not_lt_zero b)), Bool.and_false])).symm)
    · refine V_aload_n dX0_countUnneeded_8 rfl rfl ?_
      refine V_getR frX0_53 hF.1 rfl dX0_countUnneeded_9 ?_
      refine V_iload_n dX0_countUnneeded_12 rfl rfl ?_
      refine V_iconst (v := nI 0) dX0_countUnneeded_13 (by decide) ?_
      refine V_iastN hF.2.2.2.2.2.2.2.2.2.2.2.2 i rfl (by omega) (by decide) dX0_countUnneeded_14 ?_
      refine V_iinc1 dX0_countUnneeded_15 rfl (Nat.le_of_ble_eq_true rfl) ?_
      refine V_goto 2 dX0_countUnneeded_18 (by decide) ?_
      exact ih h5 _ _ (fun a j h => (u2_n _ _ (Or.inl h)).trans (ho a j h)) (fun b hb => by
        by_cases e : b = i
        · subst e; exact u2_s _ _ _ _
        · exact (u2_n _ _ (Or.inr e)).trans (hM b (by omega)))
    )
  refine V_iconst (v := nI 0) dX0_countUnneeded_0 (by decide) ?_
  refine V_istore_n dX0_countUnneeded_1 rfl (Nat.le_of_ble_eq_true rfl) ?_
  exact lp1 0 (Nat.zero_le _) mi _ (fun _ _ _ => rfl) (fun b hb => absurd hb (Nat.not_lt_zero b))

end Flow5
