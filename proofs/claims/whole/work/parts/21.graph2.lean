/-! SsaRepair.Graph's further methods -/
/-- the last of the first e places that holds v -/
def ldef (l : List Nat) (v : Nat) : Nat → Option Nat
  | 0 => none
  | e + 1 => if l.getD e 0 = v then some e else ldef l v e
def ldI (b : Nat) (o : Option Nat) : Int32 := match o with
  | some k => nI (10 * b + k)
  | none => -1
/-- a use of v comes ahead of every definition of it -/
def ufst : List Nat → Nat → Bool
  | [], _ => false
  | a :: l, v => if a = v then false else if a = 10 + v then true else ufst l v
def slLn (l : Nat) : Nat → Option Value := fun k => match k with
  | 0 => some (.ref (l + 1))
  | 3 => some (.ref (l + 2))
  | 5 => some (.ref (l + 3))
  | _ => none
def LineL (σ : Nat → Option Kd) (l : Nat) : Prop := σ l = some (.inr (3, 7, slLn l)) ∧ σ (l + 1) = chrs 30 ∧ σ (l + 2) = ints 6 ∧ σ (l + 3) = ints 3
/-- what the line's reading left: the block, its actions, its targets -/
def LnA (mi : Nat → Nat → Int32) (l b : Nat) (la le : List Nat) : Prop := mi l 2 = nI b ∧ mi l 4 = nI la.length ∧ mi l 6 = nI le.length ∧ (∀ k, k < la.length → mi (l + 2) k = nI (la.getD k 0)) ∧ ∀ k, k < le.length → mi (l + 3) k = nI (le.getD k 0)
theorem ufst_drop : ∀ (l : List Nat) (v i : Nat), i < l.length → ufst (l.drop i) v = if l.getD i 0 = v then false else if l.getD i 0 = 10 + v then true else ufst (l.drop (i + 1)) v
  | [], v, i, h => by simp at h
  | a :: l, v, 0, h => by simp [ufst]
  | a :: l, v, i + 1, h => by
    have := ufst_drop l v i (by simpa using h)
    simpa using this
theorem dec1 (x : Int32) : x + Int32.ofInt (-1) = x - nI 1 := by rw [Int32.sub_eq_add_neg]; rfl
section Graph2
variable {κ : K0} {σ : Nat → Option Kd} {mi : Nat → Nat → Int32} {ml : Nat → Nat → Int64} {g g2 l : Nat} {G : Gr}
theorem ctX1_definitionBefore (hG : GraphL σ g) (hA : GA mi g G) (hw : Wf G) {b v e : Nat} (hb : b < 14) (hv : v < 14) (he : e ≤ (G.2.1 b).length) : Ct κ 0 0 2 mrX1_definitionBefore [.ref g, .int (nI b), .int (nI v), .int (nI e)] (MM σ mi ml) (.inl (some (.int (ldI b (ldef (G.2.1 b) v e))))) (MM σ mi ml) := by
  refine Ct.of rfl (by simp [Value.category]) (Nat.le_of_ble_eq_true rfl) ?_
  have h6 := (hw.2.2.1 b).1
  have hal : ∀ j, j < (G.2.1 b).length → (G.2.1 b).getD j 0 < 14 := fun j hj => by
    have h1 := (hw.2.2.1 b).2 ((G.2.1 b).getD j 0) (by rw [List.getD_eq_getElem?_getD, List.getElem?_eq_getElem hj]; exact List.getElem_mem hj)
    omega
  have lp : ∀ i, i ≤ e → ldef (G.2.1 b) v e = ldef (G.2.1 b) v i → V κ (phi κ mrX1_definitionBefore 2 0 0 (.inl (some (.int (ldI b (ldef (G.2.1 b) v e))))) (MM σ mi ml)) 0 0 5 [some (.ref g), some (.int (nI b)), some (.int (nI v)), some (.int (nI e)), some (.int (nI i - nI 1))] [] (MM σ mi ml) := by
    intro i
    induction i with
    | zero =>
      intro _ h0
      refine V_iload dX1_definitionBefore_5 rfl ?_
      refine V_if_lt 35 dX1_definitionBefore_7 (by decide) (fun h7 => ?_) (fun h7 => absurd (by decide) h7)
      refine V_iconst (v := (-1)) dX1_definitionBefore_35 (by decide) ?_
      exact V_iret rfl (oI (by rw [h0]; rfl)) rfl ⟨Nat.le_of_ble_eq_true rfl, Nat.le_of_ble_eq_true rfl⟩ dX1_definitionBefore_36

    | succ i ih =>
      intro hi h0
      rw [show nI (i + 1) - nI 1 = nI i from nI_pred i]
      refine V_iload dX1_definitionBefore_5 rfl ?_
      refine V_if_lt 35 dX1_definitionBefore_7 (by decide) (fun h7 => absurd h7 (nI_pos (by omega))) (fun h7 => ?_)
      refine V_aload_n dX1_definitionBefore_10 rfl rfl ?_
      refine V_iload_n dX1_definitionBefore_11 rfl rfl ?_
      refine V_iload dX1_definitionBefore_12 rfl ?_
      refine V_cv1 (ctX1_actionAt hG hb (by omega)) mvX1_actionAt lkX1_46 hG.1 rfl rfl rfl (Nat.le_of_ble_eq_true rfl) ⟨⟨Nat.le_of_ble_eq_true rfl, Nat.le_of_ble_eq_true rfl⟩, Nat.le_of_ble_eq_true rfl, Nat.le_of_ble_eq_true rfl⟩ dX1_definitionBefore_14 ?_
      refine V_top ((hA.2 b hb).2.2.1 i (by omega)) ?_
      refine V_iload_n dX1_definitionBefore_17 rfl rfl ?_
      refine V_N_ne (by have := hal i (by omega); omega) (by omega) 29 dX1_definitionBefore_18 (by decide) (fun h18 => ?_) (fun h18 => ?_)
      · refine V_iinc (v := nI i - nI 1) dX1_definitionBefore_29 rfl (dec1 _) (Nat.le_of_ble_eq_true rfl) ?_
        refine V_goto 5 dX1_definitionBefore_32 (by decide) ?_
        exact ih (by omega) (by rw [h0, ldef, if_neg h18])
      · refine V_bipush (v := nI 10) dX1_definitionBefore_21 (by decide) ?_
        refine V_iload_n dX1_definitionBefore_23 rfl rfl ?_
        refine V_imul dX1_definitionBefore_24 ?_
        refine V_iload dX1_definitionBefore_25 rfl ?_
        refine V_iadd dX1_definitionBefore_27 ?_
        refine V_top (show nI 10 * nI b + nI i = nI (10 * b + i) by rw [pk_mul, nI_add]) ?_
        exact V_iret rfl (oI (by rw [h0, ldef, if_pos h18]; rfl)) rfl ⟨Nat.le_of_ble_eq_true rfl, Nat.le_of_ble_eq_true rfl⟩ dX1_definitionBefore_28

  refine V_iload_n dX1_definitionBefore_0 rfl rfl ?_
  refine V_iconst (v := nI 1) dX1_definitionBefore_1 (by decide) ?_
  refine V_isub dX1_definitionBefore_2 ?_
  refine V_istore dX1_definitionBefore_3 (Nat.le_of_ble_eq_true rfl) ?_
  exact lp e (Nat.le_refl e) rfl

theorem ctX1_usesFirst (hG : GraphL σ g) (hA : GA mi g G) (hw : Wf G) {b v : Nat} (hb : b < 14) (hv : v < 4) : Ct κ 0 0 2 mrX1_usesFirst [.ref g, .int (nI b), .int (nI v)] (MM σ mi ml) (.inl (some (.int (bI (ufst (G.2.1 b) v))))) (MM σ mi ml) := by
  refine Ct.of rfl (by simp [Value.category]) (Nat.le_of_ble_eq_true rfl) ?_
  have h6 := (hw.2.2.1 b).1
  have hal : ∀ j, j < (G.2.1 b).length → (G.2.1 b).getD j 0 < 14 := fun j hj => by
    have h1 := (hw.2.2.1 b).2 ((G.2.1 b).getD j 0) (by rw [List.getD_eq_getElem?_getD, List.getElem?_eq_getElem hj]; exact List.getElem_mem hj)
    omega
  have lp : ∀ i, i ≤ (G.2.1 b).length → ∀ o4, ufst (G.2.1 b) v = ufst ((G.2.1 b).drop i) v → V κ (phi κ mrX1_usesFirst 2 0 0 (.inl (some (.int (bI (ufst (G.2.1 b) v))))) (MM σ mi ml)) 0 0 2 [some (.ref g), some (.int (nI b)), some (.int (nI v)), some (.int (nI i)), o4] [] (MM σ mi ml) := loop_up _ (fun i hi ih o4 h0 => by
    refine V_iload_n dX1_usesFirst_2 rfl rfl ?_
    refine V_aload_n dX1_usesFirst_3 rfl rfl ?_
    refine V_getR frX1_15 hG.1 rfl dX1_usesFirst_4 ?_
    refine V_iload_n dX1_usesFirst_7 rfl rfl ?_
    refine V_ialdE hG.2.1 b rfl (by omega) (by decide) (hA.2 b hb).1 dX1_usesFirst_8 ?_
    refine V_N_ge (by omega) (by omega) 45 dX1_usesFirst_9 (by decide) (fun h9 => ?_) (fun h9 => ?_)
    · refine V_iconst (v := nI 0) dX1_usesFirst_45 (by decide) ?_
      exact V_zret rfl rfl (oI (by rw [h0, show i = (G.2.1 b).length by omega, List.drop_length]; rfl)) rfl ⟨Nat.le_of_ble_eq_true rfl, Nat.le_of_ble_eq_true rfl⟩ dX1_usesFirst_46
    · have hd := ufst_drop _ v i h9
      refine V_aload_n dX1_usesFirst_12 rfl rfl ?_
      refine V_iload_n dX1_usesFirst_13 rfl rfl ?_
      refine V_iload_n dX1_usesFirst_14 rfl rfl ?_
      refine V_cv1 (ctX1_actionAt hG hb (by omega)) mvX1_actionAt lkX1_46 hG.1 rfl rfl rfl (Nat.le_of_ble_eq_true rfl) ⟨⟨Nat.le_of_ble_eq_true rfl, Nat.le_of_ble_eq_true rfl⟩, Nat.le_of_ble_eq_true rfl, Nat.le_of_ble_eq_true rfl⟩ dX1_usesFirst_15 ?_
      refine V_top ((hA.2 b hb).2.2.1 i h9) ?_
      refine V_istore dX1_usesFirst_18 (Nat.le_of_ble_eq_true rfl) ?_
      refine V_iload dX1_usesFirst_20 rfl ?_
      refine V_iload_n dX1_usesFirst_22 rfl rfl ?_
      refine V_N_ne (by have := hal i h9; omega) (by omega) 28 dX1_usesFirst_23 (by decide) (fun h23 => ?_) (fun h23 => ?_)
      · refine V_iload dX1_usesFirst_28 rfl ?_
        refine V_bipush (v := nI 10) dX1_usesFirst_30 (by decide) ?_
        refine V_iload_n dX1_usesFirst_32 rfl rfl ?_
        refine V_iadd dX1_usesFirst_33 ?_
        refine V_top (nI_add 10 v) ?_
        refine V_N_ne (by have := hal i h9; omega) (by omega) 39 dX1_usesFirst_34 (by decide) (fun h34 => ?_) (fun h34 => ?_)
        · refine V_iinc1 dX1_usesFirst_39 rfl (Nat.le_of_ble_eq_true rfl) ?_
          refine V_goto 2 dX1_usesFirst_42 (by decide) ?_
          exact ih h9 _ (by rw [h0, hd, if_neg h23, if_neg h34])
        · refine V_iconst (v := nI 1) dX1_usesFirst_37 (by decide) ?_
          exact V_zret rfl rfl (oI (by rw [h0, hd, if_neg h23, if_pos h34]; rfl)) rfl ⟨Nat.le_of_ble_eq_true rfl, Nat.le_of_ble_eq_true rfl⟩ dX1_usesFirst_38
      · refine V_iconst (v := nI 0) dX1_usesFirst_26 (by decide) ?_
        exact V_zret rfl rfl (oI (by rw [h0, hd, if_pos h23]; rfl)) rfl ⟨Nat.le_of_ble_eq_true rfl, Nat.le_of_ble_eq_true rfl⟩ dX1_usesFirst_27
    )
  refine V_iconst (v := nI 0) dX1_usesFirst_0 (by decide) ?_
  refine V_istore_n dX1_usesFirst_1 rfl (Nat.le_of_ble_eq_true rfl) ?_
  exact lp 0 (Nat.zero_le _) _ rfl

def mkE (f : Nat → Nat → Int32) (g : Nat) (n : Int32) (i : Nat) : Nat → Nat → Int32 := fun a j => if a = g ∧ j = 0 then n else if (a = g + 1 ∨ a = g + 2) ∧ j < i then nI 0 else f a j
theorem mkE_s (f : Nat → Nat → Int32) (g : Nat) (n : Int32) (i : Nat) : u2 (u2 (mkE f g n i) (g + 1) i (nI 0)) (g + 2) i (nI 0) = mkE f g n (i + 1) := by
  funext a j
  unfold mkE u2
  dsimp only
  by_cases h1 : a = g + 1
  · subst h1
    by_cases h2 : j = i
    · subst h2; simp
    · have h3 : (j < i + 1) = (j < i) := by apply propext; omega
      simp [h2, h3]
  · by_cases h1' : a = g + 2
    · subst h1'
      by_cases h2 : j = i
      · subst h2; simp
      · have h3 : (j < i + 1) = (j < i) := by apply propext; omega
        simp [h2, h3]
    · simp [h1, h1']
theorem mkE_GA {n : Nat} : GA (mkE mi g (nI n) 14) g (n, fun _ => [], fun _ => []) := by
  refine ⟨by simp [mkE], fun b hb => ?_⟩
  simp [mkE, hb]
theorem mkE_off {n : Int32} {i : Nat} : offG mi (mkE mi g n i) g := fun a j h => by
  unfold mkE
  rw [if_neg (by omega), if_neg (by omega)]
theorem ctX1_makeEmpty (hG : GraphL σ g) {n : Int32} : Ct κ 0 0 2 mrX1_makeEmpty [.ref g, .int n] (MM σ mi ml) (.inl none) (MM σ (mkE mi g n 14) ml) := by
  refine Ct.of rfl (by simp [Value.category]) (Nat.le_of_ble_eq_true rfl) ?_
  have lp : ∀ i, i ≤ 14 → V κ (phi κ mrX1_makeEmpty 2 0 0 (.inl none) (MM σ (mkE mi g n 14) ml)) 0 0 7 [some (.ref g), some (.int n), some (.int (nI i))] [] (MM σ (mkE mi g n i) ml) := loop_up _ (fun i hi ih => by
    refine V_iload_n dX1_makeEmpty_7 rfl rfl ?_
    refine V_bipush (v := nI 14) dX1_makeEmpty_8 (by decide) ?_
    refine V_N_ge (by omega) (by omega) 24 dX1_makeEmpty_10 (by decide) (fun h10 => ?_) (fun h10 => ?_)
    · exact V_vret rfl rfl (by rw [show i = 14 by omega]) ⟨Nat.le_of_ble_eq_true rfl, Nat.le_of_ble_eq_true rfl⟩ dX1_makeEmpty_24
    · refine V_aload_n dX1_makeEmpty_13 rfl rfl ?_
      refine V_iload_n dX1_makeEmpty_14 rfl rfl ?_
      refine V_cv0 (ctX1_emptyBlock hG h10) mvX1_emptyBlock lkX1_28 hG.1 rfl rfl rfl (Nat.le_of_ble_eq_true rfl) ⟨⟨Nat.le_of_ble_eq_true rfl, Nat.le_of_ble_eq_true rfl⟩, Nat.le_of_ble_eq_true rfl, Nat.le_of_ble_eq_true rfl⟩ dX1_makeEmpty_15 ?_
      refine V_iinc1 dX1_makeEmpty_18 rfl (Nat.le_of_ble_eq_true rfl) ?_
      refine V_goto 7 dX1_makeEmpty_21 (by decide) ?_
      exact V.cM (ih h10) (by rw [mkE_s])
    )
  refine V_aload_n dX1_makeEmpty_0 rfl rfl ?_
  refine V_iload_n dX1_makeEmpty_1 rfl rfl ?_
  refine V_putI fpX1_9 rfl rfl hG.1 rfl dX1_makeEmpty_2 ?_
  refine V_iconst (v := nI 0) dX1_makeEmpty_5 (by decide) ?_
  refine V_istore_n dX1_makeEmpty_6 rfl (Nat.le_of_ble_eq_true rfl) ?_
  exact V.cM (lp 0 (Nat.zero_le _)) (by show MM σ (u2 mi g 0 n) ml = _; rw [show u2 mi g 0 n = mkE mi g n 0 from funext fun a => funext fun j => by unfold mkE u2; simp])

def bcm (f : Nat → Nat → Int32) (g h : Nat) : Nat → Nat → Int32 := fun a i => if a = g ∧ i = 0 then f h 0 else if a = g + 1 ∧ i < 14 then f (h + 1) i else if a = g + 2 ∧ i < 14 then f (h + 2) i else if a = g + 3 ∧ i < 84 then f (h + 3) i else if a = g + 4 ∧ i < 42 then f (h + 4) i else f a i
theorem bcm_off {h : Nat} : offG mi (bcm mi g h) g := fun a j q => by
  unfold bcm
  rw [if_neg (by omega), if_neg (by omega), if_neg (by omega), if_neg (by omega), if_neg (by omega)]
theorem bcm_GA {h : Nat} (hA : GA mi h G) (hw : Wf G) : GA (bcm mi g h) g G := by
  refine ⟨by simp [bcm]; exact hA.1, fun b hb => ?_⟩
  obtain ⟨h1, h2, h3, h4⟩ := hA.2 b hb
  have h6 := (hw.2.2.1 b).1
  have h7 := (hw.2.2.2.1 b).1
  refine ⟨by simp [bcm, hb]; exact h1, by simp [bcm, hb]; exact h2, fun k hk => ?_, fun k hk => ?_⟩
  · have : 6 * b + k < 84 := by omega
    simp [bcm, this]; exact h3 k hk
  · have : 3 * b + k < 42 := by omega
    simp [bcm, this]; exact h4 k hk
theorem cp0 (f h : Nat → Int32) (n : Nat) (hn : n < 2 ^ 31) : va_cpy f h (nI 0).toNatClampNeg (nI 0).toNatClampNeg (nI n).toNatClampNeg = fun i => if i < n then f i else h i := by
  funext i
  unfold va_cpy
  rw [nI_clamp (by decide), nI_clamp hn]
  simp
theorem ctX1_become (hG : GraphL σ g) (hG2 : GraphL σ g2) (hd : g + 5 ≤ g2 ∨ g2 + 5 ≤ g) : Ct κ 0 0 2 mrX1_become [.ref g, .ref g2] (MM σ mi ml) (.inl none) (MM σ (bcm mi g g2) ml) := by
  refine Ct.of rfl (by simp [Value.category]) (Nat.le_of_ble_eq_true rfl) ?_
  refine V_aload_n dX1_become_0 rfl rfl ?_
  refine V_aload_n dX1_become_1 rfl rfl ?_
  refine V_getI frX1_9 hG2.1 rfl dX1_become_2 ?_
  refine V_putI fpX1_9 rfl rfl hG.1 rfl dX1_become_5 ?_
  refine V_aload_n dX1_become_8 rfl rfl ?_
  refine V_getR frX1_15 hG2.1 rfl dX1_become_9 ?_
  refine V_iconst (v := nI 0) dX1_become_12 (by decide) ?_
  refine V_aload_n dX1_become_13 rfl rfl ?_
  refine V_getR frX1_15 hG.1 rfl dX1_become_14 ?_
  refine V_iconst (v := nI 0) dX1_become_17 (by decide) ?_
  refine V_bipush (v := nI 14) dX1_become_18 (by decide) ?_
  refine V_copyI cwX1_32 rfl hG2.2.1 hG.2.1 (by decide) (by decide) (by decide) (by decide) (by decide) (Nat.le_of_ble_eq_true rfl) (Nat.le_of_ble_eq_true rfl) dX1_become_20 ?_
  refine V_aload_n dX1_become_23 rfl rfl ?_
  refine V_getR frX1_19 hG2.1 rfl dX1_become_24 ?_
  refine V_iconst (v := nI 0) dX1_become_27 (by decide) ?_
  refine V_aload_n dX1_become_28 rfl rfl ?_
  refine V_getR frX1_19 hG.1 rfl dX1_become_29 ?_
  refine V_iconst (v := nI 0) dX1_become_32 (by decide) ?_
  refine V_bipush (v := nI 14) dX1_become_33 (by decide) ?_
  refine V_copyI cwX1_32 rfl hG2.2.2.1 hG.2.2.1 (by decide) (by decide) (by decide) (by decide) (by decide) (Nat.le_of_ble_eq_true rfl) (Nat.le_of_ble_eq_true rfl) dX1_become_35 ?_
  refine V_aload_n dX1_become_38 rfl rfl ?_
  refine V_getR frX1_22 hG2.1 rfl dX1_become_39 ?_
  refine V_iconst (v := nI 0) dX1_become_42 (by decide) ?_
  refine V_aload_n dX1_become_43 rfl rfl ?_
  refine V_getR frX1_22 hG.1 rfl dX1_become_44 ?_
  refine V_iconst (v := nI 0) dX1_become_47 (by decide) ?_
  refine V_bipush (v := nI 84) dX1_become_48 (by decide) ?_
  refine V_copyI cwX1_32 rfl hG2.2.2.2.1 hG.2.2.2.1 (by decide) (by decide) (by decide) (by decide) (by decide) (Nat.le_of_ble_eq_true rfl) (Nat.le_of_ble_eq_true rfl) dX1_become_50 ?_
  refine V_aload_n dX1_become_53 rfl rfl ?_
  refine V_getR frX1_25 hG2.1 rfl dX1_become_54 ?_
  refine V_iconst (v := nI 0) dX1_become_57 (by decide) ?_
  refine V_aload_n dX1_become_58 rfl rfl ?_
  refine V_getR frX1_25 hG.1 rfl dX1_become_59 ?_
  refine V_iconst (v := nI 0) dX1_become_62 (by decide) ?_
  refine V_bipush (v := nI 42) dX1_become_63 (by decide) ?_
  refine V_copyI cwX1_32 rfl hG2.2.2.2.2 hG.2.2.2.2 (by decide) (by decide) (by decide) (by decide) (by decide) (Nat.le_of_ble_eq_true rfl) (Nat.le_of_ble_eq_true rfl) dX1_become_65 ?_
  exact V_vret rfl rfl (by
    refine Prod.ext rfl (Prod.ext (funext fun a => funext fun i => ?_) rfl)
    show bcm mi g g2 a i = _
    simp only [cp0 _ _ 14 (by decide), cp0 _ _ 84 (by decide), cp0 _ _ 42 (by decide)]
    have e1 : ∀ k j, k < 5 → j < 5 → g2 + k ≠ g + j := fun k j _ _ => by omega
    have e2 : ∀ j, j < 5 → g2 ≠ g + j := fun j _ => by omega
    have e3 : ∀ k, k < 5 → g2 + k ≠ g := fun k _ => by omega
    have e4 : g2 ≠ g := by omega
    unfold bcm va_up u2
    by_cases h0 : a = g
    · subst h0; simp [e1, e2, e3, e4]
    · by_cases h1 : a = g + 1
      · subst h1; simp [e1, e2, e3, e4]
      · by_cases h2 : a = g + 2
        · subst h2; simp [e1, e2, e3, e4]
        · by_cases h3 : a = g + 3
          · subst h3; simp [e1, e2, e3, e4]
          · by_cases h4 : a = g + 4
            · subst h4; simp [e1, e2, e3, e4]
            · simp [h0, h1, h2, h3, h4]) ⟨Nat.le_of_ble_eq_true rfl, Nat.le_of_ble_eq_true rfl⟩ dX1_become_68

theorem take_getD {l : List Nat} {i : Nat} (h : i < l.length) : l.take (i + 1) = l.take i ++ [l.getD i 0] := by
  rw [List.take_succ, List.getElem?_eq_getElem h, List.getD_eq_getElem?_getD, List.getElem?_eq_getElem h]; rfl
theorem va_up_up {α : Type} (f : Nat → α) (k : Nat) (v w : α) : va_up (va_up f k v) k w = va_up f k w := by
  funext j; unfold va_up; by_cases h : j = k <;> simp [h]

/-- the memory behind the actions, behind the targets -/
def putAs (b : Nat) (g : Nat) : List Nat → Nat → (Nat → Nat → Int32) → (Nat → Nat → Int32)
  | [], _, m => m
  | x :: l, c, m => putAs b g l (c + 1) (u2 (u2 m (g + 3) (6 * b + c) (nI x)) (g + 1) b (nI (c + 1)))
def putEs (b : Nat) (g : Nat) : List Nat → Nat → (Nat → Nat → Int32) → (Nat → Nat → Int32)
  | [], _, m => m
  | x :: l, c, m => putEs b g l (c + 1) (u2 (u2 m (g + 4) (3 * b + c) (nI x)) (g + 2) b (nI (c + 1)))
theorem putAs_GA {b : Nat} (hb : b < 14) : ∀ (l : List Nat) (m : Nat → Nat → Int32) (G : Gr), GA m g G → (∀ b, (G.2.1 b).length ≤ 6) → (G.2.1 b).length + l.length ≤ 6 → GA (putAs b g l (G.2.1 b).length m) g (G.1, va_up G.2.1 b (G.2.1 b ++ l), G.2.2) ∧ offG m (putAs b g l (G.2.1 b).length m) g
  | [], m, G, hA, h6, hl => by
    rw [List.append_nil, show va_up G.2.1 b (G.2.1 b) = G.2.1 from funext fun j => by unfold va_up; by_cases h : j = b <;> simp [h]]
    exact ⟨hA, offG.rf⟩
  | x :: l, m, G, hA, h6, hl => by
    simp only [List.length_cons] at hl
    have hA1 := GA_putA (x := x) hA h6 hb (by omega)
    have hz : ((G.1, va_up G.2.1 b (G.2.1 b ++ [x]), G.2.2) : Gr).2.1 b = G.2.1 b ++ [x] := va_up_self _ _ _
    obtain ⟨h1, h2⟩ := putAs_GA hb l _ _ hA1 (fun c => by
      show (va_up G.2.1 b (G.2.1 b ++ [x]) c).length ≤ 6
      by_cases e : c = b
      · subst e; rw [va_up_self, List.length_append, List.length_cons, List.length_nil]; omega
      · rw [va_up_ne _ _ e]; exact h6 c) (by rw [hz, List.length_append, List.length_cons, List.length_nil]; omega)
    rw [hz] at h1 h2
    simp only [List.length_append, List.length_cons, List.length_nil, va_up_up, List.append_assoc, List.cons_append, List.nil_append] at h1 h2
    exact ⟨h1, ((offG.rf.u2 (by omega)).u2 (by omega)).tr h2⟩
theorem putEs_GA {b : Nat} (hb : b < 14) : ∀ (l : List Nat) (m : Nat → Nat → Int32) (G : Gr), GA m g G → (∀ b, (G.2.2 b).length ≤ 3) → (G.2.2 b).length + l.length ≤ 3 → GA (putEs b g l (G.2.2 b).length m) g (G.1, G.2.1, va_up G.2.2 b (G.2.2 b ++ l)) ∧ offG m (putEs b g l (G.2.2 b).length m) g
  | [], m, G, hA, h6, hl => by
    rw [List.append_nil, show va_up G.2.2 b (G.2.2 b) = G.2.2 from funext fun j => by unfold va_up; by_cases h : j = b <;> simp [h]]
    exact ⟨hA, offG.rf⟩
  | x :: l, m, G, hA, h6, hl => by
    simp only [List.length_cons] at hl
    have hA1 := GA_putE (x := x) hA h6 hb (by omega)
    have hz : ((G.1, G.2.1, va_up G.2.2 b (G.2.2 b ++ [x])) : Gr).2.2 b = G.2.2 b ++ [x] := va_up_self _ _ _
    obtain ⟨h1, h2⟩ := putEs_GA hb l _ _ hA1 (fun c => by
      show (va_up G.2.2 b (G.2.2 b ++ [x]) c).length ≤ 3
      by_cases e : c = b
      · subst e; rw [va_up_self, List.length_append, List.length_cons, List.length_nil]; omega
      · rw [va_up_ne _ _ e]; exact h6 c) (by rw [hz, List.length_append, List.length_cons, List.length_nil]; omega)
    rw [hz] at h1 h2
    simp only [List.length_append, List.length_cons, List.length_nil, va_up_up, List.append_assoc, List.cons_append, List.nil_append] at h1 h2
    exact ⟨h1, ((offG.rf.u2 (by omega)).u2 (by omega)).tr h2⟩
theorem putAs_cnt {b : Nat} : ∀ (l : List Nat) (c : Nat) (m : Nat → Nat → Int32), m (g + 1) b = nI c → putAs b g l c m (g + 1) b = nI (c + l.length)
  | [], c, m, h => h
  | x :: l, c, m, h => by
    rw [putAs, putAs_cnt l (c + 1) _ (u2_s _ _ _ _), List.length_cons]; congr 1; omega
theorem putAs_app {b : Nat} : ∀ (l : List Nat) (c x : Nat) (m : Nat → Nat → Int32), putAs b g (l ++ [x]) c m = u2 (u2 (putAs b g l c m) (g + 3) (6 * b + (c + l.length)) (nI x)) (g + 1) b (nI (c + l.length + 1))
  | [], c, x, m => rfl
  | y :: l, c, x, m => by
    rw [List.cons_append, putAs, putAs_app l, putAs, List.length_cons, show c + 1 + l.length = c + (l.length + 1) by omega]
theorem putEs_cnt {b : Nat} : ∀ (l : List Nat) (c : Nat) (m : Nat → Nat → Int32), m (g + 2) b = nI c → putEs b g l c m (g + 2) b = nI (c + l.length)
  | [], c, m, h => h
  | x :: l, c, m, h => by
    rw [putEs, putEs_cnt l (c + 1) _ (u2_s _ _ _ _), List.length_cons]; congr 1; omega
theorem putEs_app {b : Nat} : ∀ (l : List Nat) (c x : Nat) (m : Nat → Nat → Int32), putEs b g (l ++ [x]) c m = u2 (u2 (putEs b g l c m) (g + 4) (3 * b + (c + l.length)) (nI x)) (g + 2) b (nI (c + l.length + 1))
  | [], c, x, m => rfl
  | y :: l, c, x, m => by
    rw [List.cons_append, putEs, putEs_app l, putEs, List.length_cons, show c + 1 + l.length = c + (l.length + 1) by omega]
theorem putAs_off {b : Nat} : ∀ (l : List Nat) (c : Nat) (m : Nat → Nat → Int32) (a i : Nat), (a ≠ g + 3 ∧ a ≠ g + 1) → putAs b g l c m a i = m a i
  | [], c, m, a, i, h => rfl
  | x :: l, c, m, a, i, h => by
    rw [putAs, putAs_off l _ _ a i h, u2_n _ _ (Or.inl h.2), u2_n _ _ (Or.inl h.1)]
theorem putEs_off {b : Nat} : ∀ (l : List Nat) (c : Nat) (m : Nat → Nat → Int32) (a i : Nat), (a ≠ g + 4 ∧ a ≠ g + 2) → putEs b g l c m a i = m a i
  | [], c, m, a, i, h => rfl
  | x :: l, c, m, a, i, h => by
    rw [putEs, putEs_off l _ _ a i h, u2_n _ _ (Or.inl h.2), u2_n _ _ (Or.inl h.1)]
def emB (m : Nat → Nat → Int32) (g b : Nat) : Nat → Nat → Int32 := u2 (u2 m (g + 1) b (nI 0)) (g + 2) b (nI 0)
theorem emB_off {m : Nat → Nat → Int32} {b a i : Nat} (h : a ≠ g + 1 ∧ a ≠ g + 2) : emB m g b a i = m a i := by
  unfold emB; rw [u2_n _ _ (Or.inl h.2), u2_n _ _ (Or.inl h.1)]
theorem ctX1_replaceBlock (hG : GraphL σ g) (hL : LineL σ l) (hd : g + 5 ≤ l ∨ l + 4 ≤ g) {b : Nat} {la le : List Nat} (hb : b < 14) (hN : LnA mi l b la le) (h6 : la.length ≤ 6) (h3 : le.length ≤ 3) : Ct κ 0 0 2 mrX1_replaceBlock [.ref g, .ref l] (MM σ mi ml) (.inl none) (MM σ (putEs b g le 0 (putAs b g la 0 (emB mi g b))) ml) := by
  refine Ct.of rfl (by simp [Value.category]) (Nat.le_of_ble_eq_true rfl) ?_
  obtain ⟨n1, n2, n3, n4, n5⟩ := hN
  have lp2 : ∀ i, i ≤ le.length → V κ (phi κ mrX1_replaceBlock 2 0 0 (.inl none) (MM σ (putEs b g le 0 (putAs b g la 0 (emB mi g b))) ml)) 0 0 40 [some (.ref g), some (.ref l), some (.int (nI i))] [] (MM σ (putEs b g (le.take i) 0 (putAs b g la 0 (emB mi g b))) ml) := loop_up _ (fun i hi ih => by
    have off : ∀ a j, (a < g ∨ g + 5 ≤ a) → putEs b g (le.take i) 0 (putAs b g la 0 (emB mi g b)) a j = mi a j := fun a j h => by
      rw [putEs_off _ _ _ _ _ (by omega), putAs_off _ _ _ _ _ (by omega), emB_off (by omega)]
    have hcnt : putEs b g (le.take i) 0 (putAs b g la 0 (emB mi g b)) (g + 2) b = nI i := by
      rw [putEs_cnt _ _ _ (by rw [putAs_off _ _ _ _ _ (by omega)]; exact u2_s _ _ _ _), List.length_take]; congr 1; omega
    refine V_iload_n dX1_replaceBlock_40 rfl rfl ?_
    refine V_aload_n dX1_replaceBlock_41 rfl rfl ?_
    refine V_getE frX1_62 hL.1 rfl ((off l 6 (by omega)).trans n3) dX1_replaceBlock_42 ?_
    refine V_N_ge (by omega) (by omega) 68 dX1_replaceBlock_45 (by decide) (fun h45 => ?_) (fun h45 => ?_)
    · exact V_vret rfl rfl (by rw [show i = le.length by omega, List.take_length]) ⟨Nat.le_of_ble_eq_true rfl, Nat.le_of_ble_eq_true rfl⟩ dX1_replaceBlock_68
    · refine V_aload_n dX1_replaceBlock_48 rfl rfl ?_
      refine V_aload_n dX1_replaceBlock_49 rfl rfl ?_
      refine V_getE frX1_49 hL.1 rfl ((off l 2 (by omega)).trans n1) dX1_replaceBlock_50 ?_
      refine V_aload_n dX1_replaceBlock_53 rfl rfl ?_
      refine V_getR frX1_65 hL.1 rfl dX1_replaceBlock_54 ?_
      refine V_iload_n dX1_replaceBlock_57 rfl rfl ?_
      refine V_ialdE hL.2.2.2 i rfl (by omega) (by decide) ((off (l + 3) i (by omega)).trans (n5 i h45)) dX1_replaceBlock_58 ?_
      refine V_cv0 (ctX1_putEdge hG hb hcnt (by omega)) mvX1_putEdge lkX1_66 hG.1 rfl rfl rfl (Nat.le_of_ble_eq_true rfl) ⟨⟨Nat.le_of_ble_eq_true rfl, Nat.le_of_ble_eq_true rfl⟩, Nat.le_of_ble_eq_true rfl, Nat.le_of_ble_eq_true rfl⟩ dX1_replaceBlock_59 ?_
      refine V_iinc1 dX1_replaceBlock_62 rfl (Nat.le_of_ble_eq_true rfl) ?_
      refine V_goto 40 dX1_replaceBlock_65 (by decide) ?_
      refine V.cM (ih h45) ?_
      show MM σ (u2 (u2 _ _ _ _) _ _ _) ml = _
      rw [take_getD h45, putEs_app, List.length_take, Nat.min_eq_left (by omega), Nat.zero_add]
    )
  have lp1 : ∀ i, i ≤ la.length → V κ (phi κ mrX1_replaceBlock 2 0 0 (.inl none) (MM σ (putEs b g le 0 (putAs b g la 0 (emB mi g b))) ml)) 0 0 10 [some (.ref g), some (.ref l), some (.int (nI i))] [] (MM σ (putAs b g (la.take i) 0 (emB mi g b)) ml) := loop_up _ (fun i hi ih => by
    have off : ∀ a j, (a < g ∨ g + 5 ≤ a) → putAs b g (la.take i) 0 (emB mi g b) a j = mi a j := fun a j h => by
      rw [putAs_off _ _ _ _ _ (by omega), emB_off (by omega)]
    have hcnt : putAs b g (la.take i) 0 (emB mi g b) (g + 1) b = nI i := by
      rw [putAs_cnt _ _ _ (by show u2 _ _ _ _ _ _ = _; rw [u2_n _ _ (Or.inl (by omega))]; exact u2_s _ _ _ _), List.length_take]; congr 1; omega
    refine V_iload_n dX1_replaceBlock_10 rfl rfl ?_
    refine V_aload_n dX1_replaceBlock_11 rfl rfl ?_
    refine V_getE frX1_54 hL.1 rfl ((off l 4 (by omega)).trans n2) dX1_replaceBlock_12 ?_
    refine V_N_ge (by omega) (by omega) 38 dX1_replaceBlock_15 (by decide) (fun h15 => ?_) (fun h15 => ?_)
    · refine V_iconst (v := nI 0) dX1_replaceBlock_38 (by decide) ?_
      refine V_istore_n dX1_replaceBlock_39 rfl (Nat.le_of_ble_eq_true rfl) ?_
      exact V.cM (lp2 0 (Nat.zero_le _)) (by rw [show i = la.length by omega, List.take_length, List.take_zero]; rfl)
    · refine V_aload_n dX1_replaceBlock_18 rfl rfl ?_
      refine V_aload_n dX1_replaceBlock_19 rfl rfl ?_
      refine V_getE frX1_49 hL.1 rfl ((off l 2 (by omega)).trans n1) dX1_replaceBlock_20 ?_
      refine V_aload_n dX1_replaceBlock_23 rfl rfl ?_
      refine V_getR frX1_57 hL.1 rfl dX1_replaceBlock_24 ?_
      refine V_iload_n dX1_replaceBlock_27 rfl rfl ?_
      refine V_ialdE hL.2.2.1 i rfl (by omega) (by decide) ((off (l + 2) i (by omega)).trans (n4 i h15)) dX1_replaceBlock_28 ?_
      refine V_cv0 (ctX1_putAction hG hb hcnt (by omega)) mvX1_putAction lkX1_58 hG.1 rfl rfl rfl (Nat.le_of_ble_eq_true rfl) ⟨⟨Nat.le_of_ble_eq_true rfl, Nat.le_of_ble_eq_true rfl⟩, Nat.le_of_ble_eq_true rfl, Nat.le_of_ble_eq_true rfl⟩ dX1_replaceBlock_29 ?_
      refine V_iinc1 dX1_replaceBlock_32 rfl (Nat.le_of_ble_eq_true rfl) ?_
      refine V_goto 10 dX1_replaceBlock_35 (by decide) ?_
      refine V.cM (ih h15) ?_
      show MM σ (u2 (u2 _ _ _ _) _ _ _) ml = _
      rw [take_getD h15, putAs_app, List.length_take, Nat.min_eq_left (by omega), Nat.zero_add]
    )
  refine V_aload_n dX1_replaceBlock_0 rfl rfl ?_
  refine V_aload_n dX1_replaceBlock_1 rfl rfl ?_
  refine V_getE frX1_49 hL.1 rfl n1 dX1_replaceBlock_2 ?_
  refine V_cv0 (ctX1_emptyBlock hG hb) mvX1_emptyBlock lkX1_28 hG.1 rfl rfl rfl (Nat.le_of_ble_eq_true rfl) ⟨⟨Nat.le_of_ble_eq_true rfl, Nat.le_of_ble_eq_true rfl⟩, Nat.le_of_ble_eq_true rfl, Nat.le_of_ble_eq_true rfl⟩ dX1_replaceBlock_5 ?_
  refine V_iconst (v := nI 0) dX1_replaceBlock_8 (by decide) ?_
  refine V_istore_n dX1_replaceBlock_9 rfl (Nat.le_of_ble_eq_true rfl) ?_
  exact lp1 0 (Nat.zero_le _)

theorem ctX1_addCopy (hG : GraphL σ g) (hA : GA mi g G) (hw : Wf G) {b x n : Nat} (hn : n = G.1) (hb : b < n) (hn2 : n < 14) : Ct κ 0 0 2 mrX1_addCopy [.ref g, .int (nI b), .int (nI x)] (MM σ mi ml) (.inl (some (.int (nI n)))) (MM σ (putEs n g [x] 0 (putAs n g (G.2.1 b) 0 (emB (u2 mi g 0 (nI (n + 1))) g n))) ml) := by
  refine Ct.of rfl (by simp [Value.category]) (Nat.le_of_ble_eq_true rfl) ?_
  have h6 := (hw.2.2.1 b).1
  have h0 : mi g 0 = nI n := by rw [hn]; exact hA.1
  have lp : ∀ i, i ≤ (G.2.1 b).length → V κ (phi κ mrX1_addCopy 2 0 0 (.inl (some (.int (nI n)))) (MM σ (putEs n g [x] 0 (putAs n g (G.2.1 b) 0 (emB (u2 mi g 0 (nI (n + 1))) g n))) ml)) 0 0 23 [some (.ref g), some (.int (nI b)), some (.int (nI x)), some (.int (nI n)), some (.int (nI i))] [] (MM σ (putAs n g ((G.2.1 b).take i) 0 (emB (u2 mi g 0 (nI (n + 1))) g n)) ml) := loop_up _ (fun i hi ih => by
    have hcnt : putAs n g ((G.2.1 b).take i) 0 (emB (u2 mi g 0 (nI (n + 1))) g n) (g + 1) n = nI i := by
      rw [putAs_cnt _ _ _ (by show u2 _ _ _ _ _ _ = _; rw [u2_n _ _ (Or.inl (by omega))]; exact u2_s _ _ _ _), List.length_take]; congr 1; omega
    have hoth : ∀ (l : List Nat) (c : Nat) (m : Nat → Nat → Int32), putAs n g l c m (g + 1) b = m (g + 1) b := by
      intro l
      induction l with
      | nil => intro c m; rfl
      | cons y l ih2 => intro c m; rw [putAs, ih2, u2_n _ _ (Or.inr (by omega)), u2_n _ _ (Or.inl (by omega))]
    have hoa : ∀ (l : List Nat) (c : Nat) (m : Nat → Nat → Int32) (k : Nat), k < 6 → c + l.length ≤ 6 → putAs n g l c m (g + 3) (6 * b + k) = m (g + 3) (6 * b + k) := by
      intro l
      induction l with
      | nil => intro c m k _ _; rfl
      | cons y l ih2 =>
        intro c m k hk hc
        simp only [List.length_cons] at hc
        rw [putAs, ih2 _ _ _ hk (by omega), u2_n _ _ (Or.inl (by omega)), u2_n _ _ (Or.inr (by omega))]
    have hc2 : putAs n g ((G.2.1 b).take i) 0 (emB (u2 mi g 0 (nI (n + 1))) g n) (g + 1) b = nI (G.2.1 b).length := by
      rw [hoth]
      unfold emB
      rw [u2_n _ _ (Or.inl (by omega)), u2_n _ _ (Or.inr (by omega)), u2_n _ _ (Or.inl (by omega))]
      exact (hA.2 b (by omega)).1
    refine V_iload dX1_addCopy_23 rfl ?_
    refine V_aload_n dX1_addCopy_25 rfl rfl ?_
    refine V_getR frX1_15 hG.1 rfl dX1_addCopy_26 ?_
    refine V_iload_n dX1_addCopy_29 rfl rfl ?_
    refine V_ialdE hG.2.1 b rfl (by omega) (by decide) hc2 dX1_addCopy_30 ?_
    refine V_N_ge (by omega) (by omega) 52 dX1_addCopy_31 (by decide) (fun h31 => ?_) (fun h31 => ?_)
    · refine V_aload_n dX1_addCopy_52 rfl rfl ?_
      refine V_iload_n dX1_addCopy_53 rfl rfl ?_
      refine V_iload_n dX1_addCopy_54 rfl rfl ?_
      refine V_cv0 (ctX1_putEdge hG hn2 (c := 0) (by rw [putAs_off _ _ _ _ _ (by omega)]; exact u2_s _ _ _ _) (by omega)) mvX1_putEdge lkX1_66 hG.1 rfl rfl rfl (Nat.le_of_ble_eq_true rfl) ⟨⟨Nat.le_of_ble_eq_true rfl, Nat.le_of_ble_eq_true rfl⟩, Nat.le_of_ble_eq_true rfl, Nat.le_of_ble_eq_true rfl⟩ dX1_addCopy_55 ?_
      refine V_iload_n dX1_addCopy_58 rfl rfl ?_
      exact V_iret rfl rfl (by rw [show i = (G.2.1 b).length by omega, List.take_length]; rfl) ⟨Nat.le_of_ble_eq_true rfl, Nat.le_of_ble_eq_true rfl⟩ dX1_addCopy_59
    · refine V_aload_n dX1_addCopy_34 rfl rfl ?_
      refine V_iload_n dX1_addCopy_35 rfl rfl ?_
      refine V_aload_n dX1_addCopy_36 rfl rfl ?_
      refine V_iload_n dX1_addCopy_37 rfl rfl ?_
      refine V_iload dX1_addCopy_38 rfl ?_
      refine V_cv1 (ctX1_actionAt hG (by omega) (by omega)) mvX1_actionAt lkX1_46 hG.1 rfl rfl rfl (Nat.le_of_ble_eq_true rfl) ⟨⟨Nat.le_of_ble_eq_true rfl, Nat.le_of_ble_eq_true rfl⟩, Nat.le_of_ble_eq_true rfl, Nat.le_of_ble_eq_true rfl⟩ dX1_addCopy_40 ?_
      refine V_top (show putAs n g ((G.2.1 b).take i) 0 (emB (u2 mi g 0 (nI (n + 1))) g n) (g + 3) (6 * b + i) = nI ((G.2.1 b).getD i 0) by
        rw [hoa _ _ _ _ (by omega) (by rw [List.length_take]; omega)]
        unfold emB
        rw [u2_n _ _ (Or.inl (by omega)), u2_n _ _ (Or.inl (by omega)), u2_n _ _ (Or.inl (by omega))]
        exact (hA.2 b (by omega)).2.2.1 i h31) ?_
      refine V_cv0 (ctX1_putAction hG hn2 hcnt (by omega)) mvX1_putAction lkX1_58 hG.1 rfl rfl rfl (Nat.le_of_ble_eq_true rfl) ⟨⟨Nat.le_of_ble_eq_true rfl, Nat.le_of_ble_eq_true rfl⟩, Nat.le_of_ble_eq_true rfl, Nat.le_of_ble_eq_true rfl⟩ dX1_addCopy_43 ?_
      refine V_iinc1 dX1_addCopy_46 rfl (Nat.le_of_ble_eq_true rfl) ?_
      refine V_goto 23 dX1_addCopy_49 (by decide) ?_
      refine V.cM (ih h31) ?_
      show MM σ (u2 (u2 _ _ _ _) _ _ _) ml = _
      rw [take_getD h31, putAs_app, List.length_take, Nat.min_eq_left (by omega), Nat.zero_add]
    )
  refine V_aload_n dX1_addCopy_0 rfl rfl ?_
  refine V_getE frX1_9 hG.1 rfl h0 dX1_addCopy_1 ?_
  refine V_istore_n dX1_addCopy_4 rfl (Nat.le_of_ble_eq_true rfl) ?_
  refine V_aload_n dX1_addCopy_5 rfl rfl ?_
  refine V_dup dX1_addCopy_6 rfl ?_
  refine V_getE frX1_9 hG.1 rfl h0 dX1_addCopy_7 ?_
  refine V_iconst (v := nI 1) dX1_addCopy_10 (by decide) ?_
  refine V_iadd dX1_addCopy_11 ?_
  refine V_top (nI_add n 1) ?_
  refine V_putI fpX1_9 rfl rfl hG.1 rfl dX1_addCopy_12 ?_
  refine V_aload_n dX1_addCopy_15 rfl rfl ?_
  refine V_iload_n dX1_addCopy_16 rfl rfl ?_
  refine V_cv0 (ctX1_emptyBlock hG hn2) mvX1_emptyBlock lkX1_28 hG.1 rfl rfl rfl (Nat.le_of_ble_eq_true rfl) ⟨⟨Nat.le_of_ble_eq_true rfl, Nat.le_of_ble_eq_true rfl⟩, Nat.le_of_ble_eq_true rfl, Nat.le_of_ble_eq_true rfl⟩ dX1_addCopy_17 ?_
  refine V_iconst (v := nI 0) dX1_addCopy_20 (by decide) ?_
  refine V_istore dX1_addCopy_21 (Nat.le_of_ble_eq_true rfl) ?_
  exact lp 0 (Nat.zero_le _)

end Graph2
