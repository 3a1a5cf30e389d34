/-! SsaRepairModel: its cells, its small methods -/
def OutL (σ : Nat → Option Kd) (a n k base : Nat) : Prop := ∃ r : Nat → Option Nat, σ a = some (.inl (.array .int, n, r)) ∧ ∀ j, j < n → r j = some (base + j) ∧ σ (base + j) = ints k
theorem OutL.row {σ : Nat → Option Kd} {a n k base j : Nat} (h : OutL σ a n k base) (hj : j < n) : σ (base + j) = ints k := by obtain ⟨r, h1, h2⟩ := h; exact (h2 j hj).2
theorem V_aaldR {κ : K0} {φ : Fr} {cells slots pc : Nat} {L : List (Option Value)} {st : List Value} {μ : Mem} {a n k base : Nat} {i : Int32} (h : OutL μ.1 a n k base) (j : Nat) (hi : i = nI j) (hj : j < n) (hn : n < 2 ^ 31) (d : decode φ.1.2.1 pc = .ok (.aaload, 1)) (kk : V κ φ cells slots (pc + 1) L (.ref (base + j) :: st) μ) : V κ φ cells slots pc L (.int i :: .ref a :: st) μ := by
  obtain ⟨r, h1, h2⟩ := h
  exact V_aaldAN h1 j hi hj hn (h2 j hj).1 d kk
def slM (m : Nat) : Nat → Option Value := fun k => match k with
  | 2 => some (.ref (m + 1))
  | 3 => some (.ref (m + 2))
  | 4 => some (.ref (m + 3))
  | 5 => some (.ref (m + 18))
  | 6 => some (.ref (m + 33))
  | 7 => some (.ref (m + 43))
  | 10 => some (.ref (m + 44))
  | 18 => some (.ref (m + 45))
  | 19 => some (.ref (m + 46))
  | 21 => some (.ref (m + 47))
  | 22 => some (.ref (m + 48))
  | 23 => some (.ref (m + 49))
  | 24 => some (.ref (m + 50))
  | 25 => some (.ref (m + 51))
  | 26 => some (.ref (m + 52))
  | 27 => some (.ref (m + 53))
  | 28 => some (.ref (m + 54))
  | 29 => some (.ref (m + 69))
  | 32 => some (.ref (m + 84))
  | 33 => some (.ref (m + 85))
  | 35 => some (.ref (m + 100))
  | _ => none
def ML (σ : Nat → Option Kd) (m : Nat) : Prop := σ m = some (.inr (6, 36, slM m)) ∧ σ (m + 1) = ints 14 ∧ σ (m + 2) = ints 14 ∧ σ (m + 43) = ints 160 ∧ σ (m + 45) = ints 6 ∧ σ (m + 46) = ints 3 ∧ σ (m + 47) = ints 14 ∧ σ (m + 48) = ints 14 ∧ σ (m + 49) = ints 14 ∧ σ (m + 50) = ints 14 ∧ σ (m + 51) = ints 4 ∧ σ (m + 52) = ints 4 ∧ σ (m + 53) = ints 4 ∧ σ (m + 84) = ints 4 ∧ σ (m + 100) = ints 31 ∧ σ (m + 44) = chrs 30 ∧ OutL σ (m + 3) 14 6 (m + 4) ∧ OutL σ (m + 18) 14 3 (m + 19) ∧ OutL σ (m + 33) 9 160 (m + 34) ∧ OutL σ (m + 54) 14 4 (m + 55) ∧ OutL σ (m + 69) 14 4 (m + 70) ∧ OutL σ (m + 85) 14 6 (m + 86)
/-- the model's cells hold the graph G -/
def GM (mi : Nat → Nat → Int32) (m : Nat) (G : Gr) : Prop := mi m 1 = nI G.1 ∧ ∀ b, b < 14 → mi (m + 1) b = nI (G.2.1 b).length ∧ mi (m + 2) b = nI (G.2.2 b).length ∧ (∀ k, k < (G.2.1 b).length → mi (m + 4 + b) k = nI ((G.2.1 b).getD k 0)) ∧ ∀ k, k < (G.2.2 b).length → mi (m + 19 + b) k = nI ((G.2.2 b).getD k 0)
theorem GM.keep {mi m' : Nat → Nat → Int32} {m : Nat} {G : Gr} (h : GM mi m G) (hk : ∀ a i, (a = m ∧ i = 1) ∨ (m + 1 ≤ a ∧ a < m + 33) → m' a i = mi a i) : GM m' m G := by
  refine ⟨(hk _ _ (Or.inl ⟨rfl, rfl⟩)).trans h.1, fun b hb => ?_⟩
  obtain ⟨h1, h2, h3, h4⟩ := h.2 b hb
  exact ⟨(hk _ _ (Or.inr (by omega))).trans h1, (hk _ _ (Or.inr (by omega))).trans h2, fun k hk2 => (hk _ _ (Or.inr (by omega))).trans (h3 k hk2), fun k hk2 => (hk _ _ (Or.inr (by omega))).trans (h4 k hk2)⟩
theorem u2_uu {α : Type} (f : Nat → Nat → α) (a i : Nat) (x y : α) : u2 (u2 f a i x) a i y = u2 f a i y := by
  funext b j
  unfold u2
  by_cases h : b = a ∧ j = i
  · rw [if_pos h, if_pos h]
  · rw [if_neg h, if_neg h, if_neg h]
def hasC (x k : Int32) : Bool := decide ((x >>> (k &&& 31)) &&& nI 1 = nI 1)
theorem and1 (x : Int32) : (x &&& nI 1 = nI 1) ↔ ¬ x &&& nI 1 = 0 := by
  constructor
  · intro h h2; rw [h] at h2; exact absurd h2 (by decide)
  · intro h
    refine i32_ext (fun i => ?_)
    rw [Int32.toBitVec_and, BitVec.getLsbD_and]
    have b1 : ∀ i, (nI 1).toBitVec.getLsbD i = decide (i = 0) := fun i => by
      rw [nI_bit]
      by_cases e : i = 0
      · subst e; rfl
      · rw [decide_eq_false e, Bool.and_eq_false_iff]
        exact Or.inr (by rw [show (1 : Nat) = 2 ^ 0 from rfl, Nat.testBit_two_pow]; exact decide_eq_false (fun q => e q.symm))
    rw [b1]
    by_cases e : i = 0
    · subst e
      rw [decide_eq_true rfl, Bool.and_true]
      cases hx : x.toBitVec.getLsbD 0 with
      | true => rfl
      | false =>
        exfalso
        refine h (i32_ext (fun j => ?_))
        rw [Int32.toBitVec_and, BitVec.getLsbD_and, b1]
        by_cases ej : j = 0
        · subst ej; rw [hx]; rfl
        · rw [decide_eq_false ej, Bool.and_false]
          show false = (BitVec.ofNat 32 0).getLsbD j
          simp
    · rw [decide_eq_false e, Bool.and_false]
theorem hasC_msk (P : Nat → Bool) {k : Nat} (hk : k < 14) : hasC (msk P) (nI k) = P k := by
  rw [← hasB_msk P hk]
  unfold hasC hasB
  exact decide_eq_decide.mpr (and1 _)
theorem btw {b : Int32} {n : Nat} (hn : n < 2 ^ 31) : (decide (nI 0 ≤ b) && decide (b ≤ nI n - nI 1)) = inR b n := by
  unfold inR
  show (decide (0 ≤ b) && _) = _
  congr 1
  refine decide_eq_decide.mpr ?_
  rw [Int32.le_iff_toInt_le, Int32.lt_iff_toInt_lt, nI_toInt hn]
  cases n with
  | zero => rw [show (nI 0 - nI 1).toInt = -1 by decide]; omega
  | succ n => rw [show nI (n + 1) - nI 1 = nI n from nI_pred n, nI_toInt (by omega)]; omega
section Mdl1
variable {κ : K0} {σ : Nat → Option Kd} {mi : Nat → Nat → Int32} {ml : Nat → Nat → Int64} {m : Nat} {G : Gr} {S : SS} {μ : Mem}
theorem ctX6_isBetween {v lo hi : Int32} : Ct κ 0 0 1 mrX6_isBetween [.int v, .int lo, .int hi] μ (.inl (some (.int (bI (decide (lo ≤ v) && decide (v ≤ hi)))))) μ := by
  refine Ct.of rfl (by simp [Value.category]) (Nat.le_of_ble_eq_true rfl) ?_
  refine V_iload_n dX6_isBetween_0 rfl rfl ?_
  refine V_iload_n dX6_isBetween_1 rfl rfl ?_
  refine V_icmp_lt 14 dX6_isBetween_2 (by decide) (fun h2 => ?_) (fun h2 => ?_)
  · refine V_iconst (v := nI 0) dX6_isBetween_14 (by decide) ?_
    exact V_zret rfl rfl (oI (by rw [decide_eq_false (Int32.not_le.mpr h2)]; rfl)) rfl ⟨Nat.le_of_ble_eq_true rfl, Nat.le_of_ble_eq_true rfl⟩ dX6_isBetween_15
  · refine V_iload_n dX6_isBetween_5 rfl rfl ?_
    refine V_iload_n dX6_isBetween_6 rfl rfl ?_
    refine V_icmp_gt 14 dX6_isBetween_7 (by decide) (fun h7 => ?_) (fun h7 => ?_)
    · refine V_iconst (v := nI 0) dX6_isBetween_14 (by decide) ?_
      exact V_zret rfl rfl (oI (by rw [decide_eq_false (p := v ≤ hi) (Int32.not_le.mpr h7), Bool.and_false]; rfl)) rfl ⟨Nat.le_of_ble_eq_true rfl, Nat.le_of_ble_eq_true rfl⟩ dX6_isBetween_15
    · refine V_iconst (v := nI 1) dX6_isBetween_10 (by decide) ?_
      refine V_goto 15 dX6_isBetween_11 (by decide) ?_
      exact V_zret rfl rfl (oI (by rw [decide_eq_true (Int32.not_lt.mp h2), decide_eq_true (Int32.not_lt.mp h7)]; rfl)) rfl ⟨Nat.le_of_ble_eq_true rfl, Nat.le_of_ble_eq_true rfl⟩ dX6_isBetween_15

theorem ctX6_has {x k : Int32} : Ct κ 0 0 1 mrX6_has [.int x, .int k] μ (.inl (some (.int (bI (hasC x k))))) μ := by
  refine Ct.of rfl (by simp [Value.category]) (Nat.le_of_ble_eq_true rfl) ?_
  refine V_iload_n dX6_has_0 rfl rfl ?_
  refine V_iload_n dX6_has_1 rfl rfl ?_
  refine V_ishr dX6_has_2 ?_
  refine V_iconst (v := nI 1) dX6_has_3 (by decide) ?_
  refine V_iand dX6_has_4 ?_
  refine V_iconst (v := nI 1) dX6_has_5 (by decide) ?_
  refine V_icmp_ne 13 dX6_has_6 (by decide) (fun h6 => ?_) (fun h6 => ?_)
  · refine V_iconst (v := nI 0) dX6_has_13 (by decide) ?_
    exact V_zret rfl rfl (oI (by rw [show hasC x k = false from decide_eq_false h6]; rfl)) rfl ⟨Nat.le_of_ble_eq_true rfl, Nat.le_of_ble_eq_true rfl⟩ dX6_has_14
  · refine V_iconst (v := nI 1) dX6_has_9 (by decide) ?_
    refine V_goto 14 dX6_has_10 (by decide) ?_
    exact V_zret rfl rfl (oI (by rw [show hasC x k = true from decide_eq_true h6]; rfl)) rfl ⟨Nat.le_of_ble_eq_true rfl, Nat.le_of_ble_eq_true rfl⟩ dX6_has_14

theorem ctX6_hasM {P : Nat → Bool} {k : Nat} (hk : k < 14) : Ct κ 0 0 1 mrX6_has [.int (msk P), .int (nI k)] μ (.inl (some (.int (bI (P k))))) μ := by
  have h := ctX6_has (κ := κ) (μ := μ) (x := msk P) (k := nI k)
  rw [hasC_msk P hk] at h
  exact h
theorem ctX6_isVariable {v : Int32} : Ct κ 0 0 2 mrX6_isVariable [.int v] μ (.inl (some (.int (bI (inR v 4))))) μ := by
  refine Ct.of rfl (by simp [Value.category]) (Nat.le_of_ble_eq_true rfl) ?_
  refine V_iload_n dX6_isVariable_0 rfl rfl ?_
  refine V_iconst (v := nI 0) dX6_isVariable_1 (by decide) ?_
  refine V_iconst (v := nI 3) dX6_isVariable_2 (by decide) ?_
  refine V_cs1 (ctX6_isBetween) msX6_isBetween lkX6_86 rfl rfl (Nat.le_of_ble_eq_true rfl) ⟨⟨Nat.le_of_ble_eq_true rfl, Nat.le_of_ble_eq_true rfl⟩, Nat.le_of_ble_eq_true rfl, Nat.le_of_ble_eq_true rfl⟩ dX6_isVariable_3 ?_
  exact V_zret rfl (bI_nar _) (oI (by rw [← btw (b := v) (n := 4) (by decide)]; rfl)) rfl ⟨Nat.le_of_ble_eq_true rfl, Nat.le_of_ble_eq_true rfl⟩ dX6_isVariable_6

theorem ctX6_isBlock (hM : ML σ m) {n : Nat} (hn : n < 2 ^ 31) (hG : mi m 1 = nI n) {b : Int32} : Ct κ 0 0 2 mrX6_isBlock [.ref m, .int b] (MM σ mi ml) (.inl (some (.int (bI (inR b n))))) (MM σ mi ml) := by
  refine Ct.of rfl (by simp [Value.category]) (Nat.le_of_ble_eq_true rfl) ?_
  refine V_iload_n dX6_isBlock_0 rfl rfl ?_
  refine V_iconst (v := nI 0) dX6_isBlock_1 (by decide) ?_
  refine V_aload_n dX6_isBlock_2 rfl rfl ?_
  refine V_getE frX6_7 hM.1 rfl hG dX6_isBlock_3 ?_
  refine V_iconst (v := nI 1) dX6_isBlock_6 (by decide) ?_
  refine V_isub dX6_isBlock_7 ?_
  refine V_cs1 (ctX6_isBetween) msX6_isBetween lkX6_86 rfl rfl (Nat.le_of_ble_eq_true rfl) ⟨⟨Nat.le_of_ble_eq_true rfl, Nat.le_of_ble_eq_true rfl⟩, Nat.le_of_ble_eq_true rfl, Nat.le_of_ble_eq_true rfl⟩ dX6_isBlock_8 ?_
  exact V_zret rfl (bI_nar _) (oI (by rw [btw hn])) rfl ⟨Nat.le_of_ble_eq_true rfl, Nat.le_of_ble_eq_true rfl⟩ dX6_isBlock_11

theorem ctX6_fails (hM : ML σ m) {k : Int32} {c : Bool} : Ct κ 0 0 1 mrX6_fails [.ref m, .int k, .int (bI c)] (MM σ mi ml) (.inl (some (.int (bI c)))) (MM σ (u2 mi m 0 (if c = true then k else nI 0)) ml) := by
  refine Ct.of rfl (by simp [Value.category]) (Nat.le_of_ble_eq_true rfl) ?_
  cases c with
  | true =>
    refine V_aload_n dX6_fails_0 rfl rfl ?_
    refine V_iload_n dX6_fails_1 rfl rfl ?_
    refine V_ifeqB 9 dX6_fails_2 (by decide) (fun h2 => absurd (h2.symm.trans rfl) (by decide)) (fun h2 => ?_)
    refine V_iload_n dX6_fails_5 rfl rfl ?_
    refine V_goto 10 dX6_fails_6 (by decide) ?_
    refine V_putI fpX6_83 rfl rfl hM.1 rfl dX6_fails_10 ?_
    refine V_iload_n dX6_fails_13 rfl rfl ?_
    exact V_zret rfl rfl rfl rfl ⟨Nat.le_of_ble_eq_true rfl, Nat.le_of_ble_eq_true rfl⟩ dX6_fails_14

  | false =>
    refine V_aload_n dX6_fails_0 rfl rfl ?_
    refine V_iload_n dX6_fails_1 rfl rfl ?_
    refine V_ifeqB 9 dX6_fails_2 (by decide) (fun h2 => ?_) (fun h2 => absurd (h2.symm.trans rfl) (by decide))
    refine V_iconst (v := nI 0) dX6_fails_9 (by decide) ?_
    refine V_putI fpX6_83 rfl rfl hM.1 rfl dX6_fails_10 ?_
    refine V_iload_n dX6_fails_13 rfl rfl ?_
    exact V_zret rfl rfl rfl rfl ⟨Nat.le_of_ble_eq_true rfl, Nat.le_of_ble_eq_true rfl⟩ dX6_fails_14

theorem ctX6_isAction (hM : ML σ m) (hG : GM mi m G) (hw : Wf G) {b k : Int32} : Ct κ 0 0 3 mrX6_isAction [.ref m, .int b, .int k] (MM σ mi ml) (.inl (some (.int (bI (hasAct G b k))))) (MM σ mi ml) := by
  refine Ct.of rfl (by simp [Value.category]) (Nat.le_of_ble_eq_true rfl) ?_
  have h14 := hw.2.1
  cases hb : inR b G.1 with
  | false =>
    refine V_aload_n dX6_isAction_0 rfl rfl ?_
    refine V_iload_n dX6_isAction_1 rfl rfl ?_
    refine V_cv1 (ctX6_isBlock hM (by omega) hG.1) mvX6_isBlock lkX6_144 hM.1 rfl rfl rfl (Nat.le_of_ble_eq_true rfl) ⟨⟨Nat.le_of_ble_eq_true rfl, Nat.le_of_ble_eq_true rfl⟩, Nat.le_of_ble_eq_true rfl, Nat.le_of_ble_eq_true rfl⟩ dX6_isAction_2 ?_
    refine V_ifeqB 28 dX6_isAction_5 (by decide) (fun h5 => ?_) (fun h5 => absurd (h5.symm.trans hb) (by decide))
    refine V_iconst (v := nI 0) dX6_isAction_28 (by decide) ?_
    exact V_zret rfl rfl (oI (by unfold hasAct; rw [hb]; rfl)) rfl ⟨Nat.le_of_ble_eq_true rfl, Nat.le_of_ble_eq_true rfl⟩ dX6_isAction_29

  | true =>
    obtain ⟨j, hj, rfl⟩ := inR_t (by omega) hb
    have h6 := (hw.2.2.1 j).1
    have hc : hasAct G (nI j) k = inR k (G.2.1 j).length := by unfold hasAct; rw [hb, nI_clamp (by omega)]; rfl
    refine V_aload_n dX6_isAction_0 rfl rfl ?_
    refine V_iload_n dX6_isAction_1 rfl rfl ?_
    refine V_cv1 (ctX6_isBlock hM (by omega) hG.1) mvX6_isBlock lkX6_144 hM.1 rfl rfl rfl (Nat.le_of_ble_eq_true rfl) ⟨⟨Nat.le_of_ble_eq_true rfl, Nat.le_of_ble_eq_true rfl⟩, Nat.le_of_ble_eq_true rfl, Nat.le_of_ble_eq_true rfl⟩ dX6_isAction_2 ?_
    refine V_ifeqB 28 dX6_isAction_5 (by decide) (fun h5 => absurd (h5.symm.trans hb) (by decide)) (fun h5 => ?_)
    refine V_iload_n dX6_isAction_8 rfl rfl ?_
    refine V_iconst (v := nI 0) dX6_isAction_9 (by decide) ?_
    refine V_aload_n dX6_isAction_10 rfl rfl ?_
    refine V_getR frX6_13 hM.1 rfl dX6_isAction_11 ?_
    refine V_iload_n dX6_isAction_14 rfl rfl ?_
    refine V_ialdE hM.2.1 j rfl (by omega) (by decide) ((hG.2 j (by omega)).1) dX6_isAction_15 ?_
    refine V_iconst (v := nI 1) dX6_isAction_16 (by decide) ?_
    refine V_isub dX6_isAction_17 ?_
    refine V_cs1 (ctX6_isBetween) msX6_isBetween lkX6_86 rfl rfl (Nat.le_of_ble_eq_true rfl) ⟨⟨Nat.le_of_ble_eq_true rfl, Nat.le_of_ble_eq_true rfl⟩, Nat.le_of_ble_eq_true rfl, Nat.le_of_ble_eq_true rfl⟩ dX6_isAction_18 ?_
    rw [btw (by omega)]
    refine V_ifeqB 28 dX6_isAction_21 (by decide) (fun h21 => ?_) (fun h21 => ?_)
    · refine V_iconst (v := nI 0) dX6_isAction_28 (by decide) ?_
      exact V_zret rfl rfl (oI (by rw [hc, h21]; rfl)) rfl ⟨Nat.le_of_ble_eq_true rfl, Nat.le_of_ble_eq_true rfl⟩ dX6_isAction_29
    · refine V_iconst (v := nI 1) dX6_isAction_24 (by decide) ?_
      refine V_goto 29 dX6_isAction_25 (by decide) ?_
      exact V_zret rfl rfl (oI (by rw [hc, h21]; rfl)) rfl ⟨Nat.le_of_ble_eq_true rfl, Nat.le_of_ble_eq_true rfl⟩ dX6_isAction_29

/-- the last place among the first e that holds v, as a number; -1 if there is none -/
def lxI (l : List Nat) (v e : Nat) : Int32 := match ldef l v e with
  | some k => nI k
  | none => -1
theorem lxI_t {l : List Nat} {v e : Nat} (h : l.getD e 0 = v) : nI e = lxI l v (e + 1) := by unfold lxI; rw [ldef, if_pos h]
theorem lxI_f {l : List Nat} {v e : Nat} (h : l.getD e 0 ≠ v) : lxI l v e = lxI l v (e + 1) := by unfold lxI; rw [ldef, if_neg h]
theorem ctX6_edgeTo (hM : ML σ m) (hG : GM mi m G) (hw : Wf G) {b t : Nat} (hb : b < 14) (ht : t < 2 ^ 31) : Ct κ 0 0 1 mrX6_edgeTo [.ref m, .int (nI b), .int (nI t)] (MM σ mi ml) (.inl (some (.int (lxI (G.2.2 b) t (G.2.2 b).length)))) (MM σ mi ml) := by
  refine Ct.of rfl (by simp [Value.category]) (Nat.le_of_ble_eq_true rfl) ?_
  have h3 := (hw.2.2.2.1 b).1
  have h14 := hw.2.1
  have lp : ∀ i, i ≤ (G.2.2 b).length → V κ (phi κ mrX6_edgeTo 1 0 0 (.inl (some (.int (lxI (G.2.2 b) t (G.2.2 b).length)))) (MM σ mi ml)) 0 0 5 [some (.ref m), some (.int (nI b)), some (.int (nI t)), some (.int (lxI (G.2.2 b) t i)), some (.int (nI i))] [] (MM σ mi ml) := loop_up _ (fun i hi ih => by
    refine V_iload dX6_edgeTo_5 rfl ?_
    refine V_aload_n dX6_edgeTo_7 rfl rfl ?_
    refine V_getR frX6_17 hM.1 rfl dX6_edgeTo_8 ?_
    refine V_iload_n dX6_edgeTo_11 rfl rfl ?_
    refine V_ialdE hM.2.2.1 b rfl (by omega) (by decide) ((hG.2 b hb).2.1) dX6_edgeTo_12 ?_
    refine V_N_ge (by omega) (by omega) 42 dX6_edgeTo_13 (by decide) (fun h13 => ?_) (fun h13 => ?_)
    · refine V_iload_n dX6_edgeTo_42 rfl rfl ?_
      exact V_iret rfl (oI (by rw [show i = (G.2.2 b).length by omega])) rfl ⟨Nat.le_of_ble_eq_true rfl, Nat.le_of_ble_eq_true rfl⟩ dX6_edgeTo_43
    · have htg := (hw.2.2.2.1 b).2.1 _ (mem_getD.mpr ⟨i, h13, rfl⟩)
      refine V_aload_n dX6_edgeTo_16 rfl rfl ?_
      refine V_getR frX6_25 hM.1 rfl dX6_edgeTo_17 ?_
      refine V_iload_n dX6_edgeTo_20 rfl rfl ?_
      refine V_aaldR hM.2.2.2.2.2.2.2.2.2.2.2.2.2.2.2.2.2.1 (b) rfl hb (by decide) dX6_edgeTo_21 ?_
      refine V_iload dX6_edgeTo_22 rfl ?_
      refine V_ialdE (hM.2.2.2.2.2.2.2.2.2.2.2.2.2.2.2.2.2.1.row (j := b) hb) i rfl (by omega) (by decide) ((hG.2 b hb).2.2.2 i h13) dX6_edgeTo_24 ?_
      refine V_iload_n dX6_edgeTo_25 rfl rfl ?_
      refine V_N_ne (by omega) ht 34 dX6_edgeTo_26 (by decide) (fun h26 => ?_) (fun h26 => ?_)
      · refine V_iload_n dX6_edgeTo_34 rfl rfl ?_
        refine V_istore_n dX6_edgeTo_35 rfl (Nat.le_of_ble_eq_true rfl) ?_
        refine V_iinc1 dX6_edgeTo_36 rfl (Nat.le_of_ble_eq_true rfl) ?_
        refine V_goto 5 dX6_edgeTo_39 (by decide) ?_
        exact V.cL (ih h13) (by rw [lxI_f h26]; rfl)
      · refine V_iload dX6_edgeTo_29 rfl ?_
        refine V_goto 35 dX6_edgeTo_31 (by decide) ?_
        refine V_istore_n dX6_edgeTo_35 rfl (Nat.le_of_ble_eq_true rfl) ?_
        refine V_iinc1 dX6_edgeTo_36 rfl (Nat.le_of_ble_eq_true rfl) ?_
        refine V_goto 5 dX6_edgeTo_39 (by decide) ?_
        exact V.cL (ih h13) (by rw [← lxI_t h26]; rfl)
    )
  refine V_iconst (v := (-1)) dX6_edgeTo_0 (by decide) ?_
  refine V_istore_n dX6_edgeTo_1 rfl (Nat.le_of_ble_eq_true rfl) ?_
  refine V_iconst (v := nI 0) dX6_edgeTo_2 (by decide) ?_
  refine V_istore dX6_edgeTo_3 (Nat.le_of_ble_eq_true rfl) ?_
  exact lp 0 (Nat.zero_le _)

theorem ctX6_lastDefinition (hM : ML σ m) (hG : GM mi m G) (hw : Wf G) {b v e : Nat} (hb : b < 14) (hv : v < 2 ^ 31) (he : e ≤ (G.2.1 b).length) : Ct κ 0 0 1 mrX6_lastDefinition [.ref m, .int (nI b), .int (nI v), .int (nI e)] (MM σ mi ml) (.inl (some (.int (lxI (G.2.1 b) v e)))) (MM σ mi ml) := by
  refine Ct.of rfl (by simp [Value.category]) (Nat.le_of_ble_eq_true rfl) ?_
  have h6 := (hw.2.2.1 b).1
  have lp : ∀ i, i ≤ e → V κ (phi κ mrX6_lastDefinition 1 0 0 (.inl (some (.int (lxI (G.2.1 b) v e)))) (MM σ mi ml)) 0 0 6 [some (.ref m), some (.int (nI b)), some (.int (nI v)), some (.int (nI e)), some (.int (lxI (G.2.1 b) v i)), some (.int (nI i))] [] (MM σ mi ml) := loop_up _ (fun i hi ih => by
    refine V_iload dX6_lastDefinition_6 rfl ?_
    refine V_iload_n dX6_lastDefinition_8 rfl rfl ?_
    refine V_N_ge (by omega) (by omega) 40 dX6_lastDefinition_9 (by decide) (fun h9 => ?_) (fun h9 => ?_)
    · refine V_iload dX6_lastDefinition_40 rfl ?_
      exact V_iret rfl (oI (by rw [show i = e by omega])) rfl ⟨Nat.le_of_ble_eq_true rfl, Nat.le_of_ble_eq_true rfl⟩ dX6_lastDefinition_42
    · have ha := act14 hw (show i < (G.2.1 b).length by omega)
      refine V_aload_n dX6_lastDefinition_12 rfl rfl ?_
      refine V_getR frX6_22 hM.1 rfl dX6_lastDefinition_13 ?_
      refine V_iload_n dX6_lastDefinition_16 rfl rfl ?_
      refine V_aaldR hM.2.2.2.2.2.2.2.2.2.2.2.2.2.2.2.2.1 (b) rfl hb (by decide) dX6_lastDefinition_17 ?_
      refine V_iload dX6_lastDefinition_18 rfl ?_
      refine V_ialdE (hM.2.2.2.2.2.2.2.2.2.2.2.2.2.2.2.2.1.row (j := b) hb) i rfl (by omega) (by decide) ((hG.2 b hb).2.2.1 i (by omega)) dX6_lastDefinition_20 ?_
      refine V_iload_n dX6_lastDefinition_21 rfl rfl ?_
      refine V_N_ne (by omega) hv 30 dX6_lastDefinition_22 (by decide) (fun h22 => ?_) (fun h22 => ?_)
      · refine V_iload dX6_lastDefinition_30 rfl ?_
        refine V_istore dX6_lastDefinition_32 (Nat.le_of_ble_eq_true rfl) ?_
        refine V_iinc1 dX6_lastDefinition_34 rfl (Nat.le_of_ble_eq_true rfl) ?_
        refine V_goto 6 dX6_lastDefinition_37 (by decide) ?_
        exact V.cL (ih h9) (by rw [lxI_f h22]; rfl)
      · refine V_iload dX6_lastDefinition_25 rfl ?_
        refine V_goto 32 dX6_lastDefinition_27 (by decide) ?_
        refine V_istore dX6_lastDefinition_32 (Nat.le_of_ble_eq_true rfl) ?_
        refine V_iinc1 dX6_lastDefinition_34 rfl (Nat.le_of_ble_eq_true rfl) ?_
        refine V_goto 6 dX6_lastDefinition_37 (by decide) ?_
        exact V.cL (ih h9) (by rw [← lxI_t h22]; rfl)
    )
  refine V_iconst (v := (-1)) dX6_lastDefinition_0 (by decide) ?_
  refine V_istore dX6_lastDefinition_1 (Nat.le_of_ble_eq_true rfl) ?_
  refine V_iconst (v := nI 0) dX6_lastDefinition_3 (by decide) ?_
  refine V_istore dX6_lastDefinition_4 (Nat.le_of_ble_eq_true rfl) ?_
  exact lp 0 (Nat.zero_le _)

theorem lxI_lt {l : List Nat} {v e : Nat} (he : e ≤ l.length) (h6 : l.length < 2 ^ 31) : lxI l v e < 0 ↔ ldef l v e = none := by
  unfold lxI
  cases h : ldef l v e with
  | none => exact ⟨fun _ => rfl, fun _ => by decide⟩
  | some k =>
    have h1 := (ldef_some _ _ h).1
    exact ⟨fun q => absurd q (nI_pos (by omega)), fun q => by cases q⟩
theorem lxI_s {l : List Nat} {v e k : Nat} (h : ldef l v e = some k) : lxI l v e = nI k := by unfold lxI; rw [h]
theorem Df_lx {v b : Nat} (hw : Wf G) : Df G v b ↔ ¬ lxI (G.2.1 b) v (G.2.1 b).length < 0 := by
  have h6 := (hw.2.2.1 b).1
  rw [Df_iff, lxI_lt (Nat.le_refl _) (by omega)]
theorem ctX6_isDefined (hM : ML σ m) (hG : GM mi m G) (hw : Wf G) {b v : Nat} (hb : b < 14) (hv : v < 2 ^ 31) : Ct κ 0 0 2 mrX6_isDefined [.ref m, .int (nI b), .int (nI v)] (MM σ mi ml) (.inl (some (.int (bI (bp (Df G v b)))))) (MM σ mi ml) := by
  refine Ct.of rfl (by simp [Value.category]) (Nat.le_of_ble_eq_true rfl) ?_
  refine V_aload_n dX6_isDefined_0 rfl rfl ?_
  refine V_iload_n dX6_isDefined_1 rfl rfl ?_
  refine V_iload_n dX6_isDefined_2 rfl rfl ?_
  refine V_aload_n dX6_isDefined_3 rfl rfl ?_
  refine V_getR frX6_13 hM.1 rfl dX6_isDefined_4 ?_
  refine V_iload_n dX6_isDefined_7 rfl rfl ?_
  refine V_ialdE hM.2.1 b rfl (by omega) (by decide) ((hG.2 b hb).1) dX6_isDefined_8 ?_
  refine V_cv1 (ctX6_lastDefinition hM hG hw hb hv (Nat.le_refl _)) mvX6_lastDefinition lkX6_164 hM.1 rfl rfl rfl (Nat.le_of_ble_eq_true rfl) ⟨⟨Nat.le_of_ble_eq_true rfl, Nat.le_of_ble_eq_true rfl⟩, Nat.le_of_ble_eq_true rfl, Nat.le_of_ble_eq_true rfl⟩ dX6_isDefined_9 ?_
  refine V_if_lt 19 dX6_isDefined_12 (by decide) (fun h12 => ?_) (fun h12 => ?_)
  · refine V_iconst (v := nI 0) dX6_isDefined_19 (by decide) ?_
    exact V_zret rfl rfl (oI (by rw [bp_neg (fun q => (Df_lx hw).mp q h12)]; rfl)) rfl ⟨Nat.le_of_ble_eq_true rfl, Nat.le_of_ble_eq_true rfl⟩ dX6_isDefined_20
  · refine V_iconst (v := nI 1) dX6_isDefined_15 (by decide) ?_
    refine V_goto 20 dX6_isDefined_16 (by decide) ?_
    exact V_zret rfl rfl (oI (by rw [bp_pos ((Df_lx hw).mpr h12)]; rfl)) rfl ⟨Nat.le_of_ble_eq_true rfl, Nat.le_of_ble_eq_true rfl⟩ dX6_isDefined_20

theorem ufst_def : ∀ (l : List Nat) (v : Nat), ufst l v = true ↔ ∃ k, k < l.length ∧ l.getD k 0 = 10 + v ∧ ∀ j, j < k → l.getD j 0 ≠ v
  | [], v => ⟨fun h => (by cases h), fun ⟨k, hk, _⟩ => absurd hk (Nat.not_lt_zero k)⟩
  | a :: l, v => by
    rw [ufst]
    by_cases h1 : a = v
    · rw [if_pos h1]
      refine ⟨fun h => (by cases h), fun ⟨k, hk, h2, h3⟩ => ?_⟩
      cases k with
      | zero => have : a = 10 + v := h2; omega
      | succ k => exact absurd h1 (h3 0 (by omega))
    · rw [if_neg h1]
      by_cases h2 : a = 10 + v
      · rw [if_pos h2]
        exact ⟨fun _ => ⟨0, by simp, h2, fun j hj => absurd hj (Nat.not_lt_zero j)⟩, fun _ => rfl⟩
      · rw [if_neg h2, ufst_def l v]
        constructor
        · rintro ⟨k, h3, h4, h5⟩
          refine ⟨k + 1, by simpa using h3, by simpa using h4, fun j hj => ?_⟩
          cases j with
          | zero => exact h1
          | succ j => simpa using h5 j (by omega)
        · rintro ⟨k, h3, h4, h5⟩
          cases k with
          | zero => exact absurd h4 h2
          | succ k => exact ⟨k, by simpa using h3, by simpa using h4, fun j hj => by simpa using h5 (j + 1) (by omega)⟩
theorem ctX6_isUsedFirst (hM : ML σ m) (hG : GM mi m G) (hw : Wf G) {b v : Nat} (hb : b < 14) (hv : v < 4) : Ct κ 0 0 2 mrX6_isUsedFirst [.ref m, .int (nI b), .int (nI v)] (MM σ mi ml) (.inl (some (.int (bI (ufst (G.2.1 b) v))))) (MM σ mi ml) := by
  refine Ct.of rfl (by simp [Value.category]) (Nat.le_of_ble_eq_true rfl) ?_
  have h6 := (hw.2.2.1 b).1
  have lp : ∀ i, i ≤ (G.2.1 b).length → (∀ k, k < i → (G.2.1 b).getD k 0 ≠ 10 + v) → V κ (phi κ mrX6_isUsedFirst 2 0 0 (.inl (some (.int (bI (ufst (G.2.1 b) v))))) (MM σ mi ml)) 0 0 2 [some (.ref m), some (.int (nI b)), some (.int (nI v)), some (.int (nI i))] [] (MM σ mi ml) := loop_up _ (fun i hi ih hn => by
    refine V_iload_n dX6_isUsedFirst_2 rfl rfl ?_
    refine V_aload_n dX6_isUsedFirst_3 rfl rfl ?_
    refine V_getR frX6_13 hM.1 rfl dX6_isUsedFirst_4 ?_
    refine V_iload_n dX6_isUsedFirst_7 rfl rfl ?_
    refine V_ialdE hM.2.1 b rfl (by omega) (by decide) ((hG.2 b hb).1) dX6_isUsedFirst_8 ?_
    refine V_N_ge (by omega) (by omega) 49 dX6_isUsedFirst_9 (by decide) (fun h9 => ?_) (fun h9 => ?_)
    · refine V_iconst (v := nI 0) dX6_isUsedFirst_49 (by decide) ?_
      exact V_zret rfl rfl (oI (by
              rw [show ufst (G.2.1 b) v = false from Bool.eq_false_iff.mpr (fun q => by
                obtain ⟨k, k1, k2, k3⟩ := (ufst_def _ _).mp q
                exact hn k (by omega) k2)]; rfl)) rfl ⟨Nat.le_of_ble_eq_true rfl, Nat.le_of_ble_eq_true rfl⟩ dX6_isUsedFirst_50
    · have ha := act14 hw h9
      refine V_aload_n dX6_isUsedFirst_12 rfl rfl ?_
      refine V_getR frX6_22 hM.1 rfl dX6_isUsedFirst_13 ?_
      refine V_iload_n dX6_isUsedFirst_16 rfl rfl ?_
      refine V_aaldR hM.2.2.2.2.2.2.2.2.2.2.2.2.2.2.2.2.1 (b) rfl hb (by decide) dX6_isUsedFirst_17 ?_
      refine V_iload_n dX6_isUsedFirst_18 rfl rfl ?_
      refine V_ialdE (hM.2.2.2.2.2.2.2.2.2.2.2.2.2.2.2.2.1.row (j := b) hb) i rfl (by omega) (by decide) ((hG.2 b hb).2.2.1 i h9) dX6_isUsedFirst_19 ?_
      refine V_bipush (v := nI 10) dX6_isUsedFirst_20 (by decide) ?_
      refine V_iload_n dX6_isUsedFirst_22 rfl rfl ?_
      refine V_iadd dX6_isUsedFirst_23 ?_
      refine V_top (nI_add 10 v) ?_
      refine V_N_ne (by omega) (by omega) 43 dX6_isUsedFirst_24 (by decide) (fun h24 => ?_) (fun h24 => ?_)
      · refine V_iinc1 dX6_isUsedFirst_43 rfl (Nat.le_of_ble_eq_true rfl) ?_
        refine V_goto 2 dX6_isUsedFirst_46 (by decide) ?_
        exact ih h9 (fun k hk => by
          by_cases e : k = i
          · subst e; exact h24
          · exact hn k (by omega))
      · refine V_aload_n dX6_isUsedFirst_27 rfl rfl ?_
        refine V_iload_n dX6_isUsedFirst_28 rfl rfl ?_
        refine V_iload_n dX6_isUsedFirst_29 rfl rfl ?_
        refine V_iload_n dX6_isUsedFirst_30 rfl rfl ?_
        refine V_cv1 (ctX6_lastDefinition hM hG hw hb (by omega) (Nat.le_of_lt h9)) mvX6_lastDefinition lkX6_164 hM.1 rfl rfl rfl (Nat.le_of_ble_eq_true rfl) ⟨⟨Nat.le_of_ble_eq_true rfl, Nat.le_of_ble_eq_true rfl⟩, Nat.le_of_ble_eq_true rfl, Nat.le_of_ble_eq_true rfl⟩ dX6_isUsedFirst_31 ?_
        refine V_if_ge 41 dX6_isUsedFirst_34 (by decide) (fun h34 => ?_) (fun h34 => ?_)
        · refine V_iconst (v := nI 0) dX6_isUsedFirst_41 (by decide) ?_
          exact V_zret rfl rfl (oI (by
                  rw [show ufst (G.2.1 b) v = false from Bool.eq_false_iff.mpr (fun q => by
                    obtain ⟨k, k1, k2, k3⟩ := (ufst_def _ _).mp q
                    have hk : ¬ k < i := fun z => hn k z k2
                    cases hd : ldef (G.2.1 b) v i with
                    | none => exact absurd ((lxI_lt (Nat.le_of_lt h9) (by omega)).mpr hd) (Int32.not_lt.mpr h34)
                    | some z =>
                      have h1 := ldef_some _ _ hd
                      exact k3 z (by omega) h1.2)]; rfl)) rfl ⟨Nat.le_of_ble_eq_true rfl, Nat.le_of_ble_eq_true rfl⟩ dX6_isUsedFirst_42
        · refine V_iconst (v := nI 1) dX6_isUsedFirst_37 (by decide) ?_
          refine V_goto 42 dX6_isUsedFirst_38 (by decide) ?_
          exact V_zret rfl rfl (oI (by
                  rw [(ufst_def _ _).mpr ⟨i, h9, h24, (ldef_none i).mp ((lxI_lt (Nat.le_of_lt h9) (by omega)).mp (Int32.not_le.mp h34))⟩]; rfl)) rfl ⟨Nat.le_of_ble_eq_true rfl, Nat.le_of_ble_eq_true rfl⟩ dX6_isUsedFirst_42
    )
  refine V_iconst (v := nI 0) dX6_isUsedFirst_0 (by decide) ?_
  refine V_istore_n dX6_isUsedFirst_1 rfl (Nat.le_of_ble_eq_true rfl) ?_
  exact lp 0 (Nat.zero_le _) (fun k hk => absurd hk (Nat.not_lt_zero k))

/-- the source at the end of a block, by the one at its beginning -/
def srcX (G : Gr) (v b : Nat) (s : Nat) : Nat := match ldef (G.2.1 b) v (G.2.1 b).length with
  | some k => 10 * b + k
  | none => s
theorem srcE_X {v b : Nat} : srcE G v b = srcX G v b (srcB G v b) := rfl
theorem ctX6_endSource (hM : ML σ m) (hG : GM mi m G) (hw : Wf G) {b v s : Nat} (hb : b < 14) (hv : v < 4) : Ct κ 0 0 2 mrX6_endSource [.ref m, .int (nI b), .int (nI v), .int (nI s)] (MM σ mi ml) (.inl (some (.int (nI (srcX G v b s))))) (MM σ mi ml) := by
  refine Ct.of rfl (by simp [Value.category]) (Nat.le_of_ble_eq_true rfl) ?_
  have h6 := (hw.2.2.1 b).1
  cases hd : ldef (G.2.1 b) v (G.2.1 b).length with
  | none =>
    have hx : srcX G v b s = s := by unfold srcX; rw [hd]
    have hlx := (lxI_lt (Nat.le_refl _) (by omega)).mpr hd
    refine V_aload_n dX6_endSource_0 rfl rfl ?_
    refine V_iload_n dX6_endSource_1 rfl rfl ?_
    refine V_iload_n dX6_endSource_2 rfl rfl ?_
    refine V_aload_n dX6_endSource_3 rfl rfl ?_
    refine V_getR frX6_13 hM.1 rfl dX6_endSource_4 ?_
    refine V_iload_n dX6_endSource_7 rfl rfl ?_
    refine V_ialdE hM.2.1 b rfl (by omega) (by decide) ((hG.2 b hb).1) dX6_endSource_8 ?_
    refine V_cv1 (ctX6_lastDefinition hM hG hw hb (by omega) (Nat.le_refl _)) mvX6_lastDefinition lkX6_164 hM.1 rfl rfl rfl (Nat.le_of_ble_eq_true rfl) ⟨⟨Nat.le_of_ble_eq_true rfl, Nat.le_of_ble_eq_true rfl⟩, Nat.le_of_ble_eq_true rfl, Nat.le_of_ble_eq_true rfl⟩ dX6_endSource_9 ?_
    refine V_istore dX6_endSource_12 (Nat.le_of_ble_eq_true rfl) ?_
    refine V_iload dX6_endSource_14 rfl ?_
    refine V_if_ge 23 dX6_endSource_16 (by decide) (fun h16 => absurd h16 (Int32.not_le.mpr hlx)) (fun h16 => ?_)
    refine V_iload_n dX6_endSource_19 rfl rfl ?_
    refine V_goto 30 dX6_endSource_20 (by decide) ?_
    exact V_iret rfl (oI (by rw [hx])) rfl ⟨Nat.le_of_ble_eq_true rfl, Nat.le_of_ble_eq_true rfl⟩ dX6_endSource_30

  | some k =>
    have hx : srcX G v b s = 10 * b + k := by unfold srcX; rw [hd]
    have hk := ldef6 hw (Nat.le_refl _) hd
    refine V_aload_n dX6_endSource_0 rfl rfl ?_
    refine V_iload_n dX6_endSource_1 rfl rfl ?_
    refine V_iload_n dX6_endSource_2 rfl rfl ?_
    refine V_aload_n dX6_endSource_3 rfl rfl ?_
    refine V_getR frX6_13 hM.1 rfl dX6_endSource_4 ?_
    refine V_iload_n dX6_endSource_7 rfl rfl ?_
    refine V_ialdE hM.2.1 b rfl (by omega) (by decide) ((hG.2 b hb).1) dX6_endSource_8 ?_
    refine V_cv1 (ctX6_lastDefinition hM hG hw hb (by omega) (Nat.le_refl _)) mvX6_lastDefinition lkX6_164 hM.1 rfl rfl rfl (Nat.le_of_ble_eq_true rfl) ⟨⟨Nat.le_of_ble_eq_true rfl, Nat.le_of_ble_eq_true rfl⟩, Nat.le_of_ble_eq_true rfl, Nat.le_of_ble_eq_true rfl⟩ dX6_endSource_9 ?_
    refine V_top (lxI_s hd) ?_
    refine V_istore dX6_endSource_12 (Nat.le_of_ble_eq_true rfl) ?_
    refine V_iload dX6_endSource_14 rfl ?_
    refine V_if_ge 23 dX6_endSource_16 (by decide) (fun h16 => ?_) (fun h16 => absurd (Int32.not_lt.mp (nI_pos (show k < 2 ^ 31 by omega))) h16)
    refine V_bipush (v := nI 10) dX6_endSource_23 (by decide) ?_
    refine V_iload_n dX6_endSource_25 rfl rfl ?_
    refine V_imul dX6_endSource_26 ?_
    refine V_iload dX6_endSource_27 rfl ?_
    refine V_iadd dX6_endSource_29 ?_
    refine V_top (show nI 10 * nI b + nI k = nI (10 * b + k) by rw [pk_mul, nI_add]) ?_
    exact V_iret rfl (oI (by rw [hx])) rfl ⟨Nat.le_of_ble_eq_true rfl, Nat.le_of_ble_eq_true rfl⟩ dX6_endSource_30

end Mdl1
