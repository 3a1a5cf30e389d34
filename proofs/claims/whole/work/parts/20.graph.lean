/-! the graph: what it is, and SsaRepair.Graph's methods -/
theorem loop_up {P : Nat → Prop} (n : Nat) (h : ∀ i, i ≤ n → (i < n → P (i + 1)) → P i) : ∀ i, i ≤ n → P i := by
  have key : ∀ k i, i + k = n → P i := by
    intro k
    induction k with
    | zero => intro i hi; exact h i (by omega) (fun q => by omega)
    | succ k ih => intro i hi; exact h i (by omega) (fun _ => ih (i + 1) (by omega))
  intro i hi
  exact key (n - i) i (by omega)
theorem oI {x y : Int32} (h : x = y) : (Sum.inl (some (Value.int x)) : Oc) = .inl (some (.int y)) := by rw [h]
theorem nIlt {a n : Nat} (h : a < n) (hn : n < 2 ^ 31) : a < 2 ^ 31 := Nat.lt_trans h hn
/-- a number lies between 0 and n (without n) -/
def inR (b : Int32) (n : Nat) : Bool := decide (0 ≤ b) && decide (b < nI n)
theorem inR_lt0 {b : Int32} {n : Nat} (h : b < 0) : inR b n = false := by
  unfold inR
  rw [decide_eq_false (fun q => absurd h (Int32.not_lt.mpr q))]; rfl
theorem inR_ge {b : Int32} {n : Nat} (h : nI n ≤ b) : inR b n = false := by
  unfold inR
  rw [decide_eq_false (p := b < nI n) (Int32.not_lt.mpr h), Bool.and_false]
theorem inR_in {b : Int32} {n : Nat} (h0 : ¬ b < 0) (h1 : ¬ nI n ≤ b) : inR b n = true := by
  unfold inR
  rw [decide_eq_true (Int32.not_lt.mp h0), decide_eq_true (Int32.not_le.mp h1)]; rfl
theorem inR_t {b : Int32} {n : Nat} (hn : n < 2 ^ 31) (h : inR b n = true) : ∃ j, j < n ∧ b = nI j := by
  rcases pk_ix b hn with q | q | q
  · rw [inR_lt0 q] at h; cases h
  · rw [inR_ge q] at h; cases h
  · exact q
theorem inR_nI {j n : Nat} (h : j < n) (hn : n < 2 ^ 31) : inR (nI j) n = true := inR_in (nI_pos (by omega)) (nI_ge h hn)
theorem inR_f {b : Int32} {n : Nat} (h : inR b n = false) : b < 0 ∨ nI n ≤ b := by
  by_cases h0 : b < 0
  · exact Or.inl h0
  · by_cases h1 : nI n ≤ b
    · exact Or.inr h1
    · rw [inR_in h0 h1] at h; cases h
/-- how many blocks; a block's actions, its edges -/
abbrev Gr : Type := Nat × (Nat → List Nat) × (Nat → List Nat)
def Wf (G : Gr) : Prop := 1 ≤ G.1 ∧ G.1 ≤ 14 ∧ (∀ b, (G.2.1 b).length ≤ 6 ∧ ∀ a ∈ G.2.1 b, a < 4 ∨ (10 ≤ a ∧ a < 14)) ∧ (∀ b, (G.2.2 b).length ≤ 3 ∧ (∀ t ∈ G.2.2 b, 1 ≤ t ∧ t < G.1) ∧ (G.2.2 b).Nodup) ∧ ∀ b, G.1 ≤ b → G.2.1 b = [] ∧ G.2.2 b = []
def slG (g : Nat) : Nat → Option Value := fun k => match k with
  | 0 => none
  | 1 => some (.ref (g + 1))
  | 2 => some (.ref (g + 2))
  | 3 => some (.ref (g + 3))
  | 4 => some (.ref (g + 4))
  | _ => none
def GraphL (σ : Nat → Option Kd) (g : Nat) : Prop := σ g = some (.inr (1, 5, slG g)) ∧ σ (g + 1) = ints 14 ∧ σ (g + 2) = ints 14 ∧ σ (g + 3) = ints 84 ∧ σ (g + 4) = ints 42
/-- the cells at g hold the graph G -/
def GA (mi : Nat → Nat → Int32) (g : Nat) (G : Gr) : Prop := mi g 0 = nI G.1 ∧ ∀ b, b < 14 → mi (g + 1) b = nI (G.2.1 b).length ∧ mi (g + 2) b = nI (G.2.2 b).length ∧ (∀ k, k < (G.2.1 b).length → mi (g + 3) (6 * b + k) = nI ((G.2.1 b).getD k 0)) ∧ ∀ k, k < (G.2.2 b).length → mi (g + 4) (3 * b + k) = nI ((G.2.2 b).getD k 0)
/-- nothing but the cells of the graph at g has changed -/
def offG (mi mi' : Nat → Nat → Int32) (g : Nat) : Prop := ∀ a i, (a < g ∨ g + 5 ≤ a) → mi' a i = mi a i
theorem offG.rf {mi : Nat → Nat → Int32} {g : Nat} : offG mi mi g := fun _ _ _ => rfl
theorem offG.tr {m1 m2 m3 : Nat → Nat → Int32} {g : Nat} (h1 : offG m1 m2 g) (h2 : offG m2 m3 g) : offG m1 m3 g := fun a i h => (h2 a i h).trans (h1 a i h)
theorem offG.u2 {m1 m2 : Nat → Nat → Int32} {g a i : Nat} {x : Int32} (h : offG m1 m2 g) (ha : g ≤ a ∧ a < g + 5) : offG m1 (u2 m2 a i x) g := fun b j hb => by
  rw [u2_n _ _ (Or.inl (by omega))]; exact h b j hb

section Graph1
variable {κ : K0} {σ : Nat → Option Kd} {mi : Nat → Nat → Int32} {ml : Nat → Nat → Int64} {g : Nat} {G : Gr}
theorem ctX1_hasBlock {n : Nat} (hG : GraphL σ g) (hA : mi g 0 = nI n) {b : Int32} : Ct κ 0 0 1 mrX1_hasBlock [.ref g, .int b] (MM σ mi ml) (.inl (some (.int (bI (inR b n))))) (MM σ mi ml) := by
  refine Ct.of rfl (by simp [Value.category]) (Nat.le_of_ble_eq_true rfl) ?_
  refine V_iload_n dX1_hasBlock_0 rfl rfl ?_
  refine V_if_lt 16 dX1_hasBlock_1 (by decide) (fun h1 => ?_) (fun h1 => ?_)
  · refine V_iconst (v := nI 0) dX1_hasBlock_16 (by decide) ?_
    exact V_zret rfl rfl (oI (by rw [inR_lt0 h1]; rfl)) rfl ⟨Nat.le_of_ble_eq_true rfl, Nat.le_of_ble_eq_true rfl⟩ dX1_hasBlock_17
  · refine V_iload_n dX1_hasBlock_4 rfl rfl ?_
    refine V_aload_n dX1_hasBlock_5 rfl rfl ?_
    refine V_getE frX1_9 hG.1 rfl hA dX1_hasBlock_6 ?_
    refine V_icmp_ge 16 dX1_hasBlock_9 (by decide) (fun h9 => ?_) (fun h9 => ?_)
    · refine V_iconst (v := nI 0) dX1_hasBlock_16 (by decide) ?_
      exact V_zret rfl rfl (oI (by rw [inR_ge h9]; rfl)) rfl ⟨Nat.le_of_ble_eq_true rfl, Nat.le_of_ble_eq_true rfl⟩ dX1_hasBlock_17
    · refine V_iconst (v := nI 1) dX1_hasBlock_12 (by decide) ?_
      refine V_goto 17 dX1_hasBlock_13 (by decide) ?_
      exact V_zret rfl rfl (oI (by rw [inR_in h1 h9]; rfl)) rfl ⟨Nat.le_of_ble_eq_true rfl, Nat.le_of_ble_eq_true rfl⟩ dX1_hasBlock_17

theorem ctX1_actionAt (hG : GraphL σ g) {b k : Nat} (hb : b < 14) (hk : k < 6) : Ct κ 0 0 1 mrX1_actionAt [.ref g, .int (nI b), .int (nI k)] (MM σ mi ml) (.inl (some (.int (mi (g + 3) (6 * b + k))))) (MM σ mi ml) := by
  refine Ct.of rfl (by simp [Value.category]) (Nat.le_of_ble_eq_true rfl) ?_
  refine V_aload_n dX1_actionAt_0 rfl rfl ?_
  refine V_getR frX1_22 hG.1 rfl dX1_actionAt_1 ?_
  refine V_iload_n dX1_actionAt_4 rfl rfl ?_
  refine V_bipush (v := nI 6) dX1_actionAt_5 (by decide) ?_
  refine V_imul dX1_actionAt_7 ?_
  refine V_iload_n dX1_actionAt_8 rfl rfl ?_
  refine V_iadd dX1_actionAt_9 ?_
  refine V_ialdN hG.2.2.2.1 (6 * b + k) (mulA b 6 k) (by omega) (by decide) dX1_actionAt_10 ?_
  exact V_iret rfl rfl rfl ⟨Nat.le_of_ble_eq_true rfl, Nat.le_of_ble_eq_true rfl⟩ dX1_actionAt_11

theorem ctX1_targetAt (hG : GraphL σ g) {b k : Nat} (hb : b < 14) (hk : k < 3) : Ct κ 0 0 1 mrX1_targetAt [.ref g, .int (nI b), .int (nI k)] (MM σ mi ml) (.inl (some (.int (mi (g + 4) (3 * b + k))))) (MM σ mi ml) := by
  refine Ct.of rfl (by simp [Value.category]) (Nat.le_of_ble_eq_true rfl) ?_
  refine V_aload_n dX1_targetAt_0 rfl rfl ?_
  refine V_getR frX1_25 hG.1 rfl dX1_targetAt_1 ?_
  refine V_iload_n dX1_targetAt_4 rfl rfl ?_
  refine V_iconst (v := nI 3) dX1_targetAt_5 (by decide) ?_
  refine V_imul dX1_targetAt_6 ?_
  refine V_iload_n dX1_targetAt_7 rfl rfl ?_
  refine V_iadd dX1_targetAt_8 ?_
  refine V_ialdN hG.2.2.2.2 (3 * b + k) (mulA b 3 k) (by omega) (by decide) dX1_targetAt_9 ?_
  exact V_iret rfl rfl rfl ⟨Nat.le_of_ble_eq_true rfl, Nat.le_of_ble_eq_true rfl⟩ dX1_targetAt_10

/-- is there such an action, such an edge -/
def hasAct (G : Gr) (b k : Int32) : Bool := inR b G.1 && inR k (G.2.1 b.toNatClampNeg).length
def hasEdg (G : Gr) (b k : Int32) : Bool := inR b G.1 && inR k (G.2.2 b.toNatClampNeg).length
theorem ctX1_hasAction (hG : GraphL σ g) (hA : GA mi g G) (hw : Wf G) {b k : Int32} : Ct κ 0 0 2 mrX1_hasAction [.ref g, .int b, .int k] (MM σ mi ml) (.inl (some (.int (bI (hasAct G b k))))) (MM σ mi ml) := by
  refine Ct.of rfl (by simp [Value.category]) (Nat.le_of_ble_eq_true rfl) ?_
  have hn := hw.2.1
  cases hc : inR b G.1 with
  | false =>
    refine V_aload_n dX1_hasAction_0 rfl rfl ?_
    refine V_iload_n dX1_hasAction_1 rfl rfl ?_
    refine V_cv1 (ctX1_hasBlock hG hA.1) mvX1_hasBlock lkX1_38 hG.1 rfl rfl rfl (Nat.le_of_ble_eq_true rfl) ⟨⟨Nat.le_of_ble_eq_true rfl, Nat.le_of_ble_eq_true rfl⟩, Nat.le_of_ble_eq_true rfl, Nat.le_of_ble_eq_true rfl⟩ dX1_hasAction_2 ?_
    rw [hc]
    refine V_ifeqB 26 dX1_hasAction_5 (by decide) (fun h5 => ?_) (fun h5 => by cases h5)
    refine V_iconst (v := nI 0) dX1_hasAction_26 (by decide) ?_
    exact V_zret rfl rfl (oI (by rw [show hasAct G b k = false by unfold hasAct; rw [hc]; rfl]; rfl)) rfl ⟨Nat.le_of_ble_eq_true rfl, Nat.le_of_ble_eq_true rfl⟩ dX1_hasAction_27

  | true =>
    obtain ⟨j, hj, rfl⟩ := inR_t (by omega) hc
    refine V_aload_n dX1_hasAction_0 rfl rfl ?_
    refine V_iload_n dX1_hasAction_1 rfl rfl ?_
    refine V_cv1 (ctX1_hasBlock hG hA.1) mvX1_hasBlock lkX1_38 hG.1 rfl rfl rfl (Nat.le_of_ble_eq_true rfl) ⟨⟨Nat.le_of_ble_eq_true rfl, Nat.le_of_ble_eq_true rfl⟩, Nat.le_of_ble_eq_true rfl, Nat.le_of_ble_eq_true rfl⟩ dX1_hasAction_2 ?_
    rw [hc]
    refine V_ifeqB 26 dX1_hasAction_5 (by decide) (fun h5 => by cases h5) (fun h5 => ?_)
    refine V_iload_n dX1_hasAction_8 rfl rfl ?_
    refine V_if_lt 26 dX1_hasAction_9 (by decide) (fun h9 => ?_) (fun h9 => ?_)
    · refine V_iconst (v := nI 0) dX1_hasAction_26 (by decide) ?_
      exact V_zret rfl rfl (oI (by rw [show hasAct G (nI j) k = false by unfold hasAct; rw [hc, nI_clamp (by omega)]; rw [inR_lt0 h9]; rfl]; rfl)) rfl ⟨Nat.le_of_ble_eq_true rfl, Nat.le_of_ble_eq_true rfl⟩ dX1_hasAction_27
    · refine V_iload_n dX1_hasAction_12 rfl rfl ?_
      refine V_aload_n dX1_hasAction_13 rfl rfl ?_
      refine V_getR frX1_15 hG.1 rfl dX1_hasAction_14 ?_
      refine V_iload_n dX1_hasAction_17 rfl rfl ?_
      refine V_ialdE hG.2.1 j rfl (by omega) (by decide) (hA.2 j (by omega)).1 dX1_hasAction_18 ?_
      refine V_icmp_ge 26 dX1_hasAction_19 (by decide) (fun h19 => ?_) (fun h19 => ?_)
      · refine V_iconst (v := nI 0) dX1_hasAction_26 (by decide) ?_
        exact V_zret rfl rfl (oI (by rw [show hasAct G (nI j) k = false by unfold hasAct; rw [hc, nI_clamp (by omega)]; rw [inR_ge h19]; rfl]; rfl)) rfl ⟨Nat.le_of_ble_eq_true rfl, Nat.le_of_ble_eq_true rfl⟩ dX1_hasAction_27
      · refine V_iconst (v := nI 1) dX1_hasAction_22 (by decide) ?_
        refine V_goto 27 dX1_hasAction_23 (by decide) ?_
        exact V_zret rfl rfl (oI (by rw [show hasAct G (nI j) k = true by unfold hasAct; rw [hc, nI_clamp (by omega)]; rw [inR_in h9 h19]; rfl]; rfl)) rfl ⟨Nat.le_of_ble_eq_true rfl, Nat.le_of_ble_eq_true rfl⟩ dX1_hasAction_27

theorem ctX1_hasEdge (hG : GraphL σ g) (hA : GA mi g G) (hw : Wf G) {b k : Int32} : Ct κ 0 0 2 mrX1_hasEdge [.ref g, .int b, .int k] (MM σ mi ml) (.inl (some (.int (bI (hasEdg G b k))))) (MM σ mi ml) := by
  refine Ct.of rfl (by simp [Value.category]) (Nat.le_of_ble_eq_true rfl) ?_
  have hn := hw.2.1
  cases hc : inR b G.1 with
  | false =>
    refine V_aload_n dX1_hasEdge_0 rfl rfl ?_
    refine V_iload_n dX1_hasEdge_1 rfl rfl ?_
    refine V_cv1 (ctX1_hasBlock hG hA.1) mvX1_hasBlock lkX1_38 hG.1 rfl rfl rfl (Nat.le_of_ble_eq_true rfl) ⟨⟨Nat.le_of_ble_eq_true rfl, Nat.le_of_ble_eq_true rfl⟩, Nat.le_of_ble_eq_true rfl, Nat.le_of_ble_eq_true rfl⟩ dX1_hasEdge_2 ?_
    rw [hc]
    refine V_ifeqB 26 dX1_hasEdge_5 (by decide) (fun h5 => ?_) (fun h5 => by cases h5)
    refine V_iconst (v := nI 0) dX1_hasEdge_26 (by decide) ?_
    exact V_zret rfl rfl (oI (by rw [show hasEdg G b k = false by unfold hasEdg; rw [hc]; rfl]; rfl)) rfl ⟨Nat.le_of_ble_eq_true rfl, Nat.le_of_ble_eq_true rfl⟩ dX1_hasEdge_27

  | true =>
    obtain ⟨j, hj, rfl⟩ := inR_t (by omega) hc
    refine V_aload_n dX1_hasEdge_0 rfl rfl ?_
    refine V_iload_n dX1_hasEdge_1 rfl rfl ?_
    refine V_cv1 (ctX1_hasBlock hG hA.1) mvX1_hasBlock lkX1_38 hG.1 rfl rfl rfl (Nat.le_of_ble_eq_true rfl) ⟨⟨Nat.le_of_ble_eq_true rfl, Nat.le_of_ble_eq_true rfl⟩, Nat.le_of_ble_eq_true rfl, Nat.le_of_ble_eq_true rfl⟩ dX1_hasEdge_2 ?_
    rw [hc]
    refine V_ifeqB 26 dX1_hasEdge_5 (by decide) (fun h5 => by cases h5) (fun h5 => ?_)
    refine V_iload_n dX1_hasEdge_8 rfl rfl ?_
    refine V_if_lt 26 dX1_hasEdge_9 (by decide) (fun h9 => ?_) (fun h9 => ?_)
    · refine V_iconst (v := nI 0) dX1_hasEdge_26 (by decide) ?_
      exact V_zret rfl rfl (oI (by rw [show hasEdg G (nI j) k = false by unfold hasEdg; rw [hc, nI_clamp (by omega)]; rw [inR_lt0 h9]; rfl]; rfl)) rfl ⟨Nat.le_of_ble_eq_true rfl, Nat.le_of_ble_eq_true rfl⟩ dX1_hasEdge_27
    · refine V_iload_n dX1_hasEdge_12 rfl rfl ?_
      refine V_aload_n dX1_hasEdge_13 rfl rfl ?_
      refine V_getR frX1_19 hG.1 rfl dX1_hasEdge_14 ?_
      refine V_iload_n dX1_hasEdge_17 rfl rfl ?_
      refine V_ialdE hG.2.2.1 j rfl (by omega) (by decide) (hA.2 j (by omega)).2.1 dX1_hasEdge_18 ?_
      refine V_icmp_ge 26 dX1_hasEdge_19 (by decide) (fun h19 => ?_) (fun h19 => ?_)
      · refine V_iconst (v := nI 0) dX1_hasEdge_26 (by decide) ?_
        exact V_zret rfl rfl (oI (by rw [show hasEdg G (nI j) k = false by unfold hasEdg; rw [hc, nI_clamp (by omega)]; rw [inR_ge h19]; rfl]; rfl)) rfl ⟨Nat.le_of_ble_eq_true rfl, Nat.le_of_ble_eq_true rfl⟩ dX1_hasEdge_27
      · refine V_iconst (v := nI 1) dX1_hasEdge_22 (by decide) ?_
        refine V_goto 27 dX1_hasEdge_23 (by decide) ?_
        exact V_zret rfl rfl (oI (by rw [show hasEdg G (nI j) k = true by unfold hasEdg; rw [hc, nI_clamp (by omega)]; rw [inR_in h9 h19]; rfl]; rfl)) rfl ⟨Nat.le_of_ble_eq_true rfl, Nat.le_of_ble_eq_true rfl⟩ dX1_hasEdge_27

def eix : List Nat → Nat → Nat → Int32
  | [], _, _ => -1
  | a :: l, t, k => if a = t then nI k else eix l t (k + 1)
theorem eix_at : ∀ (l : List Nat) (t k i : Nat), i < l.length → l.getD i 0 = t → (∀ j, j < i → l.getD j 0 ≠ t) → eix l t k = nI (k + i)
  | [], t, k, i, h, _, _ => by simp at h
  | a :: l, t, k, 0, h, h1, h2 => by
    have e : a = t := by simpa using h1
    rw [eix, if_pos e]; rfl
  | a :: l, t, k, i + 1, h, h1, h2 => by
    have e : a ≠ t := by simpa using h2 0 (by omega)
    rw [eix, if_neg e, eix_at l t (k + 1) i (by simpa using h) (by simpa using h1) (fun j hj => by simpa using h2 (j + 1) (by omega))]
    congr 1; omega
theorem eix_no : ∀ (l : List Nat) (t k : Nat), (∀ j, j < l.length → l.getD j 0 ≠ t) → eix l t k = -1
  | [], t, k, _ => rfl
  | a :: l, t, k, h => by
    have e : a ≠ t := by simpa using h 0 (by simp)
    rw [eix, if_neg e, eix_no l t (k + 1) (fun j hj => by simpa using h (j + 1) (by simpa using hj))]
theorem ctX1_edgeBetween (hG : GraphL σ g) (hA : GA mi g G) (hw : Wf G) {b t : Nat} (hb : b < 14) (ht : t < 14) : Ct κ 0 0 2 mrX1_edgeBetween [.ref g, .int (nI b), .int (nI t)] (MM σ mi ml) (.inl (some (.int (eix (G.2.2 b) t 0)))) (MM σ mi ml) := by
  refine Ct.of rfl (by simp [Value.category]) (Nat.le_of_ble_eq_true rfl) ?_
  have hl := (hw.2.2.2.1 b).1
  have htl : ∀ j, j < (G.2.2 b).length → (G.2.2 b).getD j 0 < 14 := fun j hj => by
    have h1 := ((hw.2.2.2.1 b).2.1 ((G.2.2 b).getD j 0) (by rw [List.getD_eq_getElem?_getD, List.getElem?_eq_getElem hj]; exact List.getElem_mem hj)).2
    have h2 := hw.2.1
    omega
  have lp : ∀ i, i ≤ (G.2.2 b).length → (∀ j, j < i → (G.2.2 b).getD j 0 ≠ t) → V κ (phi κ mrX1_edgeBetween 2 0 0 (.inl (some (.int (eix (G.2.2 b) t 0)))) (MM σ mi ml)) 0 0 2 [some (.ref g), some (.int (nI b)), some (.int (nI t)), some (.int (nI i))] [] (MM σ mi ml) := loop_up _ (fun i hi ih hno => by
    refine V_iload_n dX1_edgeBetween_2 rfl rfl ?_
    refine V_aload_n dX1_edgeBetween_3 rfl rfl ?_
    refine V_getR frX1_19 hG.1 rfl dX1_edgeBetween_4 ?_
    refine V_iload_n dX1_edgeBetween_7 rfl rfl ?_
    refine V_ialdE hG.2.2.1 b rfl (by omega) (by decide) (hA.2 b hb).2.1 dX1_edgeBetween_8 ?_
    refine V_N_ge (by omega) (by omega) 30 dX1_edgeBetween_9 (by decide) (fun h9 => ?_) (fun h9 => ?_)
    · refine V_iconst (v := (-1)) dX1_edgeBetween_30 (by decide) ?_
      exact V_iret rfl (oI (eix_no _ _ _ (fun j hj => hno j (by omega)))) rfl ⟨Nat.le_of_ble_eq_true rfl, Nat.le_of_ble_eq_true rfl⟩ dX1_edgeBetween_31
    · refine V_aload_n dX1_edgeBetween_12 rfl rfl ?_
      refine V_iload_n dX1_edgeBetween_13 rfl rfl ?_
      refine V_iload_n dX1_edgeBetween_14 rfl rfl ?_
      refine V_cv1 (ctX1_targetAt hG hb (by omega)) mvX1_targetAt lkX1_42 hG.1 rfl rfl rfl (Nat.le_of_ble_eq_true rfl) ⟨⟨Nat.le_of_ble_eq_true rfl, Nat.le_of_ble_eq_true rfl⟩, Nat.le_of_ble_eq_true rfl, Nat.le_of_ble_eq_true rfl⟩ dX1_edgeBetween_15 ?_
      refine V_top ((hA.2 b hb).2.2.2 i h9) ?_
      refine V_iload_n dX1_edgeBetween_18 rfl rfl ?_
      refine V_N_ne (by have := htl i h9; omega) (by omega) 24 dX1_edgeBetween_19 (by decide) (fun h19 => ?_) (fun h19 => ?_)
      · refine V_iinc1 dX1_edgeBetween_24 rfl (Nat.le_of_ble_eq_true rfl) ?_
        refine V_goto 2 dX1_edgeBetween_27 (by decide) ?_
        exact ih h9 (fun j hj => by
          rcases Nat.lt_or_ge j i with q | q
          · exact hno j q
          · rw [show j = i by omega]; exact h19)
      · refine V_iload_n dX1_edgeBetween_22 rfl rfl ?_
        exact V_iret rfl (oI ((eix_at _ _ 0 i h9 h19 hno).trans (by rw [Nat.zero_add]))) rfl ⟨Nat.le_of_ble_eq_true rfl, Nat.le_of_ble_eq_true rfl⟩ dX1_edgeBetween_23
    )
  refine V_iconst (v := nI 0) dX1_edgeBetween_0 (by decide) ?_
  refine V_istore_n dX1_edgeBetween_1 rfl (Nat.le_of_ble_eq_true rfl) ?_
  exact lp 0 (Nat.zero_le _) (fun j hj => absurd hj (Nat.not_lt_zero j))

theorem take_mem_succ {l : List Nat} {i t : Nat} (h : i < l.length) : t ∈ l.take (i + 1) ↔ t ∈ l.take i ∨ t = l.getD i 0 := by
  rw [List.take_succ, List.mem_append, List.getElem?_eq_getElem h, List.getD_eq_getElem?_getD, List.getElem?_eq_getElem h]
  simp
theorem ctX1_targetSet (hG : GraphL σ g) (hA : GA mi g G) (hw : Wf G) {b : Nat} (hb : b < 14) : Ct κ 0 0 2 mrX1_targetSet [.ref g, .int (nI b)] (MM σ mi ml) (.inl (some (.int (msk (fun t => decide (t ∈ G.2.2 b)))))) (MM σ mi ml) := by
  refine Ct.of rfl (by simp [Value.category]) (Nat.le_of_ble_eq_true rfl) ?_
  have hl := (hw.2.2.2.1 b).1
  have htl : ∀ j, j < (G.2.2 b).length → (G.2.2 b).getD j 0 < 14 := fun j hj => by
    have h1 := ((hw.2.2.2.1 b).2.1 ((G.2.2 b).getD j 0) (by rw [List.getD_eq_getElem?_getD, List.getElem?_eq_getElem hj]; exact List.getElem_mem hj)).2
    have h2 := hw.2.1
    omega
  have lp : ∀ i, i ≤ (G.2.2 b).length → V κ (phi κ mrX1_targetSet 2 0 0 (.inl (some (.int (msk (fun t => decide (t ∈ G.2.2 b)))))) (MM σ mi ml)) 0 0 4 [some (.ref g), some (.int (nI b)), some (.int (msk (fun t => decide (t ∈ (G.2.2 b).take i)))), some (.int (nI i))] [] (MM σ mi ml) := loop_up _ (fun i hi ih => by
    refine V_iload_n dX1_targetSet_4 rfl rfl ?_
    refine V_aload_n dX1_targetSet_5 rfl rfl ?_
    refine V_getR frX1_19 hG.1 rfl dX1_targetSet_6 ?_
    refine V_iload_n dX1_targetSet_9 rfl rfl ?_
    refine V_ialdE hG.2.2.1 b rfl (by omega) (by decide) (hA.2 b hb).2.1 dX1_targetSet_10 ?_
    refine V_N_ge (by omega) (by omega) 31 dX1_targetSet_11 (by decide) (fun h11 => ?_) (fun h11 => ?_)
    · refine V_iload_n dX1_targetSet_31 rfl rfl ?_
      exact V_iret rfl (oI (by rw [show i = (G.2.2 b).length by omega, List.take_length])) rfl ⟨Nat.le_of_ble_eq_true rfl, Nat.le_of_ble_eq_true rfl⟩ dX1_targetSet_32
    · refine V_iload_n dX1_targetSet_14 rfl rfl ?_
      refine V_iconst (v := nI 1) dX1_targetSet_15 (by decide) ?_
      refine V_aload_n dX1_targetSet_16 rfl rfl ?_
      refine V_iload_n dX1_targetSet_17 rfl rfl ?_
      refine V_iload_n dX1_targetSet_18 rfl rfl ?_
      refine V_cv1 (ctX1_targetAt hG hb (by omega)) mvX1_targetAt lkX1_42 hG.1 rfl rfl rfl (Nat.le_of_ble_eq_true rfl) ⟨⟨Nat.le_of_ble_eq_true rfl, Nat.le_of_ble_eq_true rfl⟩, Nat.le_of_ble_eq_true rfl, Nat.le_of_ble_eq_true rfl⟩ dX1_targetSet_19 ?_
      refine V_top ((hA.2 b hb).2.2.2 i h11) ?_
      refine V_ishl dX1_targetSet_22 ?_
      refine V_top (msk_one (htl i h11)) ?_
      refine V_ior dX1_targetSet_23 ?_
      refine V_top (show _ = msk (fun t => decide (t ∈ (G.2.2 b).take (i + 1))) by
        rw [msk_or]
        refine msk_congr (fun k _ => ?_)
        rw [← Bool.decide_or]
        exact decide_eq_decide.mpr (take_mem_succ h11).symm) ?_
      refine V_istore_n dX1_targetSet_24 rfl (Nat.le_of_ble_eq_true rfl) ?_
      refine V_iinc1 dX1_targetSet_25 rfl (Nat.le_of_ble_eq_true rfl) ?_
      refine V_goto 4 dX1_targetSet_28 (by decide) ?_
      exact ih h11
    )
  refine V_iconst (v := nI 0) dX1_targetSet_0 (by decide) ?_
  refine V_istore_n dX1_targetSet_1 rfl (Nat.le_of_ble_eq_true rfl) ?_
  refine V_iconst (v := nI 0) dX1_targetSet_2 (by decide) ?_
  refine V_istore_n dX1_targetSet_3 rfl (Nat.le_of_ble_eq_true rfl) ?_
  exact V.cL (lp 0 (Nat.zero_le _)) (by rw [show msk (fun t => decide (t ∈ (G.2.2 b).take 0)) = nI 0 by simp [msk_zero]; rfl]; rfl)

theorem ctX1_emptyBlock (hG : GraphL σ g) {b : Nat} (hb : b < 14) : Ct κ 0 0 1 mrX1_emptyBlock [.ref g, .int (nI b)] (MM σ mi ml) (.inl none) (MM σ (u2 (u2 mi (g + 1) b (nI 0)) (g + 2) b (nI 0)) ml) := by
  refine Ct.of rfl (by simp [Value.category]) (Nat.le_of_ble_eq_true rfl) ?_
  refine V_aload_n dX1_emptyBlock_0 rfl rfl ?_
  refine V_getR frX1_15 hG.1 rfl dX1_emptyBlock_1 ?_
  refine V_iload_n dX1_emptyBlock_4 rfl rfl ?_
  refine V_iconst (v := nI 0) dX1_emptyBlock_5 (by decide) ?_
  refine V_iastN hG.2.1 b rfl (by omega) (by decide) dX1_emptyBlock_6 ?_
  refine V_aload_n dX1_emptyBlock_7 rfl rfl ?_
  refine V_getR frX1_19 hG.1 rfl dX1_emptyBlock_8 ?_
  refine V_iload_n dX1_emptyBlock_11 rfl rfl ?_
  refine V_iconst (v := nI 0) dX1_emptyBlock_12 (by decide) ?_
  refine V_iastN hG.2.2.1 b rfl (by omega) (by decide) dX1_emptyBlock_13 ?_
  exact V_vret rfl rfl rfl ⟨Nat.le_of_ble_eq_true rfl, Nat.le_of_ble_eq_true rfl⟩ dX1_emptyBlock_14

theorem ctX1_putAction (hG : GraphL σ g) {b c : Nat} {x : Int32} (hb : b < 14) (hc : mi (g + 1) b = nI c) (hc2 : c < 6) : Ct κ 0 0 1 mrX1_putAction [.ref g, .int (nI b), .int x] (MM σ mi ml) (.inl none) (MM σ (u2 (u2 mi (g + 3) (6 * b + c) x) (g + 1) b (nI (c + 1))) ml) := by
  refine Ct.of rfl (by simp [Value.category]) (Nat.le_of_ble_eq_true rfl) ?_
  refine V_aload_n dX1_putAction_0 rfl rfl ?_
  refine V_getR frX1_15 hG.1 rfl dX1_putAction_1 ?_
  refine V_iload_n dX1_putAction_4 rfl rfl ?_
  refine V_ialdE hG.2.1 b rfl (by omega) (by decide) hc dX1_putAction_5 ?_
  refine V_bipush (v := nI 6) dX1_putAction_6 (by decide) ?_
  refine V_N_ge (by omega) (by omega) 38 dX1_putAction_8 (by decide) (fun h => absurd hc2 (by omega)) (fun h => ?_)
  refine V_aload_n dX1_putAction_11 rfl rfl ?_
  refine V_getR frX1_22 hG.1 rfl dX1_putAction_12 ?_
  refine V_iload_n dX1_putAction_15 rfl rfl ?_
  refine V_bipush (v := nI 6) dX1_putAction_16 (by decide) ?_
  refine V_imul dX1_putAction_18 ?_
  refine V_aload_n dX1_putAction_19 rfl rfl ?_
  refine V_getR frX1_15 hG.1 rfl dX1_putAction_20 ?_
  refine V_iload_n dX1_putAction_23 rfl rfl ?_
  refine V_ialdE hG.2.1 b rfl (by omega) (by decide) hc dX1_putAction_24 ?_
  refine V_iadd dX1_putAction_25 ?_
  refine V_top (mulA b 6 c) ?_
  refine V_iload_n dX1_putAction_26 rfl rfl ?_
  refine V_iastN hG.2.2.2.1 (6 * b + c) rfl (by omega) (by decide) dX1_putAction_27 ?_
  refine V_aload_n dX1_putAction_28 rfl rfl ?_
  refine V_getR frX1_15 hG.1 rfl dX1_putAction_29 ?_
  refine V_iload_n dX1_putAction_32 rfl rfl ?_
  refine V_dup2 dX1_putAction_33 rfl rfl ?_
  refine V_ialdE hG.2.1 b rfl (by omega) (by decide) ((u2_n _ _ (Or.inl (by omega))).trans hc) dX1_putAction_34 ?_
  refine V_iconst (v := nI 1) dX1_putAction_35 (by decide) ?_
  refine V_iadd dX1_putAction_36 ?_
  refine V_top (nI_add c 1) ?_
  refine V_iastN hG.2.1 b rfl (by omega) (by decide) dX1_putAction_37 ?_
  exact V_vret rfl rfl rfl ⟨Nat.le_of_ble_eq_true rfl, Nat.le_of_ble_eq_true rfl⟩ dX1_putAction_38

theorem ctX1_putEdge (hG : GraphL σ g) {b c : Nat} {x : Int32} (hb : b < 14) (hc : mi (g + 2) b = nI c) (hc2 : c < 3) : Ct κ 0 0 1 mrX1_putEdge [.ref g, .int (nI b), .int x] (MM σ mi ml) (.inl none) (MM σ (u2 (u2 mi (g + 4) (3 * b + c) x) (g + 2) b (nI (c + 1))) ml) := by
  refine Ct.of rfl (by simp [Value.category]) (Nat.le_of_ble_eq_true rfl) ?_
  refine V_aload_n dX1_putEdge_0 rfl rfl ?_
  refine V_getR frX1_19 hG.1 rfl dX1_putEdge_1 ?_
  refine V_iload_n dX1_putEdge_4 rfl rfl ?_
  refine V_ialdE hG.2.2.1 b rfl (by omega) (by decide) hc dX1_putEdge_5 ?_
  refine V_iconst (v := nI 3) dX1_putEdge_6 (by decide) ?_
  refine V_N_ge (by omega) (by omega) 36 dX1_putEdge_7 (by decide) (fun h => absurd hc2 (by omega)) (fun h => ?_)
  refine V_aload_n dX1_putEdge_10 rfl rfl ?_
  refine V_getR frX1_25 hG.1 rfl dX1_putEdge_11 ?_
  refine V_iload_n dX1_putEdge_14 rfl rfl ?_
  refine V_iconst (v := nI 3) dX1_putEdge_15 (by decide) ?_
  refine V_imul dX1_putEdge_16 ?_
  refine V_aload_n dX1_putEdge_17 rfl rfl ?_
  refine V_getR frX1_19 hG.1 rfl dX1_putEdge_18 ?_
  refine V_iload_n dX1_putEdge_21 rfl rfl ?_
  refine V_ialdE hG.2.2.1 b rfl (by omega) (by decide) hc dX1_putEdge_22 ?_
  refine V_iadd dX1_putEdge_23 ?_
  refine V_top (mulA b 3 c) ?_
  refine V_iload_n dX1_putEdge_24 rfl rfl ?_
  refine V_iastN hG.2.2.2.2 (3 * b + c) rfl (by omega) (by decide) dX1_putEdge_25 ?_
  refine V_aload_n dX1_putEdge_26 rfl rfl ?_
  refine V_getR frX1_19 hG.1 rfl dX1_putEdge_27 ?_
  refine V_iload_n dX1_putEdge_30 rfl rfl ?_
  refine V_dup2 dX1_putEdge_31 rfl rfl ?_
  refine V_ialdE hG.2.2.1 b rfl (by omega) (by decide) ((u2_n _ _ (Or.inl (by omega))).trans hc) dX1_putEdge_32 ?_
  refine V_iconst (v := nI 1) dX1_putEdge_33 (by decide) ?_
  refine V_iadd dX1_putEdge_34 ?_
  refine V_top (nI_add c 1) ?_
  refine V_iastN hG.2.2.1 b rfl (by omega) (by decide) dX1_putEdge_35 ?_
  exact V_vret rfl rfl rfl ⟨Nat.le_of_ble_eq_true rfl, Nat.le_of_ble_eq_true rfl⟩ dX1_putEdge_36

theorem ctX1_redirect (hG : GraphL σ g) {b k : Nat} {x : Int32} (hb : b < 14) (hk : k < 3) : Ct κ 0 0 1 mrX1_redirect [.ref g, .int (nI b), .int (nI k), .int x] (MM σ mi ml) (.inl none) (MM σ (u2 mi (g + 4) (3 * b + k) x) ml) := by
  refine Ct.of rfl (by simp [Value.category]) (Nat.le_of_ble_eq_true rfl) ?_
  refine V_aload_n dX1_redirect_0 rfl rfl ?_
  refine V_getR frX1_25 hG.1 rfl dX1_redirect_1 ?_
  refine V_iload_n dX1_redirect_4 rfl rfl ?_
  refine V_iconst (v := nI 3) dX1_redirect_5 (by decide) ?_
  refine V_imul dX1_redirect_6 ?_
  refine V_iload_n dX1_redirect_7 rfl rfl ?_
  refine V_iadd dX1_redirect_8 ?_
  refine V_iload_n dX1_redirect_9 rfl rfl ?_
  refine V_iastN hG.2.2.2.2 (3 * b + k) (mulA b 3 k) (by omega) (by decide) dX1_redirect_10 ?_
  exact V_vret rfl rfl rfl ⟨Nat.le_of_ble_eq_true rfl, Nat.le_of_ble_eq_true rfl⟩ dX1_redirect_11

theorem GA_empty (hA : GA mi g G) {b : Nat} (hb : b < 14) : GA (u2 (u2 mi (g + 1) b (nI 0)) (g + 2) b (nI 0)) g (G.1, va_up G.2.1 b [], va_up G.2.2 b []) := by
  refine ⟨by simp [u2]; exact hA.1, fun b' hb' => ?_⟩
  obtain ⟨h1, h2, h3, h4⟩ := hA.2 b' hb'
  by_cases e : b' = b
  · subst e; simp [u2, va_up]
  · simp [u2, va_up, e]; exact ⟨h1, h2, h3, h4⟩
theorem getD_app {l : List Nat} {x k : Nat} (hk : k < l.length + 1) : (l ++ [x]).getD k 0 = if k = l.length then x else l.getD k 0 := by
  rw [List.getD_eq_getElem?_getD, List.getD_eq_getElem?_getD]
  by_cases h : k = l.length
  · rw [if_pos h, h, List.getElem?_append_right (Nat.le_refl _)]; simp
  · rw [if_neg h, List.getElem?_append_left (by omega)]
theorem GA_putA (hA : GA mi g G) (h6 : ∀ b, (G.2.1 b).length ≤ 6) {b x : Nat} (hb : b < 14) (hc : (G.2.1 b).length < 6) : GA (u2 (u2 mi (g + 3) (6 * b + (G.2.1 b).length) (nI x)) (g + 1) b (nI ((G.2.1 b).length + 1))) g (G.1, va_up G.2.1 b (G.2.1 b ++ [x]), G.2.2) := by
  refine ⟨by simp [u2]; exact hA.1, fun b' hb' => ?_⟩
  obtain ⟨h1, h2, h3, h4⟩ := hA.2 b' hb'
  have h6' := h6 b'
  by_cases e : b' = b
  · subst e
    refine ⟨by simp [u2, va_up], by simp [u2]; exact h2, fun k hk => ?_, fun k hk => by simp [u2]; exact h4 k hk⟩
    simp only [va_up_self, List.length_append, List.length_cons, List.length_nil] at hk
    rw [show (va_up G.2.1 b' (G.2.1 b' ++ [x]) b').getD k 0 = if k = (G.2.1 b').length then x else (G.2.1 b').getD k 0 by rw [va_up_self]; exact getD_app (by omega)]
    by_cases e2 : k = (G.2.1 b').length
    · simp [u2, e2]
    · rw [if_neg e2]; simp [u2, e2]; exact h3 k (by omega)
  · refine ⟨by simp [u2, va_up, e]; exact h1, by simp [u2]; exact h2, fun k hk => ?_, fun k hk => by simp [u2]; exact h4 k hk⟩
    simp only [va_up_ne _ _ e] at hk ⊢
    rw [u2_n _ _ (Or.inl (by omega)), u2_n _ _ (Or.inr (by omega))]
    exact h3 k hk
theorem GA_putE (hA : GA mi g G) (h3' : ∀ b, (G.2.2 b).length ≤ 3) {b x : Nat} (hb : b < 14) (hc : (G.2.2 b).length < 3) : GA (u2 (u2 mi (g + 4) (3 * b + (G.2.2 b).length) (nI x)) (g + 2) b (nI ((G.2.2 b).length + 1))) g (G.1, G.2.1, va_up G.2.2 b (G.2.2 b ++ [x])) := by
  refine ⟨by simp [u2]; exact hA.1, fun b' hb' => ?_⟩
  obtain ⟨h1, h2, h3, h4⟩ := hA.2 b' hb'
  have h6' := h3' b'
  by_cases e : b' = b
  · subst e
    refine ⟨by simp [u2]; exact h1, by simp [u2, va_up], fun k hk => by simp [u2]; exact h3 k hk, fun k hk => ?_⟩
    simp only [va_up_self, List.length_append, List.length_cons, List.length_nil] at hk
    rw [show (va_up G.2.2 b' (G.2.2 b' ++ [x]) b').getD k 0 = if k = (G.2.2 b').length then x else (G.2.2 b').getD k 0 by rw [va_up_self]; exact getD_app (by omega)]
    by_cases e2 : k = (G.2.2 b').length
    · simp [u2, e2]
    · rw [if_neg e2]; simp [u2, e2]; exact h4 k (by omega)
  · refine ⟨by simp [u2]; exact h1, by simp [u2, va_up, e]; exact h2, fun k hk => by simp [u2]; exact h3 k hk, fun k hk => ?_⟩
    simp only [va_up_ne _ _ e] at hk ⊢
    rw [u2_n _ _ (Or.inl (by omega)), u2_n _ _ (Or.inr (by omega))]
    exact h4 k hk
theorem getD_set {l : List Nat} {i k x : Nat} (hi : i < l.length) : (l.set i x).getD k 0 = if k = i then x else l.getD k 0 := by
  rw [List.getD_eq_getElem?_getD, List.getD_eq_getElem?_getD]
  by_cases h : k = i
  · subst h; rw [if_pos rfl, List.getElem?_set_self hi]; rfl
  · rw [if_neg h, List.getElem?_set_ne (Ne.symm h)]
theorem GA_redir (hA : GA mi g G) (h3' : ∀ b, (G.2.2 b).length ≤ 3) {b i x : Nat} (hb : b < 14) (hi : i < (G.2.2 b).length) : GA (u2 mi (g + 4) (3 * b + i) (nI x)) g (G.1, G.2.1, va_up G.2.2 b ((G.2.2 b).set i x)) := by
  refine ⟨by simp [u2]; exact hA.1, fun b' hb' => ?_⟩
  obtain ⟨h1, h2, h3, h4⟩ := hA.2 b' hb'
  have h6' := h3' b'
  have h6 := h3' b
  by_cases e : b' = b
  · subst e
    refine ⟨by simp [u2]; exact h1, by simp [u2, va_up]; exact h2, fun k hk => by simp [u2]; exact h3 k hk, fun k hk => ?_⟩
    simp only [va_up_self, List.length_set] at hk
    rw [show (va_up G.2.2 b' ((G.2.2 b').set i x) b').getD k 0 = if k = i then x else (G.2.2 b').getD k 0 by rw [va_up_self]; exact getD_set hi]
    by_cases e2 : k = i
    · simp [u2, e2]
    · rw [if_neg e2]; simp [u2, e2]; exact h4 k hk
  · refine ⟨by simp [u2]; exact h1, by simp [u2, va_up, e]; exact h2, fun k hk => by simp [u2]; exact h3 k hk, fun k hk => ?_⟩
    simp only [va_up_ne _ _ e] at hk ⊢
    rw [u2_n _ _ (Or.inr (by omega))]
    exact h4 k hk
/-- the places from lo on hold what stood one place further -/
def shf (f : Nat → Nat → Int32) (a lo hi : Nat) : Nat → Nat → Int32 := fun b j => if b = a ∧ lo ≤ j ∧ j < hi then f a (j + 1) else f b j
theorem shf_0 (f : Nat → Nat → Int32) (a lo : Nat) : shf f a lo lo = f := by
  funext b j; unfold shf; rw [if_neg (by omega)]
theorem shf_s (f : Nat → Nat → Int32) {a lo hi : Nat} (h : lo ≤ hi) : u2 (shf f a lo hi) a hi (f a (hi + 1)) = shf f a lo (hi + 1) := by
  funext b j
  unfold shf u2
  dsimp only
  by_cases e : b = a
  · subst e
    by_cases e2 : j = hi
    · subst e2; simp [h]
    · by_cases e3 : lo ≤ j ∧ j < hi
      · rw [if_neg (by omega), if_pos (by omega), if_pos (by omega)]
      · rw [if_neg (by omega), if_neg (by omega), if_neg (by omega)]
  · simp [e]
theorem getD_erase {l : List Nat} {i k : Nat} : (l.eraseIdx i).getD k 0 = if k < i then l.getD k 0 else l.getD (k + 1) 0 := by
  rw [List.getD_eq_getElem?_getD, List.getElem?_eraseIdx]
  split <;> rw [List.getD_eq_getElem?_getD]
theorem len_erase {l : List Nat} {i : Nat} (h : i < l.length) : (l.eraseIdx i).length = l.length - 1 := by
  rw [List.length_eraseIdx, if_pos h]
theorem GA_dropA (hA : GA mi g G) (h6 : ∀ b, (G.2.1 b).length ≤ 6) {b i : Nat} (hb : b < 14) (hi : i < (G.2.1 b).length) : GA (u2 (shf mi (g + 3) (6 * b + i) (6 * b + ((G.2.1 b).length - 1))) (g + 1) b (nI ((G.2.1 b).length - 1))) g (G.1, va_up G.2.1 b ((G.2.1 b).eraseIdx i), G.2.2) := by
  refine ⟨by simp [u2, shf]; exact hA.1, fun b' hb' => ?_⟩
  obtain ⟨h1, h2, h3, h4⟩ := hA.2 b' hb'
  have h6' := h6 b'
  have h6b := h6 b
  by_cases e : b' = b
  · subst e
    refine ⟨by simp [u2, va_up, len_erase hi], by simp [u2, shf]; exact h2, fun k hk => ?_, fun k hk => by simp [u2, shf]; exact h4 k hk⟩
    simp only [va_up_self, len_erase hi] at hk
    rw [show (va_up G.2.1 b' ((G.2.1 b').eraseIdx i) b').getD k 0 = if k < i then (G.2.1 b').getD k 0 else (G.2.1 b').getD (k + 1) 0 by rw [va_up_self]; exact getD_erase]
    rw [u2_n _ _ (Or.inl (by omega))]
    unfold shf
    by_cases e2 : k < i
    · rw [if_pos e2, if_neg (by omega)]; exact h3 k (by omega)
    · rw [if_neg e2, if_pos (by omega)]; exact h3 (k + 1) (by omega)
  · refine ⟨by simp [u2, shf, va_up, e]; exact h1, by simp [u2, shf]; exact h2, fun k hk => ?_, fun k hk => by simp [u2, shf]; exact h4 k hk⟩
    simp only [va_up_ne _ _ e] at hk ⊢
    rw [u2_n _ _ (Or.inl (by omega))]
    unfold shf
    rw [if_neg (by omega)]
    exact h3 k hk
theorem GA_dropE (hA : GA mi g G) (h3' : ∀ b, (G.2.2 b).length ≤ 3) {b i : Nat} (hb : b < 14) (hi : i < (G.2.2 b).length) : GA (u2 (shf mi (g + 4) (3 * b + i) (3 * b + ((G.2.2 b).length - 1))) (g + 2) b (nI ((G.2.2 b).length - 1))) g (G.1, G.2.1, va_up G.2.2 b ((G.2.2 b).eraseIdx i)) := by
  refine ⟨by simp [u2, shf]; exact hA.1, fun b' hb' => ?_⟩
  obtain ⟨h1, h2, h3, h4⟩ := hA.2 b' hb'
  have h6' := h3' b'
  have h6b := h3' b
  by_cases e : b' = b
  · subst e
    refine ⟨by simp [u2, shf]; exact h1, by simp [u2, va_up, len_erase hi], fun k hk => by simp [u2, shf]; exact h3 k hk, fun k hk => ?_⟩
    simp only [va_up_self, len_erase hi] at hk
    rw [show (va_up G.2.2 b' ((G.2.2 b').eraseIdx i) b').getD k 0 = if k < i then (G.2.2 b').getD k 0 else (G.2.2 b').getD (k + 1) 0 by rw [va_up_self]; exact getD_erase]
    rw [u2_n _ _ (Or.inl (by omega))]
    unfold shf
    by_cases e2 : k < i
    · rw [if_pos e2, if_neg (by omega)]; exact h4 k (by omega)
    · rw [if_neg e2, if_pos (by omega)]; exact h4 (k + 1) (by omega)
  · refine ⟨by simp [u2, shf]; exact h1, by simp [u2, shf, va_up, e]; exact h2, fun k hk => by simp [u2, shf]; exact h3 k hk, fun k hk => ?_⟩
    simp only [va_up_ne _ _ e] at hk ⊢
    rw [u2_n _ _ (Or.inl (by omega))]
    unfold shf
    rw [if_neg (by omega)]
    exact h4 k hk
theorem ctX1_dropAction (hG : GraphL σ g) (hA : GA mi g G) {b i : Nat} (h6 : (G.2.1 b).length ≤ 6) (hb : b < 14) (hi : i < (G.2.1 b).length) : Ct κ 0 0 2 mrX1_dropAction [.ref g, .int (nI b), .int (nI i)] (MM σ mi ml) (.inl none) (MM σ (u2 (shf mi (g + 3) (6 * b + i) (6 * b + ((G.2.1 b).length - 1))) (g + 1) b (nI ((G.2.1 b).length - 1))) ml) := by
  refine Ct.of rfl (by simp [Value.category]) (Nat.le_of_ble_eq_true rfl) ?_
  obtain ⟨n, hn⟩ : ∃ n, (G.2.1 b).length = n + 1 := ⟨(G.2.1 b).length - 1, by omega⟩
  have lp : ∀ j, j ≤ n → i ≤ j → V κ (phi κ mrX1_dropAction 2 0 0 (.inl none) (MM σ (u2 (shf mi (g + 3) (6 * b + i) (6 * b + ((G.2.1 b).length - 1))) (g + 1) b (nI ((G.2.1 b).length - 1))) ml)) 0 0 12 [some (.ref g), some (.int (nI b)), some (.int (nI i)), some (.int (nI n)), some (.int (nI j))] [] (MM σ (shf mi (g + 3) (6 * b + i) (6 * b + j)) ml) := loop_up n (fun j hj ih hij => by
    refine V_iload dX1_dropAction_12 rfl ?_
    refine V_iload_n dX1_dropAction_14 rfl rfl ?_
    refine V_N_ge (by omega) (by omega) 45 dX1_dropAction_15 (by decide) (fun h15 => ?_) (fun h15 => ?_)
    · refine V_aload_n dX1_dropAction_45 rfl rfl ?_
      refine V_getR frX1_15 hG.1 rfl dX1_dropAction_46 ?_
      refine V_iload_n dX1_dropAction_49 rfl rfl ?_
      refine V_iload_n dX1_dropAction_50 rfl rfl ?_
      refine V_iastN hG.2.1 b rfl (by omega) (by decide) dX1_dropAction_51 ?_
      exact V_vret rfl rfl (by rw [show j = n by omega, show (G.2.1 b).length - 1 = n by omega]) ⟨Nat.le_of_ble_eq_true rfl, Nat.le_of_ble_eq_true rfl⟩ dX1_dropAction_52
    · refine V_aload_n dX1_dropAction_18 rfl rfl ?_
      refine V_getR frX1_22 hG.1 rfl dX1_dropAction_19 ?_
      refine V_iload_n dX1_dropAction_22 rfl rfl ?_
      refine V_bipush (v := nI 6) dX1_dropAction_23 (by decide) ?_
      refine V_imul dX1_dropAction_25 ?_
      refine V_iload dX1_dropAction_26 rfl ?_
      refine V_iadd dX1_dropAction_28 ?_
      refine V_top (mulA b 6 j) ?_
      refine V_aload_n dX1_dropAction_29 rfl rfl ?_
      refine V_iload_n dX1_dropAction_30 rfl rfl ?_
      refine V_iload dX1_dropAction_31 rfl ?_
      refine V_iconst (v := nI 1) dX1_dropAction_33 (by decide) ?_
      refine V_iadd dX1_dropAction_34 ?_
      refine V_top (nI_add j 1) ?_
      refine V_cv1 (ctX1_actionAt hG hb (by omega)) mvX1_actionAt lkX1_46 hG.1 rfl rfl rfl (Nat.le_of_ble_eq_true rfl) ⟨⟨Nat.le_of_ble_eq_true rfl, Nat.le_of_ble_eq_true rfl⟩, Nat.le_of_ble_eq_true rfl, Nat.le_of_ble_eq_true rfl⟩ dX1_dropAction_35 ?_
      refine V_iastN hG.2.2.2.1 (6 * b + j) rfl (by omega) (by decide) dX1_dropAction_38 ?_
      refine V_iinc1 dX1_dropAction_39 rfl (Nat.le_of_ble_eq_true rfl) ?_
      refine V_goto 12 dX1_dropAction_42 (by decide) ?_
      refine V.cM (ih h15 (by omega)) ?_
      show MM σ (u2 (shf mi _ _ _) _ _ (shf mi _ _ _ _ _)) ml = _
      rw [show shf mi (g + 3) (6 * b + i) (6 * b + j) (g + 3) (6 * b + (j + 1)) = mi (g + 3) (6 * b + j + 1) by unfold shf; rw [if_neg (by omega)]; rfl, shf_s mi (by omega)]; rfl
    )
  refine V_aload_n dX1_dropAction_0 rfl rfl ?_
  refine V_getR frX1_15 hG.1 rfl dX1_dropAction_1 ?_
  refine V_iload_n dX1_dropAction_4 rfl rfl ?_
  refine V_ialdE hG.2.1 b rfl (by omega) (by decide) (hA.2 b hb).1 dX1_dropAction_5 ?_
  refine V_iconst (v := nI 1) dX1_dropAction_6 (by decide) ?_
  refine V_isub dX1_dropAction_7 ?_
  refine V_top (show nI (G.2.1 b).length - nI 1 = nI n by rw [hn]; exact nI_pred n) ?_
  refine V_istore_n dX1_dropAction_8 rfl (Nat.le_of_ble_eq_true rfl) ?_
  refine V_iload_n dX1_dropAction_9 rfl rfl ?_
  refine V_istore dX1_dropAction_10 (Nat.le_of_ble_eq_true rfl) ?_
  exact V.cM (lp i (by omega) (Nat.le_refl i)) (by rw [shf_0])

theorem ctX1_dropEdge (hG : GraphL σ g) (hA : GA mi g G) {b i : Nat} (h6 : (G.2.2 b).length ≤ 3) (hb : b < 14) (hi : i < (G.2.2 b).length) : Ct κ 0 0 2 mrX1_dropEdge [.ref g, .int (nI b), .int (nI i)] (MM σ mi ml) (.inl none) (MM σ (u2 (shf mi (g + 4) (3 * b + i) (3 * b + ((G.2.2 b).length - 1))) (g + 2) b (nI ((G.2.2 b).length - 1))) ml) := by
  refine Ct.of rfl (by simp [Value.category]) (Nat.le_of_ble_eq_true rfl) ?_
  obtain ⟨n, hn⟩ : ∃ n, (G.2.2 b).length = n + 1 := ⟨(G.2.2 b).length - 1, by omega⟩
  have lp : ∀ j, j ≤ n → i ≤ j → V κ (phi κ mrX1_dropEdge 2 0 0 (.inl none) (MM σ (u2 (shf mi (g + 4) (3 * b + i) (3 * b + ((G.2.2 b).length - 1))) (g + 2) b (nI ((G.2.2 b).length - 1))) ml)) 0 0 12 [some (.ref g), some (.int (nI b)), some (.int (nI i)), some (.int (nI n)), some (.int (nI j))] [] (MM σ (shf mi (g + 4) (3 * b + i) (3 * b + j)) ml) := loop_up n (fun j hj ih hij => by
    refine V_iload dX1_dropEdge_12 rfl ?_
    refine V_iload_n dX1_dropEdge_14 rfl rfl ?_
    refine V_N_ge (by omega) (by omega) 44 dX1_dropEdge_15 (by decide) (fun h15 => ?_) (fun h15 => ?_)
    · refine V_aload_n dX1_dropEdge_44 rfl rfl ?_
      refine V_getR frX1_19 hG.1 rfl dX1_dropEdge_45 ?_
      refine V_iload_n dX1_dropEdge_48 rfl rfl ?_
      refine V_iload_n dX1_dropEdge_49 rfl rfl ?_
      refine V_iastN hG.2.2.1 b rfl (by omega) (by decide) dX1_dropEdge_50 ?_
      exact V_vret rfl rfl (by rw [show j = n by omega, show (G.2.2 b).length - 1 = n by omega]) ⟨Nat.le_of_ble_eq_true rfl, Nat.le_of_ble_eq_true rfl⟩ dX1_dropEdge_51
    · refine V_aload_n dX1_dropEdge_18 rfl rfl ?_
      refine V_getR frX1_25 hG.1 rfl dX1_dropEdge_19 ?_
      refine V_iload_n dX1_dropEdge_22 rfl rfl ?_
      refine V_iconst (v := nI 3) dX1_dropEdge_23 (by decide) ?_
      refine V_imul dX1_dropEdge_24 ?_
      refine V_iload dX1_dropEdge_25 rfl ?_
      refine V_iadd dX1_dropEdge_27 ?_
      refine V_top (mulA b 3 j) ?_
      refine V_aload_n dX1_dropEdge_28 rfl rfl ?_
      refine V_iload_n dX1_dropEdge_29 rfl rfl ?_
      refine V_iload dX1_dropEdge_30 rfl ?_
      refine V_iconst (v := nI 1) dX1_dropEdge_32 (by decide) ?_
      refine V_iadd dX1_dropEdge_33 ?_
      refine V_top (nI_add j 1) ?_
      refine V_cv1 (ctX1_targetAt hG hb (by omega)) mvX1_targetAt lkX1_42 hG.1 rfl rfl rfl (Nat.le_of_ble_eq_true rfl) ⟨⟨Nat.le_of_ble_eq_true rfl, Nat.le_of_ble_eq_true rfl⟩, Nat.le_of_ble_eq_true rfl, Nat.le_of_ble_eq_true rfl⟩ dX1_dropEdge_34 ?_
      refine V_iastN hG.2.2.2.2 (3 * b + j) rfl (by omega) (by decide) dX1_dropEdge_37 ?_
      refine V_iinc1 dX1_dropEdge_38 rfl (Nat.le_of_ble_eq_true rfl) ?_
      refine V_goto 12 dX1_dropEdge_41 (by decide) ?_
      refine V.cM (ih h15 (by omega)) ?_
      show MM σ (u2 (shf mi _ _ _) _ _ (shf mi _ _ _ _ _)) ml = _
      rw [show shf mi (g + 4) (3 * b + i) (3 * b + j) (g + 4) (3 * b + (j + 1)) = mi (g + 4) (3 * b + j + 1) by unfold shf; rw [if_neg (by omega)]; rfl, shf_s mi (by omega)]; rfl
    )
  refine V_aload_n dX1_dropEdge_0 rfl rfl ?_
  refine V_getR frX1_19 hG.1 rfl dX1_dropEdge_1 ?_
  refine V_iload_n dX1_dropEdge_4 rfl rfl ?_
  refine V_ialdE hG.2.2.1 b rfl (by omega) (by decide) (hA.2 b hb).2.1 dX1_dropEdge_5 ?_
  refine V_iconst (v := nI 1) dX1_dropEdge_6 (by decide) ?_
  refine V_isub dX1_dropEdge_7 ?_
  refine V_top (show nI (G.2.2 b).length - nI 1 = nI n by rw [hn]; exact nI_pred n) ?_
  refine V_istore_n dX1_dropEdge_8 rfl (Nat.le_of_ble_eq_true rfl) ?_
  refine V_iload_n dX1_dropEdge_9 rfl rfl ?_
  refine V_istore dX1_dropEdge_10 (Nat.le_of_ble_eq_true rfl) ?_
  exact V.cM (lp i (by omega) (Nat.le_refl i)) (by rw [shf_0])

end Graph1
