/-! lines: what is one, and SsaRepair.Line -/
def ch (C : List Nat) (i : Nat) : Nat := C.getD i 0
def isAL (x : Nat) : Bool := decide (x = 100) || decide (x = 117)
/-- places 2 + 2 i and 3 + 2 i hold an action -/
def okA (C : List Nat) (i : Nat) : Bool := isAL (ch C (2 + 2 * i)) && (decide (48 ≤ ch C (3 + 2 * i)) && decide (ch C (3 + 2 * i) < 52))
def aOf (C : List Nat) (i : Nat) : Nat := if ch C (2 + 2 * i) = 117 then 10 + (ch C (3 + 2 * i) - 48) else ch C (3 + 2 * i) - 48
def lead (P : Nat → Bool) : Nat → Nat → Nat
  | i, 0 => i
  | i, n + 1 => if P i = true then lead P (i + 1) n else i
def nA (C : List Nat) : Nat := lead (okA C) 0 6
def okT (C : List Nat) (B s : Nat) (acc : List Nat) : Bool := (decide (98 ≤ ch C (s + acc.length)) && decide (ch C (s + acc.length) < 97 + B)) && !decide (ch C (s + acc.length) - 97 ∈ acc)
def tgo (C : List Nat) (B s : Nat) : Nat → List Nat → List Nat
  | 0, acc => acc
  | n + 1, acc => if okT C B s acc = true then tgo C B s n (acc ++ [ch C (s + acc.length) - 97]) else acc
/-- a text as a line: the error position, or the block, its actions, its targets -/
def pr (C : List Nat) (B : Nat) : Nat ⊕ (Nat × List Nat × List Nat) :=
  if ¬ (97 ≤ ch C 0 ∧ ch C 0 < 97 + B) then .inl 0
  else if ch C 1 ≠ 58 then .inl 1
  else if 2 + 2 * nA C = C.length then .inr (ch C 0 - 97, (List.range (nA C)).map (aOf C), [])
  else if nA C < 6 ∧ isAL (ch C (2 + 2 * nA C)) = true then .inl (2 + 2 * nA C + 1)
  else if ch C (2 + 2 * nA C) ≠ 62 ∨ B < 2 then .inl (2 + 2 * nA C)
  else if 0 < (tgo C B (2 + 2 * nA C + 1) 3 []).length ∧ 2 + 2 * nA C + 1 + (tgo C B (2 + 2 * nA C + 1) 3 []).length = C.length then .inr (ch C 0 - 97, (List.range (nA C)).map (aOf C), tgo C B (2 + 2 * nA C + 1) 3 [])
  else .inl (2 + 2 * nA C + 1 + (tgo C B (2 + 2 * nA C + 1) 3 []).length)
theorem lead_le {P : Nat → Bool} : ∀ n i, i ≤ lead P i n ∧ lead P i n ≤ i + n
  | 0, i => ⟨Nat.le_refl _, Nat.le_refl _⟩
  | n + 1, i => by
    rw [lead]
    split
    · have := lead_le (P := P) n (i + 1); omega
    · omega
theorem nA_le (C : List Nat) : nA C ≤ 6 := by have := (lead_le (P := okA C) 6 0).2; unfold nA; omega
theorem tgo_le {C : List Nat} {B s : Nat} : ∀ n acc, (tgo C B s n acc).length ≤ acc.length + n
  | 0, acc => Nat.le_refl _
  | n + 1, acc => by
    rw [tgo]
    split
    · have := tgo_le (C := C) (B := B) (s := s) n (acc ++ [ch C (s + acc.length) - 97]); simp at this; omega
    · omega
theorem range_getD {n k : Nat} {f : Nat → Nat} (h : k < n) : ((List.range n).map f).getD k 0 = f k := by
  rw [List.getD_eq_getElem?_getD, List.getElem?_map, List.getElem?_range h]; rfl
def LC (mi : Nat → Nat → Int32) (l : Nat) (C : List Nat) : Prop := mi l 1 = nI C.length ∧ ∀ i, i < C.length → mi (l + 1) i = nI (ch C i)
def Cok (C : List Nat) : Prop := C.length ≤ 30 ∧ ∀ x ∈ C, 32 ≤ x ∧ x < 127
theorem Cok.at {C : List Nat} (h : Cok C) (i : Nat) : ch C i < 127 ∧ (ch C i ≠ 0 ↔ i < C.length) := by
  by_cases hi : i < C.length
  · have h1 := h.2 (ch C i) (mem_getD.mpr ⟨i, hi, rfl⟩)
    exact ⟨h1.2, fun _ => hi, fun _ => by omega⟩
  · have h1 : ch C i = 0 := by unfold ch; rw [List.getD_eq_getElem?_getD, List.getElem?_eq_none (by omega)]; rfl
    rw [h1]
    exact ⟨by omega, fun q => absurd rfl q, fun q => absurd q hi⟩
theorem LC.keep {mi m : Nat → Nat → Int32} {l : Nat} {C : List Nat} (h : LC mi l C) (hk : ∀ a i, (a = l ∧ i = 1) ∨ a = l + 1 → m a i = mi a i) : LC m l C := ⟨(hk _ _ (Or.inl ⟨rfl, rfl⟩)).trans h.1, fun i hi => (hk _ _ (Or.inr rfl)).trans (h.2 i hi)⟩
theorem ch_mod {c : Nat} (h : c < 65536) : ((nI c).toUInt32 % 65536).toInt32 = nI c := by
  apply Int32.toBitVec_inj.mp
  apply BitVec.eq_of_toNat_eq
  show ((BitVec.ofNat 32 c) % 65536#32).toNat = (BitVec.ofNat 32 c).toNat
  rw [BitVec.toNat_umod, BitVec.toNat_ofNat]
  show c % 2 ^ 32 % 65536 = c % 2 ^ 32
  omega
theorem nI_char {c : Nat} (h : c < 65536) : narrow .char (.int (nI c)) = .int (nI c) := by
  show Value.int ((nI c).toUInt32 % 65536).toInt32 = _
  rw [ch_mod h]
theorem nI_nar {c : Nat} (h : c < 65536) : vp_nar .char (nI c) = nI c := by
  unfold vp_nar
  rw [nI_char h]
theorem sub97 : ∀ c, c < 127 → (nI c - nI 97 < 0 ↔ c < 97) := by decide +kernel
theorem sub97L : ∀ c, c < 127 → (nI c - nI 97 < nI 1 ↔ c < 98) := by decide +kernel
theorem sub48 : ∀ c, c < 127 → (nI c - nI 48 < 0 ↔ c < 48) := by decide +kernel
section Line
variable {κ : K0} {σ : Nat → Option Kd} {mi : Nat → Nat → Int32} {ml : Nat → Nat → Int64} {l : Nat} {C : List Nat}
theorem ctX3_put (hL : LineL σ l) (hC : LC mi l C) (hl : C.length < 30) {x : Nat} (hx : x < 65536) : Ct κ 0 0 1 mrX3_put [.ref l, .int (nI x)] (MM σ mi ml) (.inl none) (MM σ (u2 (u2 mi (l + 1) C.length (nI x)) l 1 (nI (C.length + 1))) ml) := by
  refine Ct.of rfl (by simp [Value.category]) (Nat.le_of_ble_eq_true rfl) ?_
  refine V_aload_n dX3_put_0 rfl rfl ?_
  refine V_getE frX3_15 hL.1 rfl hC.1 dX3_put_1 ?_
  refine V_bipush (v := nI 30) dX3_put_4 (by decide) ?_
  refine V_N_ge (by omega) (by omega) 29 dX3_put_6 (by decide) (fun h6 => ?_) (fun h6 => ?_)
  · exfalso
    omega
  · refine V_aload_n dX3_put_9 rfl rfl ?_
    refine V_getR frX3_9 hL.1 rfl dX3_put_10 ?_
    refine V_aload_n dX3_put_13 rfl rfl ?_
    refine V_getE frX3_15 hL.1 rfl hC.1 dX3_put_14 ?_
    refine V_iload_n dX3_put_17 rfl rfl ?_
    refine V_castN hL.2.1 C.length rfl hl (by decide) (nI_nar hx) dX3_put_18 ?_
    refine V_aload_n dX3_put_19 rfl rfl ?_
    refine V_dup dX3_put_20 rfl ?_
    refine V_getE frX3_15 hL.1 rfl ((u2_n _ _ (Or.inl (by omega))).trans hC.1) dX3_put_21 ?_
    refine V_iconst (v := nI 1) dX3_put_24 (by decide) ?_
    refine V_iadd dX3_put_25 ?_
    refine V_top (nI_add _ 1) ?_
    refine V_putI fpX3_15 rfl rfl hL.1 rfl dX3_put_26 ?_
    exact V_vret rfl rfl rfl ⟨Nat.le_of_ble_eq_true rfl, Nat.le_of_ble_eq_true rfl⟩ dX3_put_29

theorem LC.put (hC : LC mi l C) {x : Nat} : LC (u2 (u2 mi (l + 1) C.length (nI x)) l 1 (nI (C.length + 1))) l (C ++ [x]) := by
  refine ⟨by rw [u2_s]; simp, fun i hi => ?_⟩
  rw [u2_n _ _ (Or.inl (by omega))]
  simp at hi
  by_cases e : i = C.length
  · subst e; rw [u2_s]; simp [ch]
  · rw [u2_n _ _ (Or.inr e), hC.2 i (by omega)]
    simp [ch, List.getElem?_append_left (show i < C.length by omega)]
theorem ctX3_letterAt (hL : LineL σ l) (hC : LC mi l C) (hc : Cok C) {i : Nat} (hi : i < 2 ^ 31) : Ct κ 0 0 1 mrX3_letterAt [.ref l, .int (nI i)] (MM σ mi ml) (.inl (some (.int (nI (ch C i))))) (MM σ mi ml) := by
  refine Ct.of rfl (by simp [Value.category]) (Nat.le_of_ble_eq_true rfl) ?_
  have h30 := hc.1
  obtain ⟨c1, c2⟩ := hc.at i
  refine V_iload_n dX3_letterAt_0 rfl rfl ?_
  refine V_if_lt 21 dX3_letterAt_1 (by decide) (fun h1 => absurd h1 (nI_pos hi)) (fun h1 => ?_)
  refine V_iload_n dX3_letterAt_4 rfl rfl ?_
  refine V_aload_n dX3_letterAt_5 rfl rfl ?_
  refine V_getE frX3_15 hL.1 rfl hC.1 dX3_letterAt_6 ?_
  refine V_N_ge hi (by omega) 21 dX3_letterAt_9 (by decide) (fun h9 => ?_) (fun h9 => ?_)
  · refine V_iconst (v := nI 0) dX3_letterAt_21 (by decide) ?_
    exact V_zret rfl rfl (oI (by rw [show ch C i = 0 from Classical.byContradiction (fun q => absurd (c2.mp q) (by omega))])) rfl ⟨Nat.le_of_ble_eq_true rfl, Nat.le_of_ble_eq_true rfl⟩ dX3_letterAt_22
  · refine V_aload_n dX3_letterAt_12 rfl rfl ?_
    refine V_getR frX3_9 hL.1 rfl dX3_letterAt_13 ?_
    refine V_iload_n dX3_letterAt_16 rfl rfl ?_
    refine V_caldE hL.2.1 i rfl (by omega) (by decide) (hC.2 i h9) dX3_letterAt_17 ?_
    refine V_goto 22 dX3_letterAt_18 (by decide) ?_
    exact V_zret rfl (nI_char (by omega)) rfl rfl ⟨Nat.le_of_ble_eq_true rfl, Nat.le_of_ble_eq_true rfl⟩ dX3_letterAt_22

theorem ctX3_isActionLetter {x : Nat} {μ : Mem} (hx : x < 2 ^ 31) : Ct κ 0 0 1 mrX3_isActionLetter [.int (nI x)] μ (.inl (some (.int (bI (isAL x))))) μ := by
  refine Ct.of rfl (by simp [Value.category]) (Nat.le_of_ble_eq_true rfl) ?_
  refine V_iload_n dX3_isActionLetter_0 rfl rfl ?_
  refine V_bipush (v := nI 100) dX3_isActionLetter_1 (by decide) ?_
  refine V_N_eq hx (by omega) 12 dX3_isActionLetter_3 (by decide) (fun h3 => ?_) (fun h3 => ?_)
  · refine V_iconst (v := nI 1) dX3_isActionLetter_12 (by decide) ?_
    refine V_goto 17 dX3_isActionLetter_13 (by decide) ?_
    exact V_zret rfl rfl (oI (by rw [show isAL x = true by unfold isAL; rw [decide_eq_true h3]; rfl]; rfl)) rfl ⟨Nat.le_of_ble_eq_true rfl, Nat.le_of_ble_eq_true rfl⟩ dX3_isActionLetter_17
  · refine V_iload_n dX3_isActionLetter_6 rfl rfl ?_
    refine V_bipush (v := nI 117) dX3_isActionLetter_7 (by decide) ?_
    refine V_N_ne hx (by omega) 16 dX3_isActionLetter_9 (by decide) (fun h9 => ?_) (fun h9 => ?_)
    · refine V_iconst (v := nI 0) dX3_isActionLetter_16 (by decide) ?_
      exact V_zret rfl rfl (oI (by rw [show isAL x = false by unfold isAL; rw [decide_eq_false h3, decide_eq_false h9]; rfl]; rfl)) rfl ⟨Nat.le_of_ble_eq_true rfl, Nat.le_of_ble_eq_true rfl⟩ dX3_isActionLetter_17
    · refine V_iconst (v := nI 1) dX3_isActionLetter_12 (by decide) ?_
      refine V_goto 17 dX3_isActionLetter_13 (by decide) ?_
      exact V_zret rfl rfl (oI (by rw [show isAL x = true by unfold isAL; rw [decide_eq_true h9, Bool.or_true]]; rfl)) rfl ⟨Nat.le_of_ble_eq_true rfl, Nat.le_of_ble_eq_true rfl⟩ dX3_isActionLetter_17

theorem ctX3_isTarget (hL : LineL σ l) {acc : List Nat} (h0 : mi l 6 = nI acc.length) (h1 : ∀ k, k < acc.length → mi (l + 3) k = nI (acc.getD k 0)) (h3 : acc.length ≤ 3) (hb : ∀ k, k < acc.length → acc.getD k 0 < 2 ^ 31) {t : Nat} (ht : t < 2 ^ 31) : Ct κ 0 0 1 mrX3_isTarget [.ref l, .int (nI t)] (MM σ mi ml) (.inl (some (.int (bI (decide (t ∈ acc)))))) (MM σ mi ml) := by
  refine Ct.of rfl (by simp [Value.category]) (Nat.le_of_ble_eq_true rfl) ?_
  have lp : ∀ i, i ≤ acc.length → (∀ k, k < i → acc.getD k 0 ≠ t) → V κ (phi κ mrX3_isTarget 1 0 0 (.inl (some (.int (bI (decide (t ∈ acc)))))) (MM σ mi ml)) 0 0 2 [some (.ref l), some (.int (nI t)), some (.int (nI i))] [] (MM σ mi ml) := loop_up _ (fun i hi ih hn => by
    refine V_iload_n dX3_isTarget_2 rfl rfl ?_
    refine V_aload_n dX3_isTarget_3 rfl rfl ?_
    refine V_getE frX3_32 hL.1 rfl h0 dX3_isTarget_4 ?_
    refine V_N_ge (by omega) (by omega) 28 dX3_isTarget_7 (by decide) (fun h7 => ?_) (fun h7 => ?_)
    · refine V_iconst (v := nI 0) dX3_isTarget_28 (by decide) ?_
      exact V_zret rfl rfl (oI (by rw [decide_eq_false (fun q => by obtain ⟨k, q1, q2⟩ := mem_getD.mp q; exact hn k (by omega) q2)]; rfl)) rfl ⟨Nat.le_of_ble_eq_true rfl, Nat.le_of_ble_eq_true rfl⟩ dX3_isTarget_29
    · refine V_aload_n dX3_isTarget_10 rfl rfl ?_
      refine V_getR frX3_29 hL.1 rfl dX3_isTarget_11 ?_
      refine V_iload_n dX3_isTarget_14 rfl rfl ?_
      refine V_ialdE hL.2.2.2 i rfl (by omega) (by decide) (h1 i h7) dX3_isTarget_15 ?_
      refine V_iload_n dX3_isTarget_16 rfl rfl ?_
      refine V_N_ne (hb i h7) ht 22 dX3_isTarget_17 (by decide) (fun h17 => ?_) (fun h17 => ?_)
      · refine V_iinc1 dX3_isTarget_22 rfl (Nat.le_of_ble_eq_true rfl) ?_
        refine V_goto 2 dX3_isTarget_25 (by decide) ?_
        exact ih h7 (fun k hk => by
          by_cases e : k = i
          · subst e; exact h17
          · exact hn k (by omega))
      · refine V_iconst (v := nI 1) dX3_isTarget_20 (by decide) ?_
        exact V_zret rfl rfl (oI (by rw [decide_eq_true (mem_getD.mpr ⟨i, h7, h17⟩)]; rfl)) rfl ⟨Nat.le_of_ble_eq_true rfl, Nat.le_of_ble_eq_true rfl⟩ dX3_isTarget_21
    )
  refine V_iconst (v := nI 0) dX3_isTarget_0 (by decide) ?_
  refine V_istore_n dX3_isTarget_1 rfl (Nat.le_of_ble_eq_true rfl) ?_
  exact lp 0 (Nat.zero_le _) (fun k hk => absurd hk (Nat.not_lt_zero k))

theorem ctX3_readActions (hL : LineL σ l) (hC : LC mi l C) (hc : Cok C) (h0 : mi l 4 = nI 0) : CtP κ 0 0 2 mrX3_readActions [.ref l] (MM σ mi ml) (fun o μ' => o = .inl none ∧ ∃ m', μ' = MM σ m' ml ∧ m' l 4 = nI (nA C) ∧ (∀ k, k < nA C → m' (l + 2) k = nI (aOf C k)) ∧ ∀ a i, ¬ (a = l ∧ i = 4) → a ≠ l + 2 → m' a i = mi a i) := by
  refine CtP.of rfl (by simp [Value.category]) (Nat.le_of_ble_eq_true rfl) ?_
  have lp : ∀ i, i ≤ 6 → ∀ m o2 o3, m l 4 = nI i → (∀ k, k < i → m (l + 2) k = nI (aOf C k)) → (∀ a i, ¬ (a = l ∧ i = 4) → a ≠ l + 2 → m a i = mi a i) → lead (okA C) i (6 - i) = nA C → V κ (phiP κ mrX3_readActions 2 0 0 (fun o μ' => o = .inl none ∧ ∃ m', μ' = MM σ m' ml ∧ m' l 4 = nI (nA C) ∧ (∀ k, k < nA C → m' (l + 2) k = nI (aOf C k)) ∧ ∀ a i, ¬ (a = l ∧ i = 4) → a ≠ l + 2 → m' a i = mi a i)) 0 0 2 [some (.ref l), some (.int (nI i)), o2, o3] [] (MM σ m ml) := loop_up _ (fun i hi ih m o2 o3 i0 i1 i2 i3 => by
    have hC' : LC m l C := hC.keep (fun a j h => i2 a j (by omega) (by omega))
    obtain ⟨c1, c2⟩ := hc.at (2 + 2 * i)
    obtain ⟨c3, c4⟩ := hc.at (3 + 2 * i)
    have en : i < 6 → 6 - i = (6 - (i + 1)) + 1 := fun _ => by omega
    have no : i < 6 → okA C i = false → nA C = i := fun h h2 => by rw [← i3, en h, lead, if_neg (by rw [h2]; decide)]
    have ye : i < 6 → okA C i = true → lead (okA C) (i + 1) (6 - (i + 1)) = nA C := fun h h2 => by rw [← i3, en h, lead, if_pos h2]
    have fin : nA C = i → (fun o μ' => o = .inl none ∧ ∃ m', μ' = MM σ m' ml ∧ m' l 4 = nI (nA C) ∧ (∀ k, k < nA C → m' (l + 2) k = nI (aOf C k)) ∧ ∀ a i, ¬ (a = l ∧ i = 4) → a ≠ l + 2 → m' a i = mi a i : Oc → Mem → Prop) (.inl none) (MM σ m ml) := fun h => ⟨rfl, m, rfl, by rw [h]; exact i0, fun k hk => i1 k (by omega), i2⟩
    have stp : okA C i = true → i < 6 → V κ (phiP κ mrX3_readActions 2 0 0 (fun o μ' => o = .inl none ∧ ∃ m', μ' = MM σ m' ml ∧ m' l 4 = nI (nA C) ∧ (∀ k, k < nA C → m' (l + 2) k = nI (aOf C k)) ∧ ∀ a i, ¬ (a = l ∧ i = 4) → a ≠ l + 2 → m' a i = mi a i)) 0 0 2 [some (.ref l), some (.int (nI (i + 1))), some (.int (nI (ch C (2 + 2 * i)))), some (.int (nI (ch C (3 + 2 * i) - 48)))] [] (MM σ (u2 (u2 m (l + 2) i (nI (aOf C i))) l 4 (nI (i + 1))) ml) := fun h h6 => by
      refine ih h6 _ _ _ (u2_s _ _ _ _) (fun k hk => ?_) (fun a j q1 q2 => (u2_n _ _ (by omega)).trans ((u2_n _ _ (Or.inl q2)).trans (i2 a j q1 q2))) (ye h6 h)
      rw [u2_n _ _ (Or.inl (by omega))]
      by_cases e : k = i
      · subst e; exact u2_s _ _ _ _
      · exact (u2_n _ _ (Or.inr e)).trans (i1 k (by omega))
    refine V_iload_n dX3_readActions_2 rfl rfl ?_
    refine V_bipush (v := nI 6) dX3_readActions_3 (by decide) ?_
    refine V_N_ge (by omega) (by omega) 86 dX3_readActions_5 (by decide) (fun h5 => ?_) (fun h5 => ?_)
    · exact V_vretP rfl (fin (by rw [← i3, show 6 - i = 0 by omega]; rfl)) ⟨Nat.le_of_ble_eq_true rfl, Nat.le_of_ble_eq_true rfl⟩ dX3_readActions_86
    · refine V_aload_n dX3_readActions_8 rfl rfl ?_
      refine V_iconst (v := nI 2) dX3_readActions_9 (by decide) ?_
      refine V_iconst (v := nI 2) dX3_readActions_10 (by decide) ?_
      refine V_iload_n dX3_readActions_11 rfl rfl ?_
      refine V_imul dX3_readActions_12 ?_
      refine V_iadd dX3_readActions_13 ?_
      refine V_top (show nI 2 + nI 2 * nI i = nI (2 + 2 * i) by rw [pk_mul, nI_add]) ?_
      refine V_cv1 (ctX3_letterAt hL hC' hc (by omega)) mvX3_letterAt lkX3_35 hL.1 rfl rfl rfl (Nat.le_of_ble_eq_true rfl) ⟨⟨Nat.le_of_ble_eq_true rfl, Nat.le_of_ble_eq_true rfl⟩, Nat.le_of_ble_eq_true rfl, Nat.le_of_ble_eq_true rfl⟩ dX3_readActions_14 ?_
      refine V_istore_n dX3_readActions_17 rfl (Nat.le_of_ble_eq_true rfl) ?_
      refine V_aload_n dX3_readActions_18 rfl rfl ?_
      refine V_iconst (v := nI 3) dX3_readActions_19 (by decide) ?_
      refine V_iconst (v := nI 2) dX3_readActions_20 (by decide) ?_
      refine V_iload_n dX3_readActions_21 rfl rfl ?_
      refine V_imul dX3_readActions_22 ?_
      refine V_iadd dX3_readActions_23 ?_
      refine V_top (show nI 3 + nI 2 * nI i = nI (3 + 2 * i) by rw [pk_mul, nI_add]) ?_
      refine V_cv1 (ctX3_letterAt hL hC' hc (by omega)) mvX3_letterAt lkX3_35 hL.1 rfl rfl rfl (Nat.le_of_ble_eq_true rfl) ⟨⟨Nat.le_of_ble_eq_true rfl, Nat.le_of_ble_eq_true rfl⟩, Nat.le_of_ble_eq_true rfl, Nat.le_of_ble_eq_true rfl⟩ dX3_readActions_24 ?_
      refine V_bipush (v := nI 48) dX3_readActions_27 (by decide) ?_
      refine V_isub dX3_readActions_29 ?_
      refine V_istore_n dX3_readActions_30 rfl (Nat.le_of_ble_eq_true rfl) ?_
      refine V_iload_n dX3_readActions_31 rfl rfl ?_
      refine V_cs1 (ctX3_isActionLetter (by omega)) msX3_isActionLetter lkX3_42 rfl rfl (Nat.le_of_ble_eq_true rfl) ⟨⟨Nat.le_of_ble_eq_true rfl, Nat.le_of_ble_eq_true rfl⟩, Nat.le_of_ble_eq_true rfl, Nat.le_of_ble_eq_true rfl⟩ dX3_readActions_32 ?_
      refine V_ifeqB 86 dX3_readActions_35 (by decide) (fun h35 => ?_) (fun h35 => ?_)
      · exact V_vretP rfl (fin (no h5 (by unfold okA; rw [h35]; rfl))) ⟨Nat.le_of_ble_eq_true rfl, Nat.le_of_ble_eq_true rfl⟩ dX3_readActions_86
      · refine V_iload_n dX3_readActions_38 rfl rfl ?_
        refine V_if_lt 86 dX3_readActions_39 (by decide) (fun h39 => ?_) (fun h39 => ?_)
        · exact V_vretP rfl (fin (no h5 (by unfold okA; rw [decide_eq_false (by have := (sub48 _ c3).mp h39; omega), Bool.false_and, Bool.and_false]))) ⟨Nat.le_of_ble_eq_true rfl, Nat.le_of_ble_eq_true rfl⟩ dX3_readActions_86
        · have hd := (not_congr (sub48 _ c3)).mp h39
          rw [nI_subN (by omega : 48 ≤ ch C (3 + 2 * i))]
          refine V_iload_n dX3_readActions_42 rfl rfl ?_
          refine V_iconst (v := nI 4) dX3_readActions_43 (by decide) ?_
          refine V_N_lt (by omega) (by omega) 50 dX3_readActions_44 (by decide) (fun h44 => ?_) (fun h44 => ?_)
          · refine V_aload_n dX3_readActions_50 rfl rfl ?_
            refine V_getR frX3_22 hL.1 rfl dX3_readActions_51 ?_
            refine V_iload_n dX3_readActions_54 rfl rfl ?_
            refine V_iload_n dX3_readActions_55 rfl rfl ?_
            refine V_bipush (v := nI 117) dX3_readActions_56 (by decide) ?_
            refine V_N_ne (by omega) (by omega) 68 dX3_readActions_58 (by decide) (fun h58 => ?_) (fun h58 => ?_)
            · refine V_iload_n dX3_readActions_68 rfl rfl ?_
              refine V_iastN hL.2.2.1 i rfl h5 (by decide) dX3_readActions_69 ?_
              refine V_aload_n dX3_readActions_70 rfl rfl ?_
              refine V_dup dX3_readActions_71 rfl ?_
              refine V_getE frX3_26 hL.1 rfl ((u2_n _ _ (Or.inl (by omega))).trans i0) dX3_readActions_72 ?_
              refine V_iconst (v := nI 1) dX3_readActions_75 (by decide) ?_
              refine V_iadd dX3_readActions_76 ?_
              refine V_top (nI_add i 1) ?_
              refine V_putI fpX3_26 rfl rfl hL.1 rfl dX3_readActions_77 ?_
              refine V_iinc1 dX3_readActions_80 rfl (Nat.le_of_ble_eq_true rfl) ?_
              refine V_goto 2 dX3_readActions_83 (by decide) ?_
              exact V.cM (stp (by unfold okA; rw [h35, decide_eq_true (by omega : 48 ≤ ch C (3 + 2 * i)), decide_eq_true (by omega : ch C (3 + 2 * i) < 52)]; rfl) h5) (by unfold aOf; rw [if_neg h58])
            · refine V_bipush (v := nI 10) dX3_readActions_61 (by decide) ?_
              refine V_iload_n dX3_readActions_63 rfl rfl ?_
              refine V_iadd dX3_readActions_64 ?_
              refine V_top (nI_add 10 _) ?_
              refine V_goto 69 dX3_readActions_65 (by decide) ?_
              refine V_iastN hL.2.2.1 i rfl h5 (by decide) dX3_readActions_69 ?_
              refine V_aload_n dX3_readActions_70 rfl rfl ?_
              refine V_dup dX3_readActions_71 rfl ?_
              refine V_getE frX3_26 hL.1 rfl ((u2_n _ _ (Or.inl (by omega))).trans i0) dX3_readActions_72 ?_
              refine V_iconst (v := nI 1) dX3_readActions_75 (by decide) ?_
              refine V_iadd dX3_readActions_76 ?_
              refine V_top (nI_add i 1) ?_
              refine V_putI fpX3_26 rfl rfl hL.1 rfl dX3_readActions_77 ?_
              refine V_iinc1 dX3_readActions_80 rfl (Nat.le_of_ble_eq_true rfl) ?_
              refine V_goto 2 dX3_readActions_83 (by decide) ?_
              exact V.cM (stp (by unfold okA; rw [h35, decide_eq_true (by omega : 48 ≤ ch C (3 + 2 * i)), decide_eq_true (by omega : ch C (3 + 2 * i) < 52)]; rfl) h5) (by unfold aOf; rw [if_pos h58])
          · refine V_goto 86 dX3_readActions_47 (by decide) ?_
            exact V_vretP rfl (fin (no h5 (by unfold okA; rw [decide_eq_false (by omega : ¬ ch C (3 + 2 * i) < 52), Bool.and_false, Bool.and_false]))) ⟨Nat.le_of_ble_eq_true rfl, Nat.le_of_ble_eq_true rfl⟩ dX3_readActions_86
    )
  refine V_iconst (v := nI 0) dX3_readActions_0 (by decide) ?_
  refine V_istore_n dX3_readActions_1 rfl (Nat.le_of_ble_eq_true rfl) ?_
  exact lp 0 (Nat.zero_le _) mi _ _ h0 (fun k hk => absurd hk (Nat.not_lt_zero k)) (fun _ _ _ _ => rfl) rfl

theorem ctX3_readTargets (hL : LineL σ l) (hC : LC mi l C) (hc : Cok C) {B s : Nat} (hB : B ≤ 14) (hs : s < 1000) (h0 : mi l 6 = nI 0) : CtP κ 0 0 2 mrX3_readTargets [.ref l, .int (nI s), .int (nI B)] (MM σ mi ml) (fun o μ' => o = .inl none ∧ ∃ m', μ' = MM σ m' ml ∧ m' l 6 = nI (tgo C B s 3 []).length ∧ (∀ k, k < (tgo C B s 3 []).length → m' (l + 3) k = nI ((tgo C B s 3 []).getD k 0)) ∧ ∀ a i, ¬ (a = l ∧ i = 6) → a ≠ l + 3 → m' a i = mi a i) := by
  refine CtP.of rfl (by simp [Value.category]) (Nat.le_of_ble_eq_true rfl) ?_
  have lp : ∀ i, i ≤ 3 → ∀ m o4 acc, acc.length = i → (∀ k, k < i → acc.getD k 0 < 2 ^ 31) → m l 6 = nI i → (∀ k, k < i → m (l + 3) k = nI (acc.getD k 0)) → (∀ a i, ¬ (a = l ∧ i = 6) → a ≠ l + 3 → m a i = mi a i) → tgo C B s (3 - i) acc = tgo C B s 3 [] → V κ (phiP κ mrX3_readTargets 2 0 0 (fun o μ' => o = .inl none ∧ ∃ m', μ' = MM σ m' ml ∧ m' l 6 = nI (tgo C B s 3 []).length ∧ (∀ k, k < (tgo C B s 3 []).length → m' (l + 3) k = nI ((tgo C B s 3 []).getD k 0)) ∧ ∀ a i, ¬ (a = l ∧ i = 6) → a ≠ l + 3 → m' a i = mi a i)) 0 0 2 [some (.ref l), some (.int (nI s)), some (.int (nI B)), some (.int (nI i)), o4] [] (MM σ m ml) := loop_up _ (fun i hi ih m o4 acc il ib i0 i1 i2 i3 => by
    have hC' : LC m l C := hC.keep (fun a j h => i2 a j (by omega) (by omega))
    obtain ⟨c1, c2⟩ := hc.at (s + i)
    have en : i < 3 → 3 - i = (3 - (i + 1)) + 1 := fun _ => by omega
    have fin : tgo C B s 3 [] = acc → (fun o μ' => o = .inl none ∧ ∃ m', μ' = MM σ m' ml ∧ m' l 6 = nI (tgo C B s 3 []).length ∧ (∀ k, k < (tgo C B s 3 []).length → m' (l + 3) k = nI ((tgo C B s 3 []).getD k 0)) ∧ ∀ a i, ¬ (a = l ∧ i = 6) → a ≠ l + 3 → m' a i = mi a i : Oc → Mem → Prop) (.inl none) (MM σ m ml) := fun h => ⟨rfl, m, rfl, by rw [h, il]; exact i0, fun k hk => by rw [h]; exact i1 k (by rw [h, il] at hk; exact hk), i2⟩
    have no : i < 3 → okT C B s acc = false → tgo C B s 3 [] = acc := fun h h2 => by rw [← i3, en h, tgo, if_neg (by rw [h2]; decide)]
    refine V_iload_n dX3_readTargets_2 rfl rfl ?_
    refine V_iconst (v := nI 3) dX3_readTargets_3 (by decide) ?_
    refine V_N_ge (by omega) (by omega) 67 dX3_readTargets_4 (by decide) (fun h4 => ?_) (fun h4 => ?_)
    · exact V_vretP rfl (fin (by rw [← i3, show 3 - i = 0 by omega]; rfl)) ⟨Nat.le_of_ble_eq_true rfl, Nat.le_of_ble_eq_true rfl⟩ dX3_readTargets_67
    · refine V_aload_n dX3_readTargets_7 rfl rfl ?_
      refine V_iload_n dX3_readTargets_8 rfl rfl ?_
      refine V_iload_n dX3_readTargets_9 rfl rfl ?_
      refine V_iadd dX3_readTargets_10 ?_
      refine V_top (nI_add s i) ?_
      refine V_cv1 (ctX3_letterAt hL hC' hc (by omega)) mvX3_letterAt lkX3_35 hL.1 rfl rfl rfl (Nat.le_of_ble_eq_true rfl) ⟨⟨Nat.le_of_ble_eq_true rfl, Nat.le_of_ble_eq_true rfl⟩, Nat.le_of_ble_eq_true rfl, Nat.le_of_ble_eq_true rfl⟩ dX3_readTargets_11 ?_
      refine V_bipush (v := nI 97) dX3_readTargets_14 (by decide) ?_
      refine V_isub dX3_readTargets_16 ?_
      refine V_istore dX3_readTargets_17 (Nat.le_of_ble_eq_true rfl) ?_
      refine V_iload dX3_readTargets_19 rfl ?_
      refine V_iconst (v := nI 1) dX3_readTargets_21 (by decide) ?_
      refine V_icmp_lt 67 dX3_readTargets_22 (by decide) (fun h22 => ?_) (fun h22 => ?_)
      · exact V_vretP rfl (fin (no h4 (by unfold okT; rw [il, decide_eq_false (by have := (sub97L _ c1).mp h22; omega)]; rfl))) ⟨Nat.le_of_ble_eq_true rfl, Nat.le_of_ble_eq_true rfl⟩ dX3_readTargets_67
      · have hd := (not_congr (sub97L _ c1)).mp h22
        rw [nI_subN (by omega : 97 ≤ ch C (s + i))]
        refine V_iload dX3_readTargets_25 rfl ?_
        refine V_iload_n dX3_readTargets_27 rfl rfl ?_
        refine V_N_ge (by omega) (by omega) 67 dX3_readTargets_28 (by decide) (fun h28 => ?_) (fun h28 => ?_)
        · exact V_vretP rfl (fin (no h4 (by unfold okT; rw [il, decide_eq_false (by omega : ¬ ch C (s + i) < 97 + B), Bool.and_false]; rfl))) ⟨Nat.le_of_ble_eq_true rfl, Nat.le_of_ble_eq_true rfl⟩ dX3_readTargets_67
        · refine V_aload_n dX3_readTargets_31 rfl rfl ?_
          refine V_iload dX3_readTargets_32 rfl ?_
          refine V_cv1 (ctX3_isTarget hL (acc := acc) (by rw [il]; exact i0) (by rw [il]; exact i1) (by omega) (by rw [il]; exact ib) (by omega)) mvX3_isTarget lkX3_50 hL.1 rfl rfl rfl (Nat.le_of_ble_eq_true rfl) ⟨⟨Nat.le_of_ble_eq_true rfl, Nat.le_of_ble_eq_true rfl⟩, Nat.le_of_ble_eq_true rfl, Nat.le_of_ble_eq_true rfl⟩ dX3_readTargets_34 ?_
          refine V_ifeqB 43 dX3_readTargets_37 (by decide) (fun h37 => ?_) (fun h37 => ?_)
          · refine V_aload_n dX3_readTargets_43 rfl rfl ?_
            refine V_getR frX3_29 hL.1 rfl dX3_readTargets_44 ?_
            refine V_iload_n dX3_readTargets_47 rfl rfl ?_
            refine V_iload dX3_readTargets_48 rfl ?_
            refine V_iastN hL.2.2.2 i rfl (by omega) (by decide) dX3_readTargets_50 ?_
            refine V_aload_n dX3_readTargets_51 rfl rfl ?_
            refine V_dup dX3_readTargets_52 rfl ?_
            refine V_getE frX3_32 hL.1 rfl ((u2_n _ _ (Or.inl (by omega))).trans i0) dX3_readTargets_53 ?_
            refine V_iconst (v := nI 1) dX3_readTargets_56 (by decide) ?_
            refine V_iadd dX3_readTargets_57 ?_
            refine V_top (nI_add i 1) ?_
            refine V_putI fpX3_32 rfl rfl hL.1 rfl dX3_readTargets_58 ?_
            refine V_iinc1 dX3_readTargets_61 rfl (Nat.le_of_ble_eq_true rfl) ?_
            refine V_goto 2 dX3_readTargets_64 (by decide) ?_
            refine ih h4 _ _ (acc ++ [ch C (s + i) - 97]) (by simp [il]) (fun k hk => ?_) (u2_s _ _ _ _) (fun k hk => ?_) (fun a j q1 q2 => (u2_n _ _ (by omega)).trans ((u2_n _ _ (Or.inl q2)).trans (i2 a j q1 q2))) ?_
            · rw [getD_app (by omega)]
              split
              · omega
              · exact ib k (by omega)
            · rw [u2_n _ _ (Or.inl (by omega)), getD_app (by omega), il]
              by_cases e : k = i
              · subst e; rw [if_pos rfl]; exact u2_s _ _ _ _
              · rw [if_neg e]; exact (u2_n _ _ (Or.inr e)).trans (i1 k (by omega))
            · rw [← i3, en h4, tgo, if_pos (by unfold okT; rw [il, h37, decide_eq_true (by omega : 98 ≤ ch C (s + i)), decide_eq_true (by omega : ch C (s + i) < 97 + B)]; rfl), il]
          · refine V_goto 67 dX3_readTargets_40 (by decide) ?_
            exact V_vretP rfl (fin (no h4 (by unfold okT; rw [il, h37]; exact Bool.and_false _))) ⟨Nat.le_of_ble_eq_true rfl, Nat.le_of_ble_eq_true rfl⟩ dX3_readTargets_67
    )
  refine V_iconst (v := nI 0) dX3_readTargets_0 (by decide) ?_
  refine V_istore_n dX3_readTargets_1 rfl (Nat.le_of_ble_eq_true rfl) ?_
  exact lp 0 (Nat.zero_le _) mi _ [] rfl (fun k hk => absurd hk (Nat.not_lt_zero k)) h0 (fun k hk => absurd hk (Nat.not_lt_zero k)) (fun _ _ _ _ => rfl) rfl

/-- the error position as a number, -1 if it is a line -/
def eI (q : Nat ⊕ (Nat × List Nat × List Nat)) : Int32 := match q with
  | .inl e => nI e
  | .inr _ => -1
theorem ctX3_read (hL : LineL σ l) (hC : LC mi l C) (hc : Cok C) {B : Nat} (hB : B ≤ 14) (hB1 : 1 ≤ B) : CtP κ 0 0 3 mrX3_read [.ref l, .int (nI B)] (MM σ mi ml) (fun o μ' => ∃ x, o = .inl (some (.int x)) ∧ x = eI (pr C B) ∧ ∃ m', μ' = MM σ m' ml ∧ (∀ b la le, pr C B = .inr (b, la, le) → LnA m' l b la le) ∧ m' l 1 = mi l 1 ∧ ∀ a i, (a < l ∨ a = l + 1 ∨ l + 4 ≤ a) → m' a i = mi a i) := by
  refine CtP.of rfl (by simp [Value.category]) (Nat.le_of_ble_eq_true rfl) ?_
  obtain ⟨c1, c2⟩ := hc.at 0
  obtain ⟨c3, c4⟩ := hc.at 1
  have hn6 := nA_le C
  obtain ⟨c5, c6⟩ := hc.at (2 + 2 * nA C)
  have h30 := hc.1
  have ht3 : (tgo C B (2 + 2 * nA C + 1) 3 []).length ≤ 3 := tgo_le 3 []
  have err : ∀ e m, pr C B = .inl e → m l 1 = mi l 1 → (∀ a i, (a < l ∨ a = l + 1 ∨ l + 4 ≤ a) → m a i = mi a i) → (fun o μ' => ∃ x, o = .inl (some (.int x)) ∧ x = eI (pr C B) ∧ ∃ m', μ' = MM σ m' ml ∧ (∀ b la le, pr C B = .inr (b, la, le) → LnA m' l b la le) ∧ m' l 1 = mi l 1 ∧ ∀ a i, (a < l ∨ a = l + 1 ∨ l + 4 ≤ a) → m' a i = mi a i : Oc → Mem → Prop) (.inl (some (.int (nI e)))) (MM σ m ml) := fun e m h h2 h3 => ⟨_, rfl, by rw [h]; rfl, m, rfl, (fun b la le q => by rw [h] at q; cases q), h2, h3⟩
  have kk0 : ∀ x, ∀ a i, (a < l ∨ a = l + 1 ∨ l + 4 ≤ a) → u2 (u2 (u2 mi l 2 x) l 4 (nI 0)) l 6 (nI 0) a i = mi a i := fun x a i q => (u2_n _ _ (by omega)).trans ((u2_n _ _ (by omega)).trans (u2_n _ _ (by omega)))
  have hC1 : LC (u2 (u2 (u2 mi l 2 (nI (ch C 0 - 97))) l 4 (nI 0)) l 6 (nI 0)) l C := hC.keep (fun a j h => (u2_n _ _ (by omega)).trans ((u2_n _ _ (by omega)).trans (u2_n _ _ (by omega))))
  refine V_aload_n dX3_read_0 rfl rfl ?_
  refine V_aload_n dX3_read_1 rfl rfl ?_
  refine V_iconst (v := nI 0) dX3_read_2 (by decide) ?_
  refine V_cv1 (ctX3_letterAt hL hC hc (by omega)) mvX3_letterAt lkX3_35 hL.1 rfl rfl rfl (Nat.le_of_ble_eq_true rfl) ⟨⟨Nat.le_of_ble_eq_true rfl, Nat.le_of_ble_eq_true rfl⟩, Nat.le_of_ble_eq_true rfl, Nat.le_of_ble_eq_true rfl⟩ dX3_read_3 ?_
  refine V_bipush (v := nI 97) dX3_read_6 (by decide) ?_
  refine V_isub dX3_read_8 ?_
  refine V_putI fpX3_19 rfl rfl hL.1 rfl dX3_read_9 ?_
  refine V_aload_n dX3_read_12 rfl rfl ?_
  refine V_iconst (v := nI 0) dX3_read_13 (by decide) ?_
  refine V_putI fpX3_26 rfl rfl hL.1 rfl dX3_read_14 ?_
  refine V_aload_n dX3_read_17 rfl rfl ?_
  refine V_iconst (v := nI 0) dX3_read_18 (by decide) ?_
  refine V_putI fpX3_32 rfl rfl hL.1 rfl dX3_read_19 ?_
  refine V_aload_n dX3_read_22 rfl rfl ?_
  refine V_getE frX3_19 hL.1 rfl ((u2_n _ _ (Or.inr (by decide))).trans ((u2_n _ _ (Or.inr (by decide))).trans (u2_s _ _ _ _))) dX3_read_23 ?_
  refine V_if_lt 37 dX3_read_26 (by decide) (fun h26 => ?_) (fun h26 => ?_)
  · refine V_iconst (v := nI 0) dX3_read_37 (by decide) ?_
    exact V_iretP rfl (err 0 _ (by unfold pr; rw [if_pos (fun q => absurd ((sub97 _ c1).mp h26) (by omega))]) (by simp [u2]) (kk0 _)) ⟨Nat.le_of_ble_eq_true rfl, Nat.le_of_ble_eq_true rfl⟩ dX3_read_38
  · have hd : 97 ≤ ch C 0 := Nat.not_lt.mp ((not_congr (sub97 _ c1)).mp h26)
    rw [nI_subN hd]
    refine V_aload_n dX3_read_29 rfl rfl ?_
    refine V_getE frX3_19 hL.1 rfl ((u2_n _ _ (Or.inr (by decide))).trans ((u2_n _ _ (Or.inr (by decide))).trans (u2_s _ _ _ _))) dX3_read_30 ?_
    refine V_iload_n dX3_read_33 rfl rfl ?_
    refine V_N_lt (by omega) (by omega) 39 dX3_read_34 (by decide) (fun h34 => ?_) (fun h34 => ?_)
    · refine V_aload_n dX3_read_39 rfl rfl ?_
      refine V_iconst (v := nI 1) dX3_read_40 (by decide) ?_
      refine V_cv1 (ctX3_letterAt hL hC1 hc (by omega)) mvX3_letterAt lkX3_35 hL.1 rfl rfl rfl (Nat.le_of_ble_eq_true rfl) ⟨⟨Nat.le_of_ble_eq_true rfl, Nat.le_of_ble_eq_true rfl⟩, Nat.le_of_ble_eq_true rfl, Nat.le_of_ble_eq_true rfl⟩ dX3_read_41 ?_
      refine V_bipush (v := nI 58) dX3_read_44 (by decide) ?_
      refine V_N_eq (by omega) (by omega) 51 dX3_read_46 (by decide) (fun h46 => ?_) (fun h46 => ?_)
      · refine V_aload_n dX3_read_51 rfl rfl ?_
        refine V_cp0 (ctX3_readActions hL hC1 hc (by simp [u2])) mvX3_readActions lkX3_39 hL.1 rfl rfl rfl (Nat.le_of_ble_eq_true rfl) ⟨⟨Nat.le_of_ble_eq_true rfl, Nat.le_of_ble_eq_true rfl⟩, Nat.le_of_ble_eq_true rfl, Nat.le_of_ble_eq_true rfl⟩ dX3_read_52 (fun μ1 hx => ?_)
        obtain ⟨m1, rfl, r4, r5, k2⟩ := hx
        have n0 : ¬ ¬ (97 ≤ ch C 0 ∧ ch C 0 < 97 + B) := fun q => q ⟨hd, by omega⟩
        have n1 : ¬ ch C 1 ≠ 58 := fun q => q h46
        have hm1 : m1 l 1 = mi l 1 := (k2 _ _ (by omega) (by omega)).trans (by simp [u2])
        have hm2 : m1 l 2 = nI (ch C 0 - 97) := (k2 _ _ (by omega) (by omega)).trans (by simp [u2])
        have hm6 : m1 l 6 = nI 0 := (k2 _ _ (by omega) (by omega)).trans (by simp [u2])
        have hmo : ∀ a i, (a < l ∨ a = l + 1 ∨ l + 4 ≤ a) → m1 a i = mi a i := fun a i q => (k2 _ _ (by omega) (by omega)).trans (kk0 _ a i q)
        have hC2 : LC m1 l C := hC.keep (fun a j h => by
          rcases h with ⟨rfl, rfl⟩ | rfl
          · exact hm1
          · exact hmo _ _ (by omega))
        have okk : ∀ le m, pr C B = .inr (ch C 0 - 97, (List.range (nA C)).map (aOf C), le) → (∀ a i, ¬ (a = l ∧ i = 6) → a ≠ l + 3 → m a i = m1 a i) → m l 6 = nI le.length → (∀ k, k < le.length → m (l + 3) k = nI (le.getD k 0)) → (fun o μ' => ∃ x, o = .inl (some (.int x)) ∧ x = eI (pr C B) ∧ ∃ m', μ' = MM σ m' ml ∧ (∀ b la le, pr C B = .inr (b, la, le) → LnA m' l b la le) ∧ m' l 1 = mi l 1 ∧ ∀ a i, (a < l ∨ a = l + 1 ∨ l + 4 ≤ a) → m' a i = mi a i : Oc → Mem → Prop) (.inl (some (.int (-1)))) (MM σ m ml) := fun le m h h2 h3 h4 => ⟨_, rfl, by rw [h]; rfl, m, rfl, fun b la le' q => by
            rw [h] at q
            cases q
            refine ⟨(h2 _ _ (by omega) (by omega)).trans hm2, by rw [List.length_map, List.length_range]; exact (h2 _ _ (by omega) (by omega)).trans r4, h3, fun k hk => ?_, h4⟩
            rw [List.length_map, List.length_range] at hk
            rw [range_getD hk, h2 _ _ (by omega) (by omega)]
            exact r5 k hk, (h2 _ _ (by omega) (by omega)).trans hm1, fun a i q => (h2 _ _ (by omega) (by omega)).trans (hmo a i q)⟩
        have J98 : 2 + 2 * nA C ≠ C.length → ¬ (nA C < 6 ∧ isAL (ch C (2 + 2 * nA C)) = true) → V κ (phiP κ mrX3_read 3 0 0 (fun o μ' => ∃ x, o = .inl (some (.int x)) ∧ x = eI (pr C B) ∧ ∃ m', μ' = MM σ m' ml ∧ (∀ b la le, pr C B = .inr (b, la, le) → LnA m' l b la le) ∧ m' l 1 = mi l 1 ∧ ∀ a i, (a < l ∨ a = l + 1 ∨ l + 4 ≤ a) → m' a i = mi a i)) 0 0 98 [some (.ref l), some (.int (nI B)), some (.int (nI (2 + 2 * nA C))), none] [] (MM σ m1 ml) := fun n2 n3 => by
          refine V_aload_n dX3_read_98 rfl rfl ?_
          refine V_iload_n dX3_read_99 rfl rfl ?_
          refine V_cv1 (ctX3_letterAt hL hC2 hc (by omega)) mvX3_letterAt lkX3_35 hL.1 rfl rfl rfl (Nat.le_of_ble_eq_true rfl) ⟨⟨Nat.le_of_ble_eq_true rfl, Nat.le_of_ble_eq_true rfl⟩, Nat.le_of_ble_eq_true rfl, Nat.le_of_ble_eq_true rfl⟩ dX3_read_100 ?_
          refine V_bipush (v := nI 62) dX3_read_103 (by decide) ?_
          refine V_N_ne (by omega) (by omega) 113 dX3_read_105 (by decide) (fun h105 => ?_) (fun h105 => ?_)
          · refine V_iload_n dX3_read_113 rfl rfl ?_
            exact V_iretP rfl (err _ _ (by unfold pr; rw [if_neg n0, if_neg n1, if_neg n2, if_neg n3, if_pos (Or.inl h105)]) hm1 hmo) ⟨Nat.le_of_ble_eq_true rfl, Nat.le_of_ble_eq_true rfl⟩ dX3_read_114
          · refine V_iload_n dX3_read_108 rfl rfl ?_
            refine V_iconst (v := nI 2) dX3_read_109 (by decide) ?_
            refine V_N_ge (by omega) (by omega) 115 dX3_read_110 (by decide) (fun h110 => ?_) (fun h110 => ?_)
            · refine V_aload_n dX3_read_115 rfl rfl ?_
              refine V_iload_n dX3_read_116 rfl rfl ?_
              refine V_iconst (v := nI 1) dX3_read_117 (by decide) ?_
              refine V_iadd dX3_read_118 ?_
              refine V_top (nI_add _ 1) ?_
              refine V_iload_n dX3_read_119 rfl rfl ?_
              refine V_cp0 (ctX3_readTargets hL hC2 hc hB (by omega) hm6) mvX3_readTargets lkX3_46 hL.1 rfl rfl rfl (Nat.le_of_ble_eq_true rfl) ⟨⟨Nat.le_of_ble_eq_true rfl, Nat.le_of_ble_eq_true rfl⟩, Nat.le_of_ble_eq_true rfl, Nat.le_of_ble_eq_true rfl⟩ dX3_read_120 (fun μ2 hx => ?_)
              obtain ⟨m2, rfl, q6, q7, g2⟩ := hx
              have n4 : ¬ (ch C (2 + 2 * nA C) ≠ 62 ∨ B < 2) := by omega
              refine V_iload_n dX3_read_123 rfl rfl ?_
              refine V_iconst (v := nI 1) dX3_read_124 (by decide) ?_
              refine V_iadd dX3_read_125 ?_
              refine V_top (nI_add _ 1) ?_
              refine V_aload_n dX3_read_126 rfl rfl ?_
              refine V_getE frX3_32 hL.1 rfl q6 dX3_read_127 ?_
              refine V_iadd dX3_read_130 ?_
              refine V_top (nI_add _ _) ?_
              refine V_istore_n dX3_read_131 rfl (Nat.le_of_ble_eq_true rfl) ?_
              refine V_aload_n dX3_read_132 rfl rfl ?_
              refine V_getE frX3_32 hL.1 rfl q6 dX3_read_133 ?_
              refine V_Z_le (by omega) 151 dX3_read_136 (by decide) (fun h136 => ?_) (fun h136 => ?_)
              · refine V_iload_n dX3_read_151 rfl rfl ?_
                exact V_iretP rfl (err _ _ (by unfold pr; rw [if_neg n0, if_neg n1, if_neg n2, if_neg n3, if_neg n4, if_neg (fun q => by omega)]) ((g2 _ _ (by omega) (by omega)).trans hm1) (fun a i q => (g2 _ _ (by omega) (by omega)).trans (hmo a i q))) ⟨Nat.le_of_ble_eq_true rfl, Nat.le_of_ble_eq_true rfl⟩ dX3_read_152
              · refine V_iload_n dX3_read_139 rfl rfl ?_
                refine V_aload_n dX3_read_140 rfl rfl ?_
                refine V_getE frX3_15 hL.1 rfl ((g2 _ _ (by omega) (by omega)).trans (hm1.trans hC.1)) dX3_read_141 ?_
                refine V_N_ne (by omega) (by omega) 151 dX3_read_144 (by decide) (fun h144 => ?_) (fun h144 => ?_)
                · refine V_iload_n dX3_read_151 rfl rfl ?_
                  exact V_iretP rfl (err _ _ (by unfold pr; rw [if_neg n0, if_neg n1, if_neg n2, if_neg n3, if_neg n4, if_neg (fun q => h144 q.2)]) ((g2 _ _ (by omega) (by omega)).trans hm1) (fun a i q => (g2 _ _ (by omega) (by omega)).trans (hmo a i q))) ⟨Nat.le_of_ble_eq_true rfl, Nat.le_of_ble_eq_true rfl⟩ dX3_read_152
                · refine V_iconst (v := (-1)) dX3_read_147 (by decide) ?_
                  refine V_goto 152 dX3_read_148 (by decide) ?_
                  exact V_iretP rfl (okk _ _ (by unfold pr; rw [if_neg n0, if_neg n1, if_neg n2, if_neg n3, if_neg n4, if_pos ⟨h136, h144⟩]) g2 q6 q7) ⟨Nat.le_of_ble_eq_true rfl, Nat.le_of_ble_eq_true rfl⟩ dX3_read_152
            · refine V_iload_n dX3_read_113 rfl rfl ?_
              exact V_iretP rfl (err _ _ (by unfold pr; rw [if_neg n0, if_neg n1, if_neg n2, if_neg n3, if_pos (Or.inr h110)]) hm1 hmo) ⟨Nat.le_of_ble_eq_true rfl, Nat.le_of_ble_eq_true rfl⟩ dX3_read_114
        refine V_iconst (v := nI 2) dX3_read_55 (by decide) ?_
        refine V_iconst (v := nI 2) dX3_read_56 (by decide) ?_
        refine V_aload_n dX3_read_57 rfl rfl ?_
        refine V_getE frX3_26 hL.1 rfl r4 dX3_read_58 ?_
        refine V_imul dX3_read_61 ?_
        refine V_iadd dX3_read_62 ?_
        refine V_top (show nI 2 + nI 2 * nI (nA C) = nI (2 + 2 * nA C) by rw [pk_mul, nI_add]) ?_
        refine V_istore_n dX3_read_63 rfl (Nat.le_of_ble_eq_true rfl) ?_
        refine V_iload_n dX3_read_64 rfl rfl ?_
        refine V_aload_n dX3_read_65 rfl rfl ?_
        refine V_getE frX3_15 hL.1 rfl (hm1.trans hC.1) dX3_read_66 ?_
        refine V_N_ne (by omega) (by omega) 74 dX3_read_69 (by decide) (fun h69 => ?_) (fun h69 => ?_)
        · refine V_aload_n dX3_read_74 rfl rfl ?_
          refine V_getE frX3_26 hL.1 rfl r4 dX3_read_75 ?_
          refine V_bipush (v := nI 6) dX3_read_78 (by decide) ?_
          refine V_N_ge (by omega) (by omega) 98 dX3_read_80 (by decide) (fun h80 => ?_) (fun h80 => ?_)
          · exact J98 h69 (fun q => by omega)
          · refine V_aload_n dX3_read_83 rfl rfl ?_
            refine V_iload_n dX3_read_84 rfl rfl ?_
            refine V_cv1 (ctX3_letterAt hL hC2 hc (by omega)) mvX3_letterAt lkX3_35 hL.1 rfl rfl rfl (Nat.le_of_ble_eq_true rfl) ⟨⟨Nat.le_of_ble_eq_true rfl, Nat.le_of_ble_eq_true rfl⟩, Nat.le_of_ble_eq_true rfl, Nat.le_of_ble_eq_true rfl⟩ dX3_read_85 ?_
            refine V_cs1 (ctX3_isActionLetter (by omega)) msX3_isActionLetter lkX3_42 rfl rfl (Nat.le_of_ble_eq_true rfl) ⟨⟨Nat.le_of_ble_eq_true rfl, Nat.le_of_ble_eq_true rfl⟩, Nat.le_of_ble_eq_true rfl, Nat.le_of_ble_eq_true rfl⟩ dX3_read_88 ?_
            refine V_ifeqB 98 dX3_read_91 (by decide) (fun h91 => ?_) (fun h91 => ?_)
            · exact J98 h69 (fun q => by rw [h91] at q; cases q.2)
            · refine V_iload_n dX3_read_94 rfl rfl ?_
              refine V_iconst (v := nI 1) dX3_read_95 (by decide) ?_
              refine V_iadd dX3_read_96 ?_
              refine V_top (nI_add _ 1) ?_
              exact V_iretP rfl (err _ _ (by unfold pr; rw [if_neg n0, if_neg n1, if_neg h69, if_pos ⟨h80, h91⟩]) hm1 hmo) ⟨Nat.le_of_ble_eq_true rfl, Nat.le_of_ble_eq_true rfl⟩ dX3_read_97
        · refine V_iconst (v := (-1)) dX3_read_72 (by decide) ?_
          exact V_iretP rfl (okk [] m1 (by unfold pr; rw [if_neg n0, if_neg n1, if_pos h69]) (fun _ _ _ _ => rfl) hm6 (fun k hk => absurd hk (Nat.not_lt_zero k))) ⟨Nat.le_of_ble_eq_true rfl, Nat.le_of_ble_eq_true rfl⟩ dX3_read_73
        
      · refine V_iconst (v := nI 1) dX3_read_49 (by decide) ?_
        exact V_iretP rfl (err 1 _ (by unfold pr; rw [if_neg (fun q => q ⟨hd, by omega⟩), if_pos h46]) (by simp [u2]) (kk0 _)) ⟨Nat.le_of_ble_eq_true rfl, Nat.le_of_ble_eq_true rfl⟩ dX3_read_50
    · refine V_iconst (v := nI 0) dX3_read_37 (by decide) ?_
      exact V_iretP rfl (err 0 _ (by unfold pr; rw [if_pos (fun q => by omega)]) (by simp [u2]) (kk0 _)) ⟨Nat.le_of_ble_eq_true rfl, Nat.le_of_ble_eq_true rfl⟩ dX3_read_38

end Line
