/-! constructors: History, SsaRepair, SsaRepairModel -/
section Ctor3
variable {κ : K0} {φ : Fr} {cells slots pc : Nat} {L : List (Option Value)} {st rest : List Value}
variable {σ1 σ : Nat → Option Kd} {mi1 mi : Nat → Nat → Int32} {ml1 ml : Nat → Nat → Int64} {b0 o n ci N : Nat} {sl : Nat → Option Value} {io : Nat → Int32} {l : List (Nat × Kd)}
theorem V_napG {M idx idx2 k : Nat} {x : Int32} {ty : FieldType} {fin : Bool} (hB : Blk σ1 mi1 ml1 b0 o σ mi ml n ci N sl io l) (hl : Cond.classLink φ.1.1.cls idx RX1 ∈ TW) (hn : ¬ x < 0) (hN : x.toNatClampNeg = M) (hb : M * 4 ≤ 536870912) (hc : cells + 1 ≤ φ.2.1.cells ∧ slots + M ≤ φ.2.1.slots) (d : decode φ.1.2.1 pc = .ok (.anewarray idx, 3)) (fr : FRowP φ.1.1.cls idx2 ci N k ty fin) (hi : fin = false ∨ φ.1.1.name = "<init>" ∧ ∃ T, cls7[ci]? = some (φ.1.1.cls, T, N)) (hna : ∀ q, narrow ty (.ref q) = .ref q) (hfi : ∀ q, fits ty (.ref q) = true) (d2 : decode φ.1.2.1 (pc + 3) = .ok (.putfield idx2, 3))
    (kk : ∀ σ' mi' ml', Blk σ1 mi1 ml1 b0 o σ' mi' ml' (n + 1) ci N (upS sl k (.ref n)) io ((n, .inl (.object RX1, M, fun _ => none)) :: l) → V κ φ (cells + 1) (slots + M) (pc + 3 + 3) L st (σ', mi', ml', some (n + 1))) : V κ φ cells slots pc L (.int x :: .ref o :: st) (σ, mi, ml, some n) := by
  refine V_anewG hl hn hN hb hc d (fun q hq hz => ?_)
  have e : q = n := hz n rfl
  subst e
  have hon : o ≠ q := by have := hB.2.2.2.2.2; omega
  refine V_put (sl' := upS sl k (.ref q)) (fi' := va_up mi q (fun _ => 0) o) fr hi (hna q) (hfi q) (show va_up σ q _ o = some (.inr (ci, N, sl)) by rw [va_up_ne _ _ hon]; exact hB.1) slV_up (fun j hj => slV_upn hj) d2 ?_
  exact kk _ _ _ hB.add
end Ctor3
section Ctor4
variable {κ : K0} {σ : Nat → Option Kd} {mi : Nat → Nat → Int32} {ml : Nat → Nat → Int64}
def slD2 : Nat → Option Value := fun k => if k = 0 then some .null else none
def HistP (σ : Nat → Option Kd) (m : Nat → Nat → Int32) (h : Nat) : Prop := HistL σ h ∧ m h 1 = nI 0 ∧ m h 2 = nI 0
theorem HistP.keep {σ' : Nat → Option Kd} {m m' : Nat → Nat → Int32} {x : Nat} (h : HistP σ m x) (hk : ∀ a, x ≤ a → a < x + 42 → σ' a = σ a ∧ m' a = m a) : HistP σ' m' x := by
  obtain ⟨⟨h1, ⟨r, h2, h3⟩, h4⟩, h5, h6⟩ := h
  exact ⟨⟨(hk _ (by omega) (by omega)).1.trans h1, ⟨r, (hk _ (by omega) (by omega)).1.trans h2, h3⟩, fun j hj => (h4 j hj).keep (fun a q1 q2 => (hk a (by omega) (by omega)).1)⟩, (congrFun (hk _ (by omega) (by omega)).2 1).trans h5, (congrFun (hk _ (by omega) (by omega)).2 2).trans h6⟩
theorem FlowP.keep {σ' : Nat → Option Kd} {m m' : Nat → Nat → Int32} {f : Nat} (h : FlowP σ m f) (hk : ∀ a, f ≤ a → a < f + 17 → σ' a = σ a ∧ m' a = m a) : FlowP σ' m' f := by
  obtain ⟨⟨h0, hg, h1, h2, h3, h4, h5, h6, h7, h8, h9, h10, h11⟩, hA⟩ := h
  have e : ∀ a, f ≤ a → a < f + 17 → σ' a = σ a := fun a q1 q2 => (hk a q1 q2).1
  exact ⟨⟨(e _ (by omega) (by omega)).trans h0, hg.keep (fun a q1 q2 => e a (by omega) (by omega)), (e _ (by omega) (by omega)).trans h1, (e _ (by omega) (by omega)).trans h2, (e _ (by omega) (by omega)).trans h3, (e _ (by omega) (by omega)).trans h4, (e _ (by omega) (by omega)).trans h5, (e _ (by omega) (by omega)).trans h6, (e _ (by omega) (by omega)).trans h7, (e _ (by omega) (by omega)).trans h8, (e _ (by omega) (by omega)).trans h9, (e _ (by omega) (by omega)).trans h10, (e _ (by omega) (by omega)).trans h11⟩, hA.keep (fun a i q1 q2 => congrFun (hk a (by omega) (by omega)).2 i)⟩
theorem LineP.keep {σ' : Nat → Option Kd} {m m' : Nat → Nat → Int32} {x : Nat} (h : LineP σ m x) (hk : ∀ a, x ≤ a → a < x + 4 → σ' a = σ a ∧ m' a = m a) : LineP σ' m' x := by
  obtain ⟨⟨h1, h2, h3, h4⟩, h5⟩ := h
  exact ⟨⟨(hk _ (by omega) (by omega)).1.trans h1, (hk _ (by omega) (by omega)).1.trans h2, (hk _ (by omega) (by omega)).1.trans h3, (hk _ (by omega) (by omega)).1.trans h4⟩, (congrFun (hk _ (by omega) (by omega)).2 1).trans h5⟩
theorem WalkP.keep {σ' : Nat → Option Kd} {m m' : Nat → Nat → Int32} {x : Nat} (h : WalkP σ m x) (hk : ∀ a, x ≤ a → a < x + 4 → σ' a = σ a ∧ m' a = m a) : WalkP σ' m' x := by
  obtain ⟨⟨h1, h2, h3, h4⟩, h5, h6⟩ := h
  exact ⟨⟨(hk _ (by omega) (by omega)).1.trans h1, (hk _ (by omega) (by omega)).1.trans h2, (hk _ (by omega) (by omega)).1.trans h3, (hk _ (by omega) (by omega)).1.trans h4⟩, (congrFun (hk _ (by omega) (by omega)).2 1).trans h5, (congrFun (hk _ (by omega) (by omega)).2 0).trans h6⟩
/-- the history under construction: j graphs are made -/
def HInv (σ0 : Nat → Option Kd) (mi0 : Nat → Nat → Int32) (ml0 : Nat → Nat → Int64) (o j : Nat) (σ : Nat → Option Kd) (mi : Nat → Nat → Int32) (ml : Nat → Nat → Int64) : Prop :=
  σ o = some (.inr (2, 3, slH o)) ∧ mi o 1 = nI 0 ∧ mi o 2 = nI 0 ∧ (∃ r, σ (o + 1) = some (.inl (.object RX1, 8, r)) ∧ ∀ i, i < j → r i = some (o + 2 + 5 * i)) ∧ (∀ i, i < j → GraphP σ mi (o + 2 + 5 * i)) ∧ (∀ a, a < o → σ a = σ0 a ∧ mi a = mi0 a ∧ ml a = ml0 a) ∧ ∀ a, o + 2 + 5 * j ≤ a → σ a = none
theorem X2_loop {o : Nat} {σ : Nat → Option Kd} {mi : Nat → Nat → Int32} {ml : Nat → Nat → Int64} : ∀ (n j : Nat), j + n = 8 → ∀ σx mx lx, HInv σ mi ml o j σx mx lx → V κ (phiP κ mrX2_init 3 41 1280 (fun oc μ' => oc = .inl none ∧ ∃ σ' m' l', μ' = (σ', m', l', some (o + 42)) ∧ HistP σ' m' o ∧ (∀ a, a < o → σ' a = σ a ∧ m' a = mi a ∧ l' a = ml a) ∧ ∀ a, o + 42 ≤ a → σ' a = none)) (1 + 5 * j) (8 + 159 * j) 25 [some (.ref o), some (.int (nI j))] [] (σx, mx, lx, some (o + 2 + 5 * j)) := by
  intro n
  induction n with
  | zero =>
    intro j hj σx mx lx hI
    have e : j = 8 := by omega
    subst e
    obtain ⟨i1, i2, i3, i4, i5, i6, i7⟩ := hI
    refine V_iload_n dX2_init_25 rfl rfl ?_
    refine V_bipush (v := nI 8) dX2_init_26 (by decide) ?_
    refine V_N_ge (by decide) (by decide) 50 dX2_init_28 (by decide) (fun _ => ?_) (fun h => absurd h (by decide))
    exact V_vretP rfl ⟨rfl, σx, mx, lx, rfl, ⟨⟨i1, i4, fun j hj => (i5 j hj).1⟩, i2, i3⟩, i6, i7⟩ ⟨Nat.le_of_ble_eq_true rfl, Nat.le_of_ble_eq_true rfl⟩ dX2_init_50
  | succ n ih =>
    intro j hj σx mx lx hI
    obtain ⟨i1, i2, i3, ⟨r, i4, i4r⟩, i5, i6, i7⟩ := hI
    have hj8 : j < 8 := by omega
    refine V_iload_n dX2_init_25 rfl rfl ?_
    refine V_bipush (v := nI 8) dX2_init_26 (by decide) ?_
    refine V_N_ge (by omega) (by decide) 50 dX2_init_28 (by decide) (fun h => absurd h (by omega)) (fun _ => ?_)
    refine V_aload_n dX2_init_31 rfl rfl ?_
    refine V_getR frX2_11 i1 rfl dX2_init_32 ?_
    refine V_iload_n dX2_init_35 rfl rfl ?_
    refine V_new (ci := 1) (sl := slD1) rfl clX2_9 insX1 iniX1 (fun k hk ty h => by
      have hd : ∀ k, k < 5 → (parseFieldDescriptor (TX1 k).2.2.1).map defaultValue = some (slV slD1 (fun _ => 0) k) := by decide +kernel
      have h1 := hd k hk
      rw [h] at h1
      exact Option.some.inj h1) ⟨by show 1 + 5 * j + 1 ≤ 41; omega, by show 8 + 159 * j + 5 ≤ 1280; omega⟩ dX2_init_36 (fun q hq hz => ?_)
    have e : q = o + 2 + 5 * j := hz _ rfl
    subst e
    refine V_dup dX2_init_39 rfl ?_
    refine V_callINP (as := []) (ctX1_init (o := o + 2 + 5 * j) (va_up_self _ _ _) (va_up_self _ _ _) (fun a ha => by
      show va_up σx (o + 2 + 5 * j) _ a = none
      rw [va_up_ne _ _ (by omega)]
      exact i7 a (by omega))) miX1_init lnX2_24 rfl rfl (Nat.le_of_ble_eq_true rfl) ⟨⟨Nat.le_of_ble_eq_true rfl, Nat.le_of_ble_eq_true rfl⟩, by show 1 + 5 * j + 1 + 4 ≤ 41; omega, by show 8 + 159 * j + 5 + 154 ≤ 1280; omega⟩ dX2_init_40 (fun o μ' h => h.1) (fun μ' h => ?_)
    obtain ⟨-, σy, my, ly, rfl, hp, hb, hn⟩ := h
    have hb' : ∀ a, a < o + 2 + 5 * j → σy a = σx a ∧ my a = mx a ∧ ly a = lx a := fun a h => by
      obtain ⟨a1, a2, a3⟩ := hb a h
      refine ⟨a1.trans ?_, a2.trans ?_, a3.trans ?_⟩
      · exact va_up_ne _ _ (by omega)
      · exact va_up_ne _ _ (by omega)
      · exact va_up_ne _ _ (by omega)
    refine V_aastG (show σy (o + 1) = _ from (hb' (o + 1) (by omega)).1.trans i4) (show σy (o + 2 + 5 * j) = _ from hp.1.1) (vpN rfl hj8 (by decide)) dX2_init_43 ?_
    refine V_iinc1 dX2_init_44 rfl (Nat.le_of_ble_eq_true rfl) ?_
    refine V_goto 25 dX2_init_47 (by decide) ?_
    refine V.widen (k := 1 + 5 * (j + 1)) (n := 8 + 159 * (j + 1)) (by omega) (by omega) ?_
    have ec : (nI j).toNatClampNeg = j := nI_clamp (by omega)
    refine V.cM (ih (j + 1) (by omega) (va_up σy (o + 1) (some (.inl (.object RX1, 8, va_up r (nI j).toNatClampNeg (some (o + 2 + 5 * j)))))) my ly ⟨?_, ?_, ?_, ⟨_, va_up_self _ _ _, fun i hi => ?_⟩, fun i hi => ?_, fun a ha => ?_, fun a ha => ?_⟩) ?_
    · rw [va_up_ne _ _ (by omega)]; exact (hb' o (by omega)).1.trans i1
    · exact (congrFun (hb' o (by omega)).2.1 1).trans i2
    · exact (congrFun (hb' o (by omega)).2.1 2).trans i3
    · rw [ec]
      by_cases h : i = j
      · subst h; exact va_up_self _ _ _
      · rw [va_up_ne _ _ h]; exact i4r i (by omega)
    · by_cases h : i = j
      · subst h; exact hp.keep (fun a q1 q2 => ⟨va_up_ne _ _ (by omega), rfl⟩)
      · exact (i5 i (by omega)).keep (fun a q1 q2 => ⟨(va_up_ne _ _ (by omega)).trans (hb' a (by omega)).1, (hb' a (by omega)).2.1⟩)
    · obtain ⟨a1, a2, a3⟩ := hb' a (by omega)
      obtain ⟨c1, c2, c3⟩ := i6 a ha
      exact ⟨(va_up_ne _ _ (by omega)).trans (a1.trans c1), a2.trans c2, a3.trans c3⟩
    · rw [va_up_ne _ _ (by omega)]; exact hn a (by omega)
    · show _ = (_, _, _, some (o + 2 + 5 * (j + 1)))
      rw [show o + 2 + 5 * (j + 1) = o + 2 + 5 * j + 5 by omega]
theorem ctX2_init {o : Nat} (h0 : σ o = some (.inr (2, 3, slD2))) (h1 : mi o = fun _ => 0) (h2 : ∀ a, o + 1 ≤ a → σ a = none) : CtP κ 41 1280 3 mrX2_init [.ref o] (σ, mi, ml, some (o + 1)) (fun oc μ' => oc = .inl none ∧ ∃ σ' m' l', μ' = (σ', m', l', some (o + 42)) ∧ HistP σ' m' o ∧ (∀ a, a < o → σ' a = σ a ∧ m' a = mi a ∧ l' a = ml a) ∧ ∀ a, o + 42 ≤ a → σ' a = none) := by
  refine CtP.of rfl (by simp [Value.category]) (Nat.le_of_ble_eq_true rfl) ?_
  have hB0 : Blk σ mi ml (o + 1) o σ mi ml (o + 1) 2 3 slD2 (fun _ => 0) [] := ⟨h0, h1, (fun q hq => by cases hq), h2, fun a _ _ => ⟨rfl, rfl, rfl⟩, by omega, Nat.le_refl _⟩
  refine V_aload_n dX2_init_0 rfl rfl ?_
  refine V_objInit lkX2_3 oiI oiC (Nat.le_of_ble_eq_true rfl) ⟨Nat.le_of_ble_eq_true rfl, Nat.le_of_ble_eq_true rfl⟩ dX2_init_1 ?_
  refine V_aload_n dX2_init_4 rfl rfl ?_
  refine V_bipush (v := nI 8) dX2_init_5 (by decide) ?_
  refine V_napG (M := 8) hB0 clX2_9 (by decide) (by decide) (by decide) ⟨Nat.le_of_ble_eq_true rfl, Nat.le_of_ble_eq_true rfl⟩ dX2_init_7 fpX2_11 (Or.inr ⟨rfl, _, rfl⟩) (fun _ => rfl) (fun _ => rfl) dX2_init_10 (fun σa ma la hB1 => ?_)
  refine V_aload_n dX2_init_13 rfl rfl ?_
  refine V_iconst (v := nI 0) dX2_init_14 (by decide) ?_
  refine V_putI fpX2_17 rfl rfl hB1.1 rfl dX2_init_15 ?_
  have hB2 := hB1.put (k := 1) (x := nI 0)
  refine V_aload_n dX2_init_18 rfl rfl ?_
  refine V_iconst (v := nI 0) dX2_init_19 (by decide) ?_
  refine V_putI fpX2_21 rfl rfl hB2.1 rfl dX2_init_20 ?_
  have hB3 := hB2.put (k := 2) (x := nI 0)
  refine V_iconst (v := nI 0) dX2_init_23 (by decide) ?_
  refine V_istore_n dX2_init_24 rfl (Nat.le_of_ble_eq_true rfl) ?_
  exact X2_loop 8 0 rfl _ _ _ ⟨blk_sl hB3.1 (fun k => match k with | 0 => rfl | 1 => rfl | 2 => rfl | _ + 3 => rfl), congrFun hB3.2.1 1, congrFun hB3.2.1 2, ⟨_, (hB3.2.2.1 _ (.head _)).1, fun i hi => absurd hi (Nat.not_lt_zero i)⟩, fun i hi => absurd hi (Nat.not_lt_zero i), fun a ha => hB3.2.2.2.2.1 a (by omega) (by omega), fun a ha => hB3.2.2.2.1 a (by omega)⟩

def slD5 : Nat → Option Value := fun k => if k = 5 ∨ k = 8 then none else if k < 10 then some .null else none
def S0 : SS := (G1, (0, fun _ => G1), none, [], -1, 0, fun _ => 0)
theorem Wf_G1 : Wf G1 := Wf.empty (Nat.le_refl 1) (by decide)
theorem SOK_S0 : SOK S0 := ⟨Wf_G1, ⟨Nat.zero_le _, fun i hi => absurd hi (Nat.not_lt_zero i)⟩, (fun g hg => by cases hg), ⟨Nat.zero_le _, (fun x hx => by cases hx)⟩, Or.inl rfl, Nat.zero_le _, rfl, fun i hi => absurd hi (Nat.not_lt_zero i)⟩
theorem ctX5_init {o : Nat} (h0 : σ o = some (.inr (5, 10, slD5))) (h1 : mi o = fun _ => 0) (h2 : ∀ a, o + 1 ≤ a → σ a = none) : CtP κ 89 2207 6 mrX5_init [.ref o] (σ, mi, ml, some (o + 1)) (fun oc μ' => oc = .inl none ∧ ∃ σ' m' l', μ' = MM σ' m' l' ∧ XL σ' o ∧ XA m' o S0) := by
  refine CtP.of rfl (by simp [Value.category]) (Nat.le_of_ble_eq_true rfl) ?_
  refine V_aload_n dX5_init_0 rfl rfl ?_
  refine V_objInit lkX5_1 oiI oiC (Nat.le_of_ble_eq_true rfl) ⟨Nat.le_of_ble_eq_true rfl, Nat.le_of_ble_eq_true rfl⟩ dX5_init_1 ?_
  refine V_aload_n dX5_init_4 rfl rfl ?_
  refine V_nobj (host := RX5) (mr := mrX0_init) (slD := slD0) (Post := FlowP) (s' := 17) h0 (by omega) h2 (ci' := 0) rfl clX5_7 insX0 iniX0 (by decide +kernel) (fun σ2 m2 l2 q1 q2 q3 => ctX0_init q1 q2 q3) (fun σ' m' σ2 m2 hq hp => hp.keep (fun a h1 h2 => hq a h1)) miX0_init (Or.inr lnX5_9) (by omega) fpX5_10 (Or.inr ⟨rfl, _, rfl⟩) (fun _ => rfl) (fun _ => rfl) ⟨Nat.le_of_ble_eq_true rfl, Nat.le_of_ble_eq_true rfl⟩ ⟨⟨Nat.le_of_ble_eq_true rfl, Nat.le_of_ble_eq_true rfl⟩, Nat.le_of_ble_eq_true rfl, Nat.le_of_ble_eq_true rfl⟩ (Nat.le_of_ble_eq_true rfl) dX5_init_5 dX5_init_8 dX5_init_9 dX5_init_12 (fun σA mA lA A1 A2 A3 A4 A5 => ?_)
  have fA := A5
  have ZA : mA o = fun _ => 0 := A2.trans h1
  refine V_aload_n dX5_init_15 rfl rfl ?_
  refine V_aload_n dX5_init_16 rfl rfl ?_
  refine V_getR frX5_10 A1 rfl dX5_init_17 ?_
  refine V_getR frX5_16 fA.1.1 rfl dX5_init_20 ?_
  refine V_put (sl' := upS (upS slD5 0 (.ref (o + 1))) 1 (.ref (o + 1 + 1))) (fi' := mA o) fpX5_20 (Or.inr ⟨rfl, _, rfl⟩) rfl rfl A1 slV_up (fun j hj => slV_upn hj) dX5_init_23 ?_
  obtain ⟨σB, eσB⟩ : ∃ z, z = va_up σA o (some (.inr (5, 10, upS (upS slD5 0 (.ref (o + 1))) 1 (.ref (o + 1 + 1))))) := ⟨_, rfl⟩
  obtain ⟨mB, emB⟩ : ∃ z, z = va_up mA o (mA o) := ⟨_, rfl⟩
  refine V.cM (μ' := (σB, mB, lA, some (o + 18))) ?_ (by subst eσB; subst emB; rfl)
  have B1 : σB o = some (.inr (5, 10, upS (upS slD5 0 (.ref (o + 1))) 1 (.ref (o + 1 + 1)))) := by rw [eσB]; exact va_up_self _ _ _
  have B2 : mB o = fun _ => 0 := by rw [emB, va_up_self]; exact ZA
  have B3 : ∀ a, a ≠ o → σB a = σA a ∧ mB a = mA a := fun a ha => ⟨by rw [eσB]; exact va_up_ne _ _ ha, by rw [emB]; exact va_up_ne _ _ ha⟩
  have B4 : ∀ a, o + 18 ≤ a → σB a = none := fun a ha => (B3 a (by omega)).1.trans (A4 a (by omega))
  have ZB := B2
  have fB := fA.keep (fun a q1 q2 => B3 a (by omega))
  refine V_aload_n dX5_init_26 rfl rfl ?_
  refine V_nobj (host := RX5) (mr := mrX0_init) (slD := slD0) (Post := FlowP) (s' := 17) B1 (by omega) B4 (ci' := 0) rfl clX5_7 insX0 iniX0 (by decide +kernel) (fun σ2 m2 l2 q1 q2 q3 => ctX0_init q1 q2 q3) (fun σ' m' σ2 m2 hq hp => hp.keep (fun a h1 h2 => hq a h1)) miX0_init (Or.inr lnX5_9) (by omega) fpX5_21 (Or.inr ⟨rfl, _, rfl⟩) (fun _ => rfl) (fun _ => rfl) ⟨Nat.le_of_ble_eq_true rfl, Nat.le_of_ble_eq_true rfl⟩ ⟨⟨Nat.le_of_ble_eq_true rfl, Nat.le_of_ble_eq_true rfl⟩, Nat.le_of_ble_eq_true rfl, Nat.le_of_ble_eq_true rfl⟩ (Nat.le_of_ble_eq_true rfl) dX5_init_27 dX5_init_30 dX5_init_31 dX5_init_34 (fun σC mC lC C1 C2 C3 C4 C5 => ?_)
  have fC := fB.keep (fun a q1 q2 => ⟨(C3 a (by omega) (by omega)).1, (C3 a (by omega) (by omega)).2.1⟩)
  have gC := C5
  have ZC : mC o = fun _ => 0 := C2.trans B2
  refine V_aload_n dX5_init_37 rfl rfl ?_
  refine V_aload_n dX5_init_38 rfl rfl ?_
  refine V_getR frX5_21 C1 rfl dX5_init_39 ?_
  refine V_getR frX5_16 gC.1.1 rfl dX5_init_42 ?_
  refine V_put (sl' := upS (upS (upS (upS slD5 0 (.ref (o + 1))) 1 (.ref (o + 1 + 1))) 2 (.ref (o + 18))) 3 (.ref (o + 18 + 1))) (fi' := mC o) fpX5_24 (Or.inr ⟨rfl, _, rfl⟩) rfl rfl C1 slV_up (fun j hj => slV_upn hj) dX5_init_45 ?_
  obtain ⟨σD, eσD⟩ : ∃ z, z = va_up σC o (some (.inr (5, 10, upS (upS (upS (upS slD5 0 (.ref (o + 1))) 1 (.ref (o + 1 + 1))) 2 (.ref (o + 18))) 3 (.ref (o + 18 + 1))))) := ⟨_, rfl⟩
  obtain ⟨mD, emD⟩ : ∃ z, z = va_up mC o (mC o) := ⟨_, rfl⟩
  refine V.cM (μ' := (σD, mD, lC, some (o + 35))) ?_ (by subst eσD; subst emD; rfl)
  have D1 : σD o = some (.inr (5, 10, upS (upS (upS (upS slD5 0 (.ref (o + 1))) 1 (.ref (o + 1 + 1))) 2 (.ref (o + 18))) 3 (.ref (o + 18 + 1)))) := by rw [eσD]; exact va_up_self _ _ _
  have D2 : mD o = fun _ => 0 := by rw [emD, va_up_self]; exact ZC
  have D3 : ∀ a, a ≠ o → σD a = σC a ∧ mD a = mC a := fun a ha => ⟨by rw [eσD]; exact va_up_ne _ _ ha, by rw [emD]; exact va_up_ne _ _ ha⟩
  have D4 : ∀ a, o + 35 ≤ a → σD a = none := fun a ha => (D3 a (by omega)).1.trans (C4 a (by omega))
  have ZD := D2
  have fD := fC.keep (fun a q1 q2 => D3 a (by omega))
  have gD := gC.keep (fun a q1 q2 => D3 a (by omega))
  refine V_aload_n dX5_init_48 rfl rfl ?_
  refine V_nobj (host := RX5) (mr := mrX1_init) (slD := slD1) (Post := GraphP) (s' := 5) D1 (by omega) D4 (ci' := 1) rfl clX5_27 insX1 iniX1 (by decide +kernel) (fun σ2 m2 l2 q1 q2 q3 => ctX1_init q1 q2 q3) (fun σ' m' σ2 m2 hq hp => hp.keep (fun a h1 h2 => hq a h1)) miX1_init (Or.inr lnX5_29) (by omega) fpX5_30 (Or.inr ⟨rfl, _, rfl⟩) (fun _ => rfl) (fun _ => rfl) ⟨Nat.le_of_ble_eq_true rfl, Nat.le_of_ble_eq_true rfl⟩ ⟨⟨Nat.le_of_ble_eq_true rfl, Nat.le_of_ble_eq_true rfl⟩, Nat.le_of_ble_eq_true rfl, Nat.le_of_ble_eq_true rfl⟩ (Nat.le_of_ble_eq_true rfl) dX5_init_49 dX5_init_52 dX5_init_53 dX5_init_56 (fun σE mE lE E1 E2 E3 E4 E5 => ?_)
  have fE := fD.keep (fun a q1 q2 => ⟨(E3 a (by omega) (by omega)).1, (E3 a (by omega) (by omega)).2.1⟩)
  have gE := gD.keep (fun a q1 q2 => ⟨(E3 a (by omega) (by omega)).1, (E3 a (by omega) (by omega)).2.1⟩)
  have hE := E5
  have ZE : mE o = fun _ => 0 := E2.trans D2
  refine V_aload_n dX5_init_59 rfl rfl ?_
  refine V_iconst (v := nI 0) dX5_init_60 (by decide) ?_
  refine V_putI fpX5_33 rfl rfl E1 rfl dX5_init_61 ?_
  obtain ⟨mF, emF⟩ : ∃ z, z = u2 mE o 5 (nI 0) := ⟨_, rfl⟩
  refine V.cM (μ' := (σE, mF, lE, some (o + 40))) ?_ (by subst emF; rfl)
  have F3 : ∀ a, a ≠ o → mF a = mE a := fun a ha => by rw [emF]; exact funext (fun i => u2_n _ _ (Or.inl ha))
  have ZF : mF o 5 = nI 0 := by rw [emF]; exact u2_s _ _ _ _
  have fF := fE.keep (fun a q1 q2 => ⟨rfl, F3 a (by omega)⟩)
  have gF := gE.keep (fun a q1 q2 => ⟨rfl, F3 a (by omega)⟩)
  have hF := hE.keep (fun a q1 q2 => ⟨rfl, F3 a (by omega)⟩)
  refine V_aload_n dX5_init_64 rfl rfl ?_
  refine V_nobj (host := RX5) (mr := mrX2_init) (slD := slD2) (Post := HistP) (s' := 42) E1 (by omega) E4 (ci' := 2) rfl clX5_37 insX2 iniX2 (by decide +kernel) (fun σ2 m2 l2 q1 q2 q3 => ctX2_init q1 q2 q3) (fun σ' m' σ2 m2 hq hp => hp.keep (fun a h1 h2 => hq a h1)) miX2_init (Or.inl lkX5_39) (by omega) fpX5_40 (Or.inr ⟨rfl, _, rfl⟩) (fun _ => rfl) (fun _ => rfl) ⟨Nat.le_of_ble_eq_true rfl, Nat.le_of_ble_eq_true rfl⟩ ⟨⟨Nat.le_of_ble_eq_true rfl, Nat.le_of_ble_eq_true rfl⟩, Nat.le_of_ble_eq_true rfl, Nat.le_of_ble_eq_true rfl⟩ (Nat.le_of_ble_eq_true rfl) dX5_init_65 dX5_init_68 dX5_init_69 dX5_init_72 (fun σG mG lG G1x G2 G3 G4 G5 => ?_)
  have fG := fF.keep (fun a q1 q2 => ⟨(G3 a (by omega) (by omega)).1, (G3 a (by omega) (by omega)).2.1⟩)
  have gG := gF.keep (fun a q1 q2 => ⟨(G3 a (by omega) (by omega)).1, (G3 a (by omega) (by omega)).2.1⟩)
  have hG := hF.keep (fun a q1 q2 => ⟨(G3 a (by omega) (by omega)).1, (G3 a (by omega) (by omega)).2.1⟩)
  have kG := G5
  have ZG : mG o 5 = nI 0 := (congrFun G2 5).trans ZF
  refine V_aload_n dX5_init_75 rfl rfl ?_
  refine V_nobj (host := RX5) (mr := mrX3_init) (slD := slD3) (Post := LineP) (s' := 4) G1x (by omega) G4 (ci' := 3) rfl clX5_44 insX3 iniX3 (by decide +kernel) (fun σ2 m2 l2 q1 q2 q3 => ctX3_init q1 q2 q3) (fun σ' m' σ2 m2 hq hp => hp.keep (fun a h1 h2 => hq a h1)) miX3_init (Or.inr lnX5_46) (by omega) fpX5_47 (Or.inr ⟨rfl, _, rfl⟩) (fun _ => rfl) (fun _ => rfl) ⟨Nat.le_of_ble_eq_true rfl, Nat.le_of_ble_eq_true rfl⟩ ⟨⟨Nat.le_of_ble_eq_true rfl, Nat.le_of_ble_eq_true rfl⟩, Nat.le_of_ble_eq_true rfl, Nat.le_of_ble_eq_true rfl⟩ (Nat.le_of_ble_eq_true rfl) dX5_init_76 dX5_init_79 dX5_init_80 dX5_init_83 (fun σH mH lH H1 H2 H3 H4 H5 => ?_)
  have fH := fG.keep (fun a q1 q2 => ⟨(H3 a (by omega) (by omega)).1, (H3 a (by omega) (by omega)).2.1⟩)
  have gH := gG.keep (fun a q1 q2 => ⟨(H3 a (by omega) (by omega)).1, (H3 a (by omega) (by omega)).2.1⟩)
  have hH := hG.keep (fun a q1 q2 => ⟨(H3 a (by omega) (by omega)).1, (H3 a (by omega) (by omega)).2.1⟩)
  have kH := kG.keep (fun a q1 q2 => ⟨(H3 a (by omega) (by omega)).1, (H3 a (by omega) (by omega)).2.1⟩)
  have lnH := H5
  have ZH : mH o 5 = nI 0 := (congrFun H2 5).trans ZG
  refine V_aload_n dX5_init_86 rfl rfl ?_
  refine V_iconst (v := (-1)) dX5_init_87 (by decide) ?_
  refine V_putI fpX5_51 rfl rfl H1 rfl dX5_init_88 ?_
  obtain ⟨mI, emI⟩ : ∃ z, z = u2 mH o 8 (-1) := ⟨_, rfl⟩
  refine V.cM (μ' := (σH, mI, lH, some (o + 86))) ?_ (by subst emI; rfl)
  have I3 : ∀ a, a ≠ o → mI a = mH a := fun a ha => by rw [emI]; exact funext (fun i => u2_n _ _ (Or.inl ha))
  have ZI : mI o 5 = nI 0 := by rw [emI]; exact (u2_n _ _ (Or.inr (by decide))).trans ZH
  have YI : mI o 8 = -1 := by rw [emI]; exact u2_s _ _ _ _
  have fI := fH.keep (fun a q1 q2 => ⟨rfl, I3 a (by omega)⟩)
  have gI := gH.keep (fun a q1 q2 => ⟨rfl, I3 a (by omega)⟩)
  have hI := hH.keep (fun a q1 q2 => ⟨rfl, I3 a (by omega)⟩)
  have kI := kH.keep (fun a q1 q2 => ⟨rfl, I3 a (by omega)⟩)
  have lnI := lnH.keep (fun a q1 q2 => ⟨rfl, I3 a (by omega)⟩)
  refine V_aload_n dX5_init_91 rfl rfl ?_
  refine V_nobj (host := RX5) (mr := mrX4_init) (slD := slD4) (Post := WalkP) (s' := 4) H1 (by omega) H4 (ci' := 4) rfl clX5_55 insX4 iniX4 (by decide +kernel) (fun σ2 m2 l2 q1 q2 q3 => ctX4_init q1 q2 q3) (fun σ' m' σ2 m2 hq hp => hp.keep (fun a h1 h2 => hq a h1)) miX4_init (Or.inr lnX5_57) (by omega) fpX5_58 (Or.inr ⟨rfl, _, rfl⟩) (fun _ => rfl) (fun _ => rfl) ⟨Nat.le_of_ble_eq_true rfl, Nat.le_of_ble_eq_true rfl⟩ ⟨⟨Nat.le_of_ble_eq_true rfl, Nat.le_of_ble_eq_true rfl⟩, Nat.le_of_ble_eq_true rfl, Nat.le_of_ble_eq_true rfl⟩ (Nat.le_of_ble_eq_true rfl) dX5_init_92 dX5_init_95 dX5_init_96 dX5_init_99 (fun σJ mJ lJ J1 J2 J3 J4 J5 => ?_)
  have fJ := fI.keep (fun a q1 q2 => ⟨(J3 a (by omega) (by omega)).1, (J3 a (by omega) (by omega)).2.1⟩)
  have gJ := gI.keep (fun a q1 q2 => ⟨(J3 a (by omega) (by omega)).1, (J3 a (by omega) (by omega)).2.1⟩)
  have hJ := hI.keep (fun a q1 q2 => ⟨(J3 a (by omega) (by omega)).1, (J3 a (by omega) (by omega)).2.1⟩)
  have kJ := kI.keep (fun a q1 q2 => ⟨(J3 a (by omega) (by omega)).1, (J3 a (by omega) (by omega)).2.1⟩)
  have lnJ := lnI.keep (fun a q1 q2 => ⟨(J3 a (by omega) (by omega)).1, (J3 a (by omega) (by omega)).2.1⟩)
  have wJ := J5
  have ZJ : mJ o 5 = nI 0 := (congrFun J2 5).trans ZI
  have YJ : mJ o 8 = -1 := (congrFun J2 8).trans YI
  refine V_aload_n dX5_init_102 rfl rfl ?_
  refine V_getR frX5_10 J1 rfl dX5_init_103 ?_
  refine V.drop (μ' := MM σJ mJ lJ) (fun a kd h => ⟨h, rfl, rfl⟩) rfl ?_
  refine V_cp0 (ctX0_analyse fJ.1 fJ.2 Wf_G1) mvX0_analyse lkX5_62 fJ.1.1 rfl rfl rfl (Nat.le_of_ble_eq_true rfl) ⟨⟨Nat.le_of_ble_eq_true rfl, Nat.le_of_ble_eq_true rfl⟩, Nat.le_of_ble_eq_true rfl, Nat.le_of_ble_eq_true rfl⟩ dX5_init_106 (fun μ' h => ?_)
  obtain ⟨m', rfl, hFA, hoff⟩ := h
  have hk : ∀ a i, ¬ (a = o + 1 ∧ i = 1) → (a < o + 7 ∨ o + 18 ≤ a) → m' a i = mJ a i := fun a i q1 q2 => hoff a i q1 (by omega)
  exact V_vretP rfl ⟨rfl, σJ, m', lJ, rfl, ⟨blk_sl J1 (fun k => match k with | 0 => rfl | 1 => rfl | 2 => rfl | 3 => rfl | 4 => rfl | 5 => rfl | 6 => rfl | 7 => rfl | 8 => rfl | 9 => rfl | _ + 10 => rfl), fJ.1, gJ.1, hJ.1, kJ.1, lnJ.1, wJ.1⟩, fJ.2.keep (fun a i q1 q2 => hk a i (by omega) (by omega)), hFA, ⟨0, (hk _ _ (by omega) (by omega)).trans kJ.2.1, by decide, (hk _ _ (by omega) (by omega)).trans kJ.2.2, Nat.zero_le _, fun i hi => absurd hi (Nat.not_lt_zero i)⟩, ⟨(hk _ _ (by omega) (by omega)).trans ZJ, (fun g hg => by cases hg)⟩, ⟨(hk _ _ (by omega) (by omega)).trans lnJ.2, fun i hi => absurd hi (Nat.not_lt_zero i)⟩, (hk _ _ (by omega) (by omega)).trans YJ, (hk _ _ (by omega) (by omega)).trans wJ.2.1, fun i hi => by
      have hi : i ≤ 0 := hi
      rw [show i = 0 by omega]
      exact (hk _ _ (by omega) (by omega)).trans wJ.2.2⟩ ⟨Nat.le_of_ble_eq_true rfl, Nat.le_of_ble_eq_true rfl⟩ dX5_init_109

def slD6 : Nat → Option Value := fun k => if k = 2 ∨ k = 3 ∨ k = 4 ∨ k = 5 ∨ k = 6 ∨ k = 7 ∨ k = 10 ∨ k = 18 ∨ k = 19 ∨ k = 21 ∨ k = 22 ∨ k = 23 ∨ k = 24 ∨ k = 25 ∨ k = 26 ∨ k = 27 ∨ k = 28 ∨ k = 29 ∨ k = 32 ∨ k = 33 ∨ k = 35 then some .null else none
def ModP (σ : Nat → Option Kd) (m' : Nat → Nat → Int32) (m : Nat) : Prop := ML σ m ∧ MA m' m S0
theorem ctX6_init {o : Nat} (h0 : σ o = some (.inr (6, 36, slD6))) (h1 : mi o = fun _ => 0) (h2 : ∀ a, o + 1 ≤ a → σ a = none) : CtP κ 100 2171 2 mrX6_init [.ref o] (σ, mi, ml, some (o + 1)) (fun oc μ' => oc = .inl none ∧ ∃ σ' m' l', μ' = (σ', m', l', some (o + 101)) ∧ ModP σ' m' o ∧ (∀ a, a < o → σ' a = σ a ∧ m' a = mi a ∧ l' a = ml a) ∧ ∀ a, o + 101 ≤ a → σ' a = none) := by
  refine CtP.of rfl (by simp [Value.category]) (Nat.le_of_ble_eq_true rfl) ?_
  have hBz : Blk σ mi ml (o + 1) o σ mi ml (o + 1) 6 36 slD6 (fun _ => 0) [] := ⟨h0, h1, (fun q hq => by cases hq), h2, fun a _ _ => ⟨rfl, rfl, rfl⟩, by omega, Nat.le_refl _⟩
  refine V_aload_n dX6_init_0 rfl rfl ?_
  refine V_objInit lkX6_1 oiI oiC (Nat.le_of_ble_eq_true rfl) ⟨Nat.le_of_ble_eq_true rfl, Nat.le_of_ble_eq_true rfl⟩ dX6_init_1 ?_
  refine V_aload_n dX6_init_4 rfl rfl ?_
  refine V_iconst (v := nI 1) dX6_init_5 (by decide) ?_
  refine V_putI fpX6_7 rfl rfl hBz.1 rfl dX6_init_6 ?_
  have hB0 := hBz.put (k := 1) (x := nI 1)
  refine V_aload_n dX6_init_9 rfl rfl ?_
  refine V_bipush (v := nI 14) dX6_init_10 (by decide) ?_
  refine V_napI (M := 14) hB0 (by decide) (by decide) (by decide) ⟨Nat.le_of_ble_eq_true rfl, Nat.le_of_ble_eq_true rfl⟩ dX6_init_12 fpX6_13 (Or.inr ⟨rfl, _, rfl⟩) (fun _ => rfl) (fun _ => rfl) dX6_init_14 (fun σ1 m1 l1 hB1 => ?_)
  refine V_aload_n dX6_init_17 rfl rfl ?_
  refine V_bipush (v := nI 14) dX6_init_18 (by decide) ?_
  refine V_napI (M := 14) hB1 (by decide) (by decide) (by decide) ⟨Nat.le_of_ble_eq_true rfl, Nat.le_of_ble_eq_true rfl⟩ dX6_init_20 fpX6_17 (Or.inr ⟨rfl, _, rfl⟩) (fun _ => rfl) (fun _ => rfl) dX6_init_22 (fun σ2 m2 l2 hB2 => ?_)
  refine V_aload_n dX6_init_25 rfl rfl ?_
  refine V_bipush (v := nI 14) dX6_init_26 (by decide) ?_
  refine V_bipush (v := nI 6) dX6_init_28 (by decide) ?_
  refine V_napM (A := 14) (K := 6) hB2 clX6_20 (by decide) (by decide) (by decide) (by decide) (by decide) (by decide) (by decide) ⟨Nat.le_of_ble_eq_true rfl, Nat.le_of_ble_eq_true rfl⟩ dX6_init_30 fpX6_22 (Or.inr ⟨rfl, _, rfl⟩) (fun _ => rfl) (fun _ => rfl) dX6_init_34 (fun σ3 m3 l3 hB3 => ?_)
  refine V_aload_n dX6_init_37 rfl rfl ?_
  refine V_bipush (v := nI 14) dX6_init_38 (by decide) ?_
  refine V_iconst (v := nI 3) dX6_init_40 (by decide) ?_
  refine V_napM (A := 14) (K := 3) hB3 clX6_20 (by decide) (by decide) (by decide) (by decide) (by decide) (by decide) (by decide) ⟨Nat.le_of_ble_eq_true rfl, Nat.le_of_ble_eq_true rfl⟩ dX6_init_41 fpX6_25 (Or.inr ⟨rfl, _, rfl⟩) (fun _ => rfl) (fun _ => rfl) dX6_init_45 (fun σ4 m4 l4 hB4 => ?_)
  refine V_aload_n dX6_init_48 rfl rfl ?_
  refine V_bipush (v := nI 9) dX6_init_49 (by decide) ?_
  refine V_sipush (v := nI 160) dX6_init_51 (by decide) ?_
  refine V_napM (A := 9) (K := 160) hB4 clX6_20 (by decide) (by decide) (by decide) (by decide) (by decide) (by decide) (by decide) ⟨Nat.le_of_ble_eq_true rfl, Nat.le_of_ble_eq_true rfl⟩ dX6_init_54 fpX6_28 (Or.inr ⟨rfl, _, rfl⟩) (fun _ => rfl) (fun _ => rfl) dX6_init_58 (fun σ5 m5 l5 hB5 => ?_)
  refine V_aload_n dX6_init_61 rfl rfl ?_
  refine V_sipush (v := nI 160) dX6_init_62 (by decide) ?_
  refine V_napI (M := 160) hB5 (by decide) (by decide) (by decide) ⟨Nat.le_of_ble_eq_true rfl, Nat.le_of_ble_eq_true rfl⟩ dX6_init_65 fpX6_31 (Or.inr ⟨rfl, _, rfl⟩) (fun _ => rfl) (fun _ => rfl) dX6_init_67 (fun σ6 m6 l6 hB6 => ?_)
  refine V_aload_n dX6_init_70 rfl rfl ?_
  refine V_bipush (v := nI 30) dX6_init_71 (by decide) ?_
  refine V_napC (M := 30) hB6 (by decide) (by decide) (by decide) ⟨Nat.le_of_ble_eq_true rfl, Nat.le_of_ble_eq_true rfl⟩ dX6_init_73 fpX6_34 (Or.inr ⟨rfl, _, rfl⟩) (fun _ => rfl) (fun _ => rfl) dX6_init_75 (fun σ7 m7 l7 hB7 => ?_)
  refine V_aload_n dX6_init_78 rfl rfl ?_
  refine V_iconst (v := (-1)) dX6_init_79 (by decide) ?_
  refine V_putI fpX6_38 rfl rfl hB7.1 rfl dX6_init_80 ?_
  have hB8 := hB7.put (k := 13) (x := (-1))
  refine V_aload_n dX6_init_83 rfl rfl ?_
  refine V_bipush (v := nI 6) dX6_init_84 (by decide) ?_
  refine V_napI (M := 6) hB8 (by decide) (by decide) (by decide) ⟨Nat.le_of_ble_eq_true rfl, Nat.le_of_ble_eq_true rfl⟩ dX6_init_86 fpX6_41 (Or.inr ⟨rfl, _, rfl⟩) (fun _ => rfl) (fun _ => rfl) dX6_init_88 (fun σ9 m9 l9 hB9 => ?_)
  refine V_aload_n dX6_init_91 rfl rfl ?_
  refine V_iconst (v := nI 3) dX6_init_92 (by decide) ?_
  refine V_napI (M := 3) hB9 (by decide) (by decide) (by decide) ⟨Nat.le_of_ble_eq_true rfl, Nat.le_of_ble_eq_true rfl⟩ dX6_init_93 fpX6_44 (Or.inr ⟨rfl, _, rfl⟩) (fun _ => rfl) (fun _ => rfl) dX6_init_95 (fun σ10 m10 l10 hB10 => ?_)
  refine V_aload_n dX6_init_98 rfl rfl ?_
  refine V_bipush (v := nI 14) dX6_init_99 (by decide) ?_
  refine V_napI (M := 14) hB10 (by decide) (by decide) (by decide) ⟨Nat.le_of_ble_eq_true rfl, Nat.le_of_ble_eq_true rfl⟩ dX6_init_101 fpX6_47 (Or.inr ⟨rfl, _, rfl⟩) (fun _ => rfl) (fun _ => rfl) dX6_init_103 (fun σ11 m11 l11 hB11 => ?_)
  refine V_aload_n dX6_init_106 rfl rfl ?_
  refine V_bipush (v := nI 14) dX6_init_107 (by decide) ?_
  refine V_napI (M := 14) hB11 (by decide) (by decide) (by decide) ⟨Nat.le_of_ble_eq_true rfl, Nat.le_of_ble_eq_true rfl⟩ dX6_init_109 fpX6_50 (Or.inr ⟨rfl, _, rfl⟩) (fun _ => rfl) (fun _ => rfl) dX6_init_111 (fun σ12 m12 l12 hB12 => ?_)
  refine V_aload_n dX6_init_114 rfl rfl ?_
  refine V_bipush (v := nI 14) dX6_init_115 (by decide) ?_
  refine V_napI (M := 14) hB12 (by decide) (by decide) (by decide) ⟨Nat.le_of_ble_eq_true rfl, Nat.le_of_ble_eq_true rfl⟩ dX6_init_117 fpX6_53 (Or.inr ⟨rfl, _, rfl⟩) (fun _ => rfl) (fun _ => rfl) dX6_init_119 (fun σ13 m13 l13 hB13 => ?_)
  refine V_aload_n dX6_init_122 rfl rfl ?_
  refine V_bipush (v := nI 14) dX6_init_123 (by decide) ?_
  refine V_napI (M := 14) hB13 (by decide) (by decide) (by decide) ⟨Nat.le_of_ble_eq_true rfl, Nat.le_of_ble_eq_true rfl⟩ dX6_init_125 fpX6_56 (Or.inr ⟨rfl, _, rfl⟩) (fun _ => rfl) (fun _ => rfl) dX6_init_127 (fun σ14 m14 l14 hB14 => ?_)
  refine V_aload_n dX6_init_130 rfl rfl ?_
  refine V_iconst (v := nI 4) dX6_init_131 (by decide) ?_
  refine V_napI (M := 4) hB14 (by decide) (by decide) (by decide) ⟨Nat.le_of_ble_eq_true rfl, Nat.le_of_ble_eq_true rfl⟩ dX6_init_132 fpX6_59 (Or.inr ⟨rfl, _, rfl⟩) (fun _ => rfl) (fun _ => rfl) dX6_init_134 (fun σ15 m15 l15 hB15 => ?_)
  refine V_aload_n dX6_init_137 rfl rfl ?_
  refine V_iconst (v := nI 4) dX6_init_138 (by decide) ?_
  refine V_napI (M := 4) hB15 (by decide) (by decide) (by decide) ⟨Nat.le_of_ble_eq_true rfl, Nat.le_of_ble_eq_true rfl⟩ dX6_init_139 fpX6_62 (Or.inr ⟨rfl, _, rfl⟩) (fun _ => rfl) (fun _ => rfl) dX6_init_141 (fun σ16 m16 l16 hB16 => ?_)
  refine V_aload_n dX6_init_144 rfl rfl ?_
  refine V_iconst (v := nI 4) dX6_init_145 (by decide) ?_
  refine V_napI (M := 4) hB16 (by decide) (by decide) (by decide) ⟨Nat.le_of_ble_eq_true rfl, Nat.le_of_ble_eq_true rfl⟩ dX6_init_146 fpX6_65 (Or.inr ⟨rfl, _, rfl⟩) (fun _ => rfl) (fun _ => rfl) dX6_init_148 (fun σ17 m17 l17 hB17 => ?_)
  refine V_aload_n dX6_init_151 rfl rfl ?_
  refine V_bipush (v := nI 14) dX6_init_152 (by decide) ?_
  refine V_iconst (v := nI 4) dX6_init_154 (by decide) ?_
  refine V_napM (A := 14) (K := 4) hB17 clX6_20 (by decide) (by decide) (by decide) (by decide) (by decide) (by decide) (by decide) ⟨Nat.le_of_ble_eq_true rfl, Nat.le_of_ble_eq_true rfl⟩ dX6_init_155 fpX6_68 (Or.inr ⟨rfl, _, rfl⟩) (fun _ => rfl) (fun _ => rfl) dX6_init_159 (fun σ18 m18 l18 hB18 => ?_)
  refine V_aload_n dX6_init_162 rfl rfl ?_
  refine V_bipush (v := nI 14) dX6_init_163 (by decide) ?_
  refine V_iconst (v := nI 4) dX6_init_165 (by decide) ?_
  refine V_napM (A := 14) (K := 4) hB18 clX6_20 (by decide) (by decide) (by decide) (by decide) (by decide) (by decide) (by decide) ⟨Nat.le_of_ble_eq_true rfl, Nat.le_of_ble_eq_true rfl⟩ dX6_init_166 fpX6_71 (Or.inr ⟨rfl, _, rfl⟩) (fun _ => rfl) (fun _ => rfl) dX6_init_170 (fun σ19 m19 l19 hB19 => ?_)
  refine V_aload_n dX6_init_173 rfl rfl ?_
  refine V_iconst (v := nI 4) dX6_init_174 (by decide) ?_
  refine V_napI (M := 4) hB19 (by decide) (by decide) (by decide) ⟨Nat.le_of_ble_eq_true rfl, Nat.le_of_ble_eq_true rfl⟩ dX6_init_175 fpX6_74 (Or.inr ⟨rfl, _, rfl⟩) (fun _ => rfl) (fun _ => rfl) dX6_init_177 (fun σ20 m20 l20 hB20 => ?_)
  refine V_aload_n dX6_init_180 rfl rfl ?_
  refine V_bipush (v := nI 14) dX6_init_181 (by decide) ?_
  refine V_bipush (v := nI 6) dX6_init_183 (by decide) ?_
  refine V_napM (A := 14) (K := 6) hB20 clX6_20 (by decide) (by decide) (by decide) (by decide) (by decide) (by decide) (by decide) ⟨Nat.le_of_ble_eq_true rfl, Nat.le_of_ble_eq_true rfl⟩ dX6_init_185 fpX6_77 (Or.inr ⟨rfl, _, rfl⟩) (fun _ => rfl) (fun _ => rfl) dX6_init_189 (fun σ21 m21 l21 hB21 => ?_)
  refine V_aload_n dX6_init_192 rfl rfl ?_
  refine V_bipush (v := nI 31) dX6_init_193 (by decide) ?_
  refine V_napI (M := 31) hB21 (by decide) (by decide) (by decide) ⟨Nat.le_of_ble_eq_true rfl, Nat.le_of_ble_eq_true rfl⟩ dX6_init_195 fpX6_80 (Or.inr ⟨rfl, _, rfl⟩) (fun _ => rfl) (fun _ => rfl) dX6_init_197 (fun σ22 m22 l22 hB22 => ?_)
  exact V_vretP rfl ⟨rfl, _, _, _, rfl, ⟨⟨blk_sl hB22.1 (fun k => match k with | 0 => rfl | 1 => rfl | 2 => rfl | 3 => rfl | 4 => rfl | 5 => rfl | 6 => rfl | 7 => rfl | 8 => rfl | 9 => rfl | 10 => rfl | 11 => rfl | 12 => rfl | 13 => rfl | 14 => rfl | 15 => rfl | 16 => rfl | 17 => rfl | 18 => rfl | 19 => rfl | 20 => rfl | 21 => rfl | 22 => rfl | 23 => rfl | 24 => rfl | 25 => rfl | 26 => rfl | 27 => rfl | 28 => rfl | 29 => rfl | 30 => rfl | 31 => rfl | 32 => rfl | 33 => rfl | 34 => rfl | 35 => rfl | _ + 36 => rfl), (hB22.2.2.1 _ (.tail _ (.tail _ (List.mem_append_right _ (.tail _ (.tail _ (List.mem_append_right _ (.tail _ (List.mem_append_right _ (.tail _ (.tail _ (.tail _ (.tail _ (.tail _ (.tail _ (.tail _ (.tail _ (.tail _ (.tail _ (.tail _ (.tail _ (List.mem_append_right _ (.tail _ (List.mem_append_right _ (.tail _ (List.mem_append_right _ (.tail _ (.head _)))))))))))))))))))))))))))).1, (hB22.2.2.1 _ (.tail _ (.tail _ (List.mem_append_right _ (.tail _ (.tail _ (List.mem_append_right _ (.tail _ (List.mem_append_right _ (.tail _ (.tail _ (.tail _ (.tail _ (.tail _ (.tail _ (.tail _ (.tail _ (.tail _ (.tail _ (.tail _ (.tail _ (List.mem_append_right _ (.tail _ (List.mem_append_right _ (.tail _ (List.mem_append_right _ (.head _))))))))))))))))))))))))))).1, (hB22.2.2.1 _ (.tail _ (.tail _ (List.mem_append_right _ (.tail _ (.tail _ (List.mem_append_right _ (.tail _ (List.mem_append_right _ (.tail _ (.tail _ (.tail _ (.tail _ (.tail _ (.tail _ (.tail _ (.tail _ (.tail _ (.tail _ (.head _)))))))))))))))))))).1, (hB22.2.2.1 _ (.tail _ (.tail _ (List.mem_append_right _ (.tail _ (.tail _ (List.mem_append_right _ (.tail _ (List.mem_append_right _ (.tail _ (.tail _ (.tail _ (.tail _ (.tail _ (.tail _ (.tail _ (.tail _ (.head _)))))))))))))))))).1, (hB22.2.2.1 _ (.tail _ (.tail _ (List.mem_append_right _ (.tail _ (.tail _ (List.mem_append_right _ (.tail _ (List.mem_append_right _ (.tail _ (.tail _ (.tail _ (.tail _ (.tail _ (.tail _ (.tail _ (.head _))))))))))))))))).1, (hB22.2.2.1 _ (.tail _ (.tail _ (List.mem_append_right _ (.tail _ (.tail _ (List.mem_append_right _ (.tail _ (List.mem_append_right _ (.tail _ (.tail _ (.tail _ (.tail _ (.tail _ (.tail _ (.head _)))))))))))))))).1, (hB22.2.2.1 _ (.tail _ (.tail _ (List.mem_append_right _ (.tail _ (.tail _ (List.mem_append_right _ (.tail _ (List.mem_append_right _ (.tail _ (.tail _ (.tail _ (.tail _ (.tail _ (.head _))))))))))))))).1, (hB22.2.2.1 _ (.tail _ (.tail _ (List.mem_append_right _ (.tail _ (.tail _ (List.mem_append_right _ (.tail _ (List.mem_append_right _ (.tail _ (.tail _ (.tail _ (.tail _ (.head _)))))))))))))).1, (hB22.2.2.1 _ (.tail _ (.tail _ (List.mem_append_right _ (.tail _ (.tail _ (List.mem_append_right _ (.tail _ (List.mem_append_right _ (.tail _ (.tail _ (.tail _ (.head _))))))))))))).1, (hB22.2.2.1 _ (.tail _ (.tail _ (List.mem_append_right _ (.tail _ (.tail _ (List.mem_append_right _ (.tail _ (List.mem_append_right _ (.tail _ (.tail _ (.head _)))))))))))).1, (hB22.2.2.1 _ (.tail _ (.tail _ (List.mem_append_right _ (.tail _ (.tail _ (List.mem_append_right _ (.tail _ (List.mem_append_right _ (.tail _ (.head _))))))))))).1, (hB22.2.2.1 _ (.tail _ (.tail _ (List.mem_append_right _ (.tail _ (.tail _ (List.mem_append_right _ (.tail _ (List.mem_append_right _ (.head _)))))))))).1, (hB22.2.2.1 _ (.tail _ (.tail _ (List.mem_append_right _ (.head _))))).1, (hB22.2.2.1 _ (.head _)).1, (hB22.2.2.1 _ (.tail _ (.tail _ (List.mem_append_right _ (.tail _ (.tail _ (List.mem_append_right _ (.tail _ (List.mem_append_right _ (.tail _ (.tail _ (.tail _ (.tail _ (.tail _ (.tail _ (.tail _ (.tail _ (.tail _ (.head _))))))))))))))))))).1, ⟨_, (hB22.2.2.1 _ (.tail _ (.tail _ (List.mem_append_right _ (.tail _ (.tail _ (List.mem_append_right _ (.tail _ (List.mem_append_right _ (.tail _ (.tail _ (.tail _ (.tail _ (.tail _ (.tail _ (.tail _ (.tail _ (.tail _ (.tail _ (.tail _ (.tail _ (List.mem_append_right _ (.tail _ (List.mem_append_right _ (.head _))))))))))))))))))))))))).1, fun j hj => ⟨if_pos hj, (hB22.2.2.1 _ (.tail _ (.tail _ (List.mem_append_right _ (.tail _ (.tail _ (List.mem_append_right _ (.tail _ (List.mem_append_right _ (.tail _ (.tail _ (.tail _ (.tail _ (.tail _ (.tail _ (.tail _ (.tail _ (.tail _ (.tail _ (.tail _ (.tail _ (List.mem_append_right _ (.tail _ (List.mem_append_right _ (.tail _ (List.mem_append_left _ (List.mem_map.mpr ⟨j, List.mem_range.mpr hj, rfl⟩))))))))))))))))))))))))))).1⟩⟩, ⟨_, (hB22.2.2.1 _ (.tail _ (.tail _ (List.mem_append_right _ (.tail _ (.tail _ (List.mem_append_right _ (.tail _ (List.mem_append_right _ (.tail _ (.tail _ (.tail _ (.tail _ (.tail _ (.tail _ (.tail _ (.tail _ (.tail _ (.tail _ (.tail _ (.tail _ (List.mem_append_right _ (.head _))))))))))))))))))))))).1, fun j hj => ⟨if_pos hj, (hB22.2.2.1 _ (.tail _ (.tail _ (List.mem_append_right _ (.tail _ (.tail _ (List.mem_append_right _ (.tail _ (List.mem_append_right _ (.tail _ (.tail _ (.tail _ (.tail _ (.tail _ (.tail _ (.tail _ (.tail _ (.tail _ (.tail _ (.tail _ (.tail _ (List.mem_append_right _ (.tail _ (List.mem_append_left _ (List.mem_map.mpr ⟨j, List.mem_range.mpr hj, rfl⟩))))))))))))))))))))))))).1⟩⟩, ⟨_, (hB22.2.2.1 _ (.tail _ (.tail _ (List.mem_append_right _ (.tail _ (.tail _ (List.mem_append_right _ (.tail _ (List.mem_append_right _ (.tail _ (.tail _ (.tail _ (.tail _ (.tail _ (.tail _ (.tail _ (.tail _ (.tail _ (.tail _ (.tail _ (.head _))))))))))))))))))))).1, fun j hj => ⟨if_pos hj, (hB22.2.2.1 _ (.tail _ (.tail _ (List.mem_append_right _ (.tail _ (.tail _ (List.mem_append_right _ (.tail _ (List.mem_append_right _ (.tail _ (.tail _ (.tail _ (.tail _ (.tail _ (.tail _ (.tail _ (.tail _ (.tail _ (.tail _ (.tail _ (.tail _ (List.mem_append_left _ (List.mem_map.mpr ⟨j, List.mem_range.mpr hj, rfl⟩))))))))))))))))))))))).1⟩⟩, ⟨_, (hB22.2.2.1 _ (.tail _ (.tail _ (List.mem_append_right _ (.tail _ (.tail _ (List.mem_append_right _ (.head _)))))))).1, fun j hj => ⟨if_pos hj, (hB22.2.2.1 _ (.tail _ (.tail _ (List.mem_append_right _ (.tail _ (.tail _ (List.mem_append_right _ (.tail _ (List.mem_append_left _ (List.mem_map.mpr ⟨j, List.mem_range.mpr hj, rfl⟩)))))))))).1⟩⟩, ⟨_, (hB22.2.2.1 _ (.tail _ (.tail _ (List.mem_append_right _ (.tail _ (.head _)))))).1, fun j hj => ⟨if_pos hj, (hB22.2.2.1 _ (.tail _ (.tail _ (List.mem_append_right _ (.tail _ (.tail _ (List.mem_append_left _ (List.mem_map.mpr ⟨j, List.mem_range.mpr hj, rfl⟩)))))))).1⟩⟩, ⟨_, (hB22.2.2.1 _ (.tail _ (.head _))).1, fun j hj => ⟨if_pos hj, (hB22.2.2.1 _ (.tail _ (.tail _ (List.mem_append_left _ (List.mem_map.mpr ⟨j, List.mem_range.mpr hj, rfl⟩))))).1⟩⟩⟩, ⟨congrFun hB22.2.1 1, fun b hb => ⟨congrFun (hB22.2.2.1 _ (.tail _ (.tail _ (List.mem_append_right _ (.tail _ (.tail _ (List.mem_append_right _ (.tail _ (List.mem_append_right _ (.tail _ (.tail _ (.tail _ (.tail _ (.tail _ (.tail _ (.tail _ (.tail _ (.tail _ (.tail _ (.tail _ (.tail _ (List.mem_append_right _ (.tail _ (List.mem_append_right _ (.tail _ (List.mem_append_right _ (.tail _ (.head _)))))))))))))))))))))))))))).2.1 b, congrFun (hB22.2.2.1 _ (.tail _ (.tail _ (List.mem_append_right _ (.tail _ (.tail _ (List.mem_append_right _ (.tail _ (List.mem_append_right _ (.tail _ (.tail _ (.tail _ (.tail _ (.tail _ (.tail _ (.tail _ (.tail _ (.tail _ (.tail _ (.tail _ (.tail _ (List.mem_append_right _ (.tail _ (List.mem_append_right _ (.tail _ (List.mem_append_right _ (.head _))))))))))))))))))))))))))).2.1 b, fun k hk => absurd hk (Nat.not_lt_zero k), fun k hk => absurd hk (Nat.not_lt_zero k)⟩⟩, ⟨congrFun hB22.2.1 8, fun i hi => absurd hi (Nat.not_lt_zero i)⟩, ⟨congrFun hB22.2.1 9, (fun g hg => by cases hg)⟩, ⟨congrFun hB22.2.1 11, fun i hi => absurd hi (Nat.not_lt_zero i)⟩, congrFun hB22.2.1 13, congrFun hB22.2.1 34, fun i hi1 hi2 => absurd (Nat.le_trans hi1 hi2) (Nat.not_lt_zero 0)⟩, fun a ha => hB22.2.2.2.2.1 a (by omega) (by omega), fun a ha => hB22.2.2.2.1 a (by omega)⟩ ⟨Nat.le_of_ble_eq_true rfl, Nat.le_of_ble_eq_true rfl⟩ dX6_init_200

end Ctor4
