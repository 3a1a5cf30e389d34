/-! constructors of the parts -/
def G1 : Gr := (1, fun _ => [], fun _ => [])
def upS (sl : Nat → Option Value) (k : Nat) (v : Value) : Nat → Option Value := fun j => if j = k then some v else sl j
/-- an object under construction: its slots, its numbers, the arrays made so far; below b0 all is as it was -/
def Blk (σ1 : Nat → Option Kd) (mi1 : Nat → Nat → Int32) (ml1 : Nat → Nat → Int64) (b0 o : Nat) (σ : Nat → Option Kd) (mi : Nat → Nat → Int32) (ml : Nat → Nat → Int64) (n ci N : Nat) (sl : Nat → Option Value) (io : Nat → Int32) (l : List (Nat × Kd)) : Prop :=
  σ o = some (.inr (ci, N, sl)) ∧ mi o = io ∧ (∀ q ∈ l, σ q.1 = some q.2 ∧ mi q.1 = (fun _ => 0) ∧ ml q.1 = (fun _ => 0) ∧ b0 ≤ q.1 ∧ q.1 < n) ∧ (∀ a, n ≤ a → σ a = none) ∧ (∀ a, a < b0 → a ≠ o → σ a = σ1 a ∧ mi a = mi1 a ∧ ml a = ml1 a) ∧ o < b0 ∧ b0 ≤ n
section Ctor1
variable {κ : K0} {φ : Fr} {cells slots pc : Nat} {L : List (Option Value)} {st rest : List Value}
variable {σ1 σ : Nat → Option Kd} {mi1 mi : Nat → Nat → Int32} {ml1 ml : Nat → Nat → Int64} {b0 o n ci N : Nat} {sl : Nat → Option Value} {io : Nat → Int32} {l : List (Nat × Kd)}
theorem blk_sl {o ci N : Nat} {σ : Nat → Option Kd} {sl sl' : Nat → Option Value} (h : σ o = some (.inr (ci, N, sl))) (e : ∀ k, sl k = sl' k) : σ o = some (.inr (ci, N, sl')) := by rw [h, show sl = sl' from funext e]
theorem slV_up {sl : Nat → Option Value} {k : Nat} {v : Value} {fi : Nat → Int32} : slV (upS sl k v) fi k = v := by unfold slV upS; rw [if_pos rfl]; rfl
theorem slV_upn {sl : Nat → Option Value} {k j : Nat} {v : Value} {fi : Nat → Int32} (h : j ≠ k) : slV (upS sl k v) fi j = slV sl fi j := by unfold slV upS; rw [if_neg h]
theorem Blk.put (h : Blk σ1 mi1 ml1 b0 o σ mi ml n ci N sl io l) {k : Nat} {x : Int32} : Blk σ1 mi1 ml1 b0 o σ (u2 mi o k x) ml n ci N sl (fun j => if j = k then x else io j) l := by
  obtain ⟨h1, h2, h3, h4, h5, h6, h7⟩ := h
  have hne : ∀ a, a ≠ o → u2 mi o k x a = mi a := fun a ha => by funext j; exact u2_n _ _ (Or.inl ha)
  refine ⟨h1, ?_, fun q hq => ?_, h4, fun a ha hao => ?_, h6, h7⟩
  · funext j
    unfold u2
    by_cases e : j = k
    · rw [if_pos ⟨rfl, e⟩, if_pos e]
    · rw [if_neg (fun q => e q.2), if_neg e, h2]
  · obtain ⟨a1, a2, a3, a4, a5⟩ := h3 q hq
    exact ⟨a1, (hne _ (by omega)).trans a2, a3, a4, a5⟩
  · obtain ⟨a1, a2, a3⟩ := h5 a ha hao
    exact ⟨a1, (hne a hao).trans a2, a3⟩
/-- a new array goes into a field -/
theorem Blk.add (h : Blk σ1 mi1 ml1 b0 o σ mi ml n ci N sl io l) {kd : Kd} {k : Nat} : Blk σ1 mi1 ml1 b0 o (va_up (va_up σ n (some kd)) o (some (.inr (ci, N, upS sl k (.ref n))))) (va_up (va_up mi n (fun _ => 0)) o (va_up mi n (fun _ => 0) o)) (va_up ml n (fun _ => 0)) (n + 1) ci N (upS sl k (.ref n)) io ((n, kd) :: l) := by
  obtain ⟨h1, h2, h3, h4, h5, h6, h7⟩ := h
  have hon : o ≠ n := by omega
  have e1 : ∀ a, a ≠ o → va_up (va_up mi n (fun _ => 0)) o (va_up mi n (fun _ => 0) o) a = va_up mi n (fun _ => 0) a := fun a ha => va_up_ne _ _ ha
  refine ⟨va_up_self _ _ _, ?_, fun q hq => ?_, fun a ha => ?_, fun a ha hao => ?_, h6, by omega⟩
  · rw [va_up_self, va_up_ne _ _ hon]; exact h2
  · rcases List.mem_cons.mp hq with rfl | hq
    · exact ⟨by rw [va_up_ne _ _ (fun e => hon e.symm), va_up_self], by rw [e1 _ (fun e => hon e.symm), va_up_self], va_up_self _ _ _, h7, Nat.lt_succ_self _⟩
    · obtain ⟨a1, a2, a3, a4, a5⟩ := h3 q hq
      exact ⟨by rw [va_up_ne _ _ (by omega), va_up_ne _ _ (by omega)]; exact a1, by rw [e1 _ (by omega), va_up_ne _ _ (by omega)]; exact a2, by rw [va_up_ne _ _ (by omega)]; exact a3, a4, by omega⟩
  · rw [va_up_ne _ _ (by omega), va_up_ne _ _ (by omega)]; exact h4 a (by omega)
  · obtain ⟨a1, a2, a3⟩ := h5 a ha hao
    exact ⟨by rw [va_up_ne _ _ hao, va_up_ne _ _ (by omega)]; exact a1, by rw [e1 a hao, va_up_ne _ _ (by omega)]; exact a2, by rw [va_up_ne _ _ (by omega)]; exact a3⟩
theorem V_napI {M idx k : Nat} {x : Int32} {ty : FieldType} {fin : Bool} (hB : Blk σ1 mi1 ml1 b0 o σ mi ml n ci N sl io l) (hn : ¬ x < 0) (hN : x.toNatClampNeg = M) (hb : M * 4 ≤ 536870912) (hc : cells + 1 ≤ φ.2.1.cells ∧ slots + M ≤ φ.2.1.slots) (d : decode φ.1.2.1 pc = .ok (.newarray .int, 2)) (fr : FRowP φ.1.1.cls idx ci N k ty fin) (hi : fin = false ∨ φ.1.1.name = "<init>" ∧ ∃ T, cls7[ci]? = some (φ.1.1.cls, T, N)) (hna : ∀ q, narrow ty (.ref q) = .ref q) (hfi : ∀ q, fits ty (.ref q) = true) (d2 : decode φ.1.2.1 (pc + 2) = .ok (.putfield idx, 3))
    (kk : ∀ σ' mi' ml', Blk σ1 mi1 ml1 b0 o σ' mi' ml' (n + 1) ci N (upS sl k (.ref n)) io ((n, .inl (.int, M, fun _ => none)) :: l) → V κ φ (cells + 1) (slots + M) (pc + 2 + 3) L st (σ', mi', ml', some (n + 1))) : V κ φ cells slots pc L (.int x :: .ref o :: st) (σ, mi, ml, some n) := by
  refine V_newI ac_int hn hN hb hc d (fun q hq hz => ?_)
  have e : q = n := hz n rfl
  subst e
  have hon : o ≠ q := by have := hB.2.2.2.2.2; omega
  refine V_put (sl' := upS sl k (.ref q)) (fi' := va_up mi q (fun _ => 0) o) fr hi (hna q) (hfi q) (show va_up σ q _ o = some (.inr (ci, N, sl)) by rw [va_up_ne _ _ hon]; exact hB.1) slV_up (fun j hj => slV_upn hj) d2 ?_
  exact kk _ _ _ hB.add
theorem V_napC {M idx k : Nat} {x : Int32} {ty : FieldType} {fin : Bool} (hB : Blk σ1 mi1 ml1 b0 o σ mi ml n ci N sl io l) (hn : ¬ x < 0) (hN : x.toNatClampNeg = M) (hb : M * 2 ≤ 536870912) (hc : cells + 1 ≤ φ.2.1.cells ∧ slots + M ≤ φ.2.1.slots) (d : decode φ.1.2.1 pc = .ok (.newarray .char, 2)) (fr : FRowP φ.1.1.cls idx ci N k ty fin) (hi : fin = false ∨ φ.1.1.name = "<init>" ∧ ∃ T, cls7[ci]? = some (φ.1.1.cls, T, N)) (hna : ∀ q, narrow ty (.ref q) = .ref q) (hfi : ∀ q, fits ty (.ref q) = true) (d2 : decode φ.1.2.1 (pc + 2) = .ok (.putfield idx, 3))
    (kk : ∀ σ' mi' ml', Blk σ1 mi1 ml1 b0 o σ' mi' ml' (n + 1) ci N (upS sl k (.ref n)) io ((n, .inl (.char, M, fun _ => none)) :: l) → V κ φ (cells + 1) (slots + M) (pc + 2 + 3) L st (σ', mi', ml', some (n + 1))) : V κ φ cells slots pc L (.int x :: .ref o :: st) (σ, mi, ml, some n) := by
  refine V_newC ac_char hn hN hb hc d (fun q hq hz => ?_)
  have e : q = n := hz n rfl
  subst e
  have hon : o ≠ q := by have := hB.2.2.2.2.2; omega
  refine V_put (sl' := upS sl k (.ref q)) (fi' := va_up mi q (fun _ => 0) o) fr hi (hna q) (hfi q) (show va_up σ q _ o = some (.inr (ci, N, sl)) by rw [va_up_ne _ _ hon]; exact hB.1) slV_up (fun j hj => slV_upn hj) d2 ?_
  exact kk _ _ _ hB.add
theorem V_napL {M idx k : Nat} {x : Int32} {ty : FieldType} {fin : Bool} (hB : Blk σ1 mi1 ml1 b0 o σ mi ml n ci N sl io l) (hn : ¬ x < 0) (hN : x.toNatClampNeg = M) (hb : M * 8 ≤ 536870912) (hc : cells + 1 ≤ φ.2.1.cells ∧ slots + M ≤ φ.2.1.slots) (d : decode φ.1.2.1 pc = .ok (.newarray .long, 2)) (fr : FRowP φ.1.1.cls idx ci N k ty fin) (hi : fin = false ∨ φ.1.1.name = "<init>" ∧ ∃ T, cls7[ci]? = some (φ.1.1.cls, T, N)) (hna : ∀ q, narrow ty (.ref q) = .ref q) (hfi : ∀ q, fits ty (.ref q) = true) (d2 : decode φ.1.2.1 (pc + 2) = .ok (.putfield idx, 3))
    (kk : ∀ σ' mi' ml', Blk σ1 mi1 ml1 b0 o σ' mi' ml' (n + 1) ci N (upS sl k (.ref n)) io ((n, .inl (.long, M, fun _ => none)) :: l) → V κ φ (cells + 1) (slots + M) (pc + 2 + 3) L st (σ', mi', ml', some (n + 1))) : V κ φ cells slots pc L (.int x :: .ref o :: st) (σ, mi, ml, some n) := by
  refine V_newL ac_long hn hN hb hc d (fun q hq hz => ?_)
  have e : q = n := hz n rfl
  subst e
  have hon : o ≠ q := by have := hB.2.2.2.2.2; omega
  refine V_put (sl' := upS sl k (.ref q)) (fi' := va_up mi q (fun _ => 0) o) fr hi (hna q) (hfi q) (show va_up σ q _ o = some (.inr (ci, N, sl)) by rw [va_up_ne _ _ hon]; exact hB.1) slV_up (fun j hj => slV_upn hj) d2 ?_
  exact kk _ _ _ hB.add
/-- a new array of arrays goes into a field -/
theorem V_napM {A K idx idx2 k : Nat} {x y : Int32} {ty : FieldType} {fin : Bool} (hB : Blk σ1 mi1 ml1 b0 o σ mi ml n ci N sl io l) (hl : Cond.classLink φ.1.1.cls idx "[[I" ∈ TW) (hn : ¬ x < 0) (hk : ¬ y < 0) (hN : x.toNatClampNeg = A) (hK : y.toNatClampNeg = K) (hb1 : A * 4 ≤ 536870912) (hb2 : K * 4 ≤ 536870912) (hb3 : K ≤ 536870912) (hc : cells + (1 + A) ≤ φ.2.1.cells ∧ slots + (A + A * K) ≤ φ.2.1.slots) (d : decode φ.1.2.1 pc = .ok (.multianewarray idx 2, 4)) (fr : FRowP φ.1.1.cls idx2 ci N k ty fin) (hi : fin = false ∨ φ.1.1.name = "<init>" ∧ ∃ T, cls7[ci]? = some (φ.1.1.cls, T, N)) (hna : ∀ q, narrow ty (.ref q) = .ref q) (hfi : ∀ q, fits ty (.ref q) = true) (d2 : decode φ.1.2.1 (pc + 4) = .ok (.putfield idx2, 3))
    (kk : ∀ σ' mi' ml', Blk σ1 mi1 ml1 b0 o σ' mi' ml' (n + (1 + A)) ci N (upS sl k (.ref n)) io ((n, .inl (.array .int, A, fun i => if i < A then some (n + 1 + i) else none)) :: ((List.range A).map (fun j => (n + 1 + j, .inl (.int, K, fun _ => none))) ++ l)) → V κ φ (cells + 1 + A) (slots + A + A * K) (pc + 4 + 3) L st (σ', mi', ml', some (n + (1 + A)))) : V κ φ cells slots pc L (.int y :: .int x :: .ref o :: st) (σ, mi, ml, some n) := by
  refine V_mna hl ac_int hn hk hN hK hb1 hb2 hb3 hc d (fun q μ' hz hno g1 g2 g3 g4 => ?_)
  have e : q = n := hz n rfl
  subst e
  obtain ⟨σ', mi', ml', sz⟩ := μ'
  have g4' : sz = some (q + (1 + A)) := g4
  subst g4'
  obtain ⟨h1, h2, h3, h4, h5, h6, h7⟩ := hB
  have hon : o < q := by omega
  have g1' : ∀ a, σ' a = if q ≤ a ∧ a < q + (1 + A) then some (.inl (if a - q = 0 then (.array .int, A, fun i => if i < A then some (q + 1 + i) else none) else (.int, K, fun _ => none))) else σ a := g1
  have g2' : ∀ a, mi' a = if q ≤ a ∧ a < q + (1 + A) then (fun _ => 0) else mi a := g2
  have g3' : ∀ a, ml' a = if q ≤ a ∧ a < q + (1 + A) then (fun _ => 0) else ml a := g3
  refine V_put (sl' := upS sl k (.ref q)) (fi' := mi' o) fr hi (hna q) (hfi q) (show σ' o = some (.inr (ci, N, sl)) by rw [g1', if_neg (by omega)]; exact h1) slV_up (fun j hj => slV_upn hj) d2 ?_
  have hmi : va_up mi' o (mi' o) = mi' := va_up_id _ _
  refine kk _ _ _ ⟨va_up_self _ _ _, ?_, fun p hp => ?_, fun a ha => ?_, fun a ha hao => ?_, h6, by omega⟩
  · rw [va_up_self, g2', if_neg (by omega)]; exact h2
  · show va_up σ' o _ p.1 = some p.2 ∧ va_up mi' o (mi' o) p.1 = _ ∧ ml' p.1 = _ ∧ _
    rw [hmi]
    rcases List.mem_cons.mp hp with rfl | hp
    · refine ⟨?_, ?_, ?_, h7, by show q < q + (1 + A); omega⟩
      · rw [va_up_ne _ _ (by show q ≠ o; omega), g1', if_pos (by show q ≤ q ∧ q < _; omega), show q - q = 0 by omega, if_pos rfl]
      · rw [g2', if_pos (by show q ≤ q ∧ q < _; omega)]
      · rw [g3', if_pos (by show q ≤ q ∧ q < _; omega)]
    · rcases List.mem_append.mp hp with hp | hp
      · obtain ⟨j, hj, rfl⟩ := List.mem_map.mp hp
        have hj' := List.mem_range.mp hj
        refine ⟨?_, ?_, ?_, by show b0 ≤ q + 1 + j; omega, by show q + 1 + j < q + (1 + A); omega⟩
        · rw [va_up_ne _ _ (by show q + 1 + j ≠ o; omega), g1', if_pos (by show q ≤ q + 1 + j ∧ q + 1 + j < _; omega), if_neg (by show ¬ q + 1 + j - q = 0; omega)]
        · rw [g2', if_pos (by show q ≤ q + 1 + j ∧ q + 1 + j < _; omega)]
        · rw [g3', if_pos (by show q ≤ q + 1 + j ∧ q + 1 + j < _; omega)]
      · obtain ⟨a1, a2, a3, a4, a5⟩ := h3 p hp
        exact ⟨by rw [va_up_ne _ _ (by omega), g1', if_neg (by omega)]; exact a1, by rw [g2', if_neg (by omega)]; exact a2, by rw [g3', if_neg (by omega)]; exact a3, a4, by omega⟩
  · show va_up σ' o _ a = none
    rw [va_up_ne _ _ (by omega), g1', if_neg (by omega)]; exact h4 a (by omega)
  · show va_up σ' o _ a = σ1 a ∧ va_up mi' o (mi' o) a = mi1 a ∧ ml' a = ml1 a
    rw [hmi]
    obtain ⟨a1, a2, a3⟩ := h5 a ha hao
    exact ⟨by rw [va_up_ne _ _ hao, g1', if_neg (by omega)]; exact a1, by rw [g2', if_neg (by omega)]; exact a2, by rw [g3', if_neg (by omega)]; exact a3⟩
end Ctor1
section Ctor2
variable {κ : K0} {σ : Nat → Option Kd} {mi : Nat → Nat → Int32} {ml : Nat → Nat → Int64}
def slD1 : Nat → Option Value := fun k => if k = 1 ∨ k = 2 ∨ k = 3 ∨ k = 4 then some .null else none
def GraphP (σ : Nat → Option Kd) (m : Nat → Nat → Int32) (g : Nat) : Prop := GraphL σ g ∧ GA m g G1
theorem ctX1_init {o : Nat} (h0 : σ o = some (.inr (1, 5, slD1))) (h1 : mi o = fun _ => 0) (h2 : ∀ a, o + 1 ≤ a → σ a = none) : CtP κ 4 154 2 mrX1_init [.ref o] (σ, mi, ml, some (o + 1)) (fun oc μ' => oc = .inl none ∧ ∃ σ' m' l', μ' = (σ', m', l', some (o + 5)) ∧ GraphP σ' m' o ∧ (∀ a, a < o → σ' a = σ a ∧ m' a = mi a ∧ l' a = ml a) ∧ ∀ a, o + 5 ≤ a → σ' a = none) := by
  refine CtP.of rfl (by simp [Value.category]) (Nat.le_of_ble_eq_true rfl) ?_
  have hB : Blk σ mi ml (o + 1) o σ mi ml (o + 1) 1 5 slD1 (fun _ => 0) [] := ⟨h0, h1, (fun q hq => by cases hq), h2, fun a _ _ => ⟨rfl, rfl, rfl⟩, by omega, Nat.le_refl _⟩
  refine V_aload_n dX1_init_0 rfl rfl ?_
  refine V_objInit lkX1_3 oiI oiC (Nat.le_of_ble_eq_true rfl) ⟨Nat.le_of_ble_eq_true rfl, Nat.le_of_ble_eq_true rfl⟩ dX1_init_1 ?_
  refine V_aload_n dX1_init_4 rfl rfl ?_
  refine V_iconst (v := nI 1) dX1_init_5 (by decide) ?_
  refine V_putI fpX1_9 rfl rfl h0 rfl dX1_init_6 ?_
  have hB0 := hB.put (k := 0) (x := nI 1)
  refine V_aload_n dX1_init_9 rfl rfl ?_
  refine V_bipush (v := nI 14) dX1_init_10 (by decide) ?_
  refine V_napI (M := 14) hB0 (by decide) (by decide) (by decide) ⟨Nat.le_of_ble_eq_true rfl, Nat.le_of_ble_eq_true rfl⟩ dX1_init_12 fpX1_15 (Or.inr ⟨rfl, _, rfl⟩) (fun _ => rfl) (fun _ => rfl) dX1_init_14 (fun σ1 m1 l1 hB1 => ?_)
  refine V_aload_n dX1_init_17 rfl rfl ?_
  refine V_bipush (v := nI 14) dX1_init_18 (by decide) ?_
  refine V_napI (M := 14) hB1 (by decide) (by decide) (by decide) ⟨Nat.le_of_ble_eq_true rfl, Nat.le_of_ble_eq_true rfl⟩ dX1_init_20 fpX1_19 (Or.inr ⟨rfl, _, rfl⟩) (fun _ => rfl) (fun _ => rfl) dX1_init_22 (fun σ2 m2 l2 hB2 => ?_)
  refine V_aload_n dX1_init_25 rfl rfl ?_
  refine V_bipush (v := nI 84) dX1_init_26 (by decide) ?_
  refine V_napI (M := 84) hB2 (by decide) (by decide) (by decide) ⟨Nat.le_of_ble_eq_true rfl, Nat.le_of_ble_eq_true rfl⟩ dX1_init_28 fpX1_22 (Or.inr ⟨rfl, _, rfl⟩) (fun _ => rfl) (fun _ => rfl) dX1_init_30 (fun σ3 m3 l3 hB3 => ?_)
  refine V_aload_n dX1_init_33 rfl rfl ?_
  refine V_bipush (v := nI 42) dX1_init_34 (by decide) ?_
  refine V_napI (M := 42) hB3 (by decide) (by decide) (by decide) ⟨Nat.le_of_ble_eq_true rfl, Nat.le_of_ble_eq_true rfl⟩ dX1_init_36 fpX1_25 (Or.inr ⟨rfl, _, rfl⟩) (fun _ => rfl) (fun _ => rfl) dX1_init_38 (fun σ4 m4 l4 hB4 => ?_)
  exact V_vretP rfl ⟨rfl, σ4, m4, l4, rfl, ⟨⟨blk_sl hB4.1 (fun k => match k with | 0 => rfl | 1 => rfl | 2 => rfl | 3 => rfl | 4 => rfl | _ + 5 => rfl), (hB4.2.2.1 _ (.tail _ (.tail _ (.tail _ (.head _))))).1, (hB4.2.2.1 _ (.tail _ (.tail _ (.head _)))).1, (hB4.2.2.1 _ (.tail _ (.head _))).1, (hB4.2.2.1 _ (.head _)).1⟩, congrFun hB4.2.1 0, fun b hb => ⟨congrFun (hB4.2.2.1 _ (.tail _ (.tail _ (.tail _ (.head _))))).2.1 b, congrFun (hB4.2.2.1 _ (.tail _ (.tail _ (.head _)))).2.1 b, fun k hk => absurd hk (Nat.not_lt_zero k), fun k hk => absurd hk (Nat.not_lt_zero k)⟩⟩, fun a ha => hB4.2.2.2.2.1 a (by omega) (by omega), fun a ha => hB4.2.2.2.1 a (by omega)⟩ ⟨Nat.le_of_ble_eq_true rfl, Nat.le_of_ble_eq_true rfl⟩ dX1_init_41

def slD3 : Nat → Option Value := fun k => if k = 0 ∨ k = 3 ∨ k = 5 then some .null else none
def LineP (σ : Nat → Option Kd) (m : Nat → Nat → Int32) (l : Nat) : Prop := LineL σ l ∧ m l 1 = nI 0
def slD4 : Nat → Option Value := fun k => if k = 0 ∨ k = 2 ∨ k = 3 then some .null else none
def WalkP (σ : Nat → Option Kd) (m : Nat → Nat → Int32) (p : Nat) : Prop := WalkL σ p ∧ m p 1 = nI 0 ∧ m (p + 1) 0 = nI 0
theorem ctX3_init {o : Nat} (h0 : σ o = some (.inr (3, 7, slD3))) (h1 : mi o = fun _ => 0) (h2 : ∀ a, o + 1 ≤ a → σ a = none) : CtP κ 3 39 2 mrX3_init [.ref o] (σ, mi, ml, some (o + 1)) (fun oc μ' => oc = .inl none ∧ ∃ σ' m' l', μ' = (σ', m', l', some (o + 4)) ∧ LineP σ' m' o ∧ (∀ a, a < o → σ' a = σ a ∧ m' a = mi a ∧ l' a = ml a) ∧ ∀ a, o + 4 ≤ a → σ' a = none) := by
  refine CtP.of rfl (by simp [Value.category]) (Nat.le_of_ble_eq_true rfl) ?_
  have hB0 : Blk σ mi ml (o + 1) o σ mi ml (o + 1) 3 7 slD3 (fun _ => 0) [] := ⟨h0, h1, (fun q hq => by cases hq), h2, fun a _ _ => ⟨rfl, rfl, rfl⟩, by omega, Nat.le_refl _⟩
  refine V_aload_n dX3_init_0 rfl rfl ?_
  refine V_objInit lkX3_3 oiI oiC (Nat.le_of_ble_eq_true rfl) ⟨Nat.le_of_ble_eq_true rfl, Nat.le_of_ble_eq_true rfl⟩ dX3_init_1 ?_
  refine V_aload_n dX3_init_4 rfl rfl ?_
  refine V_bipush (v := nI 30) dX3_init_5 (by decide) ?_
  refine V_napC (M := 30) hB0 (by decide) (by decide) (by decide) ⟨Nat.le_of_ble_eq_true rfl, Nat.le_of_ble_eq_true rfl⟩ dX3_init_7 fpX3_9 (Or.inr ⟨rfl, _, rfl⟩) (fun _ => rfl) (fun _ => rfl) dX3_init_9 (fun σ1 m1 l1 hB1 => ?_)
  refine V_aload_n dX3_init_12 rfl rfl ?_
  refine V_iconst (v := nI 0) dX3_init_13 (by decide) ?_
  refine V_putI fpX3_15 rfl rfl hB1.1 rfl dX3_init_14 ?_
  have hB2 := hB1.put (k := 1) (x := nI 0)
  refine V_aload_n dX3_init_17 rfl rfl ?_
  refine V_iconst (v := nI 0) dX3_init_18 (by decide) ?_
  refine V_putI fpX3_19 rfl rfl hB2.1 rfl dX3_init_19 ?_
  have hB3 := hB2.put (k := 2) (x := nI 0)
  refine V_aload_n dX3_init_22 rfl rfl ?_
  refine V_bipush (v := nI 6) dX3_init_23 (by decide) ?_
  refine V_napI (M := 6) hB3 (by decide) (by decide) (by decide) ⟨Nat.le_of_ble_eq_true rfl, Nat.le_of_ble_eq_true rfl⟩ dX3_init_25 fpX3_22 (Or.inr ⟨rfl, _, rfl⟩) (fun _ => rfl) (fun _ => rfl) dX3_init_27 (fun σ4 m4 l4 hB4 => ?_)
  refine V_aload_n dX3_init_30 rfl rfl ?_
  refine V_iconst (v := nI 0) dX3_init_31 (by decide) ?_
  refine V_putI fpX3_26 rfl rfl hB4.1 rfl dX3_init_32 ?_
  have hB5 := hB4.put (k := 4) (x := nI 0)
  refine V_aload_n dX3_init_35 rfl rfl ?_
  refine V_iconst (v := nI 3) dX3_init_36 (by decide) ?_
  refine V_napI (M := 3) hB5 (by decide) (by decide) (by decide) ⟨Nat.le_of_ble_eq_true rfl, Nat.le_of_ble_eq_true rfl⟩ dX3_init_37 fpX3_29 (Or.inr ⟨rfl, _, rfl⟩) (fun _ => rfl) (fun _ => rfl) dX3_init_39 (fun σ6 m6 l6 hB6 => ?_)
  refine V_aload_n dX3_init_42 rfl rfl ?_
  refine V_iconst (v := nI 0) dX3_init_43 (by decide) ?_
  refine V_putI fpX3_32 rfl rfl hB6.1 rfl dX3_init_44 ?_
  have hB7 := hB6.put (k := 6) (x := nI 0)
  exact V_vretP rfl ⟨rfl, _, _, _, rfl, ⟨⟨blk_sl hB7.1 (fun k => match k with | 0 => rfl | 1 => rfl | 2 => rfl | 3 => rfl | 4 => rfl | 5 => rfl | 6 => rfl | _ + 7 => rfl), (hB7.2.2.1 _ (.tail _ (.tail _ (.head _)))).1, (hB7.2.2.1 _ (.tail _ (.head _))).1, (hB7.2.2.1 _ (.head _)).1⟩, congrFun hB7.2.1 1⟩, fun a ha => hB7.2.2.2.2.1 a (by omega) (by omega), fun a ha => hB7.2.2.2.1 a (by omega)⟩ ⟨Nat.le_of_ble_eq_true rfl, Nat.le_of_ble_eq_true rfl⟩ dX3_init_47

theorem ctX4_init {o : Nat} (h0 : σ o = some (.inr (4, 4, slD4))) (h1 : mi o = fun _ => 0) (h2 : ∀ a, o + 1 ≤ a → σ a = none) : CtP κ 3 59 2 mrX4_init [.ref o] (σ, mi, ml, some (o + 1)) (fun oc μ' => oc = .inl none ∧ ∃ σ' m' l', μ' = (σ', m', l', some (o + 4)) ∧ WalkP σ' m' o ∧ (∀ a, a < o → σ' a = σ a ∧ m' a = mi a ∧ l' a = ml a) ∧ ∀ a, o + 4 ≤ a → σ' a = none) := by
  refine CtP.of rfl (by simp [Value.category]) (Nat.le_of_ble_eq_true rfl) ?_
  have hB0 : Blk σ mi ml (o + 1) o σ mi ml (o + 1) 4 4 slD4 (fun _ => 0) [] := ⟨h0, h1, (fun q hq => by cases hq), h2, fun a _ _ => ⟨rfl, rfl, rfl⟩, by omega, Nat.le_refl _⟩
  refine V_aload_n dX4_init_0 rfl rfl ?_
  refine V_objInit lkX4_3 oiI oiC (Nat.le_of_ble_eq_true rfl) ⟨Nat.le_of_ble_eq_true rfl, Nat.le_of_ble_eq_true rfl⟩ dX4_init_1 ?_
  refine V_aload_n dX4_init_4 rfl rfl ?_
  refine V_bipush (v := nI 31) dX4_init_5 (by decide) ?_
  refine V_napI (M := 31) hB0 (by decide) (by decide) (by decide) ⟨Nat.le_of_ble_eq_true rfl, Nat.le_of_ble_eq_true rfl⟩ dX4_init_7 fpX4_9 (Or.inr ⟨rfl, _, rfl⟩) (fun _ => rfl) (fun _ => rfl) dX4_init_9 (fun σ1 m1 l1 hB1 => ?_)
  refine V_aload_n dX4_init_12 rfl rfl ?_
  refine V_iconst (v := nI 0) dX4_init_13 (by decide) ?_
  refine V_putI fpX4_15 rfl rfl hB1.1 rfl dX4_init_14 ?_
  have hB2 := hB1.put (k := 1) (x := nI 0)
  refine V_aload_n dX4_init_17 rfl rfl ?_
  refine V_bipush (v := nI 14) dX4_init_18 (by decide) ?_
  refine V_napL (M := 14) hB2 (by decide) (by decide) (by decide) ⟨Nat.le_of_ble_eq_true rfl, Nat.le_of_ble_eq_true rfl⟩ dX4_init_20 fpX4_19 (Or.inr ⟨rfl, _, rfl⟩) (fun _ => rfl) (fun _ => rfl) dX4_init_22 (fun σ3 m3 l3 hB3 => ?_)
  refine V_aload_n dX4_init_25 rfl rfl ?_
  refine V_bipush (v := nI 14) dX4_init_26 (by decide) ?_
  refine V_napL (M := 14) hB3 (by decide) (by decide) (by decide) ⟨Nat.le_of_ble_eq_true rfl, Nat.le_of_ble_eq_true rfl⟩ dX4_init_28 fpX4_23 (Or.inr ⟨rfl, _, rfl⟩) (fun _ => rfl) (fun _ => rfl) dX4_init_30 (fun σ4 m4 l4 hB4 => ?_)
  exact V_vretP rfl ⟨rfl, _, _, _, rfl, ⟨⟨blk_sl hB4.1 (fun k => match k with | 0 => rfl | 1 => rfl | 2 => rfl | 3 => rfl | _ + 4 => rfl), (hB4.2.2.1 _ (.tail _ (.tail _ (.head _)))).1, (hB4.2.2.1 _ (.tail _ (.head _))).1, (hB4.2.2.1 _ (.head _)).1⟩, congrFun hB4.2.1 1, congrFun (hB4.2.2.1 _ (.tail _ (.tail _ (.head _)))).2.1 0⟩, fun a ha => hB4.2.2.2.2.1 a (by omega) (by omega), fun a ha => hB4.2.2.2.1 a (by omega)⟩ ⟨Nat.le_of_ble_eq_true rfl, Nat.le_of_ble_eq_true rfl⟩ dX4_init_33

theorem V_nobj {φ : Fr} {cells slots pc n : Nat} {L : List (Option Value)} {st : List Value} {o ci N ci' N' s' idn idc idf k mc ms d' : Nat} {sl slD : Nat → Option Value} {T : u_T} {mr : MR} {Post : (Nat → Option Kd) → (Nat → Nat → Int32) → Nat → Prop} {ty : FieldType} {fin : Bool} {host : String}
    (ho : σ o = some (.inr (ci, N, sl))) (hon : o < n) (hno : ∀ a, n ≤ a → σ a = none)
    (hci : cls7[ci']? = some (mr.1.cls, T, N')) (hl1 : Cond.classLink φ.1.1.cls idn mr.1.cls ∈ TW) (hl2 : Cond.instantiable mr.1.cls N' ∈ TW) (hl3 : Cond.initialized mr.1.cls ∈ TW) (hsl : ∀ k, k < N' → (parseFieldDescriptor (T k).2.2.1).map defaultValue = some (slV slD (fun _ => 0) k))
    (hcr : ∀ (σ2 : Nat → Option Kd) (m2 : Nat → Nat → Int32) (l2 : Nat → Nat → Int64), σ2 n = some (.inr (ci', N', slD)) → m2 n = (fun _ => 0) → (∀ a, n + 1 ≤ a → σ2 a = none) → CtP κ mc ms d' mr [.ref n] (σ2, m2, l2, some (n + 1)) (fun oc μ' => oc = .inl none ∧ ∃ σ' m' l', μ' = (σ', m', l', some (n + s')) ∧ Post σ' m' n ∧ (∀ a, a < n → σ' a = σ2 a ∧ m' a = m2 a ∧ l' a = l2 a) ∧ ∀ a, n + s' ≤ a → σ' a = none))
    (hst : ∀ σ' m' σ2 m2, (∀ a, n ≤ a → σ2 a = σ' a ∧ m2 a = m' a) → Post σ' m' n → Post σ2 m2 n)
    (hm : MRi mr 0) (hlink : Cond.methodLink φ.1.1.cls idc mr.1 ∈ TW ∨ Cond.methodLinkNest φ.1.1.cls idc mr.1 host ∈ nwL) (hs1 : 1 ≤ s')
    (fr : FRowP φ.1.1.cls idf ci N k ty fin) (hi : fin = false ∨ φ.1.1.name = "<init>" ∧ ∃ T, cls7[ci]? = some (φ.1.1.cls, T, N)) (hna : ∀ q, narrow ty (.ref q) = .ref q) (hfi : ∀ q, fits ty (.ref q) = true)
    (hc : cells + 1 ≤ φ.2.1.cells ∧ slots + N' ≤ φ.2.1.slots) (hR8 : rmOK φ mr (cells + 1) (slots + N') mc ms d') (hw : ((.ref o :: st).map fun v => v.category).sum ≤ 6)
    (d0 : decode φ.1.2.1 pc = .ok (.new idn, 3)) (d3 : decode φ.1.2.1 (pc + 3) = .ok (.dup, 1)) (d4 : decode φ.1.2.1 (pc + 3 + 1) = .ok (.invokespecial idc, 3)) (d7 : decode φ.1.2.1 (pc + 3 + 1 + 3) = .ok (.putfield idf, 3))
    (kk : ∀ σ' m' l', σ' o = some (.inr (ci, N, upS sl k (.ref n))) → m' o = mi o → (∀ a, a < n → a ≠ o → σ' a = σ a ∧ m' a = mi a ∧ l' a = ml a) → (∀ a, n + s' ≤ a → σ' a = none) → Post σ' m' n → V κ φ (cells + 1 + mc) (slots + N' + ms) (pc + 3 + 1 + 3 + 3) L st (σ', m', l', some (n + s'))) : V κ φ cells slots pc L (.ref o :: st) (σ, mi, ml, some n) := by
  refine V_new hci hl1 hl2 hl3 (fun k hk ty h => by have h1 := hsl k hk; rw [h] at h1; exact Option.some.inj h1) hc d0 (fun q hq hz => ?_)
  have e : q = n := hz n rfl
  subst e
  refine V_dup d3 rfl ?_
  have h1 := hcr (va_up σ q (some (.inr (ci', N', slD)))) (va_up mi q (fun _ => 0)) (va_up ml q (fun _ => 0)) (va_up_self _ _ _) (va_up_self _ _ _) (fun a ha => by rw [va_up_ne _ _ (by omega)]; exact hno a (by omega))
  have fin2 : ∀ μ', (∃ σ' m' l', μ' = (σ', m', l', some (q + s')) ∧ Post σ' m' q ∧ (∀ a, a < q → σ' a = va_up σ q (some (.inr (ci', N', slD))) a ∧ m' a = va_up mi q (fun _ => 0) a ∧ l' a = va_up ml q (fun _ => 0) a) ∧ ∀ a, q + s' ≤ a → σ' a = none) → V κ φ (cells + 1 + mc) (slots + N' + ms) (pc + 3 + 1 + 3) L (.ref q :: .ref o :: st) μ' := by
    rintro μ' ⟨σ', m', l', rfl, hp, ha, hn'⟩
    have ha' : ∀ a, a < q → σ' a = σ a ∧ m' a = mi a ∧ l' a = ml a := fun a h => by
      obtain ⟨a1, a2, a3⟩ := ha a h
      rw [va_up_ne _ _ (by omega)] at a1 a2 a3
      exact ⟨a1, a2, a3⟩
    refine V_put (sl' := upS sl k (.ref q)) (fi' := m' o) fr hi (hna q) (hfi q) (show σ' o = some (.inr (ci, N, sl)) from (ha' o hon).1.trans ho) slV_up (fun j hj => slV_upn hj) d7 ?_
    have hid : va_up m' o (m' o) = m' := va_up_id _ _
    refine kk _ _ _ (va_up_self _ _ _) ?_ (fun a h hne => ?_) (fun a h => ?_) ?_
    · rw [va_up_self]; exact (ha' o hon).2.1
    · show va_up σ' o _ a = σ a ∧ va_up m' o (m' o) a = mi a ∧ l' a = ml a
      rw [hid, va_up_ne _ _ hne]; exact ha' a h
    · show va_up σ' o _ a = none
      rw [va_up_ne _ _ (by omega)]; exact hn' a h
    · refine hst σ' m' _ _ (fun a h => ⟨?_, ?_⟩) hp
      · exact va_up_ne _ _ (by omega)
      · rw [hid]
  have hw2 : ((.ref q :: .ref o :: st).map fun v => v.category).sum ≤ 8 := by
    have hcq : (Value.ref q).category = 1 := rfl
    simp only [List.map_cons, List.sum_cons] at hw ⊢
    omega
  rcases hlink with hlk | hlk
  · exact V_callIP (as := []) h1 hm hlk rfl rfl hw2 hR8 d4 (fun o μ' h => h.1) (fun μ' h => fin2 μ' h.2)
  · exact V_callINP (as := []) h1 hm hlk rfl rfl hw2 hR8 d4 (fun o μ' h => h.1) (fun μ' h => fin2 μ' h.2)
theorem GraphL.keep {σ σ' : Nat → Option Kd} {g : Nat} (h : GraphL σ g) (hk : ∀ a, g ≤ a → a < g + 5 → σ' a = σ a) : GraphL σ' g := ⟨(hk _ (by omega) (by omega)).trans h.1, (hk _ (by omega) (by omega)).trans h.2.1, (hk _ (by omega) (by omega)).trans h.2.2.1, (hk _ (by omega) (by omega)).trans h.2.2.2.1, (hk _ (by omega) (by omega)).trans h.2.2.2.2⟩
theorem GraphP.keep {σ' : Nat → Option Kd} {m m' : Nat → Nat → Int32} {g : Nat} (h : GraphP σ m g) (hk : ∀ a, g ≤ a → a < g + 5 → σ' a = σ a ∧ m' a = m a) : GraphP σ' m' g := ⟨h.1.keep (fun a h1 h2 => (hk a h1 h2).1), h.2.keep (fun a i h1 h2 => congrFun (hk a h1 h2).2 i)⟩
def slD0 : Nat → Option Value := fun k => if k = 1 then none else if k < 13 then some .null else none
def FlowP (σ : Nat → Option Kd) (m : Nat → Nat → Int32) (f : Nat) : Prop := FlowL σ f ∧ GA m (f + 1) G1
theorem ctX0_init {o : Nat} (h0 : σ o = some (.inr (0, 13, slD0))) (h1 : mi o = fun _ => 0) (h2 : ∀ a, o + 1 ≤ a → σ a = none) : CtP κ 16 315 3 mrX0_init [.ref o] (σ, mi, ml, some (o + 1)) (fun oc μ' => oc = .inl none ∧ ∃ σ' m' l', μ' = (σ', m', l', some (o + 17)) ∧ FlowP σ' m' o ∧ (∀ a, a < o → σ' a = σ a ∧ m' a = mi a ∧ l' a = ml a) ∧ ∀ a, o + 17 ≤ a → σ' a = none) := by
  refine CtP.of rfl (by simp [Value.category]) (Nat.le_of_ble_eq_true rfl) ?_
  refine V_aload_n dX0_init_0 rfl rfl ?_
  refine V_objInit lkX0_3 oiI oiC (Nat.le_of_ble_eq_true rfl) ⟨Nat.le_of_ble_eq_true rfl, Nat.le_of_ble_eq_true rfl⟩ dX0_init_1 ?_
  refine V_aload_n dX0_init_4 rfl rfl ?_
  refine V_nobj (mr := mrX1_init) (slD := slD1) (Post := GraphP) (s' := 5) h0 (by omega) h2 (ci' := 1) rfl clX0_9 insX1 iniX1 (by decide +kernel) (fun σ2 m2 l2 q1 q2 q3 => ctX1_init q1 q2 q3) (fun σ' m' σ2 m2 hq hp => hp.keep (fun a h1 h2 => hq a h1)) miX1_init (Or.inr lnX0_11) (by omega) fpX0_12 (Or.inr ⟨rfl, _, rfl⟩) (fun _ => rfl) (fun _ => rfl) ⟨Nat.le_of_ble_eq_true rfl, Nat.le_of_ble_eq_true rfl⟩ ⟨⟨Nat.le_of_ble_eq_true rfl, Nat.le_of_ble_eq_true rfl⟩, Nat.le_of_ble_eq_true rfl, Nat.le_of_ble_eq_true rfl⟩ (Nat.le_of_ble_eq_true rfl) dX0_init_5 dX0_init_8 dX0_init_9 dX0_init_12 (fun σa ma la e1 e2 e3 e4 e5 => ?_)
  have hBa : Blk σa ma la (o + 6) o σa ma la (o + 6) 0 13 (upS slD0 0 (.ref (o + 1))) (fun _ => 0) [] := ⟨e1, e2.trans h1, (fun q hq => by cases hq), fun a ha => e4 a (by omega), fun a _ _ => ⟨rfl, rfl, rfl⟩, by omega, Nat.le_refl _⟩
  refine V_aload_n dX0_init_15 rfl rfl ?_
  refine V_iconst (v := nI 0) dX0_init_16 (by decide) ?_
  refine V_putI fpX0_18 rfl rfl hBa.1 rfl dX0_init_17 ?_
  have hB0 := hBa.put (k := 1) (x := nI 0)
  refine V_aload_n dX0_init_20 rfl rfl ?_
  refine V_bipush (v := nI 14) dX0_init_21 (by decide) ?_
  refine V_napI (M := 14) hB0 (by decide) (by decide) (by decide) ⟨Nat.le_of_ble_eq_true rfl, Nat.le_of_ble_eq_true rfl⟩ dX0_init_23 fpX0_22 (Or.inr ⟨rfl, _, rfl⟩) (fun _ => rfl) (fun _ => rfl) dX0_init_25 (fun σ1 m1 l1 hB1 => ?_)
  refine V_aload_n dX0_init_28 rfl rfl ?_
  refine V_bipush (v := nI 14) dX0_init_29 (by decide) ?_
  refine V_napI (M := 14) hB1 (by decide) (by decide) (by decide) ⟨Nat.le_of_ble_eq_true rfl, Nat.le_of_ble_eq_true rfl⟩ dX0_init_31 fpX0_26 (Or.inr ⟨rfl, _, rfl⟩) (fun _ => rfl) (fun _ => rfl) dX0_init_33 (fun σ2 m2 l2 hB2 => ?_)
  refine V_aload_n dX0_init_36 rfl rfl ?_
  refine V_bipush (v := nI 14) dX0_init_37 (by decide) ?_
  refine V_napI (M := 14) hB2 (by decide) (by decide) (by decide) ⟨Nat.le_of_ble_eq_true rfl, Nat.le_of_ble_eq_true rfl⟩ dX0_init_39 fpX0_29 (Or.inr ⟨rfl, _, rfl⟩) (fun _ => rfl) (fun _ => rfl) dX0_init_41 (fun σ3 m3 l3 hB3 => ?_)
  refine V_aload_n dX0_init_44 rfl rfl ?_
  refine V_bipush (v := nI 14) dX0_init_45 (by decide) ?_
  refine V_napI (M := 14) hB3 (by decide) (by decide) (by decide) ⟨Nat.le_of_ble_eq_true rfl, Nat.le_of_ble_eq_true rfl⟩ dX0_init_47 fpX0_32 (Or.inr ⟨rfl, _, rfl⟩) (fun _ => rfl) (fun _ => rfl) dX0_init_49 (fun σ4 m4 l4 hB4 => ?_)
  refine V_aload_n dX0_init_52 rfl rfl ?_
  refine V_bipush (v := nI 14) dX0_init_53 (by decide) ?_
  refine V_napI (M := 14) hB4 (by decide) (by decide) (by decide) ⟨Nat.le_of_ble_eq_true rfl, Nat.le_of_ble_eq_true rfl⟩ dX0_init_55 fpX0_35 (Or.inr ⟨rfl, _, rfl⟩) (fun _ => rfl) (fun _ => rfl) dX0_init_57 (fun σ5 m5 l5 hB5 => ?_)
  refine V_aload_n dX0_init_60 rfl rfl ?_
  refine V_iconst (v := nI 4) dX0_init_61 (by decide) ?_
  refine V_napI (M := 4) hB5 (by decide) (by decide) (by decide) ⟨Nat.le_of_ble_eq_true rfl, Nat.le_of_ble_eq_true rfl⟩ dX0_init_62 fpX0_38 (Or.inr ⟨rfl, _, rfl⟩) (fun _ => rfl) (fun _ => rfl) dX0_init_64 (fun σ6 m6 l6 hB6 => ?_)
  refine V_aload_n dX0_init_67 rfl rfl ?_
  refine V_bipush (v := nI 56) dX0_init_68 (by decide) ?_
  refine V_napI (M := 56) hB6 (by decide) (by decide) (by decide) ⟨Nat.le_of_ble_eq_true rfl, Nat.le_of_ble_eq_true rfl⟩ dX0_init_70 fpX0_41 (Or.inr ⟨rfl, _, rfl⟩) (fun _ => rfl) (fun _ => rfl) dX0_init_72 (fun σ7 m7 l7 hB7 => ?_)
  refine V_aload_n dX0_init_75 rfl rfl ?_
  refine V_iconst (v := nI 4) dX0_init_76 (by decide) ?_
  refine V_napI (M := 4) hB7 (by decide) (by decide) (by decide) ⟨Nat.le_of_ble_eq_true rfl, Nat.le_of_ble_eq_true rfl⟩ dX0_init_77 fpX0_44 (Or.inr ⟨rfl, _, rfl⟩) (fun _ => rfl) (fun _ => rfl) dX0_init_79 (fun σ8 m8 l8 hB8 => ?_)
  refine V_aload_n dX0_init_82 rfl rfl ?_
  refine V_iconst (v := nI 4) dX0_init_83 (by decide) ?_
  refine V_napI (M := 4) hB8 (by decide) (by decide) (by decide) ⟨Nat.le_of_ble_eq_true rfl, Nat.le_of_ble_eq_true rfl⟩ dX0_init_84 fpX0_47 (Or.inr ⟨rfl, _, rfl⟩) (fun _ => rfl) (fun _ => rfl) dX0_init_86 (fun σ9 m9 l9 hB9 => ?_)
  refine V_aload_n dX0_init_89 rfl rfl ?_
  refine V_iconst (v := nI 4) dX0_init_90 (by decide) ?_
  refine V_napI (M := 4) hB9 (by decide) (by decide) (by decide) ⟨Nat.le_of_ble_eq_true rfl, Nat.le_of_ble_eq_true rfl⟩ dX0_init_91 fpX0_50 (Or.inr ⟨rfl, _, rfl⟩) (fun _ => rfl) (fun _ => rfl) dX0_init_93 (fun σ10 m10 l10 hB10 => ?_)
  refine V_aload_n dX0_init_96 rfl rfl ?_
  refine V_bipush (v := nI 14) dX0_init_97 (by decide) ?_
  refine V_napI (M := 14) hB10 (by decide) (by decide) (by decide) ⟨Nat.le_of_ble_eq_true rfl, Nat.le_of_ble_eq_true rfl⟩ dX0_init_99 fpX0_53 (Or.inr ⟨rfl, _, rfl⟩) (fun _ => rfl) (fun _ => rfl) dX0_init_101 (fun σ11 m11 l11 hB11 => ?_)
  exact V_vretP rfl ⟨rfl, _, _, _, rfl, ⟨⟨blk_sl hB11.1 (fun k => match k with | 0 => rfl | 1 => rfl | 2 => rfl | 3 => rfl | 4 => rfl | 5 => rfl | 6 => rfl | 7 => rfl | 8 => rfl | 9 => rfl | 10 => rfl | 11 => rfl | 12 => rfl | _ + 13 => rfl), (e5.keep (fun a h1 h2 => ⟨(hB11.2.2.2.2.1 a (by omega) (by omega)).1, (hB11.2.2.2.2.1 a (by omega) (by omega)).2.1⟩)).1, (hB11.2.2.1 _ (.tail _ (.tail _ (.tail _ (.tail _ (.tail _ (.tail _ (.tail _ (.tail _ (.tail _ (.tail _ (.head _)))))))))))).1, (hB11.2.2.1 _ (.tail _ (.tail _ (.tail _ (.tail _ (.tail _ (.tail _ (.tail _ (.tail _ (.tail _ (.head _))))))))))).1, (hB11.2.2.1 _ (.tail _ (.tail _ (.tail _ (.tail _ (.tail _ (.tail _ (.tail _ (.tail _ (.head _)))))))))).1, (hB11.2.2.1 _ (.tail _ (.tail _ (.tail _ (.tail _ (.tail _ (.tail _ (.tail _ (.head _))))))))).1, (hB11.2.2.1 _ (.tail _ (.tail _ (.tail _ (.tail _ (.tail _ (.tail _ (.head _)))))))).1, (hB11.2.2.1 _ (.tail _ (.tail _ (.tail _ (.tail _ (.tail _ (.head _))))))).1, (hB11.2.2.1 _ (.tail _ (.tail _ (.tail _ (.tail _ (.head _)))))).1, (hB11.2.2.1 _ (.tail _ (.tail _ (.tail _ (.head _))))).1, (hB11.2.2.1 _ (.tail _ (.tail _ (.head _)))).1, (hB11.2.2.1 _ (.tail _ (.head _))).1, (hB11.2.2.1 _ (.head _)).1⟩, (e5.keep (fun a h1 h2 => ⟨(hB11.2.2.2.2.1 a (by omega) (by omega)).1, (hB11.2.2.2.2.1 a (by omega) (by omega)).2.1⟩)).2⟩, fun a ha => ⟨(hB11.2.2.2.2.1 a (by omega) (by omega)).1.trans (e3 a (by omega) (by omega)).1, (hB11.2.2.2.2.1 a (by omega) (by omega)).2.1.trans (e3 a (by omega) (by omega)).2.1, (hB11.2.2.2.2.1 a (by omega) (by omega)).2.2.trans (e3 a (by omega) (by omega)).2.2⟩, fun a ha => hB11.2.2.2.1 a (by omega)⟩ ⟨Nat.le_of_ble_eq_true rfl, Nat.le_of_ble_eq_true rfl⟩ dX0_init_104

end Ctor2
