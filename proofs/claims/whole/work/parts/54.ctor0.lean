/-! constructors: calls by relational contracts, arrays of references, arrays of arrays -/
section Ctor0
variable {κ : K0} {φ : Fr} {cells slots pc : Nat} {L : List (Option Value)} {st rest : List Value} {μ μ' : Mem} {mr : MR} {mc ms d' n idx : Nat} {as : List Value} {Ψ : Oc → Mem → Prop}
theorem V_callIP {b : Nat} (hc : CtP κ mc ms d' mr (.ref b :: as) μ Ψ) (hm : MRi mr n) (hlink : Cond.methodLink φ.1.1.cls idx mr.1 ∈ TW) (hn : as.length = n) (hst : st = as.reverse ++ .ref b :: rest) (hw : (rest.map fun v => v.category).sum ≤ 8) (hR8 : rmOK φ mr cells slots mc ms d') (d : decode φ.1.2.1 pc = .ok (.invokespecial idx, 3)) (hΨ : ∀ o μ', Ψ o μ' → o = .inl none)
    (k : ∀ μ', Ψ (.inl none) μ' → V κ φ (cells + mc) (slots + ms) (pc + 3) L rest μ') : V κ φ cells slots pc L st μ := by
  intro p e s m args below meth c B H locs ls hl hR hS
  obtain ⟨m1, m2, m4, m5, m6, m7, m8, m9⟩ := hm
  have hts := B.2.2.2.2.1
  obtain ⟨y, cc, mL, rt⟩ := mr
  cases (show rt = none from m9)
  refine run_goP (vx_runI (y := y) (bytes := cc) (maxL := mL) (As := as) (rest := rest) (b := b) ⟨B.1, B.2.1, B.2.2.1, B.2.2.2.1, hts⟩ hc ⟨callB_of n hts (TW_good m1) rfl rfl rfl (hts _ m4) (hts _ hlink) ⟨m5.1, m5.2, m6⟩ ⟨hR8.1.1, hR8.1.2⟩, m8, hts _ m2⟩ ⟨PcOf.blind _ _ _, fun U hU hW => PcOf.go B.2.2.2.2.2.2.2.1 B.2.2.2.2.2.2.2.2.1 hR hS hU hW⟩ rfl hn hl.1 hst (lv_room hw) d hR8.2) hS (fun v μ' H1 locs1 ho hR1 hS1 => by cases hΨ _ _ ho; exact k μ' ho p e s m args below meth c B H1 locs1 ls hl hR1 hS1) (fun E μ' ce q H1 locs1 ho hR1 hS1 h1 h2 h3 => by cases hΨ _ _ ho)
theorem V_callINP {b : Nat} {host : String} (hc : CtP κ mc ms d' mr (.ref b :: as) μ Ψ) (hm : MRi mr n) (hlink : Cond.methodLinkNest φ.1.1.cls idx mr.1 host ∈ nwL) (hn : as.length = n) (hst : st = as.reverse ++ .ref b :: rest) (hw : (rest.map fun v => v.category).sum ≤ 8) (hR8 : rmOK φ mr cells slots mc ms d') (d : decode φ.1.2.1 pc = .ok (.invokespecial idx, 3)) (hΨ : ∀ o μ', Ψ o μ' → o = .inl none)
    (k : ∀ μ', Ψ (.inl none) μ' → V κ φ (cells + mc) (slots + ms) (pc + 3) L rest μ') : V κ φ cells slots pc L st μ := by
  intro p e s m args below meth c B H locs ls hl hR hS
  obtain ⟨m1, m2, m4, m5, m6, m7, m8, m9⟩ := hm
  have hts := B.2.2.2.2.1
  obtain ⟨y, cc, mL, rt⟩ := mr
  cases (show rt = none from m9)
  refine run_goP (vx_runIN (y := y) (bytes := cc) (maxL := mL) (As := as) (rest := rest) (b := b) (host := host) ⟨B.1, B.2.1, B.2.2.1, B.2.2.2.1, hts⟩ hc ⟨va_cnB n hts (TW_good m1) rfl rfl rfl (B.2.2.2.2.2.2.2.1.2.2.1 _ hlink) (hts _ m4) ⟨m5.1, m5.2, m6⟩ ⟨hR8.1.1, hR8.1.2⟩, m8, hts _ m2⟩ ⟨PcOf.blind _ _ _, fun U hU hW => PcOf.go B.2.2.2.2.2.2.2.1 B.2.2.2.2.2.2.2.2.1 hR hS hU hW⟩ rfl hn hl.1 hst (lv_room hw) d hR8.2) hS (fun v μ' H1 locs1 ho hR1 hS1 => by cases hΨ _ _ ho; exact k μ' ho p e s m args below meth c B H1 locs1 ls hl hR1 hS1) (fun E μ' ce q H1 locs1 ho hR1 hS1 h1 h2 h3 => by cases hΨ _ _ ho)
theorem V_anewG {n : Int32} {N : Nat} (hl : Cond.classLink φ.1.1.cls idx RX1 ∈ TW) (hn : ¬ n < 0) (hN : n.toNatClampNeg = N) (hb : N * 4 ≤ 536870912) (hc : cells + 1 ≤ φ.2.1.cells ∧ slots + N ≤ φ.2.1.slots) (d : decode φ.1.2.1 pc = .ok (.anewarray idx, 3))
    (kk : ∀ q, μ.1 q = none → (∀ z, μ.2.2.2 = some z → q = z) → V κ φ (cells + 1) (slots + N) (pc + 3) L (.ref q :: st) (va_up μ.1 q (some (.inl (.object RX1, N, fun _ => none))), va_up μ.2.1 q (fun _ => 0), va_up μ.2.2.1 q (fun _ => 0), μ.2.2.2.map (· + 1))) : V κ φ cells slots pc L (.int n :: st) μ := by
  subst hN
  intro p e s m args below meth c B H locs ls hl2 hR hS
  have hE := B.2.2.2.2.2.2.2.1
  refine W.anew B.1 B.2.1 B.2.2.2.1 (B.2.2.2.2.1 _ hl) (va_AO.use hE.2.2.2.2.2.1) rfl d rfl hn hb hc.1 hc.2 fun cA kA comp f1 f2 f3 f4 => ?_
  have hcA : cA = κ.2.2.1 (.object RX1) := by
    have h1 := (hE.2.1.2 3 _ rfl).2
    obtain ⟨kA', comp', k1, k2, k3, k4⟩ := h1
    exact Option.some.inj (f1.symm.trans k4)
  subst hcA
  generalize hH1 : H.push ({ cls := κ.2.2.1 (.object RX1), slots := Array.replicate n.toNatClampNeg .null, vm := .none } : Cell) = H1
  have z1 : H1.size = H.size + 1 := by rw [← hH1, Array.size_push]
  have e1 : H1[H.size]? = some (arrV (κ.2.2.1 (.object RX1)) n.toNatClampNeg (fun _ => .null)) := by rw [← hH1, Array.getElem?_push_size, ← arrV_new]
  have o1 : ∀ q : Nat, q < H.size → H1[q]? = H[q]? := fun q hq => by rw [← hH1, Array.getElem?_push, if_neg (Nat.ne_of_lt hq)]
  obtain ⟨hno, hR1⟩ := Rep.push (kd := .inl (.object RX1, n.toNatClampNeg, fun _ => none)) (fi := fun _ => 0) (fl := fun _ => 0) hR (Nat.le_trans B.2.2.2.2.2.2.2.2.1 hS.1) (by
    show H1[H.size]? = some (vp_cell _ _)
    rw [vp_cell_q]; exact e1) z1 o1
  exact kk H.size hno (fun z hz => hR.choose_spec.2.2.2 z hz) p e s m args below meth c B H1 locs ls hl2 hR1 (hS.grow (by omega) o1)
theorem V_aastG {a n v : Nat} {r : Nat → Option Nat} {i : Int32} {sl : Nat → Option Value} (hσ : μ.1 a = some (.inl (.object RX1, n, r))) (hv : μ.1 v = some (.inr (1, 5, sl))) (hin : vp_in i n) (d : decode φ.1.2.1 pc = .ok (.aastore, 1)) (kk : V κ φ cells slots (pc + 1) L st (va_up μ.1 a (some (.inl (.object RX1, n, va_up r i.toNatClampNeg (some v)))), μ.2.1, μ.2.2)) : V κ φ cells slots pc L (.ref v :: .int i :: .ref a :: st) μ := by
  intro p e s m args below meth c B H locs ls hl hR hS
  obtain ⟨Ld, q, ha, g1, g2, g3, hq, -⟩ := hR.at hσ
  obtain ⟨qv, hqv⟩ : ∃ qv, (va_pl Ld (cellM κ μ))[qv]? = some (v, cellM κ μ v) := by
    have hvL : v ∈ Ld := (g1 v).mpr (by rw [hv]; rfl)
    obtain ⟨k, hk, hk2⟩ := List.mem_iff_getElem.mp hvL
    exact ⟨k, by unfold va_pl; rw [List.getElem?_map, List.getElem?_eq_getElem hk, hk2]; rfl⟩
  have hlt : i.toNatClampNeg < n := Nat.not_le.mp fun q => hin (Or.inr q)
  have h0 : ¬ i < 0 := fun q => hin (Or.inl q)
  have hK := B.2.2.2.2.2.2.2.1.2.1
  have hcv : cellM κ μ v = .inr (1, (List.range 5).map (slV sl (μ.2.1 v))) := by unfold cellM; rw [hv]; rfl
  rw [hcv] at hqv
  obtain ⟨r', hr', cellV, j1, j2, j3, -⟩ := g2 qv _ hqv
  have hcls := (hK.1 1 _ rfl).2
  obtain ⟨kA, comp, k1, k2, k3, -⟩ := (hK.2 3 _ rfl).2
  have hcomp : comp = κ.2.1.1 1 := Option.some.inj (k3.symm.trans hcls.1)
  subst hcomp
  obtain ⟨kC, hkC, -⟩ := hcls.2
  have hcell : H[a]? = some (vp_cell (κ.2.2.1 (.object RX1)) (n, .inr (.inr (.inr (.inr r))))) := g2 q _ hq
  refine W.aast B.1 B.2.1 hcell (fun q h => by cases h) (fun h => by cases h) k1 k2 rfl hkC ⟨h0, by show _ < (arrV _ _ _).slots.size; rw [arrV_size]; exact hlt⟩ j1 (fun q h => by rw [j3] at h; cases h) (by rw [j2]; exact hkC) (by rw [j2]; exact va_assign hcls) rfl rfl d fun H1 e1 z oq => ?_
  obtain ⟨hR1, haA⟩ := Rep.set (μ' := (va_up μ.1 a (some (.inl (.object RX1, n, va_up r i.toNatClampNeg (some v)))), μ.2.1, μ.2.2)) hR hσ (fun b => by
      show (va_up μ.1 a _ b).isSome = (μ.1 b).isSome
      by_cases hb : b = a
      · subst hb; rw [va_up_self, hσ]; rfl
      · rw [va_up_ne _ _ hb]) (by
      show va_at _ _ (a, cellM _ _ a) H1
      unfold cellM
      rw [show (va_up μ.1 a (some (.inl (.object RX1, n, va_up r i.toNatClampNeg (some v)))), μ.2.1, μ.2.2).1 a = some (.inl (.object RX1, n, va_up r i.toNatClampNeg (some v))) from va_up_self _ _ _]
      show H1[a]? = some (vp_cell _ _)
      rw [e1]
      show some (Cell.setSlot (vp_cell _ _) _ _) = _
      rw [vp_cell_q, vp_cell_q, arrV_store]
      refine congrArg some (congrArg (arrV _ n) (funext fun q => ?_))
      by_cases hq : q = i.toNatClampNeg
      · subst hq; simp [updV, va_up, va_rf]
      · simp [updV, va_up, hq]) (fun b hb => cellM_off (va_up_ne _ _ hb) rfl rfl) z oq rfl
  exact kk p e s m args below meth c B H1 _ ls hl hR1 (hS.put z oq haA)
theorem cellK_inl (dA : FieldType → ClassId) (t : FieldType × Nat × (Nat → Option Nat)) (fi : Nat → Int32) (fl : Nat → Int64) : ∃ x, cellK dA (.inl t) fi fl = .inl x := by
  obtain ⟨ty, n, r⟩ := t
  cases ty <;> exact ⟨_, rfl⟩
/-- new arrays behind all others -/
theorem Rep.pushA {H : Heap} (h : Rep κ μ H) (hB : κ.2.2.2 ≤ H.size) (kds : Nat → FieldType × Nat × (Nat → Option Nat)) : ∀ (n : Nat) (H1 : Heap), H1.size = H.size + n → (∀ q : Nat, q < H.size → H1[q]? = H[q]?) → (∀ j, j < n → va_at κ.2.1 cls7 (H.size + j, cellK κ.2.2.1 (.inl (kds j)) (fun _ => 0) (fun _ => 0)) H1) →
    ∃ μ' : Mem, Rep κ μ' H1 ∧ (∀ a, μ'.1 a = if H.size ≤ a ∧ a < H.size + n then some (.inl (kds (a - H.size))) else μ.1 a) ∧ (∀ a, μ'.2.1 a = if H.size ≤ a ∧ a < H.size + n then (fun _ => 0) else μ.2.1 a) ∧ (∀ a, μ'.2.2.1 a = if H.size ≤ a ∧ a < H.size + n then (fun _ => 0) else μ.2.2.1 a) ∧ μ'.2.2.2 = μ.2.2.2.map (· + n)
  | 0, H1, hz, ho, _ => by
    have e : H1 = H := Array.ext_getElem? (fun q => by
      rcases Nat.lt_or_ge q H.size with w | w
      · exact ho q w
      · rw [Array.getElem?_eq_none (by omega), Array.getElem?_eq_none (by omega)])
    subst e
    refine ⟨μ, h, fun a => by rw [if_neg (by omega)], fun a => by rw [if_neg (by omega)], fun a => by rw [if_neg (by omega)], ?_⟩
    cases μ.2.2.2 <;> rfl
  | n + 1, H1, hz, ho, hat => by
    have hps : H1.pop.size = H.size + n := by rw [Array.size_pop]; omega
    have hpg : ∀ q : Nat, q < H.size + n → H1.pop[q]? = H1[q]? := fun q hq => by
      rw [Array.getElem?_pop, if_pos (by omega)]
    obtain ⟨μ', g1, g2, g3, g4, g5⟩ := Rep.pushA h hB kds n H1.pop hps (fun q hq => (hpg q (by omega)).trans (ho q hq)) (fun j hj => by
      have h1 := hat j (by omega)
      obtain ⟨x, hx⟩ := cellK_inl κ.2.2.1 (kds j) (fun _ => 0) (fun _ => 0)
      rw [hx] at h1 ⊢
      exact (hpg (H.size + j) (by omega)).trans h1)
    obtain ⟨hno, hR1⟩ := Rep.push (kd := .inl (kds n)) (fi := fun _ => 0) (fl := fun _ => 0) g1 (by omega) (by rw [hps]; exact hat n (by omega)) (H1 := H1) (by omega) (fun q hq => (hpg q (by omega)).symm)
    refine ⟨_, hR1, fun a => ?_, fun a => ?_, fun a => ?_, ?_⟩
    · show va_up μ'.1 H1.pop.size _ a = _
      rw [hps]
      by_cases e : a = H.size + n
      · rw [e, va_up_self, if_pos (by omega), show H.size + n - H.size = n by omega]
      · rw [va_up_ne _ _ e, g2 a]
        by_cases w : H.size ≤ a ∧ a < H.size + n
        · rw [if_pos w, if_pos (by omega)]
        · rw [if_neg w, if_neg (by omega)]
    · show va_up μ'.2.1 H1.pop.size _ a = _
      rw [hps]
      by_cases e : a = H.size + n
      · rw [e, va_up_self, if_pos (by omega)]
      · rw [va_up_ne _ _ e, g3 a]
        by_cases w : H.size ≤ a ∧ a < H.size + n
        · rw [if_pos w, if_pos (by omega)]
        · rw [if_neg w, if_neg (by omega)]
    · show va_up μ'.2.2.1 H1.pop.size _ a = _
      rw [hps]
      by_cases e : a = H.size + n
      · rw [e, va_up_self, if_pos (by omega)]
      · rw [va_up_ne _ _ e, g4 a]
        by_cases w : H.size ≤ a ∧ a < H.size + n
        · rw [if_pos w, if_pos (by omega)]
        · rw [if_neg w, if_neg (by omega)]
    · show Option.map (· + 1) μ'.2.2.2 = _
      rw [g5]
      cases μ.2.2.2 <;> rfl
theorem Rep.none {H : Heap} (h : Rep κ μ H) {a : Nat} (ha : H.size ≤ a) : μ.1 a = none := by
  cases hc : μ.1 a with
  | none => rfl
  | some k => exact absurd (h.lt hc) (by omega)
/-- an array of N arrays of K ints: the outer one, behind it its rows -/
theorem V_mna {n k : Int32} {N K : Nat} (hl : Cond.classLink φ.1.1.cls idx "[[I" ∈ TW) (hac : Cond.arrayClass .int ∈ TW) (hn : ¬ n < 0) (hk : ¬ k < 0) (hN : n.toNatClampNeg = N) (hK : k.toNatClampNeg = K) (hb1 : N * 4 ≤ 536870912) (hb2 : K * 4 ≤ 536870912) (hb3 : K ≤ 536870912) (hc : cells + (1 + N) ≤ φ.2.1.cells ∧ slots + (N + N * K) ≤ φ.2.1.slots) (d : decode φ.1.2.1 pc = .ok (.multianewarray idx 2, 4))
    (kk : ∀ (q : Nat) (μ' : Mem), (∀ z, μ.2.2.2 = some z → q = z) → (∀ a, q ≤ a → μ.1 a = none) → (∀ a, μ'.1 a = if q ≤ a ∧ a < q + (1 + N) then some (.inl (if a - q = 0 then (.array .int, N, fun i => if i < N then some (q + 1 + i) else none) else (.int, K, fun _ => none))) else μ.1 a) → (∀ a, μ'.2.1 a = if q ≤ a ∧ a < q + (1 + N) then (fun _ => 0) else μ.2.1 a) → (∀ a, μ'.2.2.1 a = if q ≤ a ∧ a < q + (1 + N) then (fun _ => 0) else μ.2.2.1 a) → μ'.2.2.2 = μ.2.2.2.map (· + (1 + N)) → V κ φ (cells + 1 + N) (slots + N + N * K) (pc + 4) L (.ref q :: st) μ') : V κ φ cells slots pc L (.int k :: .int n :: st) μ := by
  subst hN
  subst hK
  intro p e s m args below meth c B H locs ls hl2 hR hS T hT Xs
  have hE := B.2.2.2.2.2.2.2.1
  obtain ⟨vm₁, cA, comp, -, fA, fC, hO, -, X', step⟩ := Xs.multianewarray2F (ty := .int) B.1 B.2.2.2.1 (B.2.2.2.2.1 _ hl) (va_AOA.use hE.2.2.2.2.2.2.1) (B.2.2.2.2.1 _ hac) (g := F0 m pc ls (.int k :: .int n :: st)) rfl (by rw [B.2.1]; exact d) rfl hn hk hb1 hb2 hb3 rfl rfl hc.1 hc.2
  have hcA : cA = κ.2.2.1 (.array .int) := Option.some.inj (fA.symm.trans (hE.2.1.2 4 _ rfl).2)
  have hco : comp = κ.2.2.1 .int := Option.some.inj (fC.symm.trans (Ev.arrI hE))
  subst hcA
  subst hco
  generalize hF : Jvm.Free.Multi.fill (T.setVm vm₁) (κ.2.2.1 (.array .int)) (κ.2.2.1 .int) n.toNatClampNeg k.toNatClampNeg (defaultValue .int) n.toNatClampNeg = F at X' step
  have hTh : (T.setVm vm₁).heap = H := hT
  obtain ⟨f1, f2, -, -⟩ := Jvm.Free.Multi.fill_facts (T.setVm vm₁) (κ.2.2.1 (.array .int)) (κ.2.2.1 .int) n.toNatClampNeg k.toNatClampNeg (defaultValue .int) n.toNatClampNeg
  rw [hF, hTh] at f1 f2
  have hold : ∀ x : Nat, x < H.size → F.heap[x]? = H[x]? := fun x hx => by
    have := Jvm.Free.Multi.fill_old (T.setVm vm₁) (κ.2.2.1 (.array .int)) (κ.2.2.1 .int) n.toNatClampNeg k.toNatClampNeg (defaultValue .int) (a := x) (by rw [hTh]; exact hx) n.toNatClampNeg
    rw [hF, hTh] at this
    exact this
  have hrow : ∀ j : Nat, j < n.toNatClampNeg → F.heap[H.size + 1 + j]? = some (Jvm.Free.Multi.innerC (κ.2.2.1 .int) k.toNatClampNeg (defaultValue .int)) := fun j hj => by
    have := Jvm.Free.Multi.fill_inner (T.setVm vm₁) (κ.2.2.1 (.array .int)) (κ.2.2.1 .int) n.toNatClampNeg k.toNatClampNeg (defaultValue .int) n.toNatClampNeg j hj
    rw [hF, hTh] at this
    exact this
  have hout : Jvm.Free.Multi.outerC (κ.2.2.1 (.array .int)) n.toNatClampNeg H.size n.toNatClampNeg = vp_cell (κ.2.2.1 (.array .int)) (n.toNatClampNeg, .inr (.inr (.inr (.inr (fun i => if i < n.toNatClampNeg then some (H.size + 1 + i) else none))))) := by
    rw [vp_cell_q]
    exact vr_outer _ n.toNatClampNeg H.size n.toNatClampNeg
  rw [hout] at f2
  obtain ⟨μ', g1, g2, g3, g4, g5⟩ := Rep.pushA hR (Nat.le_trans B.2.2.2.2.2.2.2.2.1 hS.1) (fun j => if j = 0 then (.array .int, n.toNatClampNeg, fun i => if i < n.toNatClampNeg then some (H.size + 1 + i) else none) else (.int, k.toNatClampNeg, fun _ => none)) (1 + n.toNatClampNeg) F.heap (by omega) hold (fun j hj => by
    cases j with
    | zero => exact f2
    | succ j =>
      show F.heap[H.size + (j + 1)]? = some (vp_cell _ _)
      rw [show H.size + (j + 1) = H.size + 1 + j by omega, hrow j (by omega), vp_cell_i]
      unfold Jvm.Free.Multi.innerC
      rw [arrV_new]; rfl)
  obtain ⟨t2, a1, b1⟩ := kk H.size μ' (fun z hz => hR.choose_spec.2.2.2 z hz) (fun a ha => hR.none ha) g2 g3 g4 g5 p e s m args below meth c B F.heap locs ls hl2 g1 (hS.grow (by omega) hold) F rfl X'
  exact ⟨t2, step t2 (by rw [hT]; exact a1), b1⟩
end Ctor0
