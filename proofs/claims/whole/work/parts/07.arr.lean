/-! arrays, new cells -/
section Rows3
variable {κ : K0} {φ : Fr} {cells slots pc : Nat} {L : List (Option Value)} {st : List Value} {μ : Mem}
theorem Ev.tI {U : State} {H : Heap} (h : Ev κ U H) : ArrOfT U (κ.2.2.1 .int) .int := (h.2.1.2 0 _ rfl).1
theorem Ev.tC {U : State} {H : Heap} (h : Ev κ U H) : ArrOfT U (κ.2.2.1 .char) .char := (h.2.1.2 1 _ rfl).1
theorem Ev.tL {U : State} {H : Heap} (h : Ev κ U H) : ArrOfT U (κ.2.2.1 .long) .long := (h.2.1.2 2 _ rfl).1
theorem V_iald {a n : Nat} {r : Nat → Option Nat} {i : Int32} (hσ : μ.1 a = some (.inl (.int, n, r))) (hin : vp_in i n) (d : decode φ.1.2.1 pc = .ok (.iaload, 1)) (kk : V κ φ cells slots (pc + 1) L (.int (μ.2.1 a i.toNatClampNeg) :: st) μ) : V κ φ cells slots pc L (.int i :: .ref a :: st) μ := by
  intro p e s m args below meth c B H locs ls hl hR hS
  obtain ⟨Ld, q, ha, g1, g2, g3, hq, -⟩ := hR.at hσ
  exact va_iald B.1 B.2.1 B.2.2.2.2.2.2.2.1.2.1 g2 q 0 hq rfl hin d (kk p e s m args below meth c B H locs ls hl hR hS)
theorem V_cald {a n : Nat} {r : Nat → Option Nat} {i : Int32} (hσ : μ.1 a = some (.inl (.char, n, r))) (hin : vp_in i n) (d : decode φ.1.2.1 pc = .ok (.caload, 1)) (kk : V κ φ cells slots (pc + 1) L (.int (μ.2.1 a i.toNatClampNeg) :: st) μ) : V κ φ cells slots pc L (.int i :: .ref a :: st) μ := by
  intro p e s m args below meth c B H locs ls hl hR hS
  obtain ⟨Ld, q, ha, g1, g2, g3, hq, -⟩ := hR.at hσ
  exact va_cald B.1 B.2.1 B.2.2.2.2.2.2.2.1.2.1 g2 q 1 hq rfl hin d (kk p e s m args below meth c B H locs ls hl hR hS)
theorem V_lald {a n : Nat} {r : Nat → Option Nat} {i : Int32} (hσ : μ.1 a = some (.inl (.long, n, r))) (hin : vp_in i n) (d : decode φ.1.2.1 pc = .ok (.laload, 1)) (kk : V κ φ cells slots (pc + 1) L (.long (μ.2.2.1 a i.toNatClampNeg) :: st) μ) : V κ φ cells slots pc L (.int i :: .ref a :: st) μ := by
  intro p e s m args below meth c B H locs ls hl hR hS
  obtain ⟨Ld, q, ha, g1, g2, g3, hq, -⟩ := hR.at hσ
  exact va_lald B.1 B.2.1 B.2.2.2.2.2.2.2.1.2.1 g2 q 2 hq rfl hin d (kk p e s m args below meth c B H locs ls hl hR hS)
theorem V_aaldG {a n y : Nat} {r : Nat → Option Nat} {i : Int32} (hσ : μ.1 a = some (.inl (.object RX1, n, r))) (hin : vp_in i n) (hr : r i.toNatClampNeg = some y) (d : decode φ.1.2.1 pc = .ok (.aaload, 1)) (kk : V κ φ cells slots (pc + 1) L (.ref y :: st) μ) : V κ φ cells slots pc L (.int i :: .ref a :: st) μ := by
  intro p e s m args below meth c B H locs ls hl hR hS
  obtain ⟨Ld, q, ha, g1, g2, g3, hq, -⟩ := hR.at hσ
  refine va_aldq B.1 B.2.1 B.2.2.2.2.2.2.2.1.2.1 g2 q 3 (f := r) hq rfl hin d ?_
  rw [hr]
  exact kk p e s m args below meth c B H locs ls hl hR hS
theorem V_aaldA {a n y : Nat} {r : Nat → Option Nat} {i : Int32} (hσ : μ.1 a = some (.inl (.array .int, n, r))) (hin : vp_in i n) (hr : r i.toNatClampNeg = some y) (d : decode φ.1.2.1 pc = .ok (.aaload, 1)) (kk : V κ φ cells slots (pc + 1) L (.ref y :: st) μ) : V κ φ cells slots pc L (.int i :: .ref a :: st) μ := by
  intro p e s m args below meth c B H locs ls hl hR hS
  obtain ⟨Ld, q, ha, g1, g2, g3, hq, -⟩ := hR.at hσ
  have hlt : i.toNatClampNeg < n := Nat.not_le.mp fun q => hin (Or.inr q)
  have hcell : H[a]? = some (vp_cell (κ.2.2.1 (.array .int)) (n, .inr (.inr (.inr (.inr r))))) := g2 q _ hq
  refine W.aald (v := .ref y) (ty := .array .int) B.1 B.2.1 hcell ((B.2.2.2.2.2.2.2.1.2.1.2 4 _ rfl).1 n (fun j => va_rf (r j))) rfl (fun q => by cases q) (by show ¬ (i < 0 ∨ (arrV _ _ _).slots.size ≤ _); rw [arrV_size]; exact hin) (by show (arrV _ _ _).slots[_]? = _; rw [arrV_read _ _ hlt, hr]; rfl) rfl rfl d (kk p e s m args below meth c B H locs ls hl hR hS)
theorem V_iast {a n : Nat} {r : Nat → Option Nat} {i x : Int32} (hσ : μ.1 a = some (.inl (.int, n, r))) (hin : vp_in i n) (d : decode φ.1.2.1 pc = .ok (.iastore, 1)) (kk : V κ φ cells slots (pc + 1) L st (μ.1, u2 μ.2.1 a i.toNatClampNeg x, μ.2.2)) : V κ φ cells slots pc L (.int x :: .int i :: .ref a :: st) μ := by
  intro p e s m args below meth c B H locs ls hl hR hS
  obtain ⟨Ld, q, ha, g1, g2, g3, hq, -⟩ := hR.at hσ
  have hcell : H[a]? = some (vp_cell (κ.2.2.1 .int) (n, .inl (μ.2.1 a))) := g2 q _ hq
  refine W.iast B.1 B.2.1 hcell (Ev.tI B.2.2.2.2.2.2.2.1 n (fun j => .int (μ.2.1 a j))) (fun q => by cases q) (by show ¬ (i < 0 ∨ (arrV _ _ _).slots.size ≤ _); rw [arrV_size]; exact hin) rfl rfl d fun H1 e1 z oq => ?_
  obtain ⟨hR1, haA⟩ := Rep.set (μ' := (μ.1, u2 μ.2.1 a i.toNatClampNeg x, μ.2.2)) hR hσ (fun b => rfl) (by
      show va_at _ _ (a, cellM _ _ a) H1
      unfold cellM
      rw [hσ]
      show H1[a]? = some (vp_cell _ _)
      rw [e1]
      show some (Cell.setSlot (vp_cell _ _) _ _) = _
      rw [vp_cell_i, vp_cell_i, arrV_store]
      refine congrArg some (congrArg (arrV _ n) (funext fun q => ?_))
      by_cases hq : q = i.toNatClampNeg
      · subst hq; simp [updV, u2]
      · simp [updV, u2, hq]) (fun b hb => cellM_off rfl (u2_off _ _ _ hb) rfl) z oq rfl
  exact kk p e s m args below meth c B H1 _ ls hl hR1 (hS.put z oq haA)
theorem V_last {a n : Nat} {r : Nat → Option Nat} {i : Int32} {x : Int64} (hσ : μ.1 a = some (.inl (.long, n, r))) (hin : vp_in i n) (d : decode φ.1.2.1 pc = .ok (.lastore, 1)) (kk : V κ φ cells slots (pc + 1) L st (μ.1, μ.2.1, u2 μ.2.2.1 a i.toNatClampNeg x, μ.2.2.2)) : V κ φ cells slots pc L (.long x :: .int i :: .ref a :: st) μ := by
  intro p e s m args below meth c B H locs ls hl hR hS
  obtain ⟨Ld, q, ha, g1, g2, g3, hq, -⟩ := hR.at hσ
  have hcell : H[a]? = some (vp_cell (κ.2.2.1 .long) (n, .inr (.inl (μ.2.2.1 a)))) := g2 q _ hq
  refine W.last B.1 B.2.1 hcell (Ev.tL B.2.2.2.2.2.2.2.1 n (fun j => .long (μ.2.2.1 a j))) (fun q => by cases q) (by show ¬ (i < 0 ∨ (arrV _ _ _).slots.size ≤ _); rw [arrV_size]; exact hin) rfl rfl d fun H1 e1 z oq => ?_
  obtain ⟨hR1, haA⟩ := Rep.set (μ' := (μ.1, μ.2.1, u2 μ.2.2.1 a i.toNatClampNeg x, μ.2.2.2)) hR hσ (fun b => rfl) (by
      show va_at _ _ (a, cellM _ _ a) H1
      unfold cellM
      rw [hσ]
      show H1[a]? = some (vp_cell _ _)
      rw [e1]
      show some (Cell.setSlot (vp_cell _ _) _ _) = _
      rw [vp_cell_l, vp_cell_l, arrV_store]
      refine congrArg some (congrArg (arrV _ n) (funext fun q => ?_))
      by_cases hq : q = i.toNatClampNeg
      · subst hq; simp [updV, u2]
      · simp [updV, u2, hq]) (fun b hb => cellM_off rfl rfl (u2_off _ _ _ hb)) z oq rfl
  exact kk p e s m args below meth c B H1 _ ls hl hR1 (hS.put z oq haA)
theorem V_cast {a n : Nat} {r : Nat → Option Nat} {i x : Int32} (hσ : μ.1 a = some (.inl (.char, n, r))) (hin : vp_in i n) (hx : vp_nar .char x = x) (d : decode φ.1.2.1 pc = .ok (.castore, 1)) (kk : V κ φ cells slots (pc + 1) L st (μ.1, u2 μ.2.1 a i.toNatClampNeg x, μ.2.2)) : V κ φ cells slots pc L (.int x :: .int i :: .ref a :: st) μ := by
  intro p e s m args below meth c B H locs ls hl hR hS
  obtain ⟨Ld, q, ha, g1, g2, g3, hq, -⟩ := hR.at hσ
  have hcell : H[a]? = some (vp_cell (κ.2.2.1 .char) (n, .inl (μ.2.1 a))) := g2 q _ hq
  refine W.cast B.1 B.2.1 hcell (Ev.tC B.2.2.2.2.2.2.2.1 n (fun j => .int (μ.2.1 a j))) (fun q => by cases q) (by show ¬ (i < 0 ∨ (arrV _ _ _).slots.size ≤ _); rw [arrV_size]; exact hin) rfl rfl d fun H1 e1 z oq => ?_
  obtain ⟨hR1, haA⟩ := Rep.set (μ' := (μ.1, u2 μ.2.1 a i.toNatClampNeg x, μ.2.2)) hR hσ (fun b => rfl) (by
      show va_at _ _ (a, cellM _ _ a) H1
      unfold cellM
      rw [hσ]
      show H1[a]? = some (vp_cell _ _)
      rw [e1]
      rw [vp_cell_i, vp_cell_i, arrV_store]
      refine congrArg some (congrArg (arrV _ n) (funext fun q => ?_))
      by_cases hq : q = i.toNatClampNeg
      · subst hq
        simp only [updV, u2, if_true, and_self]
        exact congrArg Value.int hx
      · simp [updV, u2, hq]) (fun b hb => cellM_off rfl (u2_off _ _ _ hb) rfl) z oq rfl
  exact kk p e s m args below meth c B H1 _ ls hl hR1 (hS.put z oq haA)
/-- a new cell behind all others -/
theorem Rep.push {H H1 : Heap} {kd : Kd} {fi : Nat → Int32} {fl : Nat → Int64} (h : Rep κ μ H) (hB : κ.2.2.2 ≤ H.size) (hat : va_at κ.2.1 cls7 (H.size, cellK κ.2.2.1 kd fi fl) H1) (z : H1.size = H.size + 1) (oq : ∀ q : Nat, q < H.size → H1[q]? = H[q]?) : μ.1 H.size = none ∧ Rep κ (va_up μ.1 H.size (some kd), va_up μ.2.1 H.size fi, va_up μ.2.2.1 H.size fl, μ.2.2.2.map (· + 1)) H1 := by
  have hno : μ.1 H.size = none := by
    cases hc : μ.1 H.size with
    | none => rfl
    | some k2 => exact absurd (h.lt hc) (Nat.lt_irrefl _)
  obtain ⟨Ld, h1, h2, h3, h4⟩ := h
  have hnL : H.size ∉ Ld := fun q => by
    have := (h1 _).mp q
    rw [hno] at this
    cases this
  have hce : ∀ b, b ≠ H.size → cellM κ (va_up μ.1 H.size (some kd), va_up μ.2.1 H.size fi, va_up μ.2.2.1 H.size fl, μ.2.2.2.map (· + 1)) b = cellM κ μ b := fun b hb => cellM_off (va_up_ne _ _ hb) (va_up_ne _ _ hb) (va_up_ne _ _ hb)
  have hcs : cellM κ (va_up μ.1 H.size (some kd), va_up μ.2.1 H.size fi, va_up μ.2.2.1 H.size fl, μ.2.2.2.map (· + 1)) H.size = cellK κ.2.2.1 kd fi fl := by
    unfold cellM; simp only [va_up_self]
  have e : va_pl (Ld ++ [H.size]) (cellM κ (va_up μ.1 H.size (some kd), va_up μ.2.1 H.size fi, va_up μ.2.2.1 H.size fl, μ.2.2.2.map (· + 1))) = va_pl Ld (cellM κ μ) ++ [(H.size, cellK κ.2.2.1 kd fi fl)] := by
    unfold va_pl
    rw [List.map_append, List.map_cons, List.map_nil, hcs]
    congr 1
    exact List.map_congr_left (fun b hb => by rw [hce b (fun q => hnL (q ▸ hb))])
  refine ⟨hno, Ld ++ [H.size], fun b => ?_, ?_, ?_, fun n hn => ?_⟩
  · rw [List.mem_append, List.mem_singleton, h1 b]
    by_cases hb : b = H.size
    · subst hb; simp [va_up_self]
    · simp [va_up_ne _ _ hb, hb]
  · rw [e]
    refine (h2.kept (fun k q hk => oq q.1 (h2 k q hk).lt)).app (fun k q hk => ?_)
    have hz : k < 1 := (List.getElem?_eq_some_iff.mp hk).1
    rw [show k = 0 by omega] at hk
    cases hk
    exact hat
  · rw [e]
    exact h3.push h2 rfl hB
  · simp only [Option.map_eq_some_iff] at hn
    obtain ⟨n0, hn0, rfl⟩ := hn
    rw [z, h4 n0 hn0]
theorem va_S.grow {A : Nat → Prop} {H0 H H1 : Heap} {locs : List Loc} (h : va_S A H0 H locs) (z : H.size ≤ H1.size) (oq : ∀ q : Nat, q < H.size → H1[q]? = H[q]?) : va_S A H0 H1 locs := ⟨Nat.le_trans h.1 z, fun q h1 h2 => (oq q (Nat.lt_of_lt_of_le h1 h.1)).trans (h.2.1 q h1 h2), h.2.2⟩
theorem Ev.arrI {U : State} {H : Heap} (h : Ev κ U H) : U.vm.findClass ("[" ++ FieldType.int.toString) = some (κ.2.2.1 .int) := (h.2.1.2 0 _ rfl).2
theorem Ev.arrC {U : State} {H : Heap} (h : Ev κ U H) : U.vm.findClass ("[" ++ FieldType.char.toString) = some (κ.2.2.1 .char) := (h.2.1.2 1 _ rfl).2
theorem Ev.arrL {U : State} {H : Heap} (h : Ev κ U H) : U.vm.findClass ("[" ++ FieldType.long.toString) = some (κ.2.2.1 .long) := (h.2.1.2 2 _ rfl).2
theorem V_newI {n : Int32} {N : Nat} (hw : Cond.arrayClass .int ∈ TW) (hn : ¬ n < 0) (hN : n.toNatClampNeg = N) (hb : N * 4 ≤ 536870912) (hc : cells + 1 ≤ φ.2.1.cells ∧ slots + N ≤ φ.2.1.slots) (d : decode φ.1.2.1 pc = .ok (.newarray .int, 2))
    (kk : ∀ q, μ.1 q = none → (∀ z, μ.2.2.2 = some z → q = z) → V κ φ (cells + 1) (slots + N) (pc + 2) L (.ref q :: st) (va_up μ.1 q (some (.inl (.int, N, fun _ => none))), va_up μ.2.1 q (fun _ => 0), va_up μ.2.2.1 q (fun _ => 0), μ.2.2.2.map (· + 1))) : V κ φ cells slots pc L (.int n :: st) μ := by
  intro p e s m args below meth c B H locs ls hl hR hS
  refine va_newaK B.1 B.2.1 (atype := .int) (B.2.2.2.2.1 _ hw) rfl d rfl hn hN hb hc.1 hc.2 rfl fun H1 cA e1 z1 o1 hAr hNm => ?_
  have hcA : cA = κ.2.2.1 .int := Option.some.inj (hNm.symm.trans (Ev.arrI B.2.2.2.2.2.2.2.1))
  subst hcA
  obtain ⟨hno, hR1⟩ := Rep.push (kd := .inl (.int, N, fun _ => none)) (fi := fun _ => 0) (fl := fun _ => 0) hR (Nat.le_trans B.2.2.2.2.2.2.2.2.1 hS.1) (by
    show H1[H.size]? = some (vp_cell _ _)
    rw [vp_cell_i]; exact e1) z1 o1
  exact kk H.size hno (fun z hz => hR.choose_spec.2.2.2 z hz) p e s m args below meth c B H1 locs ls hl hR1 (hS.grow (by omega) o1)
theorem V_newC {n : Int32} {N : Nat} (hw : Cond.arrayClass .char ∈ TW) (hn : ¬ n < 0) (hN : n.toNatClampNeg = N) (hb : N * 2 ≤ 536870912) (hc : cells + 1 ≤ φ.2.1.cells ∧ slots + N ≤ φ.2.1.slots) (d : decode φ.1.2.1 pc = .ok (.newarray .char, 2))
    (kk : ∀ q, μ.1 q = none → (∀ z, μ.2.2.2 = some z → q = z) → V κ φ (cells + 1) (slots + N) (pc + 2) L (.ref q :: st) (va_up μ.1 q (some (.inl (.char, N, fun _ => none))), va_up μ.2.1 q (fun _ => 0), va_up μ.2.2.1 q (fun _ => 0), μ.2.2.2.map (· + 1))) : V κ φ cells slots pc L (.int n :: st) μ := by
  intro p e s m args below meth c B H locs ls hl hR hS
  refine va_newaK B.1 B.2.1 (atype := .char) (B.2.2.2.2.1 _ hw) rfl d rfl hn hN hb hc.1 hc.2 rfl fun H1 cA e1 z1 o1 hAr hNm => ?_
  have hcA : cA = κ.2.2.1 .char := Option.some.inj (hNm.symm.trans (Ev.arrC B.2.2.2.2.2.2.2.1))
  subst hcA
  obtain ⟨hno, hR1⟩ := Rep.push (kd := .inl (.char, N, fun _ => none)) (fi := fun _ => 0) (fl := fun _ => 0) hR (Nat.le_trans B.2.2.2.2.2.2.2.2.1 hS.1) (by
    show H1[H.size]? = some (vp_cell _ _)
    rw [vp_cell_i]; exact e1) z1 o1
  exact kk H.size hno (fun z hz => hR.choose_spec.2.2.2 z hz) p e s m args below meth c B H1 locs ls hl hR1 (hS.grow (by omega) o1)
theorem V_newL {n : Int32} {N : Nat} (hw : Cond.arrayClass .long ∈ TW) (hn : ¬ n < 0) (hN : n.toNatClampNeg = N) (hb : N * 8 ≤ 536870912) (hc : cells + 1 ≤ φ.2.1.cells ∧ slots + N ≤ φ.2.1.slots) (d : decode φ.1.2.1 pc = .ok (.newarray .long, 2))
    (kk : ∀ q, μ.1 q = none → (∀ z, μ.2.2.2 = some z → q = z) → V κ φ (cells + 1) (slots + N) (pc + 2) L (.ref q :: st) (va_up μ.1 q (some (.inl (.long, N, fun _ => none))), va_up μ.2.1 q (fun _ => 0), va_up μ.2.2.1 q (fun _ => 0), μ.2.2.2.map (· + 1))) : V κ φ cells slots pc L (.int n :: st) μ := by
  intro p e s m args below meth c B H locs ls hl hR hS
  refine va_newaK B.1 B.2.1 (atype := .long) (B.2.2.2.2.1 _ hw) rfl d rfl hn hN hb hc.1 hc.2 rfl fun H1 cA e1 z1 o1 hAr hNm => ?_
  have hcA : cA = κ.2.2.1 .long := Option.some.inj (hNm.symm.trans (Ev.arrL B.2.2.2.2.2.2.2.1))
  subst hcA
  obtain ⟨hno, hR1⟩ := Rep.push (kd := .inl (.long, N, fun _ => none)) (fi := fun _ => 0) (fl := fun _ => 0) hR (Nat.le_trans B.2.2.2.2.2.2.2.2.1 hS.1) (by
    show H1[H.size]? = some (vp_cell _ _)
    rw [vp_cell_l]; exact e1) z1 o1
  exact kk H.size hno (fun z hz => hR.choose_spec.2.2.2 z hz) p e s m args below meth c B H1 locs ls hl hR1 (hS.grow (by omega) o1)
/-- an object: its references are null, its numbers 0 -/
theorem V_new {C : String} {T : u_T} {N ci idx : Nat} {sl : Nat → Option Value} (hci : cls7[ci]? = some (C, T, N)) (hl1 : Cond.classLink φ.1.1.cls idx C ∈ TW) (hl2 : Cond.instantiable C N ∈ TW) (hl3 : Cond.initialized C ∈ TW) (hsl : ∀ k, k < N → ∀ ty, parseFieldDescriptor (T k).2.2.1 = some ty → defaultValue ty = slV sl (fun _ => 0) k) (hc : cells + 1 ≤ φ.2.1.cells ∧ slots + N ≤ φ.2.1.slots) (d : decode φ.1.2.1 pc = .ok (.new idx, 3))
    (kk : ∀ q, μ.1 q = none → (∀ z, μ.2.2.2 = some z → q = z) → V κ φ (cells + 1) (slots + N) (pc + 3) L (.ref q :: st) (va_up μ.1 q (some (.inr (ci, N, sl))), va_up μ.2.1 q (fun _ => 0), va_up μ.2.2.1 q (fun _ => 0), μ.2.2.2.map (· + 1))) : V κ φ cells slots pc L st μ := by
  intro p e s m args below meth c B H locs ls hl hR hS
  have hKn := B.2.2.2.2.2.2.2.1.2.1.1 ci _ hci
  obtain ⟨ty0, hty, hnm⟩ := (clsIn hci).2
  refine W.newcK B.1 B.2.1 B.2.2.2.1 (B.2.2.2.2.1 _ hl1) (B.2.2.2.2.1 _ hl2) (B.2.2.2.2.1 _ hl3) rfl d hc.1 hc.2 hKn.2.1 rfl fun H1 kC hkC e1 z1 o1 => ?_
  obtain ⟨hno, hR1⟩ := Rep.push (kd := .inr (ci, N, sl)) (fi := fun _ => 0) (fl := fun _ => 0) hR (Nat.le_trans B.2.2.2.2.2.2.2.2.1 hS.1) (by
    show ∃ r : vw_C, cls7[ci]? = some r ∧ t_OB H.size _ r.2.2 _ H1 (vp_V ((List.range N).map (slV sl (fun _ => 0))))
    refine ⟨_, hci, (u_born ty0 B.2.2.2.2.1 (clsIn hci).1 hKn hkC e1 hty).to (fun j hj => ?_)⟩
    rw [hsl j hj (ty0 j) (hty j hj)]
    unfold vp_V
    rw [List.getD_eq_getElem?_getD, sl_get hj]
    rfl) z1 o1
  exact kk H.size hno (fun z hz => hR.choose_spec.2.2.2 z hz) p e s m args below meth c B H1 locs ls hl hR1 (hS.grow (by omega) o1)
/-- the heap's size gets a name -/
theorem V.learn (hz : μ.2.2.2 = none) (k : ∀ n, (∀ a, n ≤ a → μ.1 a = none) → κ.2.2.2 ≤ n → V κ φ cells slots pc L st (μ.1, μ.2.1, μ.2.2.1, some n)) : V κ φ cells slots pc L st μ := by
  intro p e s m args below meth c B H locs ls hl hR hS
  refine k H.size (fun a ha => ?_) (Nat.le_trans B.2.2.2.2.2.2.2.2.1 hS.1) p e s m args below meth c B H locs ls hl ?_ hS
  · cases hc : μ.1 a with
    | none => rfl
    | some kd => exact absurd (hR.lt hc) (by omega)
  · obtain ⟨Ld, h1, h2, h3, h4⟩ := hR
    exact ⟨Ld, h1, h2, h3, fun n hn => by cases hn; rfl⟩
/-- .. and is forgotten, with cells that don't matter more -/
theorem V.drop {μ' : Mem} (hs : ∀ a kd, μ'.1 a = some kd → μ.1 a = some kd ∧ μ'.2.1 a = μ.2.1 a ∧ μ'.2.2.1 a = μ.2.2.1 a) (hz : μ'.2.2.2 = none) (k : V κ φ cells slots pc L st μ') : V κ φ cells slots pc L st μ := by
  intro p e s m args below meth c B H locs ls hl hR hS
  exact k p e s m args below meth c B H locs ls hl (hR.sub hs hz) hS
end Rows3
