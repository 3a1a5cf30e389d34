/-! what the Statement gives of the start; the law from its entry -/
theorem TW_tbl {w : Cond} (h : w ∈ TW) : w ∈ lw_tbl := (List.mem_filter.mp h).1
def flW : List Cond := [.isRef (.static "java/lang/Throwable" "UNASSIGNED_STACK" "[Ljava/lang/StackTraceElement;"), .isRef (.static "java/lang/Throwable" "SUPPRESSED_SENTINEL" "Ljava/util/List;")] ++ ncL.map (fun q => .not (.castable q.1 q.2))
set_option maxRecDepth 100000 in
theorem flW_in : ∀ w ∈ flW, w ∈ flatC (Jvm.Cond.and given_1 narrow_1) := by decide +kernel
set_option maxRecDepth 100000 in
theorem nwL_in : ∀ w ∈ nwL, w ∈ lw_tbl := by decide +kernel
def stW : List Cond := strL.map (fun q => .stringRef RX5 q.1 q.2)
set_option maxRecDepth 100000 in
theorem stW_in : ∀ w ∈ stW, w ∈ lw_tbl := by decide +kernel
def otW : List Cond := [.arrayOver (.object RX1), .arrayOver (.array .int), .laysStatic "java/lang/Throwable" "UNASSIGNED_STACK" "[Ljava/lang/StackTraceElement;", .laysStatic "java/lang/Throwable" "SUPPRESSED_SENTINEL" "Ljava/util/List;", .initialized "java/lang/Throwable"]
set_option maxRecDepth 100000 in
theorem otW_in : ∀ w ∈ otW, w ∈ lw_tbl := by decide +kernel
theorem tab_of (l : List ExceptionTableEntry) : l = tableOf (l.map (fun e => (e.1, e.2, e.3, e.4))) := by
  induction l with
  | nil => rfl
  | cons a t ih =>
    show a :: t = _ :: tableOf (t.map (fun e => (e.1, e.2, e.3, e.4)))
    rw [← ih]
set_option maxHeartbeats 1000000 in
theorem Ev_start {p : Program} {s : State} {m : MethodId} {meth : Method} {c : Code} (l : Launch) (hflags : l.flags = flags0) {b L : Nat} {xs : Nat → Int32} (C0 : lw_At p s m meth c b L xs) : ∃ (D : va_G) (dA : FieldType → ClassId), Ev (l, D, dA, s.heap.size) s s.heap := by
  obtain ⟨hx, hb, hr, hml, hown, hts, hX, hbl, hlocks, hgv⟩ := C0
  have hfl := flat_of_before _ hgv
  obtain ⟨c0, i0, k0⟩ := u_known (C := RX0) (T := TX0) (N := 13) (n := 13) hts (fun w hw => TW_tbl (clsIn0.1 w hw)) (hts _ (TW_tbl insX0))
  obtain ⟨c1, i1, k1⟩ := u_known (C := RX1) (T := TX1) (N := 5) (n := 5) hts (fun w hw => TW_tbl (clsIn1.1 w hw)) (hts _ (TW_tbl insX1))
  obtain ⟨c2, i2, k2⟩ := u_known (C := RX2) (T := TX2) (N := 3) (n := 3) hts (fun w hw => TW_tbl (clsIn2.1 w hw)) (hts _ (TW_tbl insX2))
  obtain ⟨c3, i3, k3⟩ := u_known (C := RX3) (T := TX3) (N := 7) (n := 7) hts (fun w hw => TW_tbl (clsIn3.1 w hw)) (hts _ (TW_tbl insX3))
  obtain ⟨c4, i4, k4⟩ := u_known (C := RX4) (T := TX4) (N := 4) (n := 4) hts (fun w hw => TW_tbl (clsIn4.1 w hw)) (hts _ (TW_tbl insX4))
  obtain ⟨c5, i5, k5⟩ := u_known (C := RX5) (T := TX5) (N := 10) (n := 10) hts (fun w hw => TW_tbl (clsIn5.1 w hw)) (hts _ (TW_tbl insX5))
  obtain ⟨c6, i6, k6⟩ := u_known (C := RX6) (T := TX6) (N := 36) (n := 36) hts (fun w hw => TW_tbl (clsIn6.1 w hw)) (hts _ (TW_tbl insX6))
  obtain ⟨aI, kI, pI, fI, gI, hI⟩ := Cond.arrayClass_spec (hts _ (TW_tbl ac_int))
  obtain ⟨aC, kC, pC, fC, gC, hC⟩ := Cond.arrayClass_spec (hts _ (TW_tbl ac_char))
  obtain ⟨aL, kL, pL, fL, gL, hLl⟩ := Cond.arrayClass_spec (hts _ (TW_tbl ac_long))
  have w0 := hts (.arrayOver (.object RX1)) (otW_in _ (by decide +kernel))
  have w1 := hts (.arrayOver (.array .int)) (otW_in _ (by decide +kernel))
  obtain ⟨pG, aG, kG, g1, g2, g3, g4, g5⟩ := Cond.arrayOver_spec w0
  obtain ⟨pA, aA, kA', a1, a2, a3, a4, a5⟩ := va_AOA.spec (va_AOA.of w1)
  refine ⟨(fun k => match k with | 0 => c0 | 1 => c1 | 2 => c2 | 3 => c3 | 4 => c4 | 5 => c5 | _ => c6, fun k => match k with | 0 => i0 | 1 => i1 | 2 => i2 | 3 => i3 | 4 => i4 | 5 => i5 | _ => i6), (fun t => match t with | .int => aI | .char => aC | .long => aL | .object _ => aG | _ => aA), ?_, ⟨fun k q hq => ?_, fun k q hq => ?_⟩, fun w hw => ?_, fun q hq => ?_, fun q hq => ?_, va_AO.of w0, va_AOA.of w1, ?_, ?_⟩
  · show l.stackTraces = false
    unfold Launch.stackTraces
    rw [hflags]
    decide +kernel
  · match k, hq with
    | 0, hq => cases hq; exact k0
    | 1, hq => cases hq; exact k1
    | 2, hq => cases hq; exact k2
    | 3, hq => cases hq; exact k3
    | 4, hq => cases hq; exact k4
    | 5, hq => cases hq; exact k5
    | 6, hq => cases hq; exact k6
    | k + 7, hq => cases hq
  · match k, hq with
    | 0, hq => cases hq; exact ⟨fun n z => ⟨(fun k h => by cases h), kI, gI, pI, hI⟩, fI⟩
    | 1, hq => cases hq; exact ⟨fun n z => ⟨(fun k h => by cases h), kC, gC, pC, hC⟩, fC⟩
    | 2, hq => cases hq; exact ⟨fun n z => ⟨(fun k h => by cases h), kL, gL, pL, hLl⟩, fL⟩
    | 3, hq => cases hq; exact ⟨fun n z => ⟨(fun k h => by cases h), kG, g3, pG, g4⟩, kG, pG, g3, g4, g1, g5⟩
    | 4, hq => cases hq; exact ⟨fun n z => ⟨(fun k h => by cases h), kA', a3, pA, a4⟩, a5⟩
    | k + 5, hq => cases hq
  · exact va_Nw.of (nw_tab (nwL_form w hw)) (hts w (nwL_in w hw))
  · have h1 := hts (.stringRef RX5 q.1 q.2) (stW_in _ (List.mem_map.mpr ⟨q, hq, rfl⟩))
    obtain ⟨-, -, -, sa, -, -, -, -, -, hev⟩ := Cond.stringRef_spec k5.2.1 h1
    exact ⟨sa, vk_R.of h1 hev⟩
  · exact va_Nc.of (hfl (.not (.castable q.1 q.2)) (flW_in _ (List.mem_append_right _ (List.mem_map.mpr ⟨q, hq, rfl⟩))))
  · exact vx_Zqof (hts _ (otW_in _ (by decide +kernel))) (hts _ (otW_in _ (by decide +kernel))) (hfl _ (flW_in _ (by decide +kernel))) (fun a h1 h2 => absurd (show s.heap.size ≤ a from h2) (by omega))
  · exact vx_Zqof (hts _ (otW_in _ (by decide +kernel))) (hts _ (otW_in _ (by decide +kernel))) (hfl _ (flW_in _ (by decide +kernel))) (fun a h1 h2 => absurd (show s.heap.size ≤ a from h2) (by omega))
theorem whole_start {p : Program} {e : Env} {s : State} {m : MethodId} {below : List Frame} {meth : Method} {c : Code} (l : Launch) (hflags : l.flags = flags0) {b L : Nat} {xs : Nat → Int32} (hL : L ≤ 2048) (C0 : lw_At p s m meth c b L xs) : W p l e room_1 s m #[Value.ref b] below meth c s.heap [] 0 0 (lw_Z below #[Value.ref b] s) (entryFrame m ([Value.ref b] : List Value).toArray 9) := by
  obtain ⟨D, dA, hE⟩ := Ev_start l hflags C0
  obtain ⟨hx, hb, hr, hml, hown, hts, hX, hbl, hlocks, hgv⟩ := C0
  rw [lg_entry_eq]
  exact law_begin (κ := (l, D, dA, s.heap.size)) (b := b) (Ln := L) (x0 := s.heap.size) (xs := xs) (nm := meth.name) (hh := c.exceptionTable.toList.map (fun e => (e.1, e.2, e.3, e.4))) hL p e s m #[Value.ref b] below meth c ⟨hx, hb, hml, hown, fun w hw => hts w (TW_tbl hw), hr, hlocks, hE, Nat.le_refl _, tab_of _, rfl, hX, hbl, rfl, rfl⟩ s.heap [] _ (lOK.entry (by simp [Value.category]) (Nat.le_of_ble_eq_true rfl)) ⟨[], fun a => ⟨(fun h => by cases h), (fun h => by cases h)⟩, (fun k q h => by cases h), ⟨(fun i j p q h => by cases h), (fun k q h => by cases h)⟩, fun n hn => Option.some.inj hn⟩ va_S.rf
