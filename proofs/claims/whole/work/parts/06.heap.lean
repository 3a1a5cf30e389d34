/-! the rows that read and write cells -/
def u2 {α : Type} (f : Nat → Nat → α) (a i : Nat) (x : α) : Nat → Nat → α := fun b j => if b = a ∧ j = i then x else f b j
def z2 {α : Type} (f : Nat → Nat → α) (a : Nat) (x : α) : Nat → Nat → α := fun b j => if b = a then x else f b j
theorem u2_row {α : Type} (f : Nat → Nat → α) (a i : Nat) (x : α) : u2 f a i x a = (fun j => if j = i then x else f a j) := by
  funext j; simp [u2]
theorem u2_off {α : Type} (f : Nat → Nat → α) {a b : Nat} (i : Nat) (x : α) (h : b ≠ a) : u2 f a i x b = f b := by
  funext j; simp [u2, h]
theorem Rep.at {κ : K0} {μ : Mem} {H : Heap} {a : Nat} {kd : Kd} (h : Rep κ μ H) (hσ : μ.1 a = some kd) : ∃ (L : List Nat) (q : Nat), a ∈ L ∧ (∀ a, a ∈ L ↔ (μ.1 a).isSome = true) ∧ va_P κ.2.1 cls7 (va_pl L (cellM κ μ)) H ∧ va_D (kA κ) (va_pl L (cellM κ μ)) ∧ (va_pl L (cellM κ μ))[q]? = some (a, cellK κ.2.2.1 kd (μ.2.1 a) (μ.2.2.1 a)) ∧ cellM κ μ a = cellK κ.2.2.1 kd (μ.2.1 a) (μ.2.2.1 a) ∧ ∀ n, μ.2.2.2 = some n → H.size = n := by
  obtain ⟨L, h1, h2, h3, h4⟩ := h
  have ha : a ∈ L := (h1 a).mpr (by rw [hσ]; rfl)
  obtain ⟨q, hq⟩ := va_pl_get (X := []) (f := cellM κ μ) ha
  have e : cellM κ μ a = cellK κ.2.2.1 kd (μ.2.1 a) (μ.2.2.1 a) := by unfold cellM; rw [hσ]
  exact ⟨L, q, ha, h1, h2, h3, by rw [← e]; exact hq, e, h4⟩
/-- a cell of the world is changed -/
theorem Rep.put {κ : K0} {μ μ' : Mem} {H1 : Heap} {L : List Nat} {a q : Nat} {e0 e1 : va_E} (ha : a ∈ L) (hD : va_D (kA κ) (va_pl L (cellM κ μ))) (hq : (va_pl L (cellM κ μ))[q]? = some (a, e0)) (hc : cellM κ μ a = e0)
    (hL : ∀ a, a ∈ L ↔ (μ'.1 a).isSome = true) (hn : cellM κ μ' a = e1) (ho : ∀ b, b ≠ a → cellM κ μ' b = cellM κ μ b) (hz : ∀ n, μ'.2.2.2 = some n → H1.size = n)
    (hP1 : va_P κ.2.1 cls7 ((va_pl L (cellM κ μ)).set q (a, e1)) H1) (hD1 : va_D (kA κ) ((va_pl L (cellM κ μ)).set q (a, e1))) : Rep κ μ' H1 := by
  have e2 : (va_pl L (cellM κ μ)).set q (a, e1) = va_pl L (cellM κ μ') := by
    have h1 := va_pl_set (X := []) (e := e1) hD ha (by rw [List.nil_append, hc]; exact hq)
    rw [List.nil_append, List.nil_append] at h1
    rw [h1]
    refine va_pl_congr (fun b => ?_)
    by_cases hb : b = a
    · rw [hb, va_up_self, hn]
    · rw [va_up_ne _ _ hb, ho b hb]
  rw [e2] at hP1 hD1
  exact ⟨L, hL, hP1, hD1, hz⟩
theorem Rep.less {κ : K0} {μ : Mem} {H : Heap} (h : Rep κ μ H) : Rep κ (μ.1, μ.2.1, μ.2.2.1, none) H := by
  obtain ⟨L, h1, h2, h3, h4⟩ := h
  exact ⟨L, h1, h2, h3, fun n hn => by cases hn⟩
/-- the heap has grown -/
theorem Rep.grow {κ : K0} {μ : Mem} {H H1 : Heap} (h : Rep κ μ H) (hz : μ.2.2.2 = none) (ho : ∀ q : Nat, q < H.size → H1[q]? = H[q]?) : Rep κ μ H1 := by
  obtain ⟨L, h1, h2, h3, h4⟩ := h
  exact ⟨L, h1, h2.kept (fun k q hk => ho q.1 (h2 k q hk).lt), h3, fun n hn => by rw [hz] at hn; cases hn⟩
theorem Rep.lt {κ : K0} {μ : Mem} {H : Heap} {a : Nat} {kd : Kd} (h : Rep κ μ H) (hσ : μ.1 a = some kd) : a < H.size := by
  obtain ⟨L, q, ha, h1, h2, h3, hq, -⟩ := h.at hσ
  exact (h2 q _ hq).lt
/-- a world that knows less of it -/
theorem Rep.sub {κ : K0} {μ μ' : Mem} {H : Heap} (h : Rep κ μ H) (hs : ∀ a kd, μ'.1 a = some kd → μ.1 a = some kd ∧ μ'.2.1 a = μ.2.1 a ∧ μ'.2.2.1 a = μ.2.2.1 a) (hz : μ'.2.2.2 = none) : Rep κ μ' H := by
  obtain ⟨L, h1, h2, h3, h4⟩ := h
  have key : ∀ a, a ∈ L.filter (fun a => (μ'.1 a).isSome) ↔ (μ'.1 a).isSome = true := by
    intro a
    rw [List.mem_filter]
    constructor
    · exact fun z => z.2
    · intro z
      obtain ⟨kd, hk⟩ := Option.isSome_iff_exists.mp z
      exact ⟨(h1 a).mpr (by rw [(hs a kd hk).1]; rfl), z⟩
  have hc : ∀ a, (μ'.1 a).isSome = true → cellM κ μ' a = cellM κ μ a := by
    intro a z
    obtain ⟨kd, hk⟩ := Option.isSome_iff_exists.mp z
    obtain ⟨e1, e2, e3⟩ := hs a kd hk
    unfold cellM
    rw [hk, e1, e2, e3]
  have e : va_pl (L.filter (fun a => (μ'.1 a).isSome)) (cellM κ μ') = (va_pl L (cellM κ μ)).filter (fun q => (μ'.1 q.1).isSome) := by
    unfold va_pl
    rw [List.filter_map]
    refine List.map_congr_left (fun a ha => ?_)
    rw [hc a (List.mem_filter.mp ha).2]
  have hsub : ∀ (q : Nat × va_E), q ∈ (va_pl L (cellM κ μ)).filter (fun q => (μ'.1 q.1).isSome) → q ∈ va_pl L (cellM κ μ) := fun q hq => (List.mem_filter.mp hq).1
  have hnd : ((va_pl L (cellM κ μ)).map (·.1)).Pairwise (· ≠ ·) := by
    rw [List.pairwise_iff_getElem]
    intro i j hi hj hij he
    rw [List.length_map] at hi hj
    rw [List.getElem_map, List.getElem_map] at he
    have := h3.1 i j _ _ (List.getElem?_eq_getElem hi) (List.getElem?_eq_getElem hj) he
    omega
  refine ⟨_, key, ?_, ?_, fun n hn => by rw [hz] at hn; cases hn⟩
  · rw [e]
    intro k q hk
    obtain ⟨i, hi⟩ := List.getElem?_of_mem (hsub q (List.mem_of_getElem? hk))
    exact h2 i q hi
  · rw [e]
    refine ⟨fun i j x y hi hj hxy => ?_, fun k q hk => ?_⟩
    · have hnd2 : (((va_pl L (cellM κ μ)).filter (fun q => (μ'.1 q.1).isSome)).map (·.1)).Pairwise (· ≠ ·) := hnd.sublist (List.filter_sublist.map _)
      rw [List.pairwise_iff_getElem] at hnd2
      obtain ⟨hi', ei⟩ := List.getElem?_eq_some_iff.mp hi
      obtain ⟨hj', ej⟩ := List.getElem?_eq_some_iff.mp hj
      rcases Nat.lt_trichotomy i j with z | z | z
      · exact absurd (by rw [List.getElem_map, List.getElem_map, ei, ej]; exact hxy) (hnd2 i j (by rw [List.length_map]; exact hi') (by rw [List.length_map]; exact hj') z)
      · exact z
      · exact absurd (by rw [List.getElem_map, List.getElem_map, ei, ej]; exact hxy.symm) (hnd2 j i (by rw [List.length_map]; exact hj') (by rw [List.length_map]; exact hi') z)
    · obtain ⟨i, hi⟩ := List.getElem?_of_mem (hsub q (List.mem_of_getElem? hk))
      exact h3.2 i q hi
/-! fields -/
def FRow (own : String) (idx ci N k : Nat) : Prop := ∃ (C : String) (T : u_T), cls7[ci]? = some (C, T, N) ∧ k < N ∧ Cond.fieldLink own idx C (T k).2.1 (T k).2.2.1 ∈ TW ∧ (T k).1 = C
def FRowP (own : String) (idx ci N k : Nat) (ty : FieldType) (fin : Bool) : Prop := ∃ (C : String) (T : u_T), cls7[ci]? = some (C, T, N) ∧ k < N ∧ Cond.fieldLink own idx C (T k).2.1 (T k).2.2.1 ∈ TW ∧ (T k).1 = C ∧ (T k).2.2.2 = fin ∧ parseFieldDescriptor (T k).2.2.1 = some ty
def ClsIn (q : vw_C) : Prop := (∀ w ∈ u_ws q.1 q.2.1 q.2.2, w ∈ TW) ∧ ∃ ty : Nat → FieldType, (∀ k, k < q.2.2 → parseFieldDescriptor (q.2.1 k).2.2.1 = some (ty k)) ∧ ∀ a, a < q.2.2 → ∀ b, b < q.2.2 → a ≠ b → (q.2.1 a).2.1 ≠ (q.2.1 b).2.1
theorem TW_in {ws : List Cond} (h : ws.all (fun w => goodWord w) = true) (h2 : ∀ w ∈ ws, w ∈ lw_tbl) : ∀ w ∈ ws, w ∈ TW := fun w hw => List.mem_filter.mpr ⟨h2 w hw, List.all_eq_true.mp h w hw⟩
set_option maxRecDepth 20000 in
theorem clsIn0 : ClsIn (RX0, TX0, 13) := ⟨TW_in (by decide +kernel) (by decide +kernel), tyX0, tyX0_ok, nmX0⟩
set_option maxRecDepth 20000 in
theorem clsIn1 : ClsIn (RX1, TX1, 5) := ⟨TW_in (by decide +kernel) (by decide +kernel), tyX1, tyX1_ok, nmX1⟩
set_option maxRecDepth 20000 in
theorem clsIn2 : ClsIn (RX2, TX2, 3) := ⟨TW_in (by decide +kernel) (by decide +kernel), tyX2, tyX2_ok, nmX2⟩
set_option maxRecDepth 20000 in
theorem clsIn3 : ClsIn (RX3, TX3, 7) := ⟨TW_in (by decide +kernel) (by decide +kernel), tyX3, tyX3_ok, nmX3⟩
set_option maxRecDepth 20000 in
theorem clsIn4 : ClsIn (RX4, TX4, 4) := ⟨TW_in (by decide +kernel) (by decide +kernel), tyX4, tyX4_ok, nmX4⟩
set_option maxRecDepth 20000 in
theorem clsIn5 : ClsIn (RX5, TX5, 10) := ⟨TW_in (by decide +kernel) (by decide +kernel), tyX5, tyX5_ok, nmX5⟩
set_option maxRecDepth 20000 in
theorem clsIn6 : ClsIn (RX6, TX6, 36) := ⟨TW_in (by decide +kernel) (by decide +kernel), tyX6, tyX6_ok, nmX6⟩
theorem clsIn {ci : Nat} {q : vw_C} (h : cls7[ci]? = some q) : ClsIn q := by
  match ci, h with
  | 0, h => cases h; exact clsIn0
  | 1, h => cases h; exact clsIn1
  | 2, h => cases h; exact clsIn2
  | 3, h => cases h; exact clsIn3
  | 4, h => cases h; exact clsIn4
  | 5, h => cases h; exact clsIn5
  | 6, h => cases h; exact clsIn6
  | k + 7, h => simp [cls7] at h
theorem sl_get {N k : Nat} (hk : k < N) (sl : Nat → Option Value) (fi : Nat → Int32) : ((List.range N).map (slV sl fi))[k]? = some (slV sl fi k) := by
  rw [List.getElem?_map, List.getElem?_range hk]; rfl
section Rows2
variable {κ : K0} {φ : Fr} {cells slots pc : Nat} {L : List (Option Value)} {st : List Value} {μ : Mem}
theorem V_get {a idx ci N k : Nat} {sl : Nat → Option Value} {v : Value} (fr : FRow φ.1.1.cls idx ci N k) (hσ : μ.1 a = some (.inr (ci, N, sl))) (hv : slV sl (μ.2.1 a) k = v) (d : decode φ.1.2.1 pc = .ok (.getfield idx, 3)) (kk : V κ φ cells slots (pc + 3) L (v :: st) μ) : V κ φ cells slots pc L (.ref a :: st) μ := by
  intro p e s m args below meth c B H locs ls hl hR hS
  obtain ⟨C, T, hc, hk, hw, hT⟩ := fr
  obtain ⟨Ld, q, ha, h1, h2, h3, hq, -⟩ := hR.at hσ
  refine va_get B.1 B.2.1 (C := C) (T := T) (N := N) (ref := C) B.2.2.2.2.1 (clsIn hc).1 B.2.2.2.1 B.2.2.2.2.2.2.2.1.2.1 h2 q hq hc k hk (B.2.2.2.2.1 _ hw) (fun x hx => by rw [hT] at hx; exact hx) (v := v) ?_ d (kk p e s m args below meth c B H locs ls hl hR hS)
  rw [← hv]; exact sl_get hk sl (μ.2.1 a)
theorem V_getI {a idx ci N k : Nat} {sl : Nat → Option Value} (fr : FRow φ.1.1.cls idx ci N k) (hσ : μ.1 a = some (.inr (ci, N, sl))) (hv : sl k = none) (d : decode φ.1.2.1 pc = .ok (.getfield idx, 3)) (kk : V κ φ cells slots (pc + 3) L (.int (μ.2.1 a k) :: st) μ) : V κ φ cells slots pc L (.ref a :: st) μ :=
  V_get fr hσ (by unfold slV; rw [hv]; rfl) d kk
theorem V_getR {a idx ci N k : Nat} {sl : Nat → Option Value} {v : Value} (fr : FRow φ.1.1.cls idx ci N k) (hσ : μ.1 a = some (.inr (ci, N, sl))) (hv : sl k = some v) (d : decode φ.1.2.1 pc = .ok (.getfield idx, 3)) (kk : V κ φ cells slots (pc + 3) L (v :: st) μ) : V κ φ cells slots pc L (.ref a :: st) μ :=
  V_get fr hσ (by unfold slV; rw [hv]; rfl) d kk
theorem sl_set {N k : Nat} {sl sl' : Nat → Option Value} {fi fi' : Nat → Int32} {v : Value} (h1 : slV sl' fi' k = v) (h2 : ∀ j, j ≠ k → slV sl' fi' j = slV sl fi j) : ((List.range N).map (slV sl fi)).set k v = (List.range N).map (slV sl' fi') := by
  apply List.ext_getElem?
  intro j
  by_cases hj : j = k
  · subst hj
    by_cases hN : j < N
    · rw [List.getElem?_set_self (by simpa using hN), sl_get hN, h1]
    · rw [List.getElem?_eq_none (by simp; omega), List.getElem?_eq_none (by simp; omega)]
  · rw [List.getElem?_set_ne (Ne.symm hj)]
    by_cases hN : j < N
    · rw [sl_get hN, sl_get hN, h2 j hj]
    · rw [List.getElem?_eq_none (by simp; omega), List.getElem?_eq_none (by simp; omega)]
theorem cellM_off {μ μ' : Mem} {b : Nat} (h1 : μ'.1 b = μ.1 b) (h2 : μ'.2.1 b = μ.2.1 b) (h3 : μ'.2.2.1 b = μ.2.2.1 b) : cellM κ μ' b = cellM κ μ b := by
  unfold cellM; rw [h1, h2, h3]
theorem Rep.set {μ μ' : Mem} {H H1 : Heap} {a : Nat} {kd : Kd} (h : Rep κ μ H) (hσ : μ.1 a = some kd) (hs : ∀ b, (μ'.1 b).isSome = (μ.1 b).isSome) (hn : va_at κ.2.1 cls7 (a, cellM κ μ' a) H1) (ho : ∀ b, b ≠ a → cellM κ μ' b = cellM κ μ b) (z : H1.size = H.size) (oq : ∀ q : Nat, q ≠ a → H1[q]? = H[q]?) (hz : μ'.2.2.2 = μ.2.2.2) : Rep κ μ' H1 ∧ kA κ a := by
  obtain ⟨Ld, h1, h2, h3, h4⟩ := h
  have haL : a ∈ Ld := (h1 a).mpr (by rw [hσ]; rfl)
  refine ⟨⟨Ld, fun b => by rw [hs b]; exact h1 b, ?_, ?_, fun n hn => by rw [z]; exact h4 n (by rw [← hz]; exact hn)⟩, ?_⟩
  · intro k q hk
    simp only [va_pl, List.getElem?_map] at hk
    cases hb : Ld[k]? with
    | none => rw [hb] at hk; cases hk
    | some b =>
      rw [hb] at hk
      cases hk
      by_cases hba : b = a
      · subst hba; exact hn
      · show va_at _ _ (b, cellM κ μ' b) H1
        rw [ho b hba]
        exact (h2 k (b, cellM κ μ b) (by simp only [va_pl, List.getElem?_map, hb]; rfl)).kept (oq b hba)
  · have key : ∀ (k : Nat) (q : Nat × va_E), (va_pl Ld (cellM κ μ'))[k]? = some q → (va_pl Ld (cellM κ μ))[k]? = some (q.1, cellM κ μ q.1) := by
      intro k q hk
      simp only [va_pl, List.getElem?_map] at hk ⊢
      cases hb : Ld[k]? with
      | none => rw [hb] at hk; cases hk
      | some b => rw [hb] at hk; cases hk; rfl
    exact ⟨fun i j x y hi hj hxy => h3.1 i j _ _ (key i x hi) (key j y hj) hxy, fun k q hk => h3.2 k (q.1, cellM κ μ q.1) (key k q hk)⟩
  · obtain ⟨q, hq⟩ := va_pl_get (X := []) (f := cellM κ μ) haL
    exact h3.2 q _ hq
/-- what a putfield does, with the heap's size -/
theorem va_putZ {p : Program} {l : Launch} {e : Env} {R : Room} {s : State} {m : MethodId} {args : Array Value} {below : List Frame} {meth : Method} {c : Code} {H : Heap} {locs : List Loc} {cells slots : Nat} {Q : State → Prop} {cc : ByteArray} {pc : Nat} {ls : Array Slot} {rest : List Value} {D : va_G} {cl : List vw_C} {a : Nat} {tys : List (ClassId × FieldType)} (hexec : p.tables.exec = Jvm.exec) (hb : c.code = cc) {own ref C : String} {T : u_T} {N ci index : Nat} {Ts : List Cond} (hts : ∀ w ∈ Ts, w.before args s = true) (hin : ∀ w ∈ u_ws C T N, w ∈ Ts) (ty0 : Nat → FieldType) (hty : ∀ k, k < N → parseFieldDescriptor (T k).2.2.1 = some (ty0 k)) (hnm : ∀ a, a < N → ∀ b, b < N → a ≠ b → (T a).2.1 ≠ (T b).2.1) (hown : s.vm.findClass own = some m.cls) (hK : va_K D cl tys s) {fs : List Value} (hat : va_at D cl (a, .inr (ci, fs)) H) (hc : cl[ci]? = some (C, T, N)) (k : Nat) (hk : k < N) (hlink : (Cond.fieldLink own index ref (T k).2.1 (T k).2.2.1).before args s = true) (hsame : ∀ x, s.fieldFound? (T k).1 (T k).2.1 (T k).2.2.1 = some x → s.fieldFound? ref (T k).2.1 (T k).2.2.1 = some x) (hfin : (T k).2.2.2 = false ∨ ((T k).2.2.2 = true ∧ meth.name = "<init>" ∧ (T k).1 = own)) {ty : FieldType} {v : Value} (hd : parseFieldDescriptor (T k).2.2.1 = some ty) (hn : narrow ty v = v) (hfit : fits ty v = true) (hl : k < fs.length)
    (hdg : decode cc pc = .ok (.putfield index, 3)) (kk : ∀ (H1 : Heap) (i : Nat), va_at D cl (a, .inr (ci, fs.set k v)) H1 → H1.size = H.size → (∀ q : Nat, q ≠ a → H1[q]? = H[q]?) → W p l e R s m args below meth c H1 (locs ++ [⟨a, i⟩]) cells slots Q (F0 m (pc + 3) ls rest)) : W p l e R s m args below meth c H locs cells slots Q (F0 m pc ls (v :: .ref a :: rest)) := by
  have hap := va_apart (own := own) hts hin ty0 hty hnm hK hc
  obtain ⟨r, h1, cell, q1, q2, q3, q4⟩ := hat
  have hr : r = (C, T, N) := Option.some.inj (h1.symm.trans hc)
  subst hr
  obtain ⟨hS, hfc, kC, hkC, hkind⟩ := hK.1 ci _ hc
  obtain ⟨cf, kf, fi, f, hi, hsl⟩ := hS k hk
  have hlay := hts _ (hin _ (u_in_lay hk))
  unfold u_lay at hlay
  have hst := (u_facts hfc hkC (u_lays hts hin hk) hi).1
  rcases hfin with hfin | ⟨hfin, hin2, hdecl⟩
  · rw [if_neg (by rw [hfin]; decide)] at hlay
    have h6 := u_store hfc hkC hkind hlay hi hd hn hfit
    refine W.putK hexec hb (f := f) ⟨hown, hlink, ⟨_, _, _, hsame _ hi⟩, hst⟩ (by rw [q2]; exact h6) q1 q3 (by rw [hsl]; exact k2_hasslot (q4 k hk)) rfl rfl hdg fun H' e1 e2 e3 => ?_
    rw [hsl] at e1 ⊢
    exact kk H' _ ⟨_, hc, t_OB.to (V := updV (vp_V fs) k v) ⟨_, e1, q2, q3, t_set q4 hap hk v⟩ (fun j _ => vp_updV_set hl v j)⟩ e2 e3
  · rw [if_pos hfin] at hlay
    have hcf : m.cls = cf := by
      obtain ⟨_, _, c', _, _, _, -, -, hf', -, -, -, hown2, -⟩ := Cond.laysFinal_spec hlay
      have e1 : c' = cf := by have := hi.symm.trans hf'; simp at this; exact this.1.symm
      rw [hdecl] at hown2
      rw [← e1]; exact Option.some.inj (hown.symm.trans hown2)
    have h6 := u_fits hfc hkC hkind (Or.inr hlay) hi hd hn hfit
    refine W.putFinK hexec hb hown hlink (hsame _ hi) hst hcf hin2 (by rw [q2]; exact h6) q1 q3 (by rw [hsl]; exact k2_hasslot (q4 k hk)) rfl rfl hdg fun H' e1 e2 e3 => ?_
    rw [hsl] at e1 ⊢
    exact kk H' _ ⟨_, hc, t_OB.to (V := updV (vp_V fs) k v) ⟨_, e1, q2, q3, t_set q4 hap hk v⟩ (fun j _ => vp_updV_set hl v j)⟩ e2 e3
theorem V_put {a idx ci N k : Nat} {sl sl' : Nat → Option Value} {fi' : Nat → Int32} {v : Value} {ty : FieldType} {fin : Bool} (fr : FRowP φ.1.1.cls idx ci N k ty fin) (hi : fin = false ∨ φ.1.1.name = "<init>" ∧ ∃ T, cls7[ci]? = some (φ.1.1.cls, T, N)) (hn : narrow ty v = v) (hf : fits ty v = true) (hσ : μ.1 a = some (.inr (ci, N, sl))) (h1 : slV sl' fi' k = v) (h2 : ∀ j, j ≠ k → slV sl' fi' j = slV sl (μ.2.1 a) j) (d : decode φ.1.2.1 pc = .ok (.putfield idx, 3)) (kk : V κ φ cells slots (pc + 3) L st (va_up μ.1 a (some (.inr (ci, N, sl'))), va_up μ.2.1 a fi', μ.2.2)) : V κ φ cells slots pc L (v :: .ref a :: st) μ := by
  intro p e s m args below meth c B H locs ls hl hR hS
  obtain ⟨C, T, hc, hk, hw, hT, hfin, hd⟩ := fr
  obtain ⟨ty0, hty, hnm⟩ := (clsIn hc).2
  obtain ⟨Ld, q, ha, g1, g2, g3, hq, he, hz⟩ := hR.at hσ
  have hat := g2 q _ hq
  refine va_putZ B.1 B.2.1 (C := C) (T := T) (N := N) (ref := C) B.2.2.2.2.1 (clsIn hc).1 ty0 hty hnm B.2.2.2.1 B.2.2.2.2.2.2.2.1.2.1 hat hc k hk (B.2.2.2.2.1 _ hw) (fun z hz => by rw [hT] at hz; exact hz) ?_ hd hn hf (by simpa using hk) d (fun H1 i hP1 z oq => ?_)
  · rcases hi with hi | ⟨hi, T2, hi2⟩
    · exact Or.inl (hfin.trans hi)
    · cases hb : fin with
      | false => exact Or.inl (hfin.trans hb)
      | true =>
        refine Or.inr ⟨hfin.trans hb, B.2.2.2.2.2.2.2.2.2.2.1.trans hi, ?_⟩
        rw [hT]
        have := hc.symm.trans hi2
        simp only [Option.some.injEq, Prod.mk.injEq] at this
        exact this.1
  · have e1 : cellM κ (va_up μ.1 a (some (.inr (ci, N, sl'))), va_up μ.2.1 a fi', μ.2.2) a = .inr (ci, ((List.range N).map (slV sl (μ.2.1 a))).set k v) := by
      unfold cellM
      simp only [va_up_self]
      unfold cellK
      rw [sl_set h1 h2]
    obtain ⟨hR1, haA⟩ := Rep.set (μ' := (va_up μ.1 a (some (.inr (ci, N, sl'))), va_up μ.2.1 a fi', μ.2.2)) hR hσ (fun b => by
        by_cases hb : b = a
        · subst hb; rw [hσ]; simp [va_up_self]
        · simp [va_up_ne _ _ hb]) (by rw [e1]; exact hP1) (fun b hb => cellM_off (va_up_ne _ _ hb) (va_up_ne _ _ hb) rfl) z oq rfl
    exact kk p e s m args below meth c B H1 _ ls hl hR1 (hS.put z oq haA)
theorem V_putI {a idx ci N k : Nat} {sl : Nat → Option Value} {x : Int32} {ty : FieldType} (fr : FRowP φ.1.1.cls idx ci N k ty false) (hn : narrow ty (.int x) = .int x) (hf : fits ty (.int x) = true) (hσ : μ.1 a = some (.inr (ci, N, sl))) (hv : sl k = none) (d : decode φ.1.2.1 pc = .ok (.putfield idx, 3)) (kk : V κ φ cells slots (pc + 3) L st (μ.1, u2 μ.2.1 a k x, μ.2.2)) : V κ φ cells slots pc L (.int x :: .ref a :: st) μ := by
  refine V_put (sl' := sl) (fi' := u2 μ.2.1 a k x a) fr (Or.inl rfl) hn hf hσ (by unfold slV; rw [hv]; simp [u2]) (fun j hj => by unfold slV; simp [u2, hj]) d ?_
  refine V.cM kk ?_
  rw [show va_up μ.1 a (some (.inr (ci, N, sl))) = μ.1 from funext fun b => by
    by_cases hb : b = a
    · subst hb; rw [va_up_self, hσ]
    · rw [va_up_ne _ _ hb], show va_up μ.2.1 a (u2 μ.2.1 a k x a) = u2 μ.2.1 a k x from funext fun b => by
    by_cases hb : b = a
    · subst hb; rw [va_up_self]
    · rw [va_up_ne _ _ hb, u2_off _ _ _ hb]]
end Rows2
