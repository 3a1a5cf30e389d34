/-! graphs that are well formed; SsaRepair: the calls that change -/
section Wfs
variable {G : Gr}
theorem va_up_cases {α : Type} {P : Nat → α → Prop} {f : Nat → α} {b : Nat} {l : α} (h1 : ∀ k, k ≠ b → P k (f k)) (h2 : P b l) : ∀ k, P k (va_up f b l k) := fun k => by
  by_cases e : k = b
  · subst e; rw [va_up_self]; exact h2
  · rw [va_up_ne _ _ e]; exact h1 k e
theorem Wf.upA (hw : Wf G) {b : Nat} {la : List Nat} (hb : b < G.1) (h6 : la.length ≤ 6) (hl : ∀ a ∈ la, a < 4 ∨ (10 ≤ a ∧ a < 14)) : Wf (G.1, va_up G.2.1 b la, G.2.2) :=
  ⟨hw.1, hw.2.1, va_up_cases (P := fun _ l => l.length ≤ 6 ∧ ∀ a ∈ l, a < 4 ∨ (10 ≤ a ∧ a < 14)) (fun k _ => hw.2.2.1 k) ⟨h6, hl⟩, hw.2.2.2.1, fun k hk => ⟨by
    have hk' : G.1 ≤ k := hk
    show va_up G.2.1 b la k = []
    rw [va_up_ne _ _ (by omega)]; exact (hw.2.2.2.2 k hk').1, (hw.2.2.2.2 k hk).2⟩⟩
theorem Wf.upE (hw : Wf G) {b : Nat} {le : List Nat} (hb : b < G.1) (h3 : le.length ≤ 3) (hl : ∀ t ∈ le, 1 ≤ t ∧ t < G.1) (hn : le.Nodup) : Wf (G.1, G.2.1, va_up G.2.2 b le) :=
  ⟨hw.1, hw.2.1, hw.2.2.1, va_up_cases (P := fun _ l => l.length ≤ 3 ∧ (∀ t ∈ l, 1 ≤ t ∧ t < G.1) ∧ l.Nodup) (fun k _ => hw.2.2.2.1 k) ⟨h3, hl, hn⟩, fun k hk => ⟨(hw.2.2.2.2 k hk).1, by
    have hk' : G.1 ≤ k := hk
    show va_up G.2.2 b le k = []
    rw [va_up_ne _ _ (by omega)]; exact (hw.2.2.2.2 k hk').2⟩⟩
theorem Wf.empty {n : Nat} (h1 : 1 ≤ n) (h2 : n ≤ 14) : Wf (n, fun _ => [], fun _ => []) :=
  ⟨h1, h2, fun _ => ⟨Nat.zero_le _, fun a h => by cases h⟩, fun _ => ⟨Nat.zero_le _, fun a h => (by cases h), List.nodup_nil⟩, fun _ _ => ⟨rfl, rfl⟩⟩
theorem Wf.grow (hw : Wf G) (h : G.1 < 14) : Wf (G.1 + 1, G.2.1, G.2.2) :=
  ⟨by show 1 ≤ G.1 + 1; omega, h, hw.2.2.1, fun b => ⟨(hw.2.2.2.1 b).1, fun t ht => by have := (hw.2.2.2.1 b).2.1 t ht; show 1 ≤ t ∧ t < G.1 + 1; omega, (hw.2.2.2.1 b).2.2⟩, fun b hb => hw.2.2.2.2 b (by have hb' : G.1 + 1 ≤ b := hb; omega)⟩
theorem eraseIdx_mem' {l : List Nat} {i a : Nat} (h : a ∈ l.eraseIdx i) : a ∈ l := List.mem_of_mem_eraseIdx h
theorem Wf.dropA (hw : Wf G) {b i : Nat} (hb : b < G.1) : Wf (G.1, va_up G.2.1 b ((G.2.1 b).eraseIdx i), G.2.2) :=
  hw.upA hb (Nat.le_trans (List.length_eraseIdx_le _ _) (hw.2.2.1 b).1) (fun a ha => (hw.2.2.1 b).2 a (eraseIdx_mem' ha))
theorem Wf.dropE (hw : Wf G) {b i : Nat} (hb : b < G.1) : Wf (G.1, G.2.1, va_up G.2.2 b ((G.2.2 b).eraseIdx i)) :=
  hw.upE hb (Nat.le_trans (List.length_eraseIdx_le _ _) (hw.2.2.2.1 b).1) (fun a ha => (hw.2.2.2.1 b).2.1 a (eraseIdx_mem' ha)) ((hw.2.2.2.1 b).2.2.sublist (List.eraseIdx_sublist _ _))
theorem Wf.addE (hw : Wf G) {b t : Nat} (hb : b < G.1) (h3 : (G.2.2 b).length < 3) (h1 : 1 ≤ t) (ht : t < G.1) (hn : ¬ t ∈ G.2.2 b) : Wf (G.1, G.2.1, va_up G.2.2 b (G.2.2 b ++ [t])) :=
  hw.upE hb (by simp; omega) (fun a ha => by
    rcases List.mem_append.mp ha with q | q
    · exact (hw.2.2.2.1 b).2.1 a q
    · rw [List.mem_singleton.mp q]; exact ⟨h1, ht⟩) (by
    rw [List.nodup_append]
    exact ⟨(hw.2.2.2.1 b).2.2, by simp, fun a ha c hc => by rw [List.mem_singleton.mp hc]; intro e; exact hn (e ▸ ha)⟩)
theorem nodup_set {l : List Nat} {i x : Nat} (h : l.Nodup) (hx : ¬ x ∈ l) : (l.set i x).Nodup := by
  induction l generalizing i with
  | nil => simp
  | cons a t ih =>
    rw [List.nodup_cons] at h
    cases i with
    | zero =>
      rw [List.set_cons_zero, List.nodup_cons]
      exact ⟨fun q => hx (List.mem_cons_of_mem _ q), h.2⟩
    | succ i =>
      rw [List.set_cons_succ, List.nodup_cons]
      refine ⟨fun q => ?_, ih h.2 (fun q => hx (List.mem_cons_of_mem _ q))⟩
      rcases List.mem_or_eq_of_mem_set q with q | q
      · exact h.1 q
      · exact hx (by rw [← q]; exact List.mem_cons_self)
/-- the graph that thread makes -/
def thrG (G : Gr) (b u t : Nat) : Gr := (G.1 + 1, va_up G.2.1 G.1 (G.2.1 u), va_up (va_up G.2.2 G.1 [t]) b ((G.2.2 b).set ((G.2.2 b).idxOf u) G.1))
theorem Wf.thr (hw : Wf G) {b u t : Nat} (hb : b < G.1) (hu : u < G.1) (ht : t < G.1) (h1 : 1 ≤ t) (h14 : G.1 < 14) : Wf (thrG G b u t) := by
  have w1 := hw.grow h14
  have w2 := w1.upA (b := G.1) (la := G.2.1 u) (by show G.1 < G.1 + 1; omega) (hw.2.2.1 u).1 (hw.2.2.1 u).2
  have w3 := w2.upE (b := G.1) (le := [t]) (by show G.1 < G.1 + 1; omega) (by simp) (fun a ha => by rw [List.mem_singleton.mp ha]; show 1 ≤ t ∧ t < G.1 + 1; omega) (by simp)
  have hg := hw.1
  refine w3.upE (b := b) (le := (G.2.2 b).set ((G.2.2 b).idxOf u) G.1) (by show b < G.1 + 1; omega) (by rw [List.length_set]; exact (hw.2.2.2.1 b).1) (fun a ha => ?_) (nodup_set (hw.2.2.2.1 b).2.2 (fun q => by have := ((hw.2.2.2.1 b).2.1 _ q).2; omega))
  show 1 ≤ a ∧ a < G.1 + 1
  rcases List.mem_or_eq_of_mem_set ha with q | q
  · have := (hw.2.2.2.1 b).2.1 a q; omega
  · omega
theorem eix_in {l : List Nat} {t : Nat} (h : t ∈ l) : eix l t 0 = nI (l.idxOf t) := by
  have key : ∀ (l : List Nat) (k : Nat), t ∈ l → eix l t k = nI (k + l.idxOf t) := by
    intro l
    induction l with
    | nil => intro k h; cases h
    | cons a l ih =>
      intro k h
      rw [eix]
      by_cases e : a = t
      · rw [if_pos e, e, List.idxOf_cons_self]; rfl
      · rw [if_neg e, ih (k + 1) ((List.mem_cons.mp h).resolve_left (fun q => e q.symm)), List.idxOf_cons, beq_false_of_ne e]
        show nI (k + 1 + l.idxOf t) = nI (k + (l.idxOf t + 1))
        congr 1; omega
  rw [key l 0 h, Nat.zero_add]
theorem eix_out {l : List Nat} {t : Nat} (h : ¬ t ∈ l) : eix l t 0 = -1 := eix_no l t 0 (fun j hj e => h (mem_getD.mpr ⟨j, hj, e⟩))
theorem idxOf_lt' {l : List Nat} {t : Nat} (h : t ∈ l) : l.idxOf t < l.length := List.idxOf_lt_length_of_mem h
/-! what a line holds -/
theorem lead_all {P : Nat → Bool} : ∀ n i k, i ≤ k → k < lead P i n → P k = true
  | 0, i, k, h1, h2 => absurd h1 (by have h2' : k < i := h2; omega)
  | n + 1, i, k, h1, h2 => by
    rw [lead] at h2
    split at h2
    · next hp =>
      by_cases e : k = i
      · rw [e]; exact hp
      · exact lead_all n (i + 1) k (by omega) h2
    · omega
theorem nA_ok {C : List Nat} {k : Nat} (h : k < nA C) : okA C k = true := lead_all 6 0 k (Nat.zero_le _) h
theorem tgo_ok {C : List Nat} {B s : Nat} : ∀ n acc, (∀ t ∈ acc, 1 ≤ t ∧ t < B) → acc.Nodup → (∀ t ∈ tgo C B s n acc, 1 ≤ t ∧ t < B) ∧ (tgo C B s n acc).Nodup
  | 0, acc, h1, h2 => ⟨h1, h2⟩
  | n + 1, acc, h1, h2 => by
    rw [tgo]
    split
    · next h =>
      unfold okT at h
      rw [Bool.and_eq_true, Bool.and_eq_true, decide_eq_true_iff, decide_eq_true_iff, Bool.not_eq_true', decide_eq_false_iff_not] at h
      refine tgo_ok n _ (fun t ht => ?_) ?_
      · rcases List.mem_append.mp ht with q | q
        · exact h1 t q
        · rw [List.mem_singleton.mp q]; omega
      · rw [List.nodup_append]
        exact ⟨h2, by simp, fun a ha c hc => by rw [List.mem_singleton.mp hc]; intro e; exact h.2 (e ▸ ha)⟩
    · exact ⟨h1, h2⟩
theorem pr_ok {C : List Nat} {B b : Nat} {la le : List Nat} (h : pr C B = .inr (b, la, le)) : b < B ∧ la.length ≤ 6 ∧ (∀ a ∈ la, a < 4 ∨ (10 ≤ a ∧ a < 14)) ∧ le.length ≤ 3 ∧ (∀ t ∈ le, 1 ≤ t ∧ t < B) ∧ le.Nodup := by
  have h6 := nA_le C
  have hla : ∀ a ∈ (List.range (nA C)).map (aOf C), a < 4 ∨ (10 ≤ a ∧ a < 14) := fun a ha => by
    obtain ⟨k, hk, rfl⟩ := List.mem_map.mp ha
    have h1 := nA_ok (List.mem_range.mp hk)
    unfold okA at h1
    rw [Bool.and_eq_true, Bool.and_eq_true, decide_eq_true_iff, decide_eq_true_iff] at h1
    unfold aOf
    split <;> omega
  have hln : ((List.range (nA C)).map (aOf C)).length ≤ 6 := by rw [List.length_map, List.length_range]; exact h6
  unfold pr at h
  split at h
  · cases h
  · next h0 =>
    have h0' := Classical.not_not.mp h0
    split at h
    · cases h
    · split at h
      · cases h; exact ⟨by omega, hln, hla, Nat.zero_le _, fun t ht => (by cases ht), List.nodup_nil⟩
      · split at h
        · cases h
        · split at h
          · cases h
          · split at h
            · cases h
              have ht := tgo_ok (C := C) (B := B) (s := 2 + 2 * nA C + 1) 3 [] (fun t ht => by cases ht) List.nodup_nil
              exact ⟨by omega, hln, hla, tgo_le 3 [], ht.1, ht.2⟩
            · cases h
end Wfs
section Cls3
variable {κ : K0} {σ : Nat → Option Kd} {mi : Nat → Nat → Int32} {ml : Nat → Nat → Int64} {x : Nat} {S : SS} {μ : Mem}
theorem pR {p : Int32} (h1 : ¬ p < nI 1) (h2 : ¬ nI 14 < p) : ∃ j, 1 ≤ j ∧ j ≤ 14 ∧ p = nI j := by
  rcases pk_ix p (show 15 < 2 ^ 31 by decide) with q | q | ⟨j, hj, rfl⟩
  · exact absurd (Int32.lt_trans q (show (0 : Int32) < nI 1 by decide)) h1
  · exact absurd (Int32.lt_of_lt_of_le (show nI 14 < nI 15 by decide) q) h2
  · refine ⟨j, ?_, by omega, rfl⟩
    have := (not_congr (nI_ltI (show j < 2 ^ 31 by omega) (show 1 < 2 ^ 31 by decide))).mp h1
    omega
theorem shf_n {f : Nat → Nat → Int32} {a lo hi b j : Nat} (h : b ≠ a) : shf f a lo hi b j = f b j := by unfold shf; rw [if_neg (fun q => h q.1)]
theorem XA.new {m : Nat → Nat → Int32} {G' : Gr} {n' : Nat} {Hs' : Nat → Gr} {C' : List Nat} (hX : XA mi x S) (h1 : GA m (x + 1 + 1) G') (h2 : FA m (x + 1) G') (h3 : ∃ ℓ, HA m (x + 40) n' Hs' ℓ) (h4 : LC m (x + 82) C') (h5 : m (x + 86) 1 = nI 0) (hk : ∀ a i, (a = x ∨ (x + 35 ≤ a ∧ a < x + 40) ∨ a = x + 87) → m a i = mi a i) : XA m x (G', (n', Hs'), S.2.2.1, C', S.2.2.2.2.1, 0, S.2.2.2.2.2.2) :=
  ⟨h1, h2, h3, ⟨(hk _ _ (by omega)).trans hX.2.2.2.1.1, fun g hg => (hX.2.2.2.1.2 g hg).keep (fun a i q1 q2 => hk a i (by omega))⟩, h4, (hk _ _ (by omega)).trans hX.2.2.2.2.2.1, h5, fun i hi => by
    have hi0 : i = 0 := Nat.le_zero.mp hi
    subst hi0
    exact (hk _ _ (by omega)).trans (hX.2.2.2.2.2.2.2 0 (Nat.zero_le _))⟩
theorem ctX5_followGraph (hL : XL σ x) {G : Gr} (hA : GA mi (x + 1 + 1) G) (hw : Wf G) : CtP κ 0 0 6 mrX5_followGraph [.ref x] (MM σ mi ml) (fun o μ' => o = .inl none ∧ ∃ m', μ' = MM σ m' ml ∧ FA m' (x + 1) G ∧ m' (x + 86) 1 = nI 0 ∧ ∀ a i, ¬ (a = x + 86 ∧ i = 1) → ¬ (a = x + 1 ∧ i = 1) → (a < x + 7 ∨ x + 18 ≤ a) → m' a i = mi a i) := by
  refine CtP.of rfl (by simp [Value.category]) (Nat.le_of_ble_eq_true rfl) ?_
  refine V_aload_n dX5_followGraph_0 rfl rfl ?_
  refine V_getR frX5_58 hL.1 rfl dX5_followGraph_1 ?_
  refine V_iconst (v := nI 0) dX5_followGraph_4 (by decide) ?_
  refine V_putI fpX5_286 rfl rfl hL.2.2.2.2.2.2.1 rfl dX5_followGraph_5 ?_
  have hA1 : GA (u2 mi (x + 86) 1 (nI 0)) (x + 1 + 1) G := hA.keep (fun a i q1 q2 => u2_n _ _ (Or.inl (by omega)))
  refine V_aload_n dX5_followGraph_8 rfl rfl ?_
  refine V_getR frX5_10 hL.1 rfl dX5_followGraph_9 ?_
  refine V_cp0 (ctX0_analyse hL.2.1 hA1 hw) mvX0_analyse lkX5_62 hL.2.1.1 rfl rfl rfl (Nat.le_of_ble_eq_true rfl) ⟨⟨Nat.le_of_ble_eq_true rfl, Nat.le_of_ble_eq_true rfl⟩, Nat.le_of_ble_eq_true rfl, Nat.le_of_ble_eq_true rfl⟩ dX5_followGraph_12 (fun μ1 hx => ?_)
  obtain ⟨m1, rfl, hf, ho⟩ := hx
  exact V_vretP rfl ⟨rfl, m1, rfl, hf, (ho _ _ (by omega) (by omega)).trans (u2_s _ _ _ _), fun a i q1 q2 q3 => (ho a i (by omega) (by omega)).trans (u2_n _ _ (by omega))⟩ ⟨Nat.le_of_ble_eq_true rfl, Nat.le_of_ble_eq_true rfl⟩ dX5_followGraph_15

theorem ctX5_reset (hL : XL σ x) (hX : XA mi x S) (hS : SOK S) {p : Int32} : CtP κ 1 6 12 mrX5_reset [.ref x, .int p] (MM σ mi ml) (XR σ mi ml x [EIAE] (rs_reset S p)) := by
  have hq := XQ (ml := ml) (σ := σ) hX
  have hw := hS.1
  have h14 := hw.2.1
  obtain ⟨ℓ, hHA⟩ := hX.2.2.1
  cases hp : (decide (p < nI 1) || decide (nI 14 < p)) with
  | true =>
    rw [show rs_reset S p = (1, 0, S) from by unfold rs_reset; rw [if_pos hp]]
    refine CtP.of rfl (by simp [Value.category]) (Nat.le_of_ble_eq_true rfl) ?_
    refine V_iload_n dX5_reset_0 rfl rfl ?_
    refine V_iconst (v := nI 1) dX5_reset_1 (by decide) ?_
    refine V_icmp_lt 11 dX5_reset_2 (by decide) (fun h2 => ?_) (fun h2 => ?_)
    · refine V_thrP ⟨rfl, hq⟩ ?_
      exact V_throwS thrIAE rfl str_67 rfl rfl rfl ⟨Nat.le_of_ble_eq_true rfl, Nat.le_of_ble_eq_true rfl⟩ (Nat.le_of_ble_eq_true rfl) (Nat.le_of_ble_eq_true rfl) dX5_reset_11 dX5_reset_14 dX5_reset_15 dX5_reset_17 dX5_reset_20
    · refine V_iload_n dX5_reset_5 rfl rfl ?_
      refine V_bipush (v := nI 14) dX5_reset_6 (by decide) ?_
      refine V_icmp_le 21 dX5_reset_8 (by decide) (fun h8 => ?_) (fun h8 => ?_)
      · exfalso
        rw [decide_eq_false h2, decide_eq_false (Int32.not_lt.mpr h8)] at hp
        cases hp
      · refine V_thrP ⟨rfl, hq⟩ ?_
        exact V_throwS thrIAE rfl str_67 rfl rfl rfl ⟨Nat.le_of_ble_eq_true rfl, Nat.le_of_ble_eq_true rfl⟩ (Nat.le_of_ble_eq_true rfl) (Nat.le_of_ble_eq_true rfl) dX5_reset_11 dX5_reset_14 dX5_reset_15 dX5_reset_17 dX5_reset_20

  | false =>
    rw [Bool.or_eq_false_iff, decide_eq_false_iff_not, decide_eq_false_iff_not] at hp
    obtain ⟨j, hj1, hj2, rfl⟩ := pR hp.1 hp.2
    have tj := tn_nI (show j < 2 ^ 31 by omega)
    rw [show rs_reset S (nI j) = (0, nI S.1.1, ((j, fun _ => [], fun _ => []), (0, S.2.1.2), S.2.2.1, S.2.2.2.1, S.2.2.2.2.1, 0, S.2.2.2.2.2.2)) from by unfold rs_reset; rw [if_neg (by rw [decide_eq_false hp.1, decide_eq_false hp.2]; decide), tj]]
    refine CtP.of rfl (by simp [Value.category]) (Nat.le_of_ble_eq_true rfl) ?_
    refine V_iload_n dX5_reset_0 rfl rfl ?_
    refine V_iconst (v := nI 1) dX5_reset_1 (by decide) ?_
    refine V_icmp_lt 11 dX5_reset_2 (by decide) (fun h2 => absurd h2 hp.1) (fun h2 => ?_)
    refine V_iload_n dX5_reset_5 rfl rfl ?_
    refine V_bipush (v := nI 14) dX5_reset_6 (by decide) ?_
    refine V_icmp_le 21 dX5_reset_8 (by decide) (fun h8 => ?_) (fun h8 => absurd (Int32.not_lt.mp hp.2) h8)
    refine V_aload_n dX5_reset_21 rfl rfl ?_
    refine V_getR frX5_20 hL.1 rfl dX5_reset_22 ?_
    refine V_getE frX5_72 hL.2.1.2.1.1 rfl hX.1.1 dX5_reset_25 ?_
    refine V_istore_n dX5_reset_28 rfl (Nat.le_of_ble_eq_true rfl) ?_
    refine V_aload_n dX5_reset_29 rfl rfl ?_
    refine V_getR frX5_20 hL.1 rfl dX5_reset_30 ?_
    refine V_iload_n dX5_reset_33 rfl rfl ?_
    refine V_cv0 (ctX1_makeEmpty hL.2.1.2.1) mvX1_makeEmpty lkX5_75 hL.2.1.2.1.1 rfl rfl rfl (Nat.le_of_ble_eq_true rfl) ⟨⟨Nat.le_of_ble_eq_true rfl, Nat.le_of_ble_eq_true rfl⟩, Nat.le_of_ble_eq_true rfl, Nat.le_of_ble_eq_true rfl⟩ dX5_reset_34 ?_
    refine V_aload_n dX5_reset_37 rfl rfl ?_
    refine V_getR frX5_40 hL.1 rfl dX5_reset_38 ?_
    refine V_cv0 (ctX2_forgetAll hL.2.2.2.2.1) mvX2_forgetAll lkX5_79 hL.2.2.2.2.1.1 rfl rfl rfl (Nat.le_of_ble_eq_true rfl) ⟨⟨Nat.le_of_ble_eq_true rfl, Nat.le_of_ble_eq_true rfl⟩, Nat.le_of_ble_eq_true rfl, Nat.le_of_ble_eq_true rfl⟩ dX5_reset_41 ?_
    refine V_aload_n dX5_reset_44 rfl rfl ?_
    refine V_cp0 (ctX5_followGraph hL (mkE_GA.keep (fun a i q1 q2 => u2_n _ _ (Or.inl (by omega)))) (Wf.empty hj1 hj2)) mvX5_followGraph lkX5_82 hL.1 rfl rfl rfl (Nat.le_of_ble_eq_true rfl) ⟨⟨Nat.le_of_ble_eq_true rfl, Nat.le_of_ble_eq_true rfl⟩, Nat.le_of_ble_eq_true rfl, Nat.le_of_ble_eq_true rfl⟩ dX5_reset_45 (fun μ3 hx => ?_)
    obtain ⟨m3, rfl, hf3, hc3, ho3⟩ := hx
    refine V_iload_n dX5_reset_48 rfl rfl ?_
    exact V_iretP rfl ⟨rfl, m3, ml, rfl, hX.new ((mkE_GA (mi := mi) (g := x + 1 + 1) (n := j)).keep (fun a i q1 q2 => (ho3 a i (by omega) (by omega) (by omega)).trans (u2_n _ _ (Or.inl (by omega))))) hf3 ⟨ℓ, ((hHA.keep (m := mkE mi (x + 1 + 1) (nI j) 14) (fun a i q1 q2 => mkE_off _ _ (by omega))).forget).keep (fun a i q1 q2 => ho3 a i (by omega) (by omega) (by omega))⟩ (hX.2.2.2.2.1.keep (fun a i q => (ho3 a i (by omega) (by omega) (by omega)).trans ((u2_n _ _ (Or.inl (by omega))).trans (mkE_off _ _ (by omega))))) hc3 (fun a i q => (ho3 a i (by omega) (by omega) (by omega)).trans ((u2_n _ _ (Or.inl (by omega))).trans (mkE_off _ _ (by omega)))), fun a i q => ⟨(ho3 a i (by omega) (by omega) (by omega)).trans ((u2_n _ _ (Or.inl (by omega))).trans (mkE_off _ _ (by omega))), rfl⟩⟩ ⟨Nat.le_of_ble_eq_true rfl, Nat.le_of_ble_eq_true rfl⟩ dX5_reset_49

theorem ctX5_append (hL : XL σ x) (hX : XA mi x S) (hS : SOK S) {c : Nat} (hc : c < 65536) : CtP κ 1 6 12 mrX5_append [.ref x, .int (nI c)] (MM σ mi ml) (XR σ mi ml x [EIAE, EISE] (rs_append S c)) := by
  have hq := XQ (ml := ml) (σ := σ) hX
  have hw := hS.1
  have h14 := hw.2.1
  have h30 := hS.2.2.2.1.1
  cases hp : (decide (c < 32) || decide (126 < c)) with
  | true =>
    rw [show rs_append S c = (1, 0, S) from by unfold rs_append; rw [if_pos hp]]
    refine CtP.of rfl (by simp [Value.category]) (Nat.le_of_ble_eq_true rfl) ?_
    refine V_iload_n dX5_append_0 rfl rfl ?_
    refine V_bipush (v := nI 32) dX5_append_1 (by decide) ?_
    refine V_N_lt (by omega) (by omega) 12 dX5_append_3 (by decide) (fun h3 => ?_) (fun h3 => ?_)
    · refine V_thrP ⟨rfl, hq⟩ ?_
      exact V_throwS thrIAE rfl str_85 rfl rfl rfl ⟨Nat.le_of_ble_eq_true rfl, Nat.le_of_ble_eq_true rfl⟩ (Nat.le_of_ble_eq_true rfl) (Nat.le_of_ble_eq_true rfl) dX5_append_12 dX5_append_15 dX5_append_16 dX5_append_18 dX5_append_21
    · refine V_iload_n dX5_append_6 rfl rfl ?_
      refine V_bipush (v := nI 126) dX5_append_7 (by decide) ?_
      refine V_N_le (by omega) (by omega) 22 dX5_append_9 (by decide) (fun h9 => ?_) (fun h9 => ?_)
      · exfalso
        rw [decide_eq_false (by omega : ¬ c < 32), decide_eq_false (by omega : ¬ 126 < c)] at hp
        cases hp
      · refine V_thrP ⟨rfl, hq⟩ ?_
        exact V_throwS thrIAE rfl str_85 rfl rfl rfl ⟨Nat.le_of_ble_eq_true rfl, Nat.le_of_ble_eq_true rfl⟩ (Nat.le_of_ble_eq_true rfl) (Nat.le_of_ble_eq_true rfl) dX5_append_12 dX5_append_15 dX5_append_16 dX5_append_18 dX5_append_21

  | false =>
    have hp2 := hp
    rw [Bool.or_eq_false_iff, decide_eq_false_iff_not, decide_eq_false_iff_not] at hp2
    by_cases hl : 30 ≤ S.2.2.2.1.length
    · rw [show rs_append S c = (2, 0, S) from by unfold rs_append; rw [if_neg (by rw [hp]; decide), if_pos hl]]
      refine CtP.of rfl (by simp [Value.category]) (Nat.le_of_ble_eq_true rfl) ?_
      refine V_iload_n dX5_append_0 rfl rfl ?_
      refine V_bipush (v := nI 32) dX5_append_1 (by decide) ?_
      refine V_N_lt (by omega) (by omega) 12 dX5_append_3 (by decide) (fun h3 => ?_) (fun h3 => ?_)
      · exfalso
        omega
      · refine V_iload_n dX5_append_6 rfl rfl ?_
        refine V_bipush (v := nI 126) dX5_append_7 (by decide) ?_
        refine V_N_le (by omega) (by omega) 22 dX5_append_9 (by decide) (fun h9 => ?_) (fun h9 => ?_)
        · refine V_aload_n dX5_append_22 rfl rfl ?_
          refine V_getR frX5_47 hL.1 rfl dX5_append_23 ?_
          refine V_getE frX5_87 hL.2.2.2.2.2.1.1 rfl hX.2.2.2.2.1.1 dX5_append_26 ?_
          refine V_bipush (v := nI 30) dX5_append_29 (by decide) ?_
          refine V_N_lt (by omega) (by omega) 44 dX5_append_31 (by decide) (fun h31 => ?_) (fun h31 => ?_)
          · exfalso
            omega
          · refine V_thrP ⟨rfl, hq⟩ ?_
            exact V_throwS thrISE rfl str_92 rfl rfl rfl ⟨Nat.le_of_ble_eq_true rfl, Nat.le_of_ble_eq_true rfl⟩ (Nat.le_of_ble_eq_true rfl) (Nat.le_of_ble_eq_true rfl) dX5_append_34 dX5_append_37 dX5_append_38 dX5_append_40 dX5_append_43
        · exfalso
          omega

    · rw [show rs_append S c = (0, nI (S.2.2.2.1.length + 1), (S.1, S.2.1, S.2.2.1, S.2.2.2.1 ++ [c], S.2.2.2.2)) from by unfold rs_append; rw [if_neg (by rw [hp]; decide), if_neg hl]]
      refine CtP.of rfl (by simp [Value.category]) (Nat.le_of_ble_eq_true rfl) ?_
      refine V_iload_n dX5_append_0 rfl rfl ?_
      refine V_bipush (v := nI 32) dX5_append_1 (by decide) ?_
      refine V_N_lt (by omega) (by omega) 12 dX5_append_3 (by decide) (fun h3 => ?_) (fun h3 => ?_)
      · exfalso
        omega
      · refine V_iload_n dX5_append_6 rfl rfl ?_
        refine V_bipush (v := nI 126) dX5_append_7 (by decide) ?_
        refine V_N_le (by omega) (by omega) 22 dX5_append_9 (by decide) (fun h9 => ?_) (fun h9 => ?_)
        · refine V_aload_n dX5_append_22 rfl rfl ?_
          refine V_getR frX5_47 hL.1 rfl dX5_append_23 ?_
          refine V_getE frX5_87 hL.2.2.2.2.2.1.1 rfl hX.2.2.2.2.1.1 dX5_append_26 ?_
          refine V_bipush (v := nI 30) dX5_append_29 (by decide) ?_
          refine V_N_lt (by omega) (by omega) 44 dX5_append_31 (by decide) (fun h31 => ?_) (fun h31 => ?_)
          · refine V_aload_n dX5_append_44 rfl rfl ?_
            refine V_getR frX5_47 hL.1 rfl dX5_append_45 ?_
            refine V_iload_n dX5_append_48 rfl rfl ?_
            refine V_cv0 (ctX3_put hL.2.2.2.2.2.1 hX.2.2.2.2.1 (by omega) hc) mvX3_put lkX5_95 hL.2.2.2.2.2.1.1 rfl rfl rfl (Nat.le_of_ble_eq_true rfl) ⟨⟨Nat.le_of_ble_eq_true rfl, Nat.le_of_ble_eq_true rfl⟩, Nat.le_of_ble_eq_true rfl, Nat.le_of_ble_eq_true rfl⟩ dX5_append_49 ?_
            refine V_aload_n dX5_append_52 rfl rfl ?_
            refine V_getR frX5_47 hL.1 rfl dX5_append_53 ?_
            refine V_getE frX5_87 hL.2.2.2.2.2.1.1 rfl (u2_s _ _ _ _) dX5_append_56 ?_
            exact V_iretP rfl ⟨rfl, _, ml, rfl, ⟨hX.1.keep (fun a i q1 q2 => (u2_n _ _ (Or.inl (by omega))).trans (u2_n _ _ (Or.inl (by omega)))), hX.2.1.keep (fun a i q => (u2_n _ _ (Or.inl (by omega))).trans (u2_n _ _ (Or.inl (by omega)))), by
                      obtain ⟨ℓ, hHA⟩ := hX.2.2.1
                      exact ⟨ℓ, hHA.keep (fun a i q1 q2 => (u2_n _ _ (Or.inl (by omega))).trans (u2_n _ _ (Or.inl (by omega))))⟩, ⟨((u2_n _ _ (Or.inl (by omega))).trans (u2_n _ _ (Or.inl (by omega)))).trans hX.2.2.2.1.1, fun g hg => (hX.2.2.2.1.2 g hg).keep (fun a i q1 q2 => (u2_n _ _ (Or.inl (by omega))).trans (u2_n _ _ (Or.inl (by omega))))⟩, hX.2.2.2.2.1.put, ((u2_n _ _ (Or.inl (by omega))).trans (u2_n _ _ (Or.inl (by omega)))).trans hX.2.2.2.2.2.1, hX.2.2.2.2.2.2.keep (fun a i q1 q2 => (u2_n _ _ (Or.inl (by omega))).trans (u2_n _ _ (Or.inl (by omega))))⟩, fun a i q => ⟨(u2_n _ _ (Or.inl (by omega))).trans (u2_n _ _ (Or.inl (by omega))), rfl⟩⟩ ⟨Nat.le_of_ble_eq_true rfl, Nat.le_of_ble_eq_true rfl⟩ dX5_append_59
          · exfalso
            omega
        · exfalso
          omega

theorem ctX5_removeAction (hL : XL σ x) (hX : XA mi x S) (hS : SOK S) {b k : Int32} : CtP κ 1 6 12 mrX5_removeAction [.ref x, .int b, .int k] (MM σ mi ml) (XR σ mi ml x [EIOB] (rs_removeAction S b k)) := by
  have hq := XQ (ml := ml) (σ := σ) hX
  have hw := hS.1
  have h14 := hw.2.1
  obtain ⟨ℓ, hHA⟩ := hX.2.2.1
  cases hb : hasAct S.1 b k with
  | false =>
    rw [show rs_removeAction S b k = (1, 0, S) from by unfold rs_removeAction; rw [if_pos hb]]
    refine CtP.of rfl (by simp [Value.category]) (Nat.le_of_ble_eq_true rfl) ?_
    refine V_aload_n dX5_removeAction_0 rfl rfl ?_
    refine V_iload_n dX5_removeAction_1 rfl rfl ?_
    refine V_iload_n dX5_removeAction_2 rfl rfl ?_
    refine V_callVX (ctX5_requireAction_f hL hX hS hb) mvX5_requireAction lkX5_121 hL.1 rfl rfl rfl (Nat.le_of_ble_eq_true rfl) ⟨⟨Nat.le_of_ble_eq_true rfl, Nat.le_of_ble_eq_true rfl⟩, Nat.le_of_ble_eq_true rfl, Nat.le_of_ble_eq_true rfl⟩ dX5_removeAction_3 ?_
    exact VX_outP ⟨rfl, hq⟩ ⟨Nat.le_of_ble_eq_true rfl, Nat.le_of_ble_eq_true rfl⟩

  | true =>
    obtain ⟨j, i, hj, hi, rfl, rfl⟩ := hasAct_t hw hb
    have h6 := (hw.2.2.1 j).1
    have tj := tn_nI (show j < 2 ^ 31 by omega)
    have ti := tn_nI (show i < 2 ^ 31 by omega)
    rw [show rs_removeAction S (nI j) (nI i) = (0, nI ((S.1.2.1 j).length - 1), chg S (S.1.1, va_up S.1.2.1 j ((S.1.2.1 j).eraseIdx i), S.1.2.2)) from by unfold rs_removeAction; rw [tj, ti, if_neg (by rw [hb]; decide)]]
    refine CtP.of rfl (by simp [Value.category]) (Nat.le_of_ble_eq_true rfl) ?_
    refine V_aload_n dX5_removeAction_0 rfl rfl ?_
    refine V_iload_n dX5_removeAction_1 rfl rfl ?_
    refine V_iload_n dX5_removeAction_2 rfl rfl ?_
    refine V_cv0 (ctX5_requireAction_t hL hX hS hb) mvX5_requireAction lkX5_121 hL.1 rfl rfl rfl (Nat.le_of_ble_eq_true rfl) ⟨⟨Nat.le_of_ble_eq_true rfl, Nat.le_of_ble_eq_true rfl⟩, Nat.le_of_ble_eq_true rfl, Nat.le_of_ble_eq_true rfl⟩ dX5_removeAction_3 ?_
    refine V_aload_n dX5_removeAction_6 rfl rfl ?_
    refine V_getR frX5_40 hL.1 rfl dX5_removeAction_7 ?_
    refine V_aload_n dX5_removeAction_10 rfl rfl ?_
    refine V_getR frX5_20 hL.1 rfl dX5_removeAction_11 ?_
    refine V_cp0 (ctX2_remember hL.2.2.2.2.1 hL.2.1.2.1 (by omega) hHA hX.1 hw) mvX2_remember lkX5_105 hL.2.2.2.2.1.1 rfl rfl rfl (Nat.le_of_ble_eq_true rfl) ⟨⟨Nat.le_of_ble_eq_true rfl, Nat.le_of_ble_eq_true rfl⟩, Nat.le_of_ble_eq_true rfl, Nat.le_of_ble_eq_true rfl⟩ dX5_removeAction_14 (fun μ1 hx => ?_)
    obtain ⟨m1, rfl, ⟨ℓ1, hH1⟩, ho1⟩ := hx
    have hA1 : GA m1 (x + 1 + 1) S.1 := hX.1.keep (fun a i q1 q2 => ho1 a i (by omega))
    refine V_aload_n dX5_removeAction_17 rfl rfl ?_
    refine V_getR frX5_20 hL.1 rfl dX5_removeAction_18 ?_
    refine V_iload_n dX5_removeAction_21 rfl rfl ?_
    refine V_iload_n dX5_removeAction_22 rfl rfl ?_
    refine V_cv0 (ctX1_dropAction hL.2.1.2.1 hA1 h6 (by omega) hi) mvX1_dropAction lkX5_125 hL.2.1.2.1.1 rfl rfl rfl (Nat.le_of_ble_eq_true rfl) ⟨⟨Nat.le_of_ble_eq_true rfl, Nat.le_of_ble_eq_true rfl⟩, Nat.le_of_ble_eq_true rfl, Nat.le_of_ble_eq_true rfl⟩ dX5_removeAction_23 ?_
    refine V_aload_n dX5_removeAction_26 rfl rfl ?_
    refine V_cp0 (ctX5_followGraph hL (GA_dropA hA1 (fun b => (hw.2.2.1 b).1) (show j < 14 by omega) hi) (hw.dropA hj)) mvX5_followGraph lkX5_82 hL.1 rfl rfl rfl (Nat.le_of_ble_eq_true rfl) ⟨⟨Nat.le_of_ble_eq_true rfl, Nat.le_of_ble_eq_true rfl⟩, Nat.le_of_ble_eq_true rfl, Nat.le_of_ble_eq_true rfl⟩ dX5_removeAction_27 (fun μ3 hx => ?_)
    obtain ⟨m3, rfl, hf3, hc3, ho3⟩ := hx
    refine V_aload_n dX5_removeAction_30 rfl rfl ?_
    refine V_getR frX5_20 hL.1 rfl dX5_removeAction_31 ?_
    refine V_getR frX5_128 hL.2.1.2.1.1 rfl dX5_removeAction_34 ?_
    refine V_iload_n dX5_removeAction_37 rfl rfl ?_
    refine V_ialdE hL.2.1.2.1.2.1 j rfl (by omega) (by decide) ((ho3 _ _ (by omega) (by omega) (by omega)).trans (u2_s _ _ _ _)) dX5_removeAction_38 ?_
    exact V_iretP rfl ⟨rfl, m3, ml, rfl, hX.new ((GA_dropA hA1 (fun b => (hw.2.2.1 b).1) (show j < 14 by omega) hi).keep (fun a i q1 q2 => ho3 a i (by omega) (by omega) (by omega))) hf3 ⟨ℓ1, hH1.keep (fun a i q1 q2 => (ho3 a i (by omega) (by omega) (by omega)).trans ((fun a i (q : a < x + 1 + 1 ∨ x + 1 + 1 + 5 ≤ a) => (u2_n _ _ (Or.inl (by omega))).trans (shf_n (by omega))) a i (by omega)))⟩ (hX.2.2.2.2.1.keep (fun a i q => (ho3 a i (by omega) (by omega) (by omega)).trans (((fun a i (q : a < x + 1 + 1 ∨ x + 1 + 1 + 5 ≤ a) => (u2_n _ _ (Or.inl (by omega))).trans (shf_n (by omega))) a i (by omega)).trans (ho1 a i (by omega))))) hc3 (fun a i q => (ho3 a i (by omega) (by omega) (by omega)).trans (((fun a i (q : a < x + 1 + 1 ∨ x + 1 + 1 + 5 ≤ a) => (u2_n _ _ (Or.inl (by omega))).trans (shf_n (by omega))) a i (by omega)).trans (ho1 a i (by omega)))), fun a i q => ⟨(ho3 a i (by omega) (by omega) (by omega)).trans (((fun a i (q : a < x + 1 + 1 ∨ x + 1 + 1 + 5 ≤ a) => (u2_n _ _ (Or.inl (by omega))).trans (shf_n (by omega))) a i (by omega)).trans (ho1 a i (by omega))), rfl⟩⟩ ⟨Nat.le_of_ble_eq_true rfl, Nat.le_of_ble_eq_true rfl⟩ dX5_removeAction_39

theorem ctX5_addEdge (hL : XL σ x) (hX : XA mi x S) (hS : SOK S) {b t : Int32} : CtP κ 1 6 12 mrX5_addEdge [.ref x, .int b, .int t] (MM σ mi ml) (XR σ mi ml x [EIOB, EIAE, EISE] (rs_addEdge S b t)) := by
  have hq := XQ (ml := ml) (σ := σ) hX
  have hw := hS.1
  have h14 := hw.2.1
  obtain ⟨ℓ, hHA⟩ := hX.2.2.1
  cases hb : inR b S.1.1 with
  | false =>
    rw [show rs_addEdge S b t = (1, 0, S) from by unfold rs_addEdge; rw [if_pos (by rw [hb]; rfl)]]
    refine CtP.of rfl (by simp [Value.category]) (Nat.le_of_ble_eq_true rfl) ?_
    refine V_aload_n dX5_addEdge_0 rfl rfl ?_
    refine V_iload_n dX5_addEdge_1 rfl rfl ?_
    refine V_callVX (ctX5_requireBlock_f hL hX hS hb) mvX5_requireBlock lkX5_132 hL.1 rfl rfl rfl (Nat.le_of_ble_eq_true rfl) ⟨⟨Nat.le_of_ble_eq_true rfl, Nat.le_of_ble_eq_true rfl⟩, Nat.le_of_ble_eq_true rfl, Nat.le_of_ble_eq_true rfl⟩ dX5_addEdge_2 ?_
    exact VX_outP ⟨rfl, hq⟩ ⟨Nat.le_of_ble_eq_true rfl, Nat.le_of_ble_eq_true rfl⟩

  | true =>
    cases ht : inR t S.1.1 with
    | false =>
      rw [show rs_addEdge S b t = (1, 0, S) from by unfold rs_addEdge; rw [if_pos (by rw [ht, Bool.and_false])]]
      refine CtP.of rfl (by simp [Value.category]) (Nat.le_of_ble_eq_true rfl) ?_
      refine V_aload_n dX5_addEdge_0 rfl rfl ?_
      refine V_iload_n dX5_addEdge_1 rfl rfl ?_
      refine V_cv0 (ctX5_requireBlock_t hL hX hS hb) mvX5_requireBlock lkX5_132 hL.1 rfl rfl rfl (Nat.le_of_ble_eq_true rfl) ⟨⟨Nat.le_of_ble_eq_true rfl, Nat.le_of_ble_eq_true rfl⟩, Nat.le_of_ble_eq_true rfl, Nat.le_of_ble_eq_true rfl⟩ dX5_addEdge_2 ?_
      refine V_aload_n dX5_addEdge_5 rfl rfl ?_
      refine V_iload_n dX5_addEdge_6 rfl rfl ?_
      refine V_callVX (ctX5_requireBlock_f hL hX hS ht) mvX5_requireBlock lkX5_132 hL.1 rfl rfl rfl (Nat.le_of_ble_eq_true rfl) ⟨⟨Nat.le_of_ble_eq_true rfl, Nat.le_of_ble_eq_true rfl⟩, Nat.le_of_ble_eq_true rfl, Nat.le_of_ble_eq_true rfl⟩ dX5_addEdge_7 ?_
      exact VX_outP ⟨rfl, hq⟩ ⟨Nat.le_of_ble_eq_true rfl, Nat.le_of_ble_eq_true rfl⟩

    | true =>
      obtain ⟨j, hj, rfl⟩ := inR_t (by omega) hb
      have tj := tn_nI (show j < 2 ^ 31 by omega)
      obtain ⟨i, hi, rfl⟩ := inR_t (by omega) ht
      have ti := tn_nI (show i < 2 ^ 31 by omega)
      have h1 : ¬ (inR (nI j) S.1.1 && inR (nI i) S.1.1) = false := by rw [hb, ht]; decide
      have h3l := (hw.2.2.2.1 j).1
      by_cases h0 : i = 0
      · subst h0
        rw [show rs_addEdge S (nI j) (nI 0) = (2, 0, S) from by unfold rs_addEdge; rw [tj, ti, if_neg h1, if_pos (by rw [decide_eq_true rfl]; rfl)]]
        refine CtP.of rfl (by simp [Value.category]) (Nat.le_of_ble_eq_true rfl) ?_
        refine V_aload_n dX5_addEdge_0 rfl rfl ?_
        refine V_iload_n dX5_addEdge_1 rfl rfl ?_
        refine V_cv0 (ctX5_requireBlock_t hL hX hS hb) mvX5_requireBlock lkX5_132 hL.1 rfl rfl rfl (Nat.le_of_ble_eq_true rfl) ⟨⟨Nat.le_of_ble_eq_true rfl, Nat.le_of_ble_eq_true rfl⟩, Nat.le_of_ble_eq_true rfl, Nat.le_of_ble_eq_true rfl⟩ dX5_addEdge_2 ?_
        refine V_aload_n dX5_addEdge_5 rfl rfl ?_
        refine V_iload_n dX5_addEdge_6 rfl rfl ?_
        refine V_cv0 (ctX5_requireBlock_t hL hX hS ht) mvX5_requireBlock lkX5_132 hL.1 rfl rfl rfl (Nat.le_of_ble_eq_true rfl) ⟨⟨Nat.le_of_ble_eq_true rfl, Nat.le_of_ble_eq_true rfl⟩, Nat.le_of_ble_eq_true rfl, Nat.le_of_ble_eq_true rfl⟩ dX5_addEdge_7 ?_
        refine V_iload_n dX5_addEdge_10 rfl rfl ?_
        refine V_Z_eq (by omega) 27 dX5_addEdge_11 (by decide) (fun h11 => ?_) (fun h11 => absurd rfl h11)
        refine V_thrP ⟨rfl, hq⟩ ?_
        exact V_throwS thrIAE rfl str_139 rfl rfl rfl ⟨Nat.le_of_ble_eq_true rfl, Nat.le_of_ble_eq_true rfl⟩ (Nat.le_of_ble_eq_true rfl) (Nat.le_of_ble_eq_true rfl) dX5_addEdge_27 dX5_addEdge_30 dX5_addEdge_31 dX5_addEdge_33 dX5_addEdge_36

      · by_cases hm : i ∈ S.1.2.2 j
        · rw [show rs_addEdge S (nI j) (nI i) = (2, 0, S) from by unfold rs_addEdge; rw [tj, ti, if_neg h1, if_pos (by rw [decide_eq_true hm, Bool.or_true])]]
          refine CtP.of rfl (by simp [Value.category]) (Nat.le_of_ble_eq_true rfl) ?_
          refine V_aload_n dX5_addEdge_0 rfl rfl ?_
          refine V_iload_n dX5_addEdge_1 rfl rfl ?_
          refine V_cv0 (ctX5_requireBlock_t hL hX hS hb) mvX5_requireBlock lkX5_132 hL.1 rfl rfl rfl (Nat.le_of_ble_eq_true rfl) ⟨⟨Nat.le_of_ble_eq_true rfl, Nat.le_of_ble_eq_true rfl⟩, Nat.le_of_ble_eq_true rfl, Nat.le_of_ble_eq_true rfl⟩ dX5_addEdge_2 ?_
          refine V_aload_n dX5_addEdge_5 rfl rfl ?_
          refine V_iload_n dX5_addEdge_6 rfl rfl ?_
          refine V_cv0 (ctX5_requireBlock_t hL hX hS ht) mvX5_requireBlock lkX5_132 hL.1 rfl rfl rfl (Nat.le_of_ble_eq_true rfl) ⟨⟨Nat.le_of_ble_eq_true rfl, Nat.le_of_ble_eq_true rfl⟩, Nat.le_of_ble_eq_true rfl, Nat.le_of_ble_eq_true rfl⟩ dX5_addEdge_7 ?_
          refine V_iload_n dX5_addEdge_10 rfl rfl ?_
          refine V_Z_eq (by omega) 27 dX5_addEdge_11 (by decide) (fun h11 => ?_) (fun h11 => ?_)
          · exact absurd h11 h0
          · refine V_aload_n dX5_addEdge_14 rfl rfl ?_
            refine V_getR frX5_20 hL.1 rfl dX5_addEdge_15 ?_
            refine V_iload_n dX5_addEdge_18 rfl rfl ?_
            refine V_iload_n dX5_addEdge_19 rfl rfl ?_
            refine V_cv1 (ctX1_edgeBetween hL.2.1.2.1 hX.1 hw (by omega) (by omega)) mvX1_edgeBetween lkX5_135 hL.2.1.2.1.1 rfl rfl rfl (Nat.le_of_ble_eq_true rfl) ⟨⟨Nat.le_of_ble_eq_true rfl, Nat.le_of_ble_eq_true rfl⟩, Nat.le_of_ble_eq_true rfl, Nat.le_of_ble_eq_true rfl⟩ dX5_addEdge_20 ?_
            refine V_top (eix_in hm) ?_
            refine V_iconst (v := (-1)) dX5_addEdge_23 (by decide) ?_
            refine V_icmp_eq 37 dX5_addEdge_24 (by decide) (fun h24 => ?_) (fun h24 => ?_)
            · exact absurd h24 (nI_m1 (by have := idxOf_lt' hm; omega))
            · refine V_thrP ⟨rfl, hq⟩ ?_
              exact V_throwS thrIAE rfl str_139 rfl rfl rfl ⟨Nat.le_of_ble_eq_true rfl, Nat.le_of_ble_eq_true rfl⟩ (Nat.le_of_ble_eq_true rfl) (Nat.le_of_ble_eq_true rfl) dX5_addEdge_27 dX5_addEdge_30 dX5_addEdge_31 dX5_addEdge_33 dX5_addEdge_36

        · have h2 : ¬ (decide (i = 0) || decide (i ∈ S.1.2.2 j)) = true := by rw [decide_eq_false h0, decide_eq_false hm]; decide
          by_cases h3 : 3 ≤ (S.1.2.2 j).length
          · rw [show rs_addEdge S (nI j) (nI i) = (3, 0, S) from by unfold rs_addEdge; rw [tj, ti, if_neg h1, if_neg h2, if_pos h3]]
            refine CtP.of rfl (by simp [Value.category]) (Nat.le_of_ble_eq_true rfl) ?_
            refine V_aload_n dX5_addEdge_0 rfl rfl ?_
            refine V_iload_n dX5_addEdge_1 rfl rfl ?_
            refine V_cv0 (ctX5_requireBlock_t hL hX hS hb) mvX5_requireBlock lkX5_132 hL.1 rfl rfl rfl (Nat.le_of_ble_eq_true rfl) ⟨⟨Nat.le_of_ble_eq_true rfl, Nat.le_of_ble_eq_true rfl⟩, Nat.le_of_ble_eq_true rfl, Nat.le_of_ble_eq_true rfl⟩ dX5_addEdge_2 ?_
            refine V_aload_n dX5_addEdge_5 rfl rfl ?_
            refine V_iload_n dX5_addEdge_6 rfl rfl ?_
            refine V_cv0 (ctX5_requireBlock_t hL hX hS ht) mvX5_requireBlock lkX5_132 hL.1 rfl rfl rfl (Nat.le_of_ble_eq_true rfl) ⟨⟨Nat.le_of_ble_eq_true rfl, Nat.le_of_ble_eq_true rfl⟩, Nat.le_of_ble_eq_true rfl, Nat.le_of_ble_eq_true rfl⟩ dX5_addEdge_7 ?_
            refine V_iload_n dX5_addEdge_10 rfl rfl ?_
            refine V_Z_eq (by omega) 27 dX5_addEdge_11 (by decide) (fun h11 => ?_) (fun h11 => ?_)
            · exact absurd h11 h0
            · refine V_aload_n dX5_addEdge_14 rfl rfl ?_
              refine V_getR frX5_20 hL.1 rfl dX5_addEdge_15 ?_
              refine V_iload_n dX5_addEdge_18 rfl rfl ?_
              refine V_iload_n dX5_addEdge_19 rfl rfl ?_
              refine V_cv1 (ctX1_edgeBetween hL.2.1.2.1 hX.1 hw (by omega) (by omega)) mvX1_edgeBetween lkX5_135 hL.2.1.2.1.1 rfl rfl rfl (Nat.le_of_ble_eq_true rfl) ⟨⟨Nat.le_of_ble_eq_true rfl, Nat.le_of_ble_eq_true rfl⟩, Nat.le_of_ble_eq_true rfl, Nat.le_of_ble_eq_true rfl⟩ dX5_addEdge_20 ?_
              refine V_top (eix_out hm) ?_
              refine V_iconst (v := (-1)) dX5_addEdge_23 (by decide) ?_
              refine V_icmp_eq 37 dX5_addEdge_24 (by decide) (fun h24 => ?_) (fun h24 => absurd rfl h24)
              refine V_aload_n dX5_addEdge_37 rfl rfl ?_
              refine V_getR frX5_20 hL.1 rfl dX5_addEdge_38 ?_
              refine V_getR frX5_141 hL.2.1.2.1.1 rfl dX5_addEdge_41 ?_
              refine V_iload_n dX5_addEdge_44 rfl rfl ?_
              refine V_ialdE hL.2.1.2.1.2.2.1 j rfl (by omega) (by decide) ((hX.1.2 j (by omega)).2.1) dX5_addEdge_45 ?_
              refine V_iconst (v := nI 3) dX5_addEdge_46 (by decide) ?_
              refine V_N_lt (by omega) (by omega) 60 dX5_addEdge_47 (by decide) (fun h47 => ?_) (fun h47 => ?_)
              · exfalso
                omega
              · refine V_thrP ⟨rfl, hq⟩ ?_
                exact V_throwS thrISE rfl str_144 rfl rfl rfl ⟨Nat.le_of_ble_eq_true rfl, Nat.le_of_ble_eq_true rfl⟩ (Nat.le_of_ble_eq_true rfl) (Nat.le_of_ble_eq_true rfl) dX5_addEdge_50 dX5_addEdge_53 dX5_addEdge_54 dX5_addEdge_56 dX5_addEdge_59

          · rw [show rs_addEdge S (nI j) (nI i) = (0, nI (S.1.2.2 j).length, chg S (S.1.1, S.1.2.1, va_up S.1.2.2 j (S.1.2.2 j ++ [i]))) from by unfold rs_addEdge; rw [tj, ti, if_neg h1, if_neg h2, if_neg h3]]
            refine CtP.of rfl (by simp [Value.category]) (Nat.le_of_ble_eq_true rfl) ?_
            refine V_aload_n dX5_addEdge_0 rfl rfl ?_
            refine V_iload_n dX5_addEdge_1 rfl rfl ?_
            refine V_cv0 (ctX5_requireBlock_t hL hX hS hb) mvX5_requireBlock lkX5_132 hL.1 rfl rfl rfl (Nat.le_of_ble_eq_true rfl) ⟨⟨Nat.le_of_ble_eq_true rfl, Nat.le_of_ble_eq_true rfl⟩, Nat.le_of_ble_eq_true rfl, Nat.le_of_ble_eq_true rfl⟩ dX5_addEdge_2 ?_
            refine V_aload_n dX5_addEdge_5 rfl rfl ?_
            refine V_iload_n dX5_addEdge_6 rfl rfl ?_
            refine V_cv0 (ctX5_requireBlock_t hL hX hS ht) mvX5_requireBlock lkX5_132 hL.1 rfl rfl rfl (Nat.le_of_ble_eq_true rfl) ⟨⟨Nat.le_of_ble_eq_true rfl, Nat.le_of_ble_eq_true rfl⟩, Nat.le_of_ble_eq_true rfl, Nat.le_of_ble_eq_true rfl⟩ dX5_addEdge_7 ?_
            refine V_iload_n dX5_addEdge_10 rfl rfl ?_
            refine V_Z_eq (by omega) 27 dX5_addEdge_11 (by decide) (fun h11 => ?_) (fun h11 => ?_)
            · exact absurd h11 h0
            · refine V_aload_n dX5_addEdge_14 rfl rfl ?_
              refine V_getR frX5_20 hL.1 rfl dX5_addEdge_15 ?_
              refine V_iload_n dX5_addEdge_18 rfl rfl ?_
              refine V_iload_n dX5_addEdge_19 rfl rfl ?_
              refine V_cv1 (ctX1_edgeBetween hL.2.1.2.1 hX.1 hw (by omega) (by omega)) mvX1_edgeBetween lkX5_135 hL.2.1.2.1.1 rfl rfl rfl (Nat.le_of_ble_eq_true rfl) ⟨⟨Nat.le_of_ble_eq_true rfl, Nat.le_of_ble_eq_true rfl⟩, Nat.le_of_ble_eq_true rfl, Nat.le_of_ble_eq_true rfl⟩ dX5_addEdge_20 ?_
              refine V_top (eix_out hm) ?_
              refine V_iconst (v := (-1)) dX5_addEdge_23 (by decide) ?_
              refine V_icmp_eq 37 dX5_addEdge_24 (by decide) (fun h24 => ?_) (fun h24 => absurd rfl h24)
              refine V_aload_n dX5_addEdge_37 rfl rfl ?_
              refine V_getR frX5_20 hL.1 rfl dX5_addEdge_38 ?_
              refine V_getR frX5_141 hL.2.1.2.1.1 rfl dX5_addEdge_41 ?_
              refine V_iload_n dX5_addEdge_44 rfl rfl ?_
              refine V_ialdE hL.2.1.2.1.2.2.1 j rfl (by omega) (by decide) ((hX.1.2 j (by omega)).2.1) dX5_addEdge_45 ?_
              refine V_iconst (v := nI 3) dX5_addEdge_46 (by decide) ?_
              refine V_N_lt (by omega) (by omega) 60 dX5_addEdge_47 (by decide) (fun h47 => ?_) (fun h47 => ?_)
              · refine V_aload_n dX5_addEdge_60 rfl rfl ?_
                refine V_getR frX5_40 hL.1 rfl dX5_addEdge_61 ?_
                refine V_aload_n dX5_addEdge_64 rfl rfl ?_
                refine V_getR frX5_20 hL.1 rfl dX5_addEdge_65 ?_
                refine V_cp0 (ctX2_remember hL.2.2.2.2.1 hL.2.1.2.1 (by omega) hHA hX.1 hw) mvX2_remember lkX5_105 hL.2.2.2.2.1.1 rfl rfl rfl (Nat.le_of_ble_eq_true rfl) ⟨⟨Nat.le_of_ble_eq_true rfl, Nat.le_of_ble_eq_true rfl⟩, Nat.le_of_ble_eq_true rfl, Nat.le_of_ble_eq_true rfl⟩ dX5_addEdge_68 (fun μ1 hx => ?_)
                obtain ⟨m1, rfl, ⟨ℓ1, hH1⟩, ho1⟩ := hx
                have hA1 : GA m1 (x + 1 + 1) S.1 := hX.1.keep (fun a i q1 q2 => ho1 a i (by omega))
                refine V_aload_n dX5_addEdge_71 rfl rfl ?_
                refine V_getR frX5_20 hL.1 rfl dX5_addEdge_72 ?_
                refine V_iload_n dX5_addEdge_75 rfl rfl ?_
                refine V_iload_n dX5_addEdge_76 rfl rfl ?_
                refine V_cv0 (ctX1_putEdge hL.2.1.2.1 (by omega) ((hA1.2 j (by omega)).2.1) (by omega)) mvX1_putEdge lkX5_146 hL.2.1.2.1.1 rfl rfl rfl (Nat.le_of_ble_eq_true rfl) ⟨⟨Nat.le_of_ble_eq_true rfl, Nat.le_of_ble_eq_true rfl⟩, Nat.le_of_ble_eq_true rfl, Nat.le_of_ble_eq_true rfl⟩ dX5_addEdge_77 ?_
                refine V_aload_n dX5_addEdge_80 rfl rfl ?_
                refine V_cp0 (ctX5_followGraph hL (GA_putE hA1 (fun b => (hw.2.2.2.1 b).1) (x := i) (show j < 14 by omega) (show (S.1.2.2 j).length < 3 by omega)) (hw.addE hj (by omega) (by omega) hi hm)) mvX5_followGraph lkX5_82 hL.1 rfl rfl rfl (Nat.le_of_ble_eq_true rfl) ⟨⟨Nat.le_of_ble_eq_true rfl, Nat.le_of_ble_eq_true rfl⟩, Nat.le_of_ble_eq_true rfl, Nat.le_of_ble_eq_true rfl⟩ dX5_addEdge_81 (fun μ3 hx => ?_)
                obtain ⟨m3, rfl, hf3, hc3, ho3⟩ := hx
                refine V_aload_n dX5_addEdge_84 rfl rfl ?_
                refine V_getR frX5_20 hL.1 rfl dX5_addEdge_85 ?_
                refine V_getR frX5_141 hL.2.1.2.1.1 rfl dX5_addEdge_88 ?_
                refine V_iload_n dX5_addEdge_91 rfl rfl ?_
                refine V_ialdE hL.2.1.2.1.2.2.1 j rfl (by omega) (by decide) ((ho3 _ _ (by omega) (by omega) (by omega)).trans (u2_s _ _ _ _)) dX5_addEdge_92 ?_
                refine V_iconst (v := nI 1) dX5_addEdge_93 (by decide) ?_
                refine V_isub dX5_addEdge_94 ?_
                refine V_top ((nI_subN (by omega)).trans (congrArg nI (Nat.add_sub_cancel _ 1))) ?_
                exact V_iretP rfl ⟨rfl, m3, ml, rfl, hX.new ((GA_putE hA1 (fun b => (hw.2.2.2.1 b).1) (x := i) (show j < 14 by omega) (show (S.1.2.2 j).length < 3 by omega)).keep (fun a i q1 q2 => ho3 a i (by omega) (by omega) (by omega))) hf3 ⟨ℓ1, hH1.keep (fun a i q1 q2 => (ho3 a i (by omega) (by omega) (by omega)).trans ((fun a i (q : a < x + 1 + 1 ∨ x + 1 + 1 + 5 ≤ a) => (u2_n _ _ (Or.inl (by omega))).trans (u2_n _ _ (Or.inl (by omega)))) a i (by omega)))⟩ (hX.2.2.2.2.1.keep (fun a i q => (ho3 a i (by omega) (by omega) (by omega)).trans (((fun a i (q : a < x + 1 + 1 ∨ x + 1 + 1 + 5 ≤ a) => (u2_n _ _ (Or.inl (by omega))).trans (u2_n _ _ (Or.inl (by omega)))) a i (by omega)).trans (ho1 a i (by omega))))) hc3 (fun a i q => (ho3 a i (by omega) (by omega) (by omega)).trans (((fun a i (q : a < x + 1 + 1 ∨ x + 1 + 1 + 5 ≤ a) => (u2_n _ _ (Or.inl (by omega))).trans (u2_n _ _ (Or.inl (by omega)))) a i (by omega)).trans (ho1 a i (by omega)))), fun a i q => ⟨(ho3 a i (by omega) (by omega) (by omega)).trans (((fun a i (q : a < x + 1 + 1 ∨ x + 1 + 1 + 5 ≤ a) => (u2_n _ _ (Or.inl (by omega))).trans (u2_n _ _ (Or.inl (by omega)))) a i (by omega)).trans (ho1 a i (by omega))), rfl⟩⟩ ⟨Nat.le_of_ble_eq_true rfl, Nat.le_of_ble_eq_true rfl⟩ dX5_addEdge_95
              · exfalso
                omega

theorem ctX5_removeEdge (hL : XL σ x) (hX : XA mi x S) (hS : SOK S) {b t : Int32} : CtP κ 1 6 12 mrX5_removeEdge [.ref x, .int b, .int t] (MM σ mi ml) (XR σ mi ml x [EIOB, ENSE] (rs_removeEdge S b t)) := by
  have hq := XQ (ml := ml) (σ := σ) hX
  have hw := hS.1
  have h14 := hw.2.1
  obtain ⟨ℓ, hHA⟩ := hX.2.2.1
  cases hb : inR b S.1.1 with
  | false =>
    rw [show rs_removeEdge S b t = (1, 0, S) from by unfold rs_removeEdge; rw [if_pos (by rw [hb]; rfl)]]
    refine CtP.of rfl (by simp [Value.category]) (Nat.le_of_ble_eq_true rfl) ?_
    refine V_aload_n dX5_removeEdge_0 rfl rfl ?_
    refine V_iload_n dX5_removeEdge_1 rfl rfl ?_
    refine V_callVX (ctX5_requireBlock_f hL hX hS hb) mvX5_requireBlock lkX5_132 hL.1 rfl rfl rfl (Nat.le_of_ble_eq_true rfl) ⟨⟨Nat.le_of_ble_eq_true rfl, Nat.le_of_ble_eq_true rfl⟩, Nat.le_of_ble_eq_true rfl, Nat.le_of_ble_eq_true rfl⟩ dX5_removeEdge_2 ?_
    exact VX_outP ⟨rfl, hq⟩ ⟨Nat.le_of_ble_eq_true rfl, Nat.le_of_ble_eq_true rfl⟩

  | true =>
    cases ht : inR t S.1.1 with
    | false =>
      rw [show rs_removeEdge S b t = (1, 0, S) from by unfold rs_removeEdge; rw [if_pos (by rw [ht, Bool.and_false])]]
      refine CtP.of rfl (by simp [Value.category]) (Nat.le_of_ble_eq_true rfl) ?_
      refine V_aload_n dX5_removeEdge_0 rfl rfl ?_
      refine V_iload_n dX5_removeEdge_1 rfl rfl ?_
      refine V_cv0 (ctX5_requireBlock_t hL hX hS hb) mvX5_requireBlock lkX5_132 hL.1 rfl rfl rfl (Nat.le_of_ble_eq_true rfl) ⟨⟨Nat.le_of_ble_eq_true rfl, Nat.le_of_ble_eq_true rfl⟩, Nat.le_of_ble_eq_true rfl, Nat.le_of_ble_eq_true rfl⟩ dX5_removeEdge_2 ?_
      refine V_aload_n dX5_removeEdge_5 rfl rfl ?_
      refine V_iload_n dX5_removeEdge_6 rfl rfl ?_
      refine V_callVX (ctX5_requireBlock_f hL hX hS ht) mvX5_requireBlock lkX5_132 hL.1 rfl rfl rfl (Nat.le_of_ble_eq_true rfl) ⟨⟨Nat.le_of_ble_eq_true rfl, Nat.le_of_ble_eq_true rfl⟩, Nat.le_of_ble_eq_true rfl, Nat.le_of_ble_eq_true rfl⟩ dX5_removeEdge_7 ?_
      exact VX_outP ⟨rfl, hq⟩ ⟨Nat.le_of_ble_eq_true rfl, Nat.le_of_ble_eq_true rfl⟩

    | true =>
      obtain ⟨j, hj, rfl⟩ := inR_t (by omega) hb
      have tj := tn_nI (show j < 2 ^ 31 by omega)
      obtain ⟨i, hi, rfl⟩ := inR_t (by omega) ht
      have ti := tn_nI (show i < 2 ^ 31 by omega)
      have h1 : ¬ (inR (nI j) S.1.1 && inR (nI i) S.1.1) = false := by rw [hb, ht]; decide
      have h3l := (hw.2.2.2.1 j).1
      by_cases hm : i ∈ S.1.2.2 j
      · rw [show rs_removeEdge S (nI j) (nI i) = (0, nI ((S.1.2.2 j).length - 1), chg S (S.1.1, S.1.2.1, va_up S.1.2.2 j ((S.1.2.2 j).eraseIdx ((S.1.2.2 j).idxOf i)))) from by unfold rs_removeEdge; rw [tj, ti, if_neg h1, if_neg (fun q => q hm)]]
        refine CtP.of rfl (by simp [Value.category]) (Nat.le_of_ble_eq_true rfl) ?_
        refine V_aload_n dX5_removeEdge_0 rfl rfl ?_
        refine V_iload_n dX5_removeEdge_1 rfl rfl ?_
        refine V_cv0 (ctX5_requireBlock_t hL hX hS hb) mvX5_requireBlock lkX5_132 hL.1 rfl rfl rfl (Nat.le_of_ble_eq_true rfl) ⟨⟨Nat.le_of_ble_eq_true rfl, Nat.le_of_ble_eq_true rfl⟩, Nat.le_of_ble_eq_true rfl, Nat.le_of_ble_eq_true rfl⟩ dX5_removeEdge_2 ?_
        refine V_aload_n dX5_removeEdge_5 rfl rfl ?_
        refine V_iload_n dX5_removeEdge_6 rfl rfl ?_
        refine V_cv0 (ctX5_requireBlock_t hL hX hS ht) mvX5_requireBlock lkX5_132 hL.1 rfl rfl rfl (Nat.le_of_ble_eq_true rfl) ⟨⟨Nat.le_of_ble_eq_true rfl, Nat.le_of_ble_eq_true rfl⟩, Nat.le_of_ble_eq_true rfl, Nat.le_of_ble_eq_true rfl⟩ dX5_removeEdge_7 ?_
        refine V_aload_n dX5_removeEdge_10 rfl rfl ?_
        refine V_getR frX5_20 hL.1 rfl dX5_removeEdge_11 ?_
        refine V_iload_n dX5_removeEdge_14 rfl rfl ?_
        refine V_iload_n dX5_removeEdge_15 rfl rfl ?_
        refine V_cv1 (ctX1_edgeBetween hL.2.1.2.1 hX.1 hw (by omega) (by omega)) mvX1_edgeBetween lkX5_135 hL.2.1.2.1.1 rfl rfl rfl (Nat.le_of_ble_eq_true rfl) ⟨⟨Nat.le_of_ble_eq_true rfl, Nat.le_of_ble_eq_true rfl⟩, Nat.le_of_ble_eq_true rfl, Nat.le_of_ble_eq_true rfl⟩ dX5_removeEdge_16 ?_
        refine V_top (eix_in hm) ?_
        refine V_istore_n dX5_removeEdge_19 rfl (Nat.le_of_ble_eq_true rfl) ?_
        refine V_iload_n dX5_removeEdge_20 rfl rfl ?_
        refine V_iconst (v := (-1)) dX5_removeEdge_21 (by decide) ?_
        refine V_icmp_ne 35 dX5_removeEdge_22 (by decide) (fun h22 => ?_) (fun h22 => absurd h22 (nI_m1 (by have := idxOf_lt' hm; omega)))
        refine V_aload_n dX5_removeEdge_35 rfl rfl ?_
        refine V_getR frX5_40 hL.1 rfl dX5_removeEdge_36 ?_
        refine V_aload_n dX5_removeEdge_39 rfl rfl ?_
        refine V_getR frX5_20 hL.1 rfl dX5_removeEdge_40 ?_
        refine V_cp0 (ctX2_remember hL.2.2.2.2.1 hL.2.1.2.1 (by omega) hHA hX.1 hw) mvX2_remember lkX5_105 hL.2.2.2.2.1.1 rfl rfl rfl (Nat.le_of_ble_eq_true rfl) ⟨⟨Nat.le_of_ble_eq_true rfl, Nat.le_of_ble_eq_true rfl⟩, Nat.le_of_ble_eq_true rfl, Nat.le_of_ble_eq_true rfl⟩ dX5_removeEdge_43 (fun μ1 hx => ?_)
        obtain ⟨m1, rfl, ⟨ℓ1, hH1⟩, ho1⟩ := hx
        have hA1 : GA m1 (x + 1 + 1) S.1 := hX.1.keep (fun a i q1 q2 => ho1 a i (by omega))
        refine V_aload_n dX5_removeEdge_46 rfl rfl ?_
        refine V_getR frX5_20 hL.1 rfl dX5_removeEdge_47 ?_
        refine V_iload_n dX5_removeEdge_50 rfl rfl ?_
        refine V_iload_n dX5_removeEdge_51 rfl rfl ?_
        refine V_cv0 (ctX1_dropEdge hL.2.1.2.1 hA1 h3l (by omega) (idxOf_lt' hm)) mvX1_dropEdge lkX5_151 hL.2.1.2.1.1 rfl rfl rfl (Nat.le_of_ble_eq_true rfl) ⟨⟨Nat.le_of_ble_eq_true rfl, Nat.le_of_ble_eq_true rfl⟩, Nat.le_of_ble_eq_true rfl, Nat.le_of_ble_eq_true rfl⟩ dX5_removeEdge_52 ?_
        refine V_aload_n dX5_removeEdge_55 rfl rfl ?_
        refine V_cp0 (ctX5_followGraph hL (GA_dropE hA1 (fun b => (hw.2.2.2.1 b).1) (show j < 14 by omega) (idxOf_lt' hm)) (hw.dropE hj)) mvX5_followGraph lkX5_82 hL.1 rfl rfl rfl (Nat.le_of_ble_eq_true rfl) ⟨⟨Nat.le_of_ble_eq_true rfl, Nat.le_of_ble_eq_true rfl⟩, Nat.le_of_ble_eq_true rfl, Nat.le_of_ble_eq_true rfl⟩ dX5_removeEdge_56 (fun μ3 hx => ?_)
        obtain ⟨m3, rfl, hf3, hc3, ho3⟩ := hx
        refine V_aload_n dX5_removeEdge_59 rfl rfl ?_
        refine V_getR frX5_20 hL.1 rfl dX5_removeEdge_60 ?_
        refine V_getR frX5_141 hL.2.1.2.1.1 rfl dX5_removeEdge_63 ?_
        refine V_iload_n dX5_removeEdge_66 rfl rfl ?_
        refine V_ialdE hL.2.1.2.1.2.2.1 j rfl (by omega) (by decide) ((ho3 _ _ (by omega) (by omega) (by omega)).trans (u2_s _ _ _ _)) dX5_removeEdge_67 ?_
        exact V_iretP rfl ⟨rfl, m3, ml, rfl, hX.new ((GA_dropE hA1 (fun b => (hw.2.2.2.1 b).1) (show j < 14 by omega) (idxOf_lt' hm)).keep (fun a i q1 q2 => ho3 a i (by omega) (by omega) (by omega))) hf3 ⟨ℓ1, hH1.keep (fun a i q1 q2 => (ho3 a i (by omega) (by omega) (by omega)).trans ((fun a i (q : a < x + 1 + 1 ∨ x + 1 + 1 + 5 ≤ a) => (u2_n _ _ (Or.inl (by omega))).trans (shf_n (by omega))) a i (by omega)))⟩ (hX.2.2.2.2.1.keep (fun a i q => (ho3 a i (by omega) (by omega) (by omega)).trans (((fun a i (q : a < x + 1 + 1 ∨ x + 1 + 1 + 5 ≤ a) => (u2_n _ _ (Or.inl (by omega))).trans (shf_n (by omega))) a i (by omega)).trans (ho1 a i (by omega))))) hc3 (fun a i q => (ho3 a i (by omega) (by omega) (by omega)).trans (((fun a i (q : a < x + 1 + 1 ∨ x + 1 + 1 + 5 ≤ a) => (u2_n _ _ (Or.inl (by omega))).trans (shf_n (by omega))) a i (by omega)).trans (ho1 a i (by omega)))), fun a i q => ⟨(ho3 a i (by omega) (by omega) (by omega)).trans (((fun a i (q : a < x + 1 + 1 ∨ x + 1 + 1 + 5 ≤ a) => (u2_n _ _ (Or.inl (by omega))).trans (shf_n (by omega))) a i (by omega)).trans (ho1 a i (by omega))), rfl⟩⟩ ⟨Nat.le_of_ble_eq_true rfl, Nat.le_of_ble_eq_true rfl⟩ dX5_removeEdge_68

      · rw [show rs_removeEdge S (nI j) (nI i) = (2, 0, S) from by unfold rs_removeEdge; rw [tj, ti, if_neg h1, if_pos hm]]
        refine CtP.of rfl (by simp [Value.category]) (Nat.le_of_ble_eq_true rfl) ?_
        refine V_aload_n dX5_removeEdge_0 rfl rfl ?_
        refine V_iload_n dX5_removeEdge_1 rfl rfl ?_
        refine V_cv0 (ctX5_requireBlock_t hL hX hS hb) mvX5_requireBlock lkX5_132 hL.1 rfl rfl rfl (Nat.le_of_ble_eq_true rfl) ⟨⟨Nat.le_of_ble_eq_true rfl, Nat.le_of_ble_eq_true rfl⟩, Nat.le_of_ble_eq_true rfl, Nat.le_of_ble_eq_true rfl⟩ dX5_removeEdge_2 ?_
        refine V_aload_n dX5_removeEdge_5 rfl rfl ?_
        refine V_iload_n dX5_removeEdge_6 rfl rfl ?_
        refine V_cv0 (ctX5_requireBlock_t hL hX hS ht) mvX5_requireBlock lkX5_132 hL.1 rfl rfl rfl (Nat.le_of_ble_eq_true rfl) ⟨⟨Nat.le_of_ble_eq_true rfl, Nat.le_of_ble_eq_true rfl⟩, Nat.le_of_ble_eq_true rfl, Nat.le_of_ble_eq_true rfl⟩ dX5_removeEdge_7 ?_
        refine V_aload_n dX5_removeEdge_10 rfl rfl ?_
        refine V_getR frX5_20 hL.1 rfl dX5_removeEdge_11 ?_
        refine V_iload_n dX5_removeEdge_14 rfl rfl ?_
        refine V_iload_n dX5_removeEdge_15 rfl rfl ?_
        refine V_cv1 (ctX1_edgeBetween hL.2.1.2.1 hX.1 hw (by omega) (by omega)) mvX1_edgeBetween lkX5_135 hL.2.1.2.1.1 rfl rfl rfl (Nat.le_of_ble_eq_true rfl) ⟨⟨Nat.le_of_ble_eq_true rfl, Nat.le_of_ble_eq_true rfl⟩, Nat.le_of_ble_eq_true rfl, Nat.le_of_ble_eq_true rfl⟩ dX5_removeEdge_16 ?_
        refine V_top (eix_out hm) ?_
        refine V_istore_n dX5_removeEdge_19 rfl (Nat.le_of_ble_eq_true rfl) ?_
        refine V_iload_n dX5_removeEdge_20 rfl rfl ?_
        refine V_iconst (v := (-1)) dX5_removeEdge_21 (by decide) ?_
        refine V_icmp_ne 35 dX5_removeEdge_22 (by decide) (fun h22 => absurd h22 (fun q => q rfl)) (fun h22 => ?_)
        refine V_thrP ⟨rfl, hq⟩ ?_
        exact V_throwX nse0 nse1 nse2 nse5 thrNSE rfl str_149 rfl rfl rfl ⟨Nat.le_of_ble_eq_true rfl, Nat.le_of_ble_eq_true rfl⟩ (Nat.le_of_ble_eq_true rfl) (Nat.le_of_ble_eq_true rfl) dX5_removeEdge_25 dX5_removeEdge_28 dX5_removeEdge_29 dX5_removeEdge_31 dX5_removeEdge_34

end Cls3
