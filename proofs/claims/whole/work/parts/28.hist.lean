/-! exact ends inside relational contracts; SsaRepair.History, SsaRepair.Walk -/
theorem QcOf.toP {κ : K0} {Ψ : Oc → Mem → Prop} {o : Oc} {μ' : Mem} (h : Ψ o μ') {a : Array Value} {s t : State} {oc : Outcome} (q : QcOf κ o μ' a s oc t) : QcP κ Ψ a s oc t := by
  obtain ⟨⟨v, rfl, h2, h3⟩, hF⟩ := q
  exact ⟨⟨v, μ', h, h2, h3⟩, hF⟩
theorem XcOf.toP {κ : K0} {Ψ : Oc → Mem → Prop} {o : Oc} {μ' : Mem} (h : Ψ o μ') {E : String} {s t : State} (q : XcOf κ o μ' E s t) : XcP κ Ψ E s t := by
  obtain ⟨⟨rfl, h3⟩, hF⟩ := q
  exact ⟨⟨μ', h, h3⟩, hF⟩
theorem V_thrP {κ : K0} {mr : MR} {dd mc ms cells slots pc : Nat} {L : List (Option Value)} {st : List Value} {μ : Mem} {Ψ : Oc → Mem → Prop} {E : String} (h : Ψ (.inr E) μ) (k : V κ (phi κ mr dd mc ms (.inr E) μ) cells slots pc L st μ) : V κ (phiP κ mr dd mc ms Ψ) cells slots pc L st μ := by
  intro p e s m args below meth c B H locs ls hl hR hS T hT X
  obtain ⟨t, a1, o, b1, b2, b3⟩ := k p e s m args below meth c B H locs ls hl hR hS T hT X
  refine ⟨t, a1, o, b1, b2, ?_⟩
  unfold vx_Q at b3 ⊢
  rcases b3 with ⟨c1, c2⟩ | b3
  · exact Or.inl ⟨c1.toP h, c2⟩
  · obtain ⟨q, e1, E', ce, Lo, d1, d2⟩ := b3
    exact Or.inr ⟨q, e1, E', ce, Lo, XcOf.toP h d1, d2⟩
theorem GA.keep {mi m : Nat → Nat → Int32} {g : Nat} {G : Gr} (hA : GA mi g G) (h : ∀ a i, g ≤ a → a < g + 5 → m a i = mi a i) : GA m g G := by
  refine ⟨(h _ _ (by omega) (by omega)).trans hA.1, fun b hb => ?_⟩
  obtain ⟨h1, h2, h3, h4⟩ := hA.2 b hb
  exact ⟨(h _ _ (by omega) (by omega)).trans h1, (h _ _ (by omega) (by omega)).trans h2, fun k hk => (h _ _ (by omega) (by omega)).trans (h3 k hk), fun k hk => (h _ _ (by omega) (by omega)).trans (h4 k hk)⟩
theorem FA.keep {mi m : Nat → Nat → Int32} {f : Nat} {G : Gr} (hQ : FA mi f G) (h : ∀ a i, (a = f ∧ i = 1) ∨ (f + 6 ≤ a ∧ a < f + 16) → m a i = mi a i) : FA m f G :=
  ⟨⟨fun a ha => (h _ _ (Or.inr (by omega))).trans (hQ.1.1 a ha), (h _ _ (Or.inl ⟨rfl, rfl⟩)).trans hQ.1.2.1, fun b hb => (h _ _ (Or.inr (by omega))).trans (hQ.1.2.2 b hb)⟩,
   ⟨fun a ha => (h _ _ (Or.inr (by omega))).trans (hQ.2.1.1 a ha), fun b hb hR h0 => (h _ _ (Or.inr (by omega))).trans (hQ.2.1.2.1 b hb hR h0), fun b hb => (h _ _ (Or.inr (by omega))).trans (hQ.2.1.2.2 b hb)⟩, fun v hv => by
    obtain ⟨⟨g1, g2⟩, g3, g4, g5⟩ := hQ.2.2 v hv
    exact ⟨⟨(h _ _ (Or.inr (by omega))).trans g1, fun b hb => (h _ _ (Or.inr (by omega))).trans (g2 b hb)⟩, (h _ _ (Or.inr (by omega))).trans g3, (h _ _ (Or.inr (by omega))).trans g4, (h _ _ (Or.inr (by omega))).trans g5⟩⟩
def slH (h : Nat) : Nat → Option Value := fun k => match k with
  | 0 => some (.ref (h + 1))
  | _ => none
def HistL (σ : Nat → Option Kd) (h : Nat) : Prop := σ h = some (.inr (2, 3, slH h)) ∧ (∃ r, σ (h + 1) = some (.inl (.object RX1, 8, r)) ∧ ∀ j, j < 8 → r j = some (h + 2 + 5 * j)) ∧ ∀ j, j < 8 → GraphL σ (h + 2 + 5 * j)
/-- n graphs are remembered, the latest one first -/
def HA (mi : Nat → Nat → Int32) (h n : Nat) (Hs : Nat → Gr) (ℓ : Nat) : Prop := mi h 1 = nI ℓ ∧ ℓ < 8 ∧ mi h 2 = nI n ∧ n ≤ 8 ∧ ∀ i, i < n → GA mi (h + 2 + 5 * ((ℓ + 8 - i) % 8)) (Hs i)
theorem HA.keep {mi m : Nat → Nat → Int32} {h n : Nat} {Hs : Nat → Gr} {ℓ : Nat} (hA : HA mi h n Hs ℓ) (hk : ∀ a i, h ≤ a → a < h + 42 → m a i = mi a i) : HA m h n Hs ℓ :=
  ⟨(hk _ _ (by omega) (by omega)).trans hA.1, hA.2.1, (hk _ _ (by omega) (by omega)).trans hA.2.2.1, hA.2.2.2.1, fun i hi => (hA.2.2.2.2 i hi).keep (fun a j h1 h2 => hk a j (by omega) (by omega))⟩
def hcons (G : Gr) (Hs : Nat → Gr) : Nat → Gr
  | 0 => G
  | i + 1 => Hs i
theorem remT : ∀ s, s < 16 → nI s - nI s / nI 8 * nI 8 = nI (s % 8) := by decide +kernel
theorem min8 : ∀ n, n ≤ 8 → (if nI 8 < nI (n + 1) then nI 8 else nI (n + 1)) = nI (min (n + 1) 8) := by decide +kernel
section Hist
variable {κ : K0} {σ : Nat → Option Kd} {mi : Nat → Nat → Int32} {ml : Nat → Nat → Int64} {h g n : Nat} {G : Gr} {Hs : Nat → Gr}
theorem ctX2_remember (hH : HistL σ h) (hG : GraphL σ g) (hd : g + 5 ≤ h ∨ h + 42 ≤ g) {ℓ : Nat} (hA : HA mi h n Hs ℓ) (hgA : GA mi g G) (hw : Wf G) : CtP κ 0 0 3 mrX2_remember [.ref h, .ref g] (MM σ mi ml) (fun o μ' => o = .inl none ∧ ∃ m', μ' = MM σ m' ml ∧ (∃ ℓ', HA m' h (min (n + 1) 8) (hcons G Hs) ℓ') ∧ ∀ a i, (a < h ∨ h + 42 ≤ a) → m' a i = mi a i) := by
  refine CtP.of rfl (by simp [Value.category]) (Nat.le_of_ble_eq_true rfl) ?_
  obtain ⟨r, hr0, hr1⟩ := hH.2.1
  obtain ⟨a1, a2, a3, a4, a5⟩ := hA
  have hj : (ℓ + 1) % 8 < 8 := Nat.mod_lt _ (by decide)
  have hgj := hH.2.2 _ hj
  refine V_aload_n dX2_remember_0 rfl rfl ?_
  refine V_aload_n dX2_remember_1 rfl rfl ?_
  refine V_getE frX2_17 hH.1 rfl a1 dX2_remember_2 ?_
  refine V_iconst (v := nI 1) dX2_remember_5 (by decide) ?_
  refine V_iadd dX2_remember_6 ?_
  refine V_top (nI_add ℓ 1) ?_
  refine V_bipush (v := nI 8) dX2_remember_7 (by decide) ?_
  refine V_irem dX2_remember_9 (by decide) ?_
  refine V_top (remT (ℓ + 1) (by omega)) ?_
  refine V_putI fpX2_17 rfl rfl hH.1 rfl dX2_remember_10 ?_
  refine V_aload_n dX2_remember_13 rfl rfl ?_
  refine V_getR frX2_11 hH.1 rfl dX2_remember_14 ?_
  refine V_aload_n dX2_remember_17 rfl rfl ?_
  refine V_getE frX2_17 hH.1 rfl (u2_s _ _ _ _) dX2_remember_18 ?_
  refine V_aaldGN hr0 ((ℓ + 1) % 8) rfl hj (by decide) (hr1 _ hj) dX2_remember_21 ?_
  refine V_aload_n dX2_remember_22 rfl rfl ?_
  refine V_cv0 (ctX1_become hgj hG (by omega)) mvX1_become lkX2_25 hgj.1 rfl rfl rfl (Nat.le_of_ble_eq_true rfl) ⟨⟨Nat.le_of_ble_eq_true rfl, Nat.le_of_ble_eq_true rfl⟩, Nat.le_of_ble_eq_true rfl, Nat.le_of_ble_eq_true rfl⟩ dX2_remember_23 ?_
  refine V_aload_n dX2_remember_26 rfl rfl ?_
  refine V_aload_n dX2_remember_27 rfl rfl ?_
  refine V_getE frX2_21 hH.1 rfl (show _ = nI n from (bcm_off _ _ (by omega)).trans ((u2_n _ _ (Or.inr (by decide))).trans a3)) dX2_remember_28 ?_
  refine V_iconst (v := nI 1) dX2_remember_31 (by decide) ?_
  refine V_iadd dX2_remember_32 ?_
  refine V_top (nI_add n 1) ?_
  refine V_bipush (v := nI 8) dX2_remember_33 (by decide) ?_
  refine V_min minX2_29 (Nat.le_of_ble_eq_true rfl) (Nat.le_of_ble_eq_true rfl) ⟨Nat.le_of_ble_eq_true rfl, Nat.le_of_ble_eq_true rfl⟩ dX2_remember_35 ?_
  refine V_top (min8 n a4) ?_
  refine V_putI fpX2_21 rfl rfl hH.1 rfl dX2_remember_38 ?_
  refine V_vretP rfl ⟨rfl, _, rfl, ⟨(ℓ + 1) % 8, ?_, hj, u2_s _ _ _ _, by omega, fun i hi => ?_⟩, fun a i q => ?_⟩ ⟨Nat.le_of_ble_eq_true rfl, Nat.le_of_ble_eq_true rfl⟩ dX2_remember_41

  · exact (u2_n _ _ (Or.inr (by decide))).trans ((bcm_off _ _ (by omega)).trans (u2_s _ _ _ _))
  · refine GA.keep (mi := bcm (u2 mi h 1 (nI ((ℓ + 1) % 8))) (h + 2 + 5 * ((ℓ + 1) % 8)) g) ?_ (fun a j q1 q2 => u2_n _ _ (Or.inl (by omega)))
    cases i with
    | zero =>
      rw [show ((ℓ + 1) % 8 + 8 - 0) % 8 = (ℓ + 1) % 8 by omega]
      exact bcm_GA (hgA.keep (fun a j q1 q2 => u2_n _ _ (Or.inl (by omega)))) hw
    | succ i =>
      rw [show ((ℓ + 1) % 8 + 8 - (i + 1)) % 8 = (ℓ + 8 - i) % 8 by omega]
      refine (a5 i (by omega)).keep (fun a j q1 q2 => (bcm_off _ _ ?_).trans (u2_n _ _ (Or.inl (by omega))))
      omega
  · exact (u2_n _ _ (Or.inl (by omega))).trans ((bcm_off _ _ (by omega)).trans (u2_n _ _ (Or.inl (by omega))))
theorem ctX2_copyLatest (hH : HistL σ h) (hG : GraphL σ g) (hd : g + 5 ≤ h ∨ h + 42 ≤ g) {ℓ : Nat} (hA : HA mi h n Hs ℓ) : Ct κ 0 0 3 mrX2_copyLatest [.ref h, .ref g] (MM σ mi ml) (.inl none) (MM σ (bcm mi g (h + 2 + 5 * ℓ)) ml) := by
  refine Ct.of rfl (by simp [Value.category]) (Nat.le_of_ble_eq_true rfl) ?_
  obtain ⟨r, hr0, hr1⟩ := hH.2.1
  have hgj := hH.2.2 _ hA.2.1
  refine V_aload_n dX2_copyLatest_0 rfl rfl ?_
  refine V_aload_n dX2_copyLatest_1 rfl rfl ?_
  refine V_getR frX2_11 hH.1 rfl dX2_copyLatest_2 ?_
  refine V_aload_n dX2_copyLatest_5 rfl rfl ?_
  refine V_getE frX2_17 hH.1 rfl hA.1 dX2_copyLatest_6 ?_
  refine V_aaldGN hr0 ℓ rfl hA.2.1 (by decide) (hr1 _ hA.2.1) dX2_copyLatest_9 ?_
  refine V_cv0 (ctX1_become hG hgj (by have := hA.2.1; omega)) mvX1_become lkX2_25 hG.1 rfl rfl rfl (Nat.le_of_ble_eq_true rfl) ⟨⟨Nat.le_of_ble_eq_true rfl, Nat.le_of_ble_eq_true rfl⟩, Nat.le_of_ble_eq_true rfl, Nat.le_of_ble_eq_true rfl⟩ dX2_copyLatest_10 ?_
  exact V_vret rfl rfl rfl ⟨Nat.le_of_ble_eq_true rfl, Nat.le_of_ble_eq_true rfl⟩ dX2_copyLatest_13

theorem HA.latest {ℓ : Nat} (hA : HA mi h n Hs ℓ) (hn : 0 < n) : GA mi (h + 2 + 5 * ℓ) (Hs 0) := by
  have h1 := hA.2.2.2.2 0 hn
  have h2 := hA.2.1
  rw [show (ℓ + 8 - 0) % 8 = ℓ by omega] at h1
  exact h1
theorem ctX2_takeBack (hH : HistL σ h) (hG : GraphL σ g) (hd : g + 5 ≤ h ∨ h + 42 ≤ g) {ℓ : Nat} (hA : HA mi h n Hs ℓ) (hn : 0 < n) (hw : Wf (Hs 0)) : CtP κ 0 0 4 mrX2_takeBack [.ref h, .ref g] (MM σ mi ml) (fun o μ' => o = .inl none ∧ ∃ m', μ' = MM σ m' ml ∧ (∃ ℓ', HA m' h (n - 1) (fun i => Hs (i + 1)) ℓ') ∧ GA m' g (Hs 0) ∧ ∀ a i, (a < h ∨ h + 42 ≤ a) → (a < g ∨ g + 5 ≤ a) → m' a i = mi a i) := by
  refine CtP.of rfl (by simp [Value.category]) (Nat.le_of_ble_eq_true rfl) ?_
  have hlat := hA.latest hn
  obtain ⟨a1, a2, a3, a4, a5⟩ := hA
  refine V_aload_n dX2_takeBack_0 rfl rfl ?_
  refine V_aload_n dX2_takeBack_1 rfl rfl ?_
  refine V_cv0 (ctX2_copyLatest hH hG hd ⟨a1, a2, a3, a4, a5⟩) mvX2_copyLatest lkX2_35 hH.1 rfl rfl rfl (Nat.le_of_ble_eq_true rfl) ⟨⟨Nat.le_of_ble_eq_true rfl, Nat.le_of_ble_eq_true rfl⟩, Nat.le_of_ble_eq_true rfl, Nat.le_of_ble_eq_true rfl⟩ dX2_takeBack_2 ?_
  refine V_aload_n dX2_takeBack_5 rfl rfl ?_
  refine V_aload_n dX2_takeBack_6 rfl rfl ?_
  refine V_getE frX2_17 hH.1 rfl ((bcm_off _ _ (by omega)).trans a1) dX2_takeBack_7 ?_
  refine V_bipush (v := nI 8) dX2_takeBack_10 (by decide) ?_
  refine V_iadd dX2_takeBack_12 ?_
  refine V_top (nI_add ℓ 8) ?_
  refine V_iconst (v := nI 1) dX2_takeBack_13 (by decide) ?_
  refine V_isub dX2_takeBack_14 ?_
  refine V_top (nI_subN (by omega)) ?_
  refine V_bipush (v := nI 8) dX2_takeBack_15 (by decide) ?_
  refine V_irem dX2_takeBack_17 (by decide) ?_
  refine V_top (remT (ℓ + 8 - 1) (by omega)) ?_
  refine V_putI fpX2_17 rfl rfl hH.1 rfl dX2_takeBack_18 ?_
  refine V_aload_n dX2_takeBack_21 rfl rfl ?_
  refine V_dup dX2_takeBack_22 rfl ?_
  refine V_getE frX2_21 hH.1 rfl ((u2_n _ _ (Or.inr (by decide))).trans ((bcm_off _ _ (by omega)).trans a3)) dX2_takeBack_23 ?_
  refine V_iconst (v := nI 1) dX2_takeBack_26 (by decide) ?_
  refine V_isub dX2_takeBack_27 ?_
  refine V_top (nI_subN (by omega)) ?_
  refine V_putI fpX2_21 rfl rfl hH.1 rfl dX2_takeBack_28 ?_
  refine V_vretP rfl ⟨rfl, _, rfl, ⟨(ℓ + 8 - 1) % 8, (u2_n _ _ (Or.inr (by decide))).trans (u2_s _ _ _ _), Nat.mod_lt _ (by decide), u2_s _ _ _ _, by omega, fun i hi => ?_⟩, ?_, fun a i q1 q2 => (u2_n _ _ (Or.inl (by omega))).trans ((u2_n _ _ (Or.inl (by omega))).trans (bcm_off _ _ q2))⟩ ⟨Nat.le_of_ble_eq_true rfl, Nat.le_of_ble_eq_true rfl⟩ dX2_takeBack_31

  · rw [show ((ℓ + 8 - 1) % 8 + 8 - i) % 8 = (ℓ + 8 - (i + 1)) % 8 by omega]
    exact (a5 (i + 1) (by omega)).keep (fun a j q1 q2 => (u2_n _ _ (Or.inl (by omega))).trans ((u2_n _ _ (Or.inl (by omega))).trans (bcm_off _ _ (by omega))))
  · exact (bcm_GA hlat hw).keep (fun a j q1 q2 => (u2_n _ _ (Or.inl (by omega))).trans (u2_n _ _ (Or.inl (by omega))))
theorem ctX2_forgetAll (hH : HistL σ h) : Ct κ 0 0 1 mrX2_forgetAll [.ref h] (MM σ mi ml) (.inl none) (MM σ (u2 mi h 2 (nI 0)) ml) := by
  refine Ct.of rfl (by simp [Value.category]) (Nat.le_of_ble_eq_true rfl) ?_
  refine V_aload_n dX2_forgetAll_0 rfl rfl ?_
  refine V_iconst (v := nI 0) dX2_forgetAll_1 (by decide) ?_
  refine V_putI fpX2_21 rfl rfl hH.1 rfl dX2_forgetAll_2 ?_
  exact V_vret rfl rfl rfl ⟨Nat.le_of_ble_eq_true rfl, Nat.le_of_ble_eq_true rfl⟩ dX2_forgetAll_5

theorem HA.forget {ℓ : Nat} (hA : HA mi h n Hs ℓ) : HA (u2 mi h 2 (nI 0)) h 0 Hs ℓ := ⟨(u2_n _ _ (Or.inr (by decide))).trans hA.1, hA.2.1, u2_s _ _ _ _, by omega, fun i hi => absurd hi (Nat.not_lt_zero i)⟩
end Hist
def slW (p : Nat) : Nat → Option Value := fun k => match k with
  | 0 => some (.ref (p + 1))
  | 2 => some (.ref (p + 2))
  | 3 => some (.ref (p + 3))
  | _ => none
def WalkL (σ : Nat → Option Kd) (p : Nat) : Prop := σ p = some (.inr (4, 4, slW p)) ∧ σ (p + 1) = ints 31 ∧ σ (p + 2) = lngs 14 ∧ σ (p + 3) = lngs 14
/-- the walk: so many choices, the blocks it has come through -/
def WA (mi : Nat → Nat → Int32) (p c : Nat) (W : Nat → Nat) : Prop := mi p 1 = nI c ∧ ∀ i, i ≤ c → mi (p + 1) i = nI (W i)
theorem WA.keep {mi m : Nat → Nat → Int32} {p c : Nat} {W : Nat → Nat} (h : WA mi p c W) (hk : ∀ a i, p ≤ a → a < p + 4 → m a i = mi a i) : WA m p c W := ⟨(hk _ _ (by omega) (by omega)).trans h.1, fun i hi => (hk _ _ (by omega) (by omega)).trans (h.2 i hi)⟩
/-- the walks that are one choice longer: what each edge of a block adds -/
def wadd (x : Int64) : List Nat → (Nat → Int64) → (Nat → Int64)
  | [], f => f
  | t :: l, f => wadd x l (fun k => if k = t then f t + x else f k)
def wrow (G : Gr) (c : Nat → Int64) : Nat → (Nat → Int64)
  | 0 => fun _ => 0
  | b + 1 => wadd (c b) (G.2.2 b) (wrow G c b)
def wkN (G : Gr) : Nat → (Nat → Int64)
  | 0 => fun k => if k = 0 then 1 else 0
  | n + 1 => wrow G (wkN G n) G.1
theorem wadd_app (x : Int64) : ∀ (l : List Nat) (t : Nat) (f : Nat → Int64), wadd x (l ++ [t]) f = fun k => if k = t then wadd x l f t + x else wadd x l f k
  | [], t, f => rfl
  | a :: l, t, f => by
    rw [List.cons_append, wadd, wadd_app x l t]
    rfl
theorem cp0L (f h : Nat → Int64) (n : Nat) (hn : n < 2 ^ 31) : va_cpy f h (nI 0).toNatClampNeg (nI 0).toNatClampNeg (nI n).toNatClampNeg = fun i => if i < n then f i else h i := by
  funext i
  unfold va_cpy
  rw [nI_clamp (by decide), nI_clamp hn]
  simp
theorem wrow_congr {G : Gr} (hw : Wf G) {c c' : Nat → Int64} (h : ∀ b, b < 14 → c b = c' b) (k : Nat) : wrow G c G.1 k = wrow G c' G.1 k := by
  have key : ∀ n, n ≤ 14 → wrow G c n = wrow G c' n := by
    intro n
    induction n with
    | zero => intro _; rfl
    | succ n ih => intro hn; rw [wrow, wrow, ih (by omega), h n (by omega)]
  rw [key _ hw.2.1]
section Walk
variable {κ : K0} {σ : Nat → Option Kd} {mi : Nat → Nat → Int32} {ml : Nat → Nat → Int64} {p g c : Nat} {G : Gr} {W : Nat → Nat}
theorem ctX4_end (hP : WalkL σ p) (hA : WA mi p c W) (hc : c ≤ 30) : Ct κ 0 0 1 mrX4_end [.ref p] (MM σ mi ml) (.inl (some (.int (nI (W c))))) (MM σ mi ml) := by
  refine Ct.of rfl (by simp [Value.category]) (Nat.le_of_ble_eq_true rfl) ?_
  refine V_aload_n dX4_end_0 rfl rfl ?_
  refine V_getR frX4_9 hP.1 rfl dX4_end_1 ?_
  refine V_aload_n dX4_end_4 rfl rfl ?_
  refine V_getE frX4_15 hP.1 rfl hA.1 dX4_end_5 ?_
  refine V_ialdE hP.2.1 c rfl (by omega) (by decide) (hA.2 c (Nat.le_refl c)) dX4_end_8 ?_
  exact V_iret rfl rfl rfl ⟨Nat.le_of_ble_eq_true rfl, Nat.le_of_ble_eq_true rfl⟩ dX4_end_9

theorem ctX4_goTo (hP : WalkL σ p) (hA : WA mi p c W) (hc : c < 30) {x : Int32} : Ct κ 0 0 1 mrX4_goTo [.ref p, .int x] (MM σ mi ml) (.inl none) (MM σ (u2 (u2 mi p 1 (nI (c + 1))) (p + 1) (c + 1) x) ml) := by
  refine Ct.of rfl (by simp [Value.category]) (Nat.le_of_ble_eq_true rfl) ?_
  refine V_aload_n dX4_goTo_0 rfl rfl ?_
  refine V_getE frX4_15 hP.1 rfl hA.1 dX4_goTo_1 ?_
  refine V_bipush (v := nI 30) dX4_goTo_4 (by decide) ?_
  refine V_N_ge (by omega) (by omega) 29 dX4_goTo_6 (by decide) (fun h6 => ?_) (fun h6 => ?_)
  · exfalso
    omega
  · refine V_aload_n dX4_goTo_9 rfl rfl ?_
    refine V_dup dX4_goTo_10 rfl ?_
    refine V_getE frX4_15 hP.1 rfl hA.1 dX4_goTo_11 ?_
    refine V_iconst (v := nI 1) dX4_goTo_14 (by decide) ?_
    refine V_iadd dX4_goTo_15 ?_
    refine V_top (nI_add c 1) ?_
    refine V_putI fpX4_15 rfl rfl hP.1 rfl dX4_goTo_16 ?_
    refine V_aload_n dX4_goTo_19 rfl rfl ?_
    refine V_getR frX4_9 hP.1 rfl dX4_goTo_20 ?_
    refine V_aload_n dX4_goTo_23 rfl rfl ?_
    refine V_getE frX4_15 hP.1 rfl (u2_s _ _ _ _) dX4_goTo_24 ?_
    refine V_iload_n dX4_goTo_27 rfl rfl ?_
    refine V_iastN hP.2.1 (c + 1) rfl (by omega) (by decide) dX4_goTo_28 ?_
    exact V_vret rfl rfl rfl ⟨Nat.le_of_ble_eq_true rfl, Nat.le_of_ble_eq_true rfl⟩ dX4_goTo_29

theorem WA.go (hA : WA mi p c W) {x : Nat} : WA (u2 (u2 mi p 1 (nI (c + 1))) (p + 1) (c + 1) (nI x)) p (c + 1) (fun i => if i = c + 1 then x else W i) := by
  refine ⟨(u2_n _ _ (Or.inl (by omega))).trans (u2_s _ _ _ _), fun i hi => ?_⟩
  by_cases e : i = c + 1
  · subst e; rw [u2_s]
    show nI x = nI (if c + 1 = c + 1 then x else W (c + 1))
    rw [if_pos rfl]
  · rw [u2_n _ _ (Or.inr e), u2_n _ _ (Or.inl (by omega))]
    show _ = nI (if i = c + 1 then x else W i)
    rw [if_neg e]
    exact hA.2 i (by omega)
theorem ctX4_lengthen (hP : WalkL σ p) (hG : GraphL σ g) (hA : GA mi g G) (hw : Wf G) : CtP κ 0 0 2 mrX4_lengthen [.ref p, .ref g] (MM σ mi ml) (fun o μ' => o = .inl none ∧ ∃ l', μ' = MM σ mi l' ∧ (∀ k, k < 14 → l' (p + 2) k = wrow G (ml (p + 2)) G.1 k) ∧ ∀ a i, (a < p ∨ p + 4 ≤ a) → l' a i = ml a i) := by
  refine CtP.of rfl (by simp [Value.category]) (Nat.le_of_ble_eq_true rfl) ?_
  have h14 := hw.2.1
  have lp2 : ∀ i, i ≤ G.1 → ∀ l o3, (∀ k, k < 14 → l (p + 3) k = wrow G (ml (p + 2)) i k) → (∀ a k, a ≠ p + 3 → l a k = ml a k) → V κ (phiP κ mrX4_lengthen 2 0 0 (fun o μ' => o = .inl none ∧ ∃ l', μ' = MM σ mi l' ∧ (∀ k, k < 14 → l' (p + 2) k = wrow G (ml (p + 2)) G.1 k) ∧ ∀ a i, (a < p ∨ p + 4 ≤ a) → l' a i = ml a i)) 0 0 23 [some (.ref p), some (.ref g), some (.int (nI i)), o3] [] (MM σ mi l) := loop_up _ (fun i hi ih l o3 i1 i2 => by
    have lp3 : i < G.1 → ∀ j, j ≤ (G.2.2 i).length → ∀ l, (∀ k, k < 14 → l (p + 3) k = wadd (ml (p + 2) i) ((G.2.2 i).take j) (wrow G (ml (p + 2)) i) k) → (∀ a k, a ≠ p + 3 → l a k = ml a k) → V κ (phiP κ mrX4_lengthen 2 0 0 (fun o μ' => o = .inl none ∧ ∃ l', μ' = MM σ mi l' ∧ (∀ k, k < 14 → l' (p + 2) k = wrow G (ml (p + 2)) G.1 k) ∧ ∀ a i, (a < p ∨ p + 4 ≤ a) → l' a i = ml a i)) 0 0 33 [some (.ref p), some (.ref g), some (.int (nI i)), some (.int (nI j))] [] (MM σ mi l) := fun hi2 => loop_up _ (fun j hj ih2 l j1 j2 => by
      have h3 := (hw.2.2.2.1 i).1
      have hT : j < (G.2.2 i).length → 1 ≤ (G.2.2 i).getD j 0 ∧ (G.2.2 i).getD j 0 < 14 := fun hj2 => by
        have := (hw.2.2.2.1 i).2.1 _ (mem_getD.mpr ⟨j, hj2, rfl⟩)
        omega
      refine V_iload_n dX4_lengthen_33 rfl rfl ?_
      refine V_aload_n dX4_lengthen_34 rfl rfl ?_
      refine V_getR frX4_34 hG.1 rfl dX4_lengthen_35 ?_
      refine V_iload_n dX4_lengthen_38 rfl rfl ?_
      refine V_ialdE hG.2.2.1 i rfl (by omega) (by decide) ((hA.2 i (by omega)).2.1) dX4_lengthen_39 ?_
      refine V_N_ge (by omega) (by omega) 69 dX4_lengthen_40 (by decide) (fun h40 => ?_) (fun h40 => ?_)
      · refine V_iinc1 dX4_lengthen_69 rfl (Nat.le_of_ble_eq_true rfl) ?_
        refine V_goto 23 dX4_lengthen_72 (by decide) ?_
        exact ih hi2 l _ (fun k hk => by rw [j1 k hk, List.take_of_length_le h40]; rfl) j2
      · obtain ⟨t1, t2⟩ := hT h40
        refine V_aload_n dX4_lengthen_43 rfl rfl ?_
        refine V_getR frX4_23 hP.1 rfl dX4_lengthen_44 ?_
        refine V_aload_n dX4_lengthen_47 rfl rfl ?_
        refine V_iload_n dX4_lengthen_48 rfl rfl ?_
        refine V_iload_n dX4_lengthen_49 rfl rfl ?_
        refine V_cv1 (ctX1_targetAt hG (by omega) (by omega)) mvX1_targetAt lkX4_37 hG.1 rfl rfl rfl (Nat.le_of_ble_eq_true rfl) ⟨⟨Nat.le_of_ble_eq_true rfl, Nat.le_of_ble_eq_true rfl⟩, Nat.le_of_ble_eq_true rfl, Nat.le_of_ble_eq_true rfl⟩ dX4_lengthen_50 ?_
        refine V_top ((hA.2 i (by omega)).2.2.2 j h40) ?_
        refine V_dup2 dX4_lengthen_53 rfl rfl ?_
        refine V_laldN hP.2.2.2 ((G.2.2 i).getD j 0) rfl t2 (by decide) dX4_lengthen_54 ?_
        refine V_aload_n dX4_lengthen_55 rfl rfl ?_
        refine V_getR frX4_19 hP.1 rfl dX4_lengthen_56 ?_
        refine V_iload_n dX4_lengthen_59 rfl rfl ?_
        refine V_laldN hP.2.2.1 i rfl (by omega) (by decide) dX4_lengthen_60 ?_
        refine V_ladd dX4_lengthen_61 ?_
        refine V_lastN hP.2.2.2 ((G.2.2 i).getD j 0) rfl t2 (by decide) dX4_lengthen_62 ?_
        refine V_iinc1 dX4_lengthen_63 rfl (Nat.le_of_ble_eq_true rfl) ?_
        refine V_goto 33 dX4_lengthen_66 (by decide) ?_
        refine ih2 h40 _ (fun k hk => ?_) (fun a k h => (u2_n _ _ (Or.inl h)).trans (j2 a k h))
        rw [take_getD h40, wadd_app]
        show u2 l (p + 3) ((G.2.2 i).getD j 0) _ (p + 3) k = if k = (G.2.2 i).getD j 0 then _ else _
        by_cases e : k = (G.2.2 i).getD j 0
        · rw [if_pos e, e, u2_s, ← j1 _ t2, ← j2 (p + 2) i (by omega)]
        · rw [if_neg e, u2_n _ _ (Or.inr e)]; exact j1 k hk
      )
    refine V_iload_n dX4_lengthen_23 rfl rfl ?_
    refine V_aload_n dX4_lengthen_24 rfl rfl ?_
    refine V_getE frX4_30 hG.1 rfl hA.1 dX4_lengthen_25 ?_
    refine V_N_ge (by omega) (by omega) 75 dX4_lengthen_28 (by decide) (fun h28 => ?_) (fun h28 => ?_)
    · refine V_aload_n dX4_lengthen_75 rfl rfl ?_
      refine V_getR frX4_23 hP.1 rfl dX4_lengthen_76 ?_
      refine V_iconst (v := nI 0) dX4_lengthen_79 (by decide) ?_
      refine V_aload_n dX4_lengthen_80 rfl rfl ?_
      refine V_getR frX4_19 hP.1 rfl dX4_lengthen_81 ?_
      refine V_iconst (v := nI 0) dX4_lengthen_84 (by decide) ?_
      refine V_bipush (v := nI 14) dX4_lengthen_85 (by decide) ?_
      refine V_copyL cwX4_41 rfl hP.2.2.2 hP.2.2.1 (by decide) (by decide) (by decide) (by decide) (by decide) (Nat.le_of_ble_eq_true rfl) (Nat.le_of_ble_eq_true rfl) dX4_lengthen_87 ?_
      refine V_vretP rfl ⟨rfl, _, rfl, fun k hk => ?_, fun a k q => ?_⟩ ⟨Nat.le_of_ble_eq_true rfl, Nat.le_of_ble_eq_true rfl⟩ dX4_lengthen_90
      · show va_up l (p + 2) _ (p + 2) k = _
        rw [va_up_self, cp0L _ _ 14 (by decide)]
        show (if k < 14 then l (p + 3) k else _) = _
        rw [if_pos hk, i1 k hk, show i = G.1 by omega]
      · show va_up l (p + 2) _ a k = _
        rw [va_up_ne _ _ (by omega)]
        exact i2 a k (by omega)
    · refine V_iconst (v := nI 0) dX4_lengthen_31 (by decide) ?_
      refine V_istore_n dX4_lengthen_32 rfl (Nat.le_of_ble_eq_true rfl) ?_
      exact lp3 h28 0 (Nat.zero_le _) l (fun k hk => by rw [i1 k hk]; rfl) i2
    )
  have lp1 : ∀ i, i ≤ 14 → ∀ l o3, (∀ k, k < i → l (p + 3) k = 0) → (∀ a k, a ≠ p + 3 → l a k = ml a k) → V κ (phiP κ mrX4_lengthen 2 0 0 (fun o μ' => o = .inl none ∧ ∃ l', μ' = MM σ mi l' ∧ (∀ k, k < 14 → l' (p + 2) k = wrow G (ml (p + 2)) G.1 k) ∧ ∀ a i, (a < p ∨ p + 4 ≤ a) → l' a i = ml a i)) 0 0 2 [some (.ref p), some (.ref g), some (.int (nI i)), o3] [] (MM σ mi l) := loop_up _ (fun i hi ih l o3 i1 i2 => by
    refine V_iload_n dX4_lengthen_2 rfl rfl ?_
    refine V_bipush (v := nI 14) dX4_lengthen_3 (by decide) ?_
    refine V_N_ge (by omega) (by omega) 21 dX4_lengthen_5 (by decide) (fun h5 => ?_) (fun h5 => ?_)
    · refine V_iconst (v := nI 0) dX4_lengthen_21 (by decide) ?_
      refine V_istore_n dX4_lengthen_22 rfl (Nat.le_of_ble_eq_true rfl) ?_
      exact lp2 0 (Nat.zero_le _) l _ (fun k hk => i1 k (by omega)) i2
    · refine V_aload_n dX4_lengthen_8 rfl rfl ?_
      refine V_getR frX4_23 hP.1 rfl dX4_lengthen_9 ?_
      refine V_iload_n dX4_lengthen_12 rfl rfl ?_
      refine V_lconst (v := 0) dX4_lengthen_13 (by decide) ?_
      refine V_lastN hP.2.2.2 i rfl (by omega) (by decide) dX4_lengthen_14 ?_
      refine V_iinc1 dX4_lengthen_15 rfl (Nat.le_of_ble_eq_true rfl) ?_
      refine V_goto 2 dX4_lengthen_18 (by decide) ?_
      exact ih h5 _ _ (fun k hk => by
        by_cases e : k = i
        · subst e; exact u2_s _ _ _ _
        · exact (u2_n _ _ (Or.inr e)).trans (i1 k (by omega))) (fun a k h => (u2_n _ _ (Or.inl h)).trans (i2 a k h))
    )
  refine V_iconst (v := nI 0) dX4_lengthen_0 (by decide) ?_
  refine V_istore_n dX4_lengthen_1 rfl (Nat.le_of_ble_eq_true rfl) ?_
  exact lp1 0 (Nat.zero_le _) ml _ (fun k hk => absurd hk (Nat.not_lt_zero k)) (fun _ _ _ => rfl)

theorem ctX4_countWalks (hP : WalkL σ p) (hG : GraphL σ g) (hA : GA mi g G) (hw : Wf G) {n : Nat} (hn : n ≤ 30) : CtP κ 0 0 3 mrX4_countWalks [.ref p, .ref g, .int (nI n)] (MM σ mi ml) (fun o μ' => o = .inl none ∧ ∃ l', μ' = MM σ mi l' ∧ (∀ k, k < 14 → l' (p + 2) k = wkN G n k) ∧ ∀ a i, (a < p ∨ p + 4 ≤ a) → l' a i = ml a i) := by
  refine CtP.of rfl (by simp [Value.category]) (Nat.le_of_ble_eq_true rfl) ?_
  have lp2 : ∀ i, i ≤ n → ∀ l, (∀ k, k < 14 → l (p + 2) k = wkN G i k) → (∀ a k, (a < p ∨ p + 4 ≤ a) → l a k = ml a k) → V κ (phiP κ mrX4_countWalks 3 0 0 (fun o μ' => o = .inl none ∧ ∃ l', μ' = MM σ mi l' ∧ (∀ k, k < 14 → l' (p + 2) k = wkN G n k) ∧ ∀ a i, (a < p ∨ p + 4 ≤ a) → l' a i = ml a i)) 0 0 31 [some (.ref p), some (.ref g), some (.int (nI n)), some (.int (nI i))] [] (MM σ mi l) := loop_up _ (fun i hi ih l i1 i2 => by
    refine V_iload_n dX4_countWalks_31 rfl rfl ?_
    refine V_iload_n dX4_countWalks_32 rfl rfl ?_
    refine V_N_ge (by omega) (by omega) 47 dX4_countWalks_33 (by decide) (fun h33 => ?_) (fun h33 => ?_)
    · exact V_vretP rfl ⟨rfl, _, rfl, by rw [show i = n by omega] at i1; exact i1, i2⟩ ⟨Nat.le_of_ble_eq_true rfl, Nat.le_of_ble_eq_true rfl⟩ dX4_countWalks_47
    · refine V_aload_n dX4_countWalks_36 rfl rfl ?_
      refine V_aload_n dX4_countWalks_37 rfl rfl ?_
      refine V_cp0 (ctX4_lengthen hP hG hA hw) mvX4_lengthen lkX4_26 hP.1 rfl rfl rfl (Nat.le_of_ble_eq_true rfl) ⟨⟨Nat.le_of_ble_eq_true rfl, Nat.le_of_ble_eq_true rfl⟩, Nat.le_of_ble_eq_true rfl, Nat.le_of_ble_eq_true rfl⟩ dX4_countWalks_38 (fun μ1 hx => ?_)
      obtain ⟨l1, rfl, k1, k2⟩ := hx
      refine V_iinc1 dX4_countWalks_41 rfl (Nat.le_of_ble_eq_true rfl) ?_
      refine V_goto 31 dX4_countWalks_44 (by decide) ?_
      exact ih h33 l1 (fun k hk => by
        rw [k1 k hk, wkN]
        exact wrow_congr hw (fun b hb => i1 b hb) k) (fun a k h => (k2 a k h).trans (i2 a k h))
    )
  have lp1 : ∀ i, i ≤ 14 → ∀ l, (∀ k, k < i → l (p + 2) k = wkN G 0 k) → (∀ a k, (a < p ∨ p + 4 ≤ a) → l a k = ml a k) → V κ (phiP κ mrX4_countWalks 3 0 0 (fun o μ' => o = .inl none ∧ ∃ l', μ' = MM σ mi l' ∧ (∀ k, k < 14 → l' (p + 2) k = wkN G n k) ∧ ∀ a i, (a < p ∨ p + 4 ≤ a) → l' a i = ml a i)) 0 0 2 [some (.ref p), some (.ref g), some (.int (nI n)), some (.int (nI i))] [] (MM σ mi l) := loop_up _ (fun i hi ih l i1 i2 => by
    refine V_iload_n dX4_countWalks_2 rfl rfl ?_
    refine V_bipush (v := nI 14) dX4_countWalks_3 (by decide) ?_
    refine V_N_ge (by omega) (by omega) 29 dX4_countWalks_5 (by decide) (fun h5 => ?_) (fun h5 => ?_)
    · refine V_iconst (v := nI 0) dX4_countWalks_29 (by decide) ?_
      refine V_istore_n dX4_countWalks_30 rfl (Nat.le_of_ble_eq_true rfl) ?_
      exact lp2 0 (Nat.zero_le _) l (fun k hk => i1 k (by omega)) i2
    · refine V_aload_n dX4_countWalks_8 rfl rfl ?_
      refine V_getR frX4_19 hP.1 rfl dX4_countWalks_9 ?_
      refine V_iload_n dX4_countWalks_12 rfl rfl ?_
      refine V_iload_n dX4_countWalks_13 rfl rfl ?_
      refine V_Z_ne (by omega) 21 dX4_countWalks_14 (by decide) (fun h14 => ?_) (fun h14 => ?_)
      · refine V_lconst (v := 0) dX4_countWalks_21 (by decide) ?_
        refine V_lastN hP.2.2.1 i rfl (by omega) (by decide) dX4_countWalks_22 ?_
        refine V_iinc1 dX4_countWalks_23 rfl (Nat.le_of_ble_eq_true rfl) ?_
        refine V_goto 2 dX4_countWalks_26 (by decide) ?_
        exact ih h5 _ (fun k hk => by
          by_cases e : k = i
          · subst e; rw [u2_s]; exact (if_neg h14).symm
          · exact (u2_n _ _ (Or.inr e)).trans (i1 k (by omega))) (fun a k h => (u2_n _ _ (Or.inl (by omega))).trans (i2 a k h))
      · refine V_lconst (v := 1) dX4_countWalks_17 (by decide) ?_
        refine V_goto 22 dX4_countWalks_18 (by decide) ?_
        refine V_lastN hP.2.2.1 i rfl (by omega) (by decide) dX4_countWalks_22 ?_
        refine V_iinc1 dX4_countWalks_23 rfl (Nat.le_of_ble_eq_true rfl) ?_
        refine V_goto 2 dX4_countWalks_26 (by decide) ?_
        exact ih h5 _ (fun k hk => by
          by_cases e : k = i
          · subst e; rw [u2_s]; exact (if_pos h14).symm
          · exact (u2_n _ _ (Or.inr e)).trans (i1 k (by omega))) (fun a k h => (u2_n _ _ (Or.inl (by omega))).trans (i2 a k h))
    )
  refine V_iconst (v := nI 0) dX4_countWalks_0 (by decide) ?_
  refine V_istore_n dX4_countWalks_1 rfl (Nat.le_of_ble_eq_true rfl) ?_
  exact lp1 0 (Nat.zero_le _) ml (fun k hk => absurd hk (Nat.not_lt_zero k)) (fun _ _ _ => rfl)

end Walk
