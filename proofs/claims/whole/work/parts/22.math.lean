/-! closures, reachability, dominators: the mathematics both programs are held against -/
def Cl (S : Nat → Prop) (T : Nat → Nat → Prop) (k : Nat) : Prop := ∀ C : Nat → Prop, (∀ a, S a → C a) → (∀ a b, C a → T a b → C b) → C k
theorem Cl.base {S : Nat → Prop} {T : Nat → Nat → Prop} {a : Nat} (h : S a) : Cl S T a := fun _ h1 _ => h1 a h
theorem Cl.step {S : Nat → Prop} {T : Nat → Nat → Prop} {a b : Nat} (h : Cl S T a) (ht : T a b) : Cl S T b := fun C h1 h2 => h2 a b (h C h1 h2) ht
theorem Cl.rec' {S : Nat → Prop} {T : Nat → Nat → Prop} {C : Nat → Prop} (h1 : ∀ a, S a → C a) (h2 : ∀ a b, Cl S T a → C a → T a b → C b) {k : Nat} (h : Cl S T k) : C k :=
  (h (fun k => Cl S T k ∧ C k) (fun a ha => ⟨Cl.base ha, h1 a ha⟩) (fun a b hab ht => ⟨hab.1.step ht, h2 a b hab.1 hab.2 ht⟩)).2
theorem Cl.mono {S S' : Nat → Prop} {T T' : Nat → Nat → Prop} (h1 : ∀ a, S a → S' a) (h2 : ∀ a b, Cl S T a → T a b → T' a b) {k : Nat} (h : Cl S T k) : Cl S' T' k :=
  Cl.rec' (fun a ha => Cl.base (h1 a ha)) (fun a b hc hab ht => hab.step (h2 a b hc ht)) h
theorem Cl.congr {S S' : Nat → Prop} {T T' : Nat → Nat → Prop} (h1 : ∀ a, S a ↔ S' a) (h2 : ∀ a b, T a b ↔ T' a b) {k : Nat} : Cl S T k ↔ Cl S' T' k :=
  ⟨Cl.mono (fun a => (h1 a).mp) (fun a b _ => (h2 a b).mp), Cl.mono (fun a => (h1 a).mpr) (fun a b _ => (h2 a b).mpr)⟩
/-- a set that holds what must be in, is closed, and holds nothing else -/
theorem Cl.mask {S : Nat → Prop} {T : Nat → Nat → Prop} {P : Nat → Bool} (hlt : ∀ a, Cl S T a → a < 14) (h0 : ∀ k, k < 14 → P k = true → Cl S T k) (h1 : ∀ a, a < 14 → S a → P a = true) (h2 : ∀ a b, a < 14 → b < 14 → P a = true → T a b → P b = true) : msk P = msk (fun k => bp (Cl S T k)) := by
  refine msk_congr (fun k hk => ?_)
  refine (bp_eq ⟨h0 k hk, fun h => ?_⟩).symm
  exact Cl.rec' (C := fun k => P k = true) (fun a ha => h1 a (hlt a (Cl.base ha)) ha) (fun a b hc hab ht => h2 a b (hlt a hc) (hlt b (hc.step ht)) hab ht) h
/-! counting -/
def cnt (P : Nat → Bool) : Nat → Nat
  | 0 => 0
  | n + 1 => cnt P n + (if P n then 1 else 0)
theorem cnt_le (P : Nat → Bool) : ∀ n, cnt P n ≤ n
  | 0 => Nat.le_refl 0
  | n + 1 => by have := cnt_le P n; rw [cnt]; split <;> omega
theorem cnt_sub {P Q : Nat → Bool} : ∀ n, (∀ k, k < n → P k = true → Q k = true) → cnt P n ≤ cnt Q n
  | 0, _ => Nat.le_refl 0
  | n + 1, h => by
    have h1 := cnt_sub n (fun k hk => h k (by omega))
    rw [cnt, cnt]
    by_cases hp : P n = true
    · rw [if_pos hp, if_pos (h n (by omega) hp)]; omega
    · rw [if_neg hp]; omega
theorem cnt_lt {P Q : Nat → Bool} : ∀ n, (∀ k, k < n → P k = true → Q k = true) → (∃ k, k < n ∧ Q k = true ∧ P k = false) → cnt P n < cnt Q n
  | 0, _, ⟨k, hk, _⟩ => absurd hk (Nat.not_lt_zero k)
  | n + 1, h, ⟨k, hk, hq, hp⟩ => by
    rw [cnt, cnt]
    by_cases e : k = n
    · subst e
      have h1 := cnt_sub k (fun j hj => h j (by omega))
      rw [if_pos hq, if_neg (by rw [hp]; decide)]; omega
    · have h1 := cnt_lt n (fun j hj => h j (by omega)) ⟨k, by omega, hq, hp⟩
      by_cases hp2 : P n = true
      · rw [if_pos hp2, if_pos (h n (by omega) hp2)]; omega
      · rw [if_neg hp2]; omega
theorem cnt_pos {P : Nat → Bool} : ∀ n k, k < n → P k = true → 0 < cnt P n
  | 0, k, hk, _ => absurd hk (Nat.not_lt_zero k)
  | n + 1, k, hk, h => by
    rw [cnt]
    by_cases e : k = n
    · subst e; rw [if_pos h]; omega
    · have := cnt_pos n k (by omega) h; omega
theorem cnt_congr {P Q : Nat → Bool} : ∀ n, (∀ k, k < n → P k = Q k) → cnt P n = cnt Q n
  | 0, _ => rfl
  | n + 1, h => by rw [cnt, cnt, cnt_congr n (fun k hk => h k (by omega)), h n (by omega)]
theorem msk_ne {P Q : Nat → Bool} (h : msk P ≠ msk Q) : ∃ k, k < 14 ∧ P k ≠ Q k := by
  apply Classical.byContradiction
  intro hn
  refine h (msk_congr (fun k hk => Classical.byContradiction (fun hc => hn ⟨k, hk, hc⟩)))
/-! the graph's words -/
def Ed (G : Gr) (a b : Nat) : Prop := b ∈ G.2.2 a
def Rc (G : Gr) : Nat → Prop := Cl (fun a => a = 0) (Ed G)
def RW (G : Gr) (x : Nat) : Nat → Prop := Cl (fun a => a = 0 ∧ a ≠ x) (fun a b => Ed G a b ∧ b ≠ x)
def Pd (G : Gr) (p y : Nat) : Prop := Rc G p ∧ Ed G p y
def Dm (G : Gr) (x y : Nat) : Prop := Rc G x ∧ Rc G y ∧ ¬ RW G x y
def Fr' (G : Gr) (x y : Nat) : Prop := (∃ p, Pd G p y ∧ Dm G x p) ∧ (y = x ∨ ¬ Dm G x y)
def Df (G : Gr) (v b : Nat) : Prop := v ∈ G.2.1 b
def LV (G : Gr) (v : Nat) : Nat → Prop := Cl (fun b => Rc G b ∧ ufst (G.2.1 b) v = true) (fun t b => Rc G b ∧ ¬ Df G v b ∧ Ed G b t)
def MN (G : Gr) (v : Nat) : Nat → Prop := Cl (fun y => ∃ x, (x = 0 ∨ (Rc G x ∧ Df G v x)) ∧ Fr' G x y) (fun x y => Fr' G x y)
def PM (G : Gr) (v b : Nat) : Prop := MN G v b ∧ LV G v b
def IsPar (G : Gr) (d b : Nat) : Prop := Dm G d b ∧ d ≠ b ∧ ∀ x, Dm G x b → x ≠ b → Dm G x d
noncomputable def par (G : Gr) (b : Nat) : Nat := @dite Nat (∃ d, IsPar G d b) (Classical.propDecidable _) (fun h => Classical.choose h) (fun _ => 0)
section Dom
variable {G : Gr}
theorem Ed.lt (hw : Wf G) {a b : Nat} (h : Ed G a b) : a < G.1 ∧ 1 ≤ b ∧ b < G.1 := by
  have h1 := (hw.2.2.2.1 a).2.1 b h
  refine ⟨?_, h1⟩
  rcases Nat.lt_or_ge a G.1 with q | q
  · exact q
  · have := (hw.2.2.2.2 a q).2
    unfold Ed at h
    rw [this] at h
    cases h
theorem Rc.lt (hw : Wf G) {k : Nat} (h : Rc G k) : k < G.1 := Cl.rec' (C := fun k => k < G.1) (fun a ha => by rw [ha]; exact hw.1) (fun a b _ _ ht => (Ed.lt hw ht).2.2) h
theorem Rc.lt14 (hw : Wf G) {k : Nat} (h : Rc G k) : k < 14 := Nat.lt_of_lt_of_le (h.lt hw) hw.2.1
theorem Rc.zero : Rc G 0 := Cl.base rfl
theorem RW.rc {x k : Nat} (h : RW G x k) : Rc G k := Cl.mono (fun _ h => h.1) (fun _ _ _ h => h.1) h
theorem RW.ne {x k : Nat} (h : RW G x k) : k ≠ x := Cl.rec' (C := fun k => k ≠ x) (fun a ha => ha.2) (fun a b _ _ ht => ht.2) h
theorem Dm.refl {x : Nat} (h : Rc G x) : Dm G x x := ⟨h, h, fun q => q.ne rfl⟩
theorem RW.z0 {k : Nat} : ¬ RW G 0 k := fun h => Cl.rec' (C := fun _ => False) (fun a ha => ha.2 ha.1) (fun a b _ h _ => h) h
theorem Dm.zero {y : Nat} (h : Rc G y) : Dm G 0 y := ⟨Rc.zero, h, RW.z0⟩
theorem Dm.trans {x y z : Nat} (h1 : Dm G x y) (h2 : Dm G y z) : Dm G x z := by
  refine ⟨h1.1, h2.2.1, fun h => ?_⟩
  have key : RW G y z ∨ RW G x y := Cl.rec' (C := fun k => RW G y k ∨ RW G x y) (fun a ha => by
      by_cases e : a = y
      · subst e; exact Or.inr (Cl.base ha)
      · exact Or.inl (Cl.base ⟨ha.1, e⟩)) (fun a b hc hab ht => by
      rcases hab with q | q
      · by_cases e : b = y
        · subst e; exact Or.inr (Cl.step hc ht)
        · exact Or.inl (Cl.step q ⟨ht.1, e⟩)
      · exact Or.inr q) h
  rcases key with q | q
  · exact h2.2.2 q
  · exact h1.2.2 q
theorem Dm.antisymm {x y : Nat} (h1 : Dm G x y) (h2 : Dm G y x) : x = y := by
  apply Classical.byContradiction
  intro hne
  have key : Cl (fun a => a = 0 ∧ a ≠ x ∧ a ≠ y) (fun a b => Ed G a b ∧ b ≠ x ∧ b ≠ y) x ∨ RW G x y ∨ RW G y x := Cl.rec' (C := fun k => Cl (fun a => a = 0 ∧ a ≠ x ∧ a ≠ y) (fun a b => Ed G a b ∧ b ≠ x ∧ b ≠ y) k ∨ RW G x y ∨ RW G y x) (fun a ha => by
      by_cases e : a = x
      · subst e; exact Or.inr (Or.inr (Cl.base ⟨ha, hne⟩))
      · by_cases e2 : a = y
        · subst e2; exact Or.inr (Or.inl (Cl.base ⟨ha, e⟩))
        · exact Or.inl (Cl.base ⟨ha, e, e2⟩)) (fun a b hc hab ht => by
      rcases hab with q | q
      · by_cases e : b = x
        · subst e; exact Or.inr (Or.inr (Cl.step (Cl.mono (fun _ h => ⟨h.1, h.2.2⟩) (fun _ _ _ h => ⟨h.1, h.2.2⟩) q) ⟨ht, hne⟩))
        · by_cases e2 : b = y
          · subst e2; exact Or.inr (Or.inl (Cl.step (Cl.mono (fun _ h => ⟨h.1, h.2.1⟩) (fun _ _ _ h => ⟨h.1, h.2.1⟩) q) ⟨ht, e⟩))
          · exact Or.inl (Cl.step q ⟨ht, e, e2⟩)
      · exact Or.inr q) h1.1
  rcases key with q | q | q
  · exact Cl.rec' (C := fun k => k ≠ x) (fun a ha => ha.2.1) (fun a b _ _ ht => ht.2.1) q rfl
  · exact h1.2.2 q
  · exact h2.2.2 q
theorem Dm.chain {a b y : Nat} (h1 : Dm G a y) (h2 : Dm G b y) : Dm G a b ∨ Dm G b a := by
  apply Classical.byContradiction
  intro hno
  have na : RW G a b := Classical.byContradiction (fun q => hno (Or.inl ⟨h1.1, h2.1, q⟩))
  have nb : RW G b a := Classical.byContradiction (fun q => hno (Or.inr ⟨h2.1, h1.1, q⟩))
  have key : RW G a y ∨ RW G b y := Cl.rec' (C := fun k => RW G a k ∨ RW G b k) (fun u hu => by
      by_cases e : u = a
      · refine Or.inr (Cl.base ⟨hu, fun q => ?_⟩)
        exact na.ne (q.symm.trans e)
      · exact Or.inl (Cl.base ⟨hu, e⟩)) (fun u v _ huv ht => by
      rcases huv with q | q
      · by_cases e : v = a
        · subst e; exact Or.inr nb
        · exact Or.inl (Cl.step q ⟨ht, e⟩)
      · by_cases e : v = b
        · subst e; exact Or.inl na
        · exact Or.inr (Cl.step q ⟨ht, e⟩)) h1.2.1
  rcases key with q | q
  · exact h1.2.2 q
  · exact h2.2.2 q
theorem Dm.pred {x y p : Nat} (h : Dm G x y) (hne : x ≠ y) (hp : Pd G p y) : Dm G x p := ⟨h.1, hp.1, fun q => h.2.2 (Cl.step q ⟨hp.2, fun e => hne e.symm⟩)⟩
theorem Dm.to0 {x : Nat} (h : Dm G x 0) : x = 0 := h.antisymm (Dm.zero h.1)
theorem IsPar.uniq {d d' b : Nat} (h : IsPar G d b) (h' : IsPar G d' b) : d = d' := (h'.2.2 d h.1 h.2.1).antisymm (h.2.2 d' h'.1 h'.2.1)
theorem IsPar.eq {d b : Nat} (h : IsPar G d b) : par G b = d := by
  unfold par
  rw [dif_pos ⟨d, h⟩]
  exact (Classical.choose_spec (⟨d, h⟩ : ∃ d, IsPar G d b)).uniq h
/-- the search for the lowest strict dominator among the first n blocks -/
theorem par_search {b : Nat} (hb : Rc G b) (h0 : b ≠ 0) : ∀ n, ∃ d, Dm G d b ∧ d ≠ b ∧ ∀ x, x < n → Dm G x b → x ≠ b → Dm G x d
  | 0 => ⟨0, Dm.zero hb, fun e => h0 e.symm, fun x hx => absurd hx (Nat.not_lt_zero x)⟩
  | n + 1 => by
    obtain ⟨d, h1, h2, h3⟩ := par_search hb h0 n
    by_cases hn : Dm G n b ∧ n ≠ b
    · rcases Dm.chain h1 hn.1 with q | q
      · refine ⟨n, hn.1, hn.2, fun x hx hxb hne => ?_⟩
        rcases Nat.lt_or_ge x n with z | z
        · exact (h3 x z hxb hne).trans q
        · rw [show x = n by omega]; exact Dm.refl hn.1.1
      · refine ⟨d, h1, h2, fun x hx hxb hne => ?_⟩
        rcases Nat.lt_or_ge x n with z | z
        · exact h3 x z hxb hne
        · rw [show x = n by omega]; exact q
    · refine ⟨d, h1, h2, fun x hx hxb hne => ?_⟩
      rcases Nat.lt_or_ge x n with z | z
      · exact h3 x z hxb hne
      · have e : x = n := by omega
        subst e
        exact absurd ⟨hxb, hne⟩ hn
theorem par_is (hw : Wf G) {b : Nat} (hb : Rc G b) (h0 : b ≠ 0) : IsPar G (par G b) b := by
  obtain ⟨d, h1, h2, h3⟩ := par_search hb h0 14
  have h : IsPar G d b := ⟨h1, h2, fun x hx hne => h3 x (hx.1.lt14 hw) hx hne⟩
  rw [h.eq]; exact h
theorem par_rc (hw : Wf G) {b : Nat} (hb : Rc G b) (h0 : b ≠ 0) : Rc G (par G b) := (par_is hw hb h0).1.1
theorem par_dom (hw : Wf G) {b x : Nat} (hb : Rc G b) (h0 : b ≠ 0) : Dm G x (par G b) ↔ Dm G x b ∧ x ≠ b := by
  have h := par_is hw hb h0
  refine ⟨fun q => ⟨q.trans h.1, fun e => ?_⟩, fun q => h.2.2 x q.1 q.2⟩
  subst e
  exact h.2.1 (h.1.antisymm q)
/-- how many dominators a block has -/
noncomputable def dep (G : Gr) (b : Nat) : Nat := cnt (fun x => bp (Dm G x b)) 14
theorem dep_par (hw : Wf G) {b : Nat} (hb : Rc G b) (h0 : b ≠ 0) : dep G (par G b) < dep G b := by
  refine cnt_lt 14 (fun k _ hk => bp_pos ((par_dom hw hb h0).mp (bp_t.mp hk)).1) ⟨b, hb.lt14 hw, bp_pos (Dm.refl hb), bp_neg (fun q => ((par_dom hw hb h0).mp q).2 rfl)⟩
theorem dep_le (G : Gr) (b : Nat) : dep G b ≤ 14 := cnt_le _ 14
theorem LV.rc {v b : Nat} (h : LV G v b) : Rc G b := Cl.rec' (C := fun b => Rc G b) (fun a ha => ha.1) (fun a b _ _ ht => ht.1) h
theorem Fr'.rc {x y : Nat} (h : Fr' G x y) : Rc G x ∧ Rc G y := by
  obtain ⟨⟨p, hp, hd⟩, -⟩ := h
  exact ⟨hd.1, Cl.step hp.1 hp.2⟩
theorem MN.rc {v b : Nat} (h : MN G v b) : Rc G b := Cl.rec' (C := fun b => Rc G b) (fun a ha => by obtain ⟨x, _, hf⟩ := ha; exact hf.rc.2) (fun a b _ _ ht => ht.rc.2) h
theorem ldef_some {l : List Nat} {v : Nat} : ∀ e k, ldef l v e = some k → k < e ∧ l.getD k 0 = v
  | 0, k, h => by cases h
  | e + 1, k, h => by
    rw [ldef] at h
    split at h
    next q => cases h; exact ⟨by omega, q⟩
    next q => have := ldef_some e k h; exact ⟨by omega, this.2⟩
theorem ldef_none {l : List Nat} {v : Nat} : ∀ e, ldef l v e = none ↔ ∀ k, k < e → l.getD k 0 ≠ v
  | 0 => ⟨fun _ k hk => absurd hk (Nat.not_lt_zero k), fun _ => rfl⟩
  | e + 1 => by
    rw [ldef]
    split
    next q => exact ⟨fun h => (by cases h), fun h => absurd q (h e (by omega))⟩
    next q =>
      rw [ldef_none e]
      exact ⟨fun h k hk => by
        rcases Nat.lt_or_ge k e with z | z
        · exact h k z
        · rw [show k = e by omega]; exact q, fun h k hk => h k (by omega)⟩
theorem mem_getD {l : List Nat} {v : Nat} : v ∈ l ↔ ∃ k, k < l.length ∧ l.getD k 0 = v := by
  rw [List.mem_iff_getElem]
  constructor
  · rintro ⟨k, hk, h⟩
    exact ⟨k, hk, by rw [List.getD_eq_getElem?_getD, List.getElem?_eq_getElem hk]; exact h⟩
  · rintro ⟨k, hk, h⟩
    rw [List.getD_eq_getElem?_getD, List.getElem?_eq_getElem hk] at h
    exact ⟨k, hk, h⟩
theorem Df_iff {v b : Nat} : Df G v b ↔ ldef (G.2.1 b) v (G.2.1 b).length ≠ none := by
  unfold Df
  rw [mem_getD, Ne, ldef_none]
  constructor
  · rintro ⟨k, hk, h⟩ hn
    exact hn k hk h
  · intro h
    exact Classical.byContradiction (fun hn => h (fun k hk he => hn ⟨k, hk, he⟩))
end Dom
/-- the source at the beginning of a block, by its dominators upward -/
noncomputable def sBg (G : Gr) (v : Nat) : Nat → Nat → Nat
  | 0, _ => 2000
  | f + 1, b => if bp (PM G v b) = true then 1000 + b else if b = 0 then 2000 else match ldef (G.2.1 (par G b)) v (G.2.1 (par G b)).length with
    | some k => 10 * par G b + k
    | none => sBg G v f (par G b)
noncomputable def srcB (G : Gr) (v b : Nat) : Nat := sBg G v 14 b
noncomputable def srcE (G : Gr) (v b : Nat) : Nat := match ldef (G.2.1 b) v (G.2.1 b).length with
  | some k => 10 * b + k
  | none => srcB G v b
/-- the source of the use that is action k of block b -/
noncomputable def srcU (G : Gr) (b k : Nat) : Nat := match ldef (G.2.1 b) ((G.2.1 b).getD k 0 - 10) k with
  | some j => 10 * b + j
  | none => srcB G ((G.2.1 b).getD k 0 - 10) b
