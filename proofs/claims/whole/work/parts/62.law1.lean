/-! the law's own frame, and what its loop keeps -/
abbrev mrLaw (nm : String) : MR := (⟨RL, nm, "([I)Z"⟩, cL_law, 9, some .boolean)
abbrev phiL (κ : K0) (b Ln : Nat) (xs : Nat → Int32) (nm : String) (hh : List (Nat × Nat × Nat × Nat)) : Fr := (mrLaw nm, room_1, fun below args s => lw_Z below args s, fun s args => va_X b Ln xs s s.heap ∧ b < s.heap.size ∧ κ.2.2.2 = s.heap.size ∧ args = #[Value.ref b], hh)
section LawR
variable {κ : K0} {b Ln : Nat} {xs : Nat → Int32} {nm : String} {hh : List (Nat × Nat × Nat × Nat)} {cells slots pc : Nat} {L : List (Option Value)} {st : List Value} {μ : Mem}
theorem V_sld {y : Int32} (j : Nat) (hy : y = nI j) (hj : j < Ln) (hL : Ln ≤ 2048) (d : decode cL_law pc = .ok (.iaload, 1)) (k : V κ (phiL κ b Ln xs nm hh) cells slots (pc + 1) L (.int (xs j) :: st) μ) : V κ (phiL κ b Ln xs nm hh) cells slots pc L (.int y :: .ref b :: st) μ := by
  subst hy
  intro p e s m args below meth c B H locs ls hl hR hS
  obtain ⟨hX, hb, hκ, ha⟩ := B.2.2.2.2.2.2.2.2.2.2.2
  refine va_sld B.1 B.2.1 hX hb (show ¬ κ.2.2.2 ≤ b by omega) hS (vp_in_nI hj (by omega)) d ?_
  rw [nI_clamp (by omega)]
  exact k p e s m args below meth c B H locs ls hl hR hS
theorem V_slen (d : decode cL_law pc = .ok (.arraylength, 1)) (k : V κ (phiL κ b Ln xs nm hh) cells slots (pc + 1) L (.int (nI Ln) :: st) μ) : V κ (phiL κ b Ln xs nm hh) cells slots pc L (.ref b :: st) μ := by
  intro p e s m args below meth c B H locs ls hl hR hS
  obtain ⟨hX, hb, hκ, ha⟩ := B.2.2.2.2.2.2.2.2.2.2.2
  exact va_slen B.1 B.2.1 hX hb (show ¬ κ.2.2.2 ≤ b by omega) hS d (k p e s m args below meth c B H locs ls hl hR hS)
theorem V_lawret (hc : cells ≤ 601024) (hs : slots ≤ 7293034) (d : decode cL_law pc = .ok (.ireturn, 1)) : V κ (phiL κ b Ln xs nm hh) cells slots pc L [.int (nI 1)] μ := by
  intro p e s m args below meth c B H locs ls hl hR hS
  obtain ⟨hX, hb, hκ, ha⟩ := B.2.2.2.2.2.2.2.2.2.2.2
  subst ha
  refine va_forget (fun q hq => ?_) ?_
  · have h1 : κ.2.2.2 ≤ q.base := hS.2.2 q hq
    omega
  · refine W.widen hc hs ?_
    refine W.base ?_
    exact lw_ret (Drawn.sameBut.refl s.drawn lw_cs) B.1 B.2.1 B.2.2.2.2.2.1 B.2.2.2.2.2.2.1 d
theorem V.less9 {φ : Fr} {a0 a1 a2 a3 a4 b5 b6 b7 b8 : Option Value} (k : V κ φ cells slots pc [a0, a1, a2, a3, a4, none, none, none, none] st μ) : V κ φ cells slots pc [a0, a1, a2, a3, a4, b5, b6, b7, b8] st μ := by
  refine V.less k (fun i v h => ?_)
  match i, h with
  | 0, h => exact h
  | 1, h => exact h
  | 2, h => exact h
  | 3, h => exact h
  | 4, h => exact h
  | 5, h => cases h
  | 6, h => cases h
  | 7, h => cases h
  | 8, h => cases h
  | i + 9, h => exact h
end LawR
/-- the cells of the class's object x, of the reference m, of the row o for answers -/
def LI (σ : Nat → Option Kd) (x m o : Nat) : Prop := XL σ x ∧ ML σ m ∧ σ o = lngs 1 ∧ x + 90 ≤ m ∧ m + 101 ≤ o
/-- behind a call: both hold the same state -/
def KN (κ : K0) (φ : Fr) (σ : Nat → Option Kd) (x m : Nat) (L : List (Option Value)) (cells slots : Nat) : Prop := ∀ S' m' l', SOK S' → XA m' x S' → MA m' m S' → V κ φ (cells + 32) (slots + 440) 2556 L [] (MM σ m' l')
abbrev lwL (b x m o i : Nat) : List (Option Value) := [some (.ref b), some (.ref x), some (.ref m), some (.ref o), some (.int (nI i)), none, none, none, none]
theorem i2c_nI (y : Int32) : ∃ c : Nat, c < 65536 ∧ (y.toUInt32 % 65536).toInt32 = nI c := by
  refine ⟨(y.toUInt32 % 65536).toNat, ?_, ?_⟩
  · rw [UInt32.toNat_mod]
    exact Nat.mod_lt _ (by decide)
  · generalize y.toUInt32 % 65536 = u
    unfold nI
    apply Int32.toBitVec_inj.mp
    show u.toBitVec = BitVec.ofNat 32 u.toNat
    apply BitVec.eq_of_toNat_eq
    rw [BitVec.toNat_ofNat]
    exact (Nat.mod_eq_of_lt u.toBitVec.isLt).symm
theorem and63 (y : Int32) : ∃ k : Nat, k < 64 ∧ y &&& nI 63 = nI k := by
  refine ⟨(y &&& nI 63).toBitVec.toNat, ?_, ?_⟩
  · rw [Int32.toBitVec_and, BitVec.toNat_and]
    have : (nI 63).toBitVec.toNat = 63 := by decide
    rw [this]
    exact Nat.lt_succ_of_le Nat.and_le_right
  · generalize y &&& nI 63 = u
    unfold nI
    apply Int32.toBitVec_inj.mp
    show u.toBitVec = BitVec.ofNat 32 u.toBitVec.toNat
    apply BitVec.eq_of_toNat_eq
    rw [BitVec.toNat_ofNat]
    exact (Nat.mod_eq_of_lt u.toBitVec.isLt).symm
theorem sub4 {n i : Nat} (hn : n ≤ 2048) (hi : i ≤ 2048) : ¬ (nI n - nI 4 < nI i) ↔ i + 4 ≤ n := by
  rw [Int32.lt_iff_toInt_lt, Int32.toInt_sub, nI_toInt (by omega), nI_toInt (by omega), nI_toInt (by omega)]
  rw [Int.bmod_eq_of_le (by omega) (by omega)]
  omega
