/-! rows with places that are natural numbers; truth values; calls that make nothing -/
section Base
variable {κ : K0} {φ : Fr} {cells slots pc : Nat} {L : List (Option Value)} {st rest : List Value} {μ μ' : Mem} {mr : MR} {d' n idx : Nat} {as : List Value}
theorem vpN {j n : Nat} {i : Int32} (hi : i = nI j) (hj : j < n) (hn : n < 2 ^ 31) : vp_in i n := by rw [hi]; exact vp_in_nI hj hn
theorem clN {j n : Nat} {i : Int32} (hi : i = nI j) (hj : j < n) (hn : n < 2 ^ 31) : i.toNatClampNeg = j := by rw [hi]; exact nI_clamp (by omega)
theorem V_ialdN {a n : Nat} {r : Nat → Option Nat} {i : Int32} (hσ : μ.1 a = some (.inl (.int, n, r))) (j : Nat) (hi : i = nI j) (hj : j < n) (hn : n < 2 ^ 31) (d : decode φ.1.2.1 pc = .ok (.iaload, 1)) (kk : V κ φ cells slots (pc + 1) L (.int (μ.2.1 a j) :: st) μ) : V κ φ cells slots pc L (.int i :: .ref a :: st) μ :=
  V_iald hσ (vpN hi hj hn) d (by rw [clN hi hj hn]; exact kk)
theorem V_caldN {a n : Nat} {r : Nat → Option Nat} {i : Int32} (hσ : μ.1 a = some (.inl (.char, n, r))) (j : Nat) (hi : i = nI j) (hj : j < n) (hn : n < 2 ^ 31) (d : decode φ.1.2.1 pc = .ok (.caload, 1)) (kk : V κ φ cells slots (pc + 1) L (.int (μ.2.1 a j) :: st) μ) : V κ φ cells slots pc L (.int i :: .ref a :: st) μ :=
  V_cald hσ (vpN hi hj hn) d (by rw [clN hi hj hn]; exact kk)
theorem V_laldN {a n : Nat} {r : Nat → Option Nat} {i : Int32} (hσ : μ.1 a = some (.inl (.long, n, r))) (j : Nat) (hi : i = nI j) (hj : j < n) (hn : n < 2 ^ 31) (d : decode φ.1.2.1 pc = .ok (.laload, 1)) (kk : V κ φ cells slots (pc + 1) L (.long (μ.2.2.1 a j) :: st) μ) : V κ φ cells slots pc L (.int i :: .ref a :: st) μ :=
  V_lald hσ (vpN hi hj hn) d (by rw [clN hi hj hn]; exact kk)
theorem V_iastN {a n : Nat} {r : Nat → Option Nat} {i x : Int32} (hσ : μ.1 a = some (.inl (.int, n, r))) (j : Nat) (hi : i = nI j) (hj : j < n) (hn : n < 2 ^ 31) (d : decode φ.1.2.1 pc = .ok (.iastore, 1)) (kk : V κ φ cells slots (pc + 1) L st (μ.1, u2 μ.2.1 a j x, μ.2.2)) : V κ φ cells slots pc L (.int x :: .int i :: .ref a :: st) μ :=
  V_iast hσ (vpN hi hj hn) d (by rw [clN hi hj hn]; exact kk)
theorem V_lastN {a n : Nat} {r : Nat → Option Nat} {i : Int32} {x : Int64} (hσ : μ.1 a = some (.inl (.long, n, r))) (j : Nat) (hi : i = nI j) (hj : j < n) (hn : n < 2 ^ 31) (d : decode φ.1.2.1 pc = .ok (.lastore, 1)) (kk : V κ φ cells slots (pc + 1) L st (μ.1, μ.2.1, u2 μ.2.2.1 a j x, μ.2.2.2)) : V κ φ cells slots pc L (.long x :: .int i :: .ref a :: st) μ :=
  V_last hσ (vpN hi hj hn) d (by rw [clN hi hj hn]; exact kk)
theorem V_castN {a n : Nat} {r : Nat → Option Nat} {i x : Int32} (hσ : μ.1 a = some (.inl (.char, n, r))) (j : Nat) (hi : i = nI j) (hj : j < n) (hn : n < 2 ^ 31) (hx : vp_nar .char x = x) (d : decode φ.1.2.1 pc = .ok (.castore, 1)) (kk : V κ φ cells slots (pc + 1) L st (μ.1, u2 μ.2.1 a j x, μ.2.2)) : V κ φ cells slots pc L (.int x :: .int i :: .ref a :: st) μ :=
  V_cast hσ (vpN hi hj hn) hx d (by rw [clN hi hj hn]; exact kk)
theorem V_aaldGN {a n y : Nat} {r : Nat → Option Nat} {i : Int32} (hσ : μ.1 a = some (.inl (.object RX1, n, r))) (j : Nat) (hi : i = nI j) (hj : j < n) (hn : n < 2 ^ 31) (hr : r j = some y) (d : decode φ.1.2.1 pc = .ok (.aaload, 1)) (kk : V κ φ cells slots (pc + 1) L (.ref y :: st) μ) : V κ φ cells slots pc L (.int i :: .ref a :: st) μ :=
  V_aaldG hσ (vpN hi hj hn) (by rw [clN hi hj hn]; exact hr) d kk
theorem V_aaldAN {a n y : Nat} {r : Nat → Option Nat} {i : Int32} (hσ : μ.1 a = some (.inl (.array .int, n, r))) (j : Nat) (hi : i = nI j) (hj : j < n) (hn : n < 2 ^ 31) (hr : r j = some y) (d : decode φ.1.2.1 pc = .ok (.aaload, 1)) (kk : V κ φ cells slots (pc + 1) L (.ref y :: st) μ) : V κ φ cells slots pc L (.int i :: .ref a :: st) μ :=
  V_aaldA hσ (vpN hi hj hn) (by rw [clN hi hj hn]; exact hr) d kk
/-- truth values -/
def bI (b : Bool) : Int32 := if b then 1 else 0
theorem bI_t : bI true = 1 := rfl
theorem bI_f : bI false = 0 := rfl
theorem bI_ne (b : Bool) : bI b = 0 ↔ b = false := by cases b <;> decide
theorem bI_nar (b : Bool) : narrow .boolean (.int (bI b)) = .int (bI b) := by cases b <;> rfl
theorem bI_fit (b : Bool) : fits .boolean (.int (bI b)) = true := by cases b <;> rfl
theorem V_ifeqB {b : Bool} {off : Int} (tgt : Nat) (d : decode φ.1.2.1 pc = .ok (.ifCond .eq off, 3)) (ht : (pc : Int) + off = (tgt : Int)) (kt : b = false → V κ φ cells slots tgt L st μ) (kf : b = true → V κ φ cells slots (pc + 3) L st μ) : V κ φ cells slots pc L (.int (bI b) :: st) μ :=
  V_if_eq tgt d ht (fun h => kt ((bI_ne b).mp h)) (fun h => kf (by cases b with | true => rfl | false => exact absurd rfl h))
theorem V_ifneB {b : Bool} {off : Int} (tgt : Nat) (d : decode φ.1.2.1 pc = .ok (.ifCond .ne off, 3)) (ht : (pc : Int) + off = (tgt : Int)) (kt : b = true → V κ φ cells slots tgt L st μ) (kf : b = false → V κ φ cells slots (pc + 3) L st μ) : V κ φ cells slots pc L (.int (bI b) :: st) μ :=
  V_if_ne tgt d ht (fun h => kt (by cases b with | true => rfl | false => exact absurd rfl h)) (fun h => kf ((bI_ne b).mp h))
theorem V_cv1 {b ci N : Nat} {T : u_T} {sl : Nat → Option Value} {w : Value} (hc : Ct κ 0 0 d' mr (.ref b :: as) μ (.inl (some w)) μ') (hm : MRv mr n) (hlink : Cond.methodLink φ.1.1.cls idx mr.1 ∈ TW) (hσ : μ.1 b = some (.inr (ci, N, sl))) (hci : cls7[ci]? = some (mr.1.cls, T, N)) (hn : as.length = n) (hst : st = as.reverse ++ .ref b :: rest) (hw : (rest.map fun v => v.category).sum ≤ 8) (hR8 : rmOK φ mr cells slots 0 0 d') (d : decode φ.1.2.1 pc = .ok (.invokevirtual idx, 3))
    (k : V κ φ cells slots (pc + 3) L (w :: rest) μ') : V κ φ cells slots pc L st μ := V_callV hc hm hlink hσ hci hn hst hw hR8 d k
theorem V_cv0 {b ci N : Nat} {T : u_T} {sl : Nat → Option Value} (hc : Ct κ 0 0 d' mr (.ref b :: as) μ (.inl none) μ') (hm : MRv mr n) (hlink : Cond.methodLink φ.1.1.cls idx mr.1 ∈ TW) (hσ : μ.1 b = some (.inr (ci, N, sl))) (hci : cls7[ci]? = some (mr.1.cls, T, N)) (hn : as.length = n) (hst : st = as.reverse ++ .ref b :: rest) (hw : (rest.map fun v => v.category).sum ≤ 8) (hR8 : rmOK φ mr cells slots 0 0 d') (d : decode φ.1.2.1 pc = .ok (.invokevirtual idx, 3))
    (k : V κ φ cells slots (pc + 3) L rest μ') : V κ φ cells slots pc L st μ := V_callV hc hm hlink hσ hci hn hst hw hR8 d k
theorem V_cs1 {w : Value} (hc : Ct κ 0 0 d' mr as μ (.inl (some w)) μ') (hm : MRs mr n) (hlink : Cond.methodLink φ.1.1.cls idx mr.1 ∈ TW) (hn : as.length = n) (hst : st = as.reverse ++ rest) (hw : (rest.map fun v => v.category).sum ≤ 8) (hR8 : rmOK φ mr cells slots 0 0 d') (d : decode φ.1.2.1 pc = .ok (.invokestatic idx, 3))
    (k : V κ φ cells slots (pc + 3) L (w :: rest) μ') : V κ φ cells slots pc L st μ := V_callS hc hm hlink hn hst hw hR8 d k
theorem V_csn1 {host : String} {w : Value} (hc : Ct κ 0 0 d' mr as μ (.inl (some w)) μ') (hm : MRs mr n) (hlink : Cond.methodLinkNest φ.1.1.cls idx mr.1 host ∈ nwL) (hn : as.length = n) (hst : st = as.reverse ++ rest) (hw : (rest.map fun v => v.category).sum ≤ 8) (hR8 : rmOK φ mr cells slots 0 0 d') (d : decode φ.1.2.1 pc = .ok (.invokestatic idx, 3))
    (k : V κ φ cells slots (pc + 3) L (w :: rest) μ') : V κ φ cells slots pc L st μ := V_callSN hc hm hlink hn hst hw hR8 d k
end Base
/-! sets of blocks as masks -/
noncomputable def bp (p : Prop) : Bool := @decide p (Classical.propDecidable p)
theorem bp_t {p : Prop} : bp p = true ↔ p := by unfold bp; exact @decide_eq_true_iff p (Classical.propDecidable p)
theorem bp_f {p : Prop} : bp p = false ↔ ¬ p := by unfold bp; exact @decide_eq_false_iff_not p (Classical.propDecidable p)
theorem bp_pos {p : Prop} (h : p) : bp p = true := bp_t.mpr h
theorem bp_neg {p : Prop} (h : ¬ p) : bp p = false := bp_f.mpr h
theorem bp_eq {p : Prop} {b : Bool} (h : b = true ↔ p) : bp p = b := by
  cases b with
  | true => exact bp_pos (h.mp rfl)
  | false => exact bp_neg (fun q => by have := h.mpr q; cases this)
theorem bp_congr {p q : Prop} (h : p ↔ q) : bp p = bp q := by rw [propext h]
theorem bp_and (p q : Prop) : (bp p && bp q) = bp (p ∧ q) := by
  refine (bp_eq ?_).symm
  rw [Bool.and_eq_true, bp_t, bp_t]
theorem bp_or (p q : Prop) : (bp p || bp q) = bp (p ∨ q) := by
  refine (bp_eq ?_).symm
  rw [Bool.or_eq_true, bp_t, bp_t]
theorem bp_not (p : Prop) : (!bp p) = bp (¬ p) := by
  refine (bp_eq ?_).symm
  rw [Bool.not_eq_true', bp_f]
def mskN (P : Nat → Bool) : Nat → Nat
  | 0 => 0
  | n + 1 => mskN P n + (if P n then 2 ^ n else 0)
theorem mskN_lt (P : Nat → Bool) : ∀ n, mskN P n < 2 ^ n
  | 0 => Nat.one_pos
  | n + 1 => by
    have h := mskN_lt P n
    rw [mskN, Nat.pow_succ]
    split <;> omega
theorem mskN_bit (P : Nat → Bool) : ∀ n k, (mskN P n).testBit k = (decide (k < n) && P k)
  | 0, k => by simp [mskN]
  | n + 1, k => by
    have h := mskN_bit P n k
    have hl := mskN_lt P n
    rw [mskN]
    by_cases hP : P n = true
    · rw [if_pos hP, Nat.add_comm]
      rcases Nat.lt_trichotomy k n with hk | hk | hk
      · rw [Nat.testBit_two_pow_add_gt hk, h, decide_eq_true hk, decide_eq_true (by omega : k < n + 1)]
      · subst hk
        rw [Nat.testBit_two_pow_add_eq, Nat.testBit_lt_two_pow hl, decide_eq_true (Nat.lt_succ_self k), hP]; rfl
      · rw [Nat.testBit_lt_two_pow (Nat.lt_of_lt_of_le (by rw [Nat.add_comm]; omega : 2 ^ n + mskN P n < 2 ^ (n + 1)) (Nat.pow_le_pow_right (by omega) (by omega))), decide_eq_false (by omega : ¬ k < n + 1)]; rfl
    · have hP' : P n = false := by simpa using hP
      rw [if_neg hP, Nat.add_zero, h]
      by_cases hk : k = n
      · subst hk; rw [hP']; simp
      · by_cases hk2 : k < n
        · rw [decide_eq_true hk2, decide_eq_true (by omega : k < n + 1)]
        · rw [decide_eq_false hk2, decide_eq_false (by omega : ¬ k < n + 1)]
def msk (P : Nat → Bool) : Int32 := nI (mskN P 14)
theorem nI_bit {n : Nat} (i : Nat) : (nI n).toBitVec.getLsbD i = (decide (i < 32) && n.testBit i) := by
  show (BitVec.ofNat 32 n).getLsbD i = _
  rw [BitVec.getLsbD_ofNat]
theorem msk_bit (P : Nat → Bool) (i : Nat) : (msk P).toBitVec.getLsbD i = (decide (i < 14) && P i) := by
  unfold msk
  rw [nI_bit, mskN_bit]
  by_cases h : i < 14
  · rw [decide_eq_true h, decide_eq_true (by omega : i < 32)]; rfl
  · rw [decide_eq_false h]; simp
theorem i32_ext {x y : Int32} (h : ∀ i, x.toBitVec.getLsbD i = y.toBitVec.getLsbD i) : x = y := Int32.toBitVec_inj.mp (BitVec.eq_of_getLsbD_eq (fun i _ => h i))
theorem msk_congr {P Q : Nat → Bool} (h : ∀ k, k < 14 → P k = Q k) : msk P = msk Q := by
  refine i32_ext (fun i => ?_)
  rw [msk_bit, msk_bit]
  by_cases hi : i < 14
  · rw [h i hi]
  · rw [decide_eq_false hi]; rfl
theorem msk_inj {P Q : Nat → Bool} (h : msk P = msk Q) : ∀ k, k < 14 → P k = Q k := by
  intro k hk
  have := congrArg (fun x => x.toBitVec.getLsbD k) h
  simp only [msk_bit, decide_eq_true hk, Bool.true_and] at this
  exact this
theorem msk_or (P Q : Nat → Bool) : msk P ||| msk Q = msk (fun k => P k || Q k) := by
  refine i32_ext (fun i => ?_)
  rw [Int32.toBitVec_or, BitVec.getLsbD_or, msk_bit, msk_bit, msk_bit]
  cases decide (i < 14) <;> simp
theorem msk_and (P Q : Nat → Bool) : msk P &&& msk Q = msk (fun k => P k && Q k) := by
  refine i32_ext (fun i => ?_)
  rw [Int32.toBitVec_and, BitVec.getLsbD_and, msk_bit, msk_bit, msk_bit]
  cases decide (i < 14) <;> simp
theorem m1_bit (i : Nat) : (-1 : Int32).toBitVec.getLsbD i = decide (i < 32) := by
  rw [show (-1 : Int32).toBitVec = BitVec.allOnes 32 by decide, BitVec.getLsbD_allOnes]
theorem msk_andN (P Q : Nat → Bool) : msk P &&& (msk Q ^^^ (-1)) = msk (fun k => P k && !Q k) := by
  refine i32_ext (fun i => ?_)
  rw [Int32.toBitVec_and, BitVec.getLsbD_and, Int32.toBitVec_xor, BitVec.getLsbD_xor, m1_bit, msk_bit, msk_bit, msk_bit]
  by_cases h : i < 14
  · rw [decide_eq_true h, decide_eq_true (by omega : i < 32)]; cases P i <;> cases Q i <;> rfl
  · rw [decide_eq_false h]; simp
theorem msk_zero : msk (fun _ => false) = 0 := by decide
theorem msk_eq0 {P : Nat → Bool} : msk P = 0 ↔ ∀ k, k < 14 → P k = false := by
  rw [← msk_zero]
  exact ⟨fun h => msk_inj h, fun h => msk_congr h⟩
theorem shN : ∀ k, k < 14 → ((nI k &&& 31).toBitVec.smod 32).toNat = k := by decide +kernel
theorem msk_one {k : Nat} (hk : k < 14) : (1 : Int32) <<< (nI k &&& 31) = msk (fun j => decide (j = k)) := by
  have h1 : (1 : Int32) <<< (nI k &&& 31) = nI (1 * 2 ^ k) := pk_shlN (n := 1) _ k (shN k hk) (by
    have : 2 ^ k < 2 ^ 14 := Nat.pow_lt_pow_right (by omega) hk
    omega)
  rw [h1]
  refine i32_ext (fun i => ?_)
  rw [nI_bit, msk_bit, Nat.one_mul, Nat.testBit_two_pow]
  by_cases hi : i = k
  · subst hi; simp; omega
  · have h2 : ¬ k = i := fun q => hi q.symm
    simp [hi, h2]
/-- both programs' question whether a set has a block -/
def hasB (x k : Int32) : Bool := decide ((x >>> (k &&& 31)) &&& 1 ≠ 0)
theorem hasN {n k : Nat} (hn : n < 2 ^ 31) (hk : k < 14) : (nI n >>> (nI k &&& 31)) &&& 1 = bI (n.testBit k) := by
  rw [pk_shrN hn _ k (shN k hk), pk_andN (Nat.lt_of_le_of_lt (Nat.div_le_self _ _) (by omega)) 1 (by decide), Nat.testBit_eq_decide_div_mod_eq]
  rcases Nat.mod_two_eq_zero_or_one (n / 2 ^ k) with h | h
  · rw [show (2 : Nat) ^ 1 = 2 from rfl, h]; decide
  · rw [show (2 : Nat) ^ 1 = 2 from rfl, h]; decide
theorem has_msk (P : Nat → Bool) {k : Nat} (hk : k < 14) : (msk P >>> (nI k &&& 31)) &&& 1 = bI (P k) := by
  have h : mskN P 14 < 2 ^ 31 := Nat.lt_trans (mskN_lt P 14) (by decide)
  unfold msk
  rw [hasN h hk, mskN_bit, decide_eq_true hk, Bool.true_and]
theorem hasB_msk (P : Nat → Bool) {k : Nat} (hk : k < 14) : hasB (msk P) (nI k) = P k := by
  unfold hasB
  rw [has_msk P hk]
  cases P k <;> decide
section Nums
variable {κ : K0} {φ : Fr} {cells slots pc : Nat} {L : List (Option Value)} {st rest : List Value} {μ μ' : Mem}
theorem V_iinc1 {i x : Nat} (d : decode φ.1.2.1 pc = .ok (.iinc i 1, 3)) (h : L[i]? = some (some (.int (nI x)))) (hn : i < φ.1.2.2.1) (k : V κ φ cells slots (pc + 3) (stL i (.int (nI (x + 1))) L) st μ) : V κ φ cells slots pc L st μ :=
  V_iinc d h (nI_1 x) hn k
theorem V_N_eq {a b : Nat} (ha : a < 2 ^ 31) (hb : b < 2 ^ 31) {off : Int} (tgt : Nat) (d : decode φ.1.2.1 pc = .ok (.if_icmp .eq off, 3)) (ht : (pc : Int) + off = (tgt : Int)) (kt : a = b → V κ φ cells slots tgt L st μ) (kf : a ≠ b → V κ φ cells slots (pc + 3) L st μ) : V κ φ cells slots pc L (.int (nI b) :: .int (nI a) :: st) μ :=
  V_icmp_eq tgt d ht (fun h => kt ((nI_eq ha hb).mp h)) (fun h => kf (fun e => h (by rw [e])))
theorem V_N_ne {a b : Nat} (ha : a < 2 ^ 31) (hb : b < 2 ^ 31) {off : Int} (tgt : Nat) (d : decode φ.1.2.1 pc = .ok (.if_icmp .ne off, 3)) (ht : (pc : Int) + off = (tgt : Int)) (kt : a ≠ b → V κ φ cells slots tgt L st μ) (kf : a = b → V κ φ cells slots (pc + 3) L st μ) : V κ φ cells slots pc L (.int (nI b) :: .int (nI a) :: st) μ :=
  V_icmp_ne tgt d ht (fun h => kt (fun e => h (by rw [e]))) (fun h => kf ((nI_eq ha hb).mp h))
theorem V_N_lt {a b : Nat} (ha : a < 2 ^ 31) (hb : b < 2 ^ 31) {off : Int} (tgt : Nat) (d : decode φ.1.2.1 pc = .ok (.if_icmp .lt off, 3)) (ht : (pc : Int) + off = (tgt : Int)) (kt : a < b → V κ φ cells slots tgt L st μ) (kf : b ≤ a → V κ φ cells slots (pc + 3) L st μ) : V κ φ cells slots pc L (.int (nI b) :: .int (nI a) :: st) μ :=
  V_icmp_lt tgt d ht (fun h => kt ((nI_ltI ha hb).mp h)) (fun h => kf (Nat.not_lt.mp (fun e => h ((nI_ltI ha hb).mpr e))))
theorem V_N_ge {a b : Nat} (ha : a < 2 ^ 31) (hb : b < 2 ^ 31) {off : Int} (tgt : Nat) (d : decode φ.1.2.1 pc = .ok (.if_icmp .ge off, 3)) (ht : (pc : Int) + off = (tgt : Int)) (kt : b ≤ a → V κ φ cells slots tgt L st μ) (kf : a < b → V κ φ cells slots (pc + 3) L st μ) : V κ φ cells slots pc L (.int (nI b) :: .int (nI a) :: st) μ :=
  V_icmp_ge tgt d ht (fun h => kt ((nI_leI hb ha).mp h)) (fun h => kf (Nat.not_le.mp (fun e => h ((nI_leI hb ha).mpr e))))
theorem V_N_gt {a b : Nat} (ha : a < 2 ^ 31) (hb : b < 2 ^ 31) {off : Int} (tgt : Nat) (d : decode φ.1.2.1 pc = .ok (.if_icmp .gt off, 3)) (ht : (pc : Int) + off = (tgt : Int)) (kt : b < a → V κ φ cells slots tgt L st μ) (kf : a ≤ b → V κ φ cells slots (pc + 3) L st μ) : V κ φ cells slots pc L (.int (nI b) :: .int (nI a) :: st) μ :=
  V_icmp_gt tgt d ht (fun h => kt ((nI_ltI hb ha).mp h)) (fun h => kf (Nat.not_lt.mp (fun e => h ((nI_ltI hb ha).mpr e))))
theorem V_N_le {a b : Nat} (ha : a < 2 ^ 31) (hb : b < 2 ^ 31) {off : Int} (tgt : Nat) (d : decode φ.1.2.1 pc = .ok (.if_icmp .le off, 3)) (ht : (pc : Int) + off = (tgt : Int)) (kt : a ≤ b → V κ φ cells slots tgt L st μ) (kf : b < a → V κ φ cells slots (pc + 3) L st μ) : V κ φ cells slots pc L (.int (nI b) :: .int (nI a) :: st) μ :=
  V_icmp_le tgt d ht (fun h => kt ((nI_leI ha hb).mp h)) (fun h => kf (Nat.not_le.mp (fun e => h ((nI_leI ha hb).mpr e))))
theorem mulA (b c k : Nat) : nI b * nI c + nI k = nI (c * b + k) := by rw [pk_mul, nI_add, Nat.mul_comm]
theorem u2_s {α : Type} (f : Nat → Nat → α) (a i : Nat) (x : α) : u2 f a i x a i = x := by simp [u2]
theorem u2_n {α : Type} (f : Nat → Nat → α) {a i b j : Nat} (x : α) (h : b ≠ a ∨ j ≠ i) : u2 f a i x b j = f b j := by
  unfold u2
  rw [if_neg]
  rintro ⟨h1, h2⟩
  rcases h with h | h
  · exact h h1
  · exact h h2
end Nums
abbrev MM (σ : Nat → Option Kd) (mi : Nat → Nat → Int32) (ml : Nat → Nat → Int64) : Mem := (σ, mi, ml, none)
abbrev ints (n : Nat) : Option Kd := some (.inl (.int, n, fun _ => none))
abbrev lngs (n : Nat) : Option Kd := some (.inl (.long, n, fun _ => none))
abbrev chrs (n : Nat) : Option Kd := some (.inl (.char, n, fun _ => none))
section Known
variable {κ : K0} {φ : Fr} {cells slots pc : Nat} {L : List (Option Value)} {st rest : List Value} {μ μ' : Mem}
theorem V_getE {a idx ci N k : Nat} {sl : Nat → Option Value} {x : Int32} (fr : FRow φ.1.1.cls idx ci N k) (hσ : μ.1 a = some (.inr (ci, N, sl))) (hv : sl k = none) (hx : μ.2.1 a k = x) (d : decode φ.1.2.1 pc = .ok (.getfield idx, 3)) (kk : V κ φ cells slots (pc + 3) L (.int x :: st) μ) : V κ φ cells slots pc L (.ref a :: st) μ :=
  V_getI fr hσ hv d (by rw [hx]; exact kk)
theorem V_ialdE {a n : Nat} {r : Nat → Option Nat} {i x : Int32} (hσ : μ.1 a = some (.inl (.int, n, r))) (j : Nat) (hi : i = nI j) (hj : j < n) (hn : n < 2 ^ 31) (hx : μ.2.1 a j = x) (d : decode φ.1.2.1 pc = .ok (.iaload, 1)) (kk : V κ φ cells slots (pc + 1) L (.int x :: st) μ) : V κ φ cells slots pc L (.int i :: .ref a :: st) μ :=
  V_ialdN hσ j hi hj hn d (by rw [hx]; exact kk)
theorem V_caldE {a n : Nat} {r : Nat → Option Nat} {i x : Int32} (hσ : μ.1 a = some (.inl (.char, n, r))) (j : Nat) (hi : i = nI j) (hj : j < n) (hn : n < 2 ^ 31) (hx : μ.2.1 a j = x) (d : decode φ.1.2.1 pc = .ok (.caload, 1)) (kk : V κ φ cells slots (pc + 1) L (.int x :: st) μ) : V κ φ cells slots pc L (.int i :: .ref a :: st) μ :=
  V_caldN hσ j hi hj hn d (by rw [hx]; exact kk)
/-- the top of the stack under another name -/
theorem V_top {x y : Int32} (h : x = y) (k : V κ φ cells slots pc L (.int y :: st) μ) : V κ φ cells slots pc L (.int x :: st) μ := by rw [h]; exact k
end Known
