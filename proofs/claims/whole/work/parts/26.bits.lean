/-! numbers against 0, counting; Integer.bitCount; sources, operands, uses -/
section Zero
variable {κ : K0} {φ : Fr} {cells slots pc : Nat} {L : List (Option Value)} {st rest : List Value} {μ μ' : Mem}
theorem nI_z {a : Nat} (ha : a < 2 ^ 31) : nI a = 0 ↔ a = 0 := nI_eq ha (b := 0) (by omega)
theorem nI_subN {a b : Nat} (h : b ≤ a) : nI a - nI b = nI (a - b) := by
  have h1 := nI_add (a - b) b
  rw [Nat.sub_add_cancel h] at h1
  rw [← h1, Int32.add_sub_cancel]
theorem V_Z_eq {a : Nat} (ha : a < 2 ^ 31) {off : Int} (tgt : Nat) (d : decode φ.1.2.1 pc = .ok (.ifCond .eq off, 3)) (ht : (pc : Int) + off = (tgt : Int)) (kt : a = 0 → V κ φ cells slots tgt L st μ) (kf : a ≠ 0 → V κ φ cells slots (pc + 3) L st μ) : V κ φ cells slots pc L (.int (nI a) :: st) μ :=
  V_if_eq tgt d ht (fun h => kt ((nI_z ha).mp h)) (fun h => kf (fun e => h ((nI_z ha).mpr e)))
theorem V_Z_ne {a : Nat} (ha : a < 2 ^ 31) {off : Int} (tgt : Nat) (d : decode φ.1.2.1 pc = .ok (.ifCond .ne off, 3)) (ht : (pc : Int) + off = (tgt : Int)) (kt : a ≠ 0 → V κ φ cells slots tgt L st μ) (kf : a = 0 → V κ φ cells slots (pc + 3) L st μ) : V κ φ cells slots pc L (.int (nI a) :: st) μ :=
  V_if_ne tgt d ht (fun h => kt (fun e => h ((nI_z ha).mpr e))) (fun h => kf ((nI_z ha).mp h))
theorem V_Z_gt {a : Nat} (ha : a < 2 ^ 31) {off : Int} (tgt : Nat) (d : decode φ.1.2.1 pc = .ok (.ifCond .gt off, 3)) (ht : (pc : Int) + off = (tgt : Int)) (kt : 0 < a → V κ φ cells slots tgt L st μ) (kf : a = 0 → V κ φ cells slots (pc + 3) L st μ) : V κ φ cells slots pc L (.int (nI a) :: st) μ :=
  V_if_gt tgt d ht (fun h => kt ((nI_ltI (a := 0) (by omega) ha).mp h)) (fun h => kf (by have := (not_congr (nI_ltI (a := 0) (by omega) ha)).mp h; omega))
theorem V_Z_le {a : Nat} (ha : a < 2 ^ 31) {off : Int} (tgt : Nat) (d : decode φ.1.2.1 pc = .ok (.ifCond .le off, 3)) (ht : (pc : Int) + off = (tgt : Int)) (kt : a = 0 → V κ φ cells slots tgt L st μ) (kf : 0 < a → V κ φ cells slots (pc + 3) L st μ) : V κ φ cells slots pc L (.int (nI a) :: st) μ :=
  V_if_le tgt d ht (fun h => kt (by have := (nI_leI (b := 0) ha (by omega)).mp h; omega)) (fun h => kf (by have := (not_congr (nI_leI (b := 0) ha (by omega))).mp h; omega))
end Zero
theorem cnt_t {P : Nat → Bool} {i : Nat} (h : P i = true) : cnt P i + 1 = cnt P (i + 1) := by rw [cnt, if_pos h]
theorem cnt_f {P : Nat → Bool} {i : Nat} (h : P i = false) : cnt P i = cnt P (i + 1) := by rw [cnt, h]; rfl
def sm (f : Nat → Nat) : Nat → Nat
  | 0 => 0
  | n + 1 => sm f n + f n
theorem sm_congr {f g : Nat → Nat} : ∀ n, (∀ k, k < n → f k = g k) → sm f n = sm g n
  | 0, _ => rfl
  | n + 1, h => by rw [sm, sm, sm_congr n (fun k hk => h k (by omega)), h n (by omega)]
theorem sm_le {f : Nat → Nat} {c : Nat} : ∀ n, (∀ k, k < n → f k ≤ c) → sm f n ≤ c * n
  | 0, _ => Nat.zero_le _
  | n + 1, h => by
    have h1 := sm_le n (fun k hk => h k (by omega))
    have h2 := h n (by omega)
    rw [sm, Nat.mul_succ]; omega
/-! Integer.bitCount -/
abbrev bu (x : Int32) (n : Nat) : Int32 := (x.toUInt32 >>> ((nI n).toUInt32 &&& Int32.toUInt32 31)).toInt32
def bc1 (x : Int32) : Int32 := x - (bu x 1 &&& 1431655765)
def bc2 (x : Int32) : Int32 := (x &&& 858993459) + (bu x 2 &&& 858993459)
def bc3 (x : Int32) : Int32 := (x + bu x 4) &&& 252645135
def bc4 (x : Int32) : Int32 := x + bu x 8
def bc5 (x : Int32) : Int32 := x + bu x 16
def bcF (x : Int32) : Int32 := bc5 (bc4 (bc3 (bc2 (bc1 x)))) &&& nI 63
def bcK : Nat → Nat → Bool
  | _, 0 => true
  | a, n + 1 => decide (bcF (nI (a + n)) = nI (cnt (fun k => (a + n).testBit k) 14)) && bcK a n
theorem bcK_ok : ∀ (a n : Nat), bcK a n = true → ∀ k, k < n → bcF (nI (a + k)) = nI (cnt (fun j => (a + k).testBit j) 14)
  | a, 0, _, k, hk => absurd hk (Nat.not_lt_zero k)
  | a, n + 1, h, k, hk => by
    rw [bcK, Bool.and_eq_true, decide_eq_true_iff] at h
    by_cases e : k = n
    · rw [e]; exact h.1
    · exact bcK_ok a n h.2 k (by omega)
theorem bcK_0 : bcK 0 1024 = true := by decide +kernel
theorem bcK_1 : bcK 1024 1024 = true := by decide +kernel
theorem bcK_2 : bcK 2048 1024 = true := by decide +kernel
theorem bcK_3 : bcK 3072 1024 = true := by decide +kernel
theorem bcK_4 : bcK 4096 1024 = true := by decide +kernel
theorem bcK_5 : bcK 5120 1024 = true := by decide +kernel
theorem bcK_6 : bcK 6144 1024 = true := by decide +kernel
theorem bcK_7 : bcK 7168 1024 = true := by decide +kernel
theorem bcK_8 : bcK 8192 1024 = true := by decide +kernel
theorem bcK_9 : bcK 9216 1024 = true := by decide +kernel
theorem bcK_10 : bcK 10240 1024 = true := by decide +kernel
theorem bcK_11 : bcK 11264 1024 = true := by decide +kernel
theorem bcK_12 : bcK 12288 1024 = true := by decide +kernel
theorem bcK_13 : bcK 13312 1024 = true := by decide +kernel
theorem bcK_14 : bcK 14336 1024 = true := by decide +kernel
theorem bcK_15 : bcK 15360 1024 = true := by decide +kernel
theorem bcF_ok {n : Nat} (h : n < 16384) : bcF (nI n) = nI (cnt (fun j => n.testBit j) 14) := by
  rcases (by omega : (0 ≤ n ∧ n < 1024) ∨ (1024 ≤ n ∧ n < 2048) ∨ (2048 ≤ n ∧ n < 3072) ∨ (3072 ≤ n ∧ n < 4096) ∨ (4096 ≤ n ∧ n < 5120) ∨ (5120 ≤ n ∧ n < 6144) ∨ (6144 ≤ n ∧ n < 7168) ∨ (7168 ≤ n ∧ n < 8192) ∨ (8192 ≤ n ∧ n < 9216) ∨ (9216 ≤ n ∧ n < 10240) ∨ (10240 ≤ n ∧ n < 11264) ∨ (11264 ≤ n ∧ n < 12288) ∨ (12288 ≤ n ∧ n < 13312) ∨ (13312 ≤ n ∧ n < 14336) ∨ (14336 ≤ n ∧ n < 15360) ∨ (15360 ≤ n ∧ n < 16384)) with q | q | q | q | q | q | q | q | q | q | q | q | q | q | q | q
  · have h1 := bcK_ok 0 1024 bcK_0 (n - 0) (by omega)
    rw [show 0 + (n - 0) = n by omega] at h1
    exact h1
  · have h1 := bcK_ok 1024 1024 bcK_1 (n - 1024) (by omega)
    rw [show 1024 + (n - 1024) = n by omega] at h1
    exact h1
  · have h1 := bcK_ok 2048 1024 bcK_2 (n - 2048) (by omega)
    rw [show 2048 + (n - 2048) = n by omega] at h1
    exact h1
  · have h1 := bcK_ok 3072 1024 bcK_3 (n - 3072) (by omega)
    rw [show 3072 + (n - 3072) = n by omega] at h1
    exact h1
  · have h1 := bcK_ok 4096 1024 bcK_4 (n - 4096) (by omega)
    rw [show 4096 + (n - 4096) = n by omega] at h1
    exact h1
  · have h1 := bcK_ok 5120 1024 bcK_5 (n - 5120) (by omega)
    rw [show 5120 + (n - 5120) = n by omega] at h1
    exact h1
  · have h1 := bcK_ok 6144 1024 bcK_6 (n - 6144) (by omega)
    rw [show 6144 + (n - 6144) = n by omega] at h1
    exact h1
  · have h1 := bcK_ok 7168 1024 bcK_7 (n - 7168) (by omega)
    rw [show 7168 + (n - 7168) = n by omega] at h1
    exact h1
  · have h1 := bcK_ok 8192 1024 bcK_8 (n - 8192) (by omega)
    rw [show 8192 + (n - 8192) = n by omega] at h1
    exact h1
  · have h1 := bcK_ok 9216 1024 bcK_9 (n - 9216) (by omega)
    rw [show 9216 + (n - 9216) = n by omega] at h1
    exact h1
  · have h1 := bcK_ok 10240 1024 bcK_10 (n - 10240) (by omega)
    rw [show 10240 + (n - 10240) = n by omega] at h1
    exact h1
  · have h1 := bcK_ok 11264 1024 bcK_11 (n - 11264) (by omega)
    rw [show 11264 + (n - 11264) = n by omega] at h1
    exact h1
  · have h1 := bcK_ok 12288 1024 bcK_12 (n - 12288) (by omega)
    rw [show 12288 + (n - 12288) = n by omega] at h1
    exact h1
  · have h1 := bcK_ok 13312 1024 bcK_13 (n - 13312) (by omega)
    rw [show 13312 + (n - 13312) = n by omega] at h1
    exact h1
  · have h1 := bcK_ok 14336 1024 bcK_14 (n - 14336) (by omega)
    rw [show 14336 + (n - 14336) = n by omega] at h1
    exact h1
  · have h1 := bcK_ok 15360 1024 bcK_15 (n - 15360) (by omega)
    rw [show 15360 + (n - 15360) = n by omega] at h1
    exact h1
theorem bcF_msk (P : Nat → Bool) : bcF (msk P) = nI (cnt P 14) := by
  unfold msk
  rw [bcF_ok (mskN_lt P 14)]
  congr 1
  exact cnt_congr 14 (fun k hk => by rw [mskN_bit, decide_eq_true hk]; rfl)

