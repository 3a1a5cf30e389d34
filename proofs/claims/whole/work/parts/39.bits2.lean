/-! the model's way to count bits: the lowest one goes, one by one -/
def pcN (n : Nat) : Nat := cnt (fun k => n.testBit k) 14
def cbK : Nat → Nat → Bool
  | _, 0 => true
  | a, n + 1 => (decide (a + n = 0) || (decide (nI (a + n) &&& (nI (a + n) - nI 1) = nI ((a + n) &&& (a + n - 1))) && (decide ((a + n) &&& (a + n - 1) < a + n) && decide (pcN ((a + n) &&& (a + n - 1)) + 1 = pcN (a + n))))) && cbK a n
theorem cbK_ok : ∀ (a n : Nat), cbK a n = true → ∀ k, k < n → a + k ≠ 0 → nI (a + k) &&& (nI (a + k) - nI 1) = nI ((a + k) &&& (a + k - 1)) ∧ (a + k) &&& (a + k - 1) < a + k ∧ pcN ((a + k) &&& (a + k - 1)) + 1 = pcN (a + k)
  | a, 0, _, k, hk, _ => absurd hk (Nat.not_lt_zero k)
  | a, n + 1, h, k, hk, h0 => by
    rw [cbK, Bool.and_eq_true, Bool.or_eq_true, Bool.and_eq_true, Bool.and_eq_true, decide_eq_true_iff, decide_eq_true_iff, decide_eq_true_iff, decide_eq_true_iff] at h
    by_cases e : k = n
    · rw [e] at h0 ⊢; exact h.1.resolve_left h0
    · exact cbK_ok a n h.2 k (by omega) h0
theorem cbK_0 : cbK 0 1024 = true := by decide +kernel
theorem cbK_1 : cbK 1024 1024 = true := by decide +kernel
theorem cbK_2 : cbK 2048 1024 = true := by decide +kernel
theorem cbK_3 : cbK 3072 1024 = true := by decide +kernel
theorem cbK_4 : cbK 4096 1024 = true := by decide +kernel
theorem cbK_5 : cbK 5120 1024 = true := by decide +kernel
theorem cbK_6 : cbK 6144 1024 = true := by decide +kernel
theorem cbK_7 : cbK 7168 1024 = true := by decide +kernel
theorem cbK_8 : cbK 8192 1024 = true := by decide +kernel
theorem cbK_9 : cbK 9216 1024 = true := by decide +kernel
theorem cbK_10 : cbK 10240 1024 = true := by decide +kernel
theorem cbK_11 : cbK 11264 1024 = true := by decide +kernel
theorem cbK_12 : cbK 12288 1024 = true := by decide +kernel
theorem cbK_13 : cbK 13312 1024 = true := by decide +kernel
theorem cbK_14 : cbK 14336 1024 = true := by decide +kernel
theorem cbK_15 : cbK 15360 1024 = true := by decide +kernel
theorem cb_ok {n : Nat} (h : n < 16384) (h0 : n ≠ 0) : nI n &&& (nI n - nI 1) = nI (n &&& (n - 1)) ∧ n &&& (n - 1) < n ∧ pcN (n &&& (n - 1)) + 1 = pcN n := by
  rcases (by omega : (0 ≤ n ∧ n < 1024) ∨ (1024 ≤ n ∧ n < 2048) ∨ (2048 ≤ n ∧ n < 3072) ∨ (3072 ≤ n ∧ n < 4096) ∨ (4096 ≤ n ∧ n < 5120) ∨ (5120 ≤ n ∧ n < 6144) ∨ (6144 ≤ n ∧ n < 7168) ∨ (7168 ≤ n ∧ n < 8192) ∨ (8192 ≤ n ∧ n < 9216) ∨ (9216 ≤ n ∧ n < 10240) ∨ (10240 ≤ n ∧ n < 11264) ∨ (11264 ≤ n ∧ n < 12288) ∨ (12288 ≤ n ∧ n < 13312) ∨ (13312 ≤ n ∧ n < 14336) ∨ (14336 ≤ n ∧ n < 15360) ∨ (15360 ≤ n ∧ n < 16384)) with q | q | q | q | q | q | q | q | q | q | q | q | q | q | q | q
  · have h1 := cbK_ok 0 1024 cbK_0 (n - 0) (by omega)
    rw [show 0 + (n - 0) = n by omega] at h1
    exact h1 h0
  · have h1 := cbK_ok 1024 1024 cbK_1 (n - 1024) (by omega)
    rw [show 1024 + (n - 1024) = n by omega] at h1
    exact h1 h0
  · have h1 := cbK_ok 2048 1024 cbK_2 (n - 2048) (by omega)
    rw [show 2048 + (n - 2048) = n by omega] at h1
    exact h1 h0
  · have h1 := cbK_ok 3072 1024 cbK_3 (n - 3072) (by omega)
    rw [show 3072 + (n - 3072) = n by omega] at h1
    exact h1 h0
  · have h1 := cbK_ok 4096 1024 cbK_4 (n - 4096) (by omega)
    rw [show 4096 + (n - 4096) = n by omega] at h1
    exact h1 h0
  · have h1 := cbK_ok 5120 1024 cbK_5 (n - 5120) (by omega)
    rw [show 5120 + (n - 5120) = n by omega] at h1
    exact h1 h0
  · have h1 := cbK_ok 6144 1024 cbK_6 (n - 6144) (by omega)
    rw [show 6144 + (n - 6144) = n by omega] at h1
    exact h1 h0
  · have h1 := cbK_ok 7168 1024 cbK_7 (n - 7168) (by omega)
    rw [show 7168 + (n - 7168) = n by omega] at h1
    exact h1 h0
  · have h1 := cbK_ok 8192 1024 cbK_8 (n - 8192) (by omega)
    rw [show 8192 + (n - 8192) = n by omega] at h1
    exact h1 h0
  · have h1 := cbK_ok 9216 1024 cbK_9 (n - 9216) (by omega)
    rw [show 9216 + (n - 9216) = n by omega] at h1
    exact h1 h0
  · have h1 := cbK_ok 10240 1024 cbK_10 (n - 10240) (by omega)
    rw [show 10240 + (n - 10240) = n by omega] at h1
    exact h1 h0
  · have h1 := cbK_ok 11264 1024 cbK_11 (n - 11264) (by omega)
    rw [show 11264 + (n - 11264) = n by omega] at h1
    exact h1 h0
  · have h1 := cbK_ok 12288 1024 cbK_12 (n - 12288) (by omega)
    rw [show 12288 + (n - 12288) = n by omega] at h1
    exact h1 h0
  · have h1 := cbK_ok 13312 1024 cbK_13 (n - 13312) (by omega)
    rw [show 13312 + (n - 13312) = n by omega] at h1
    exact h1 h0
  · have h1 := cbK_ok 14336 1024 cbK_14 (n - 14336) (by omega)
    rw [show 14336 + (n - 14336) = n by omega] at h1
    exact h1 h0
  · have h1 := cbK_ok 15360 1024 cbK_15 (n - 15360) (by omega)
    rw [show 15360 + (n - 15360) = n by omega] at h1
    exact h1 h0
theorem pcN_msk (P : Nat → Bool) : pcN (mskN P 14) = cnt P 14 := cnt_congr 14 (fun k hk => by rw [mskN_bit, decide_eq_true hk]; rfl)
theorem pcN_0 : pcN 0 = 0 := by decide
