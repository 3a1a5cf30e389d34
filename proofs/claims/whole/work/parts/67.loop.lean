/-! the law's switch and loop -/
section Loop
variable {κ : K0} {b Ln : Nat} {xs : Nat → Int32} {nm : String} {hh : List (Nat × Nat × Nat × Nat)} {cells slots : Nat} {σ : Nat → Option Kd} {mi : Nat → Nat → Int32} {ml : Nat → Nat → Int64} {x m o i : Nat} {S : SS}
theorem law_switch (hI : LI σ x m o) (hX : XA mi x S) (hA : MA mi m S) (hS : SOK S) (hL : Ln ≤ 2048) (hi : i + 4 ≤ Ln) (hcc : cells + 32 ≤ 601024) (hcs : slots + 440 ≤ 7293034) (kn : KN κ (phiL κ b Ln xs nm hh) σ x m (lwL b x m o i) cells slots) {k : Nat} (hk : k < 64) : V κ (phiL κ b Ln xs nm hh) cells slots 39 (lwL b x m o i) [.int (nI k)] (MM σ mi ml) := by
  match k, hk with
  | 0, _ => exact V_tableIn (off := 193) 232 dL_law_39 (by decide +kernel) (by decide +kernel) (by decide +kernel) (by decide) (law_0 hI hX hA hS hL hi hcc hcs kn)
  | 1, _ => exact V_tableIn (off := 249) 288 dL_law_39 (by decide +kernel) (by decide +kernel) (by decide +kernel) (by decide) (law_1 hI hX hA hS hL hi hcc hcs kn)
  | 2, _ => exact V_tableIn (off := 262) 301 dL_law_39 (by decide +kernel) (by decide +kernel) (by decide +kernel) (by decide) (law_2 hI hX hA hS hL hi hcc hcs kn)
  | 3, _ => exact V_tableIn (off := 320) 359 dL_law_39 (by decide +kernel) (by decide +kernel) (by decide +kernel) (by decide) (law_3 hI hX hA hS hL hi hcc hcs kn)
  | 4, _ => exact V_tableIn (off := 364) 403 dL_law_39 (by decide +kernel) (by decide +kernel) (by decide +kernel) (by decide) (law_4 hI hX hA hS hL hi hcc hcs kn)
  | 5, _ => exact V_tableIn (off := 408) 447 dL_law_39 (by decide +kernel) (by decide +kernel) (by decide +kernel) (by decide) (law_5 hI hX hA hS hL hi hcc hcs kn)
  | 6, _ => exact V_tableIn (off := 476) 515 dL_law_39 (by decide +kernel) (by decide +kernel) (by decide +kernel) (by decide) (law_6 hI hX hA hS hL hi hcc hcs kn)
  | 7, _ => exact V_tableIn (off := 544) 583 dL_law_39 (by decide +kernel) (by decide +kernel) (by decide +kernel) (by decide) (law_7 hI hX hA hS hL hi hcc hcs kn)
  | 8, _ => exact V_tableIn (off := 612) 651 dL_law_39 (by decide +kernel) (by decide +kernel) (by decide +kernel) (by decide) (law_8 hI hX hA hS hL hi hcc hcs kn)
  | 9, _ => exact V_tableIn (off := 692) 731 dL_law_39 (by decide +kernel) (by decide +kernel) (by decide +kernel) (by decide) (law_9 hI hX hA hS hL hi hcc hcs kn)
  | 10, _ => exact V_tableIn (off := 748) 787 dL_law_39 (by decide +kernel) (by decide +kernel) (by decide +kernel) (by decide) (law_10 hI hX hA hS hL hi hcc hcs kn)
  | 11, _ => exact V_tableIn (off := 816) 855 dL_law_39 (by decide +kernel) (by decide +kernel) (by decide +kernel) (by decide) (law_11 hI hX hA hS hL hi hcc hcs kn)
  | 12, _ => exact V_tableIn (off := 872) 911 dL_law_39 (by decide +kernel) (by decide +kernel) (by decide +kernel) (by decide) (law_12 hI hX hA hS hL hi hcc hcs kn)
  | 13, _ => exact V_tableIn (off := 940) 979 dL_law_39 (by decide +kernel) (by decide +kernel) (by decide +kernel) (by decide) (law_13 hI hX hA hS hL hi hcc hcs kn)
  | 14, _ => exact V_tableIn (off := 1003) 1042 dL_law_39 (by decide +kernel) (by decide +kernel) (by decide +kernel) (by decide) (law_14 hI hX hA hS hL hi hcc hcs kn)
  | 15, _ => exact V_tableIn (off := 1059) 1098 dL_law_39 (by decide +kernel) (by decide +kernel) (by decide +kernel) (by decide) (law_15 hI hX hA hS hL hi hcc hcs kn)
  | 16, _ => exact V_tableIn (off := 1134) 1173 dL_law_39 (by decide +kernel) (by decide +kernel) (by decide +kernel) (by decide) (law_16 hI hX hA hS hL hi hcc hcs kn)
  | 17, _ => exact V_tableIn (off := 1190) 1229 dL_law_39 (by decide +kernel) (by decide +kernel) (by decide +kernel) (by decide) (law_17 hI hX hA hS hL hi hcc hcs kn)
  | 18, _ => exact V_tableIn (off := 1246) 1285 dL_law_39 (by decide +kernel) (by decide +kernel) (by decide +kernel) (by decide) (law_18 hI hX hA hS hL hi hcc hcs kn)
  | 19, _ => exact V_tableIn (off := 1321) 1360 dL_law_39 (by decide +kernel) (by decide +kernel) (by decide +kernel) (by decide) (law_19 hI hX hA hS hL hi hcc hcs kn)
  | 20, _ => exact V_tableIn (off := 1377) 1416 dL_law_39 (by decide +kernel) (by decide +kernel) (by decide +kernel) (by decide) (law_20 hI hX hA hS hL hi hcc hcs kn)
  | 21, _ => exact V_tableIn (off := 1433) 1472 dL_law_39 (by decide +kernel) (by decide +kernel) (by decide +kernel) (by decide) (law_21 hI hX hA hS hL hi hcc hcs kn)
  | 22, _ => exact V_tableIn (off := 1446) 1485 dL_law_39 (by decide +kernel) (by decide +kernel) (by decide +kernel) (by decide) (law_22 hI hX hA hS hL hi hcc hcs kn)
  | 23, _ => exact V_tableIn (off := 1542) 1581 dL_law_39 (by decide +kernel) (by decide +kernel) (by decide +kernel) (by decide) (law_23 hI hX hA hS hL hi hcc hcs kn)
  | 24, _ => exact V_tableIn (off := 1610) 1649 dL_law_39 (by decide +kernel) (by decide +kernel) (by decide +kernel) (by decide) (law_24 hI hX hA hS hL hi hcc hcs kn)
  | 25, _ => exact V_tableIn (off := 1690) 1729 dL_law_39 (by decide +kernel) (by decide +kernel) (by decide +kernel) (by decide) (law_25 hI hX hA hS hL hi hcc hcs kn)
  | 26, _ => exact V_tableIn (off := 1758) 1797 dL_law_39 (by decide +kernel) (by decide +kernel) (by decide +kernel) (by decide) (law_26 hI hX hA hS hL hi hcc hcs kn)
  | 27, _ => exact V_tableIn (off := 1826) 1865 dL_law_39 (by decide +kernel) (by decide +kernel) (by decide +kernel) (by decide) (law_27 hI hX hA hS hL hi hcc hcs kn)
  | 28, _ => exact V_tableIn (off := 1839) 1878 dL_law_39 (by decide +kernel) (by decide +kernel) (by decide +kernel) (by decide) (law_28 hI hX hA hS hL hi hcc hcs kn)
  | 29, _ => exact V_tableIn (off := 1907) 1946 dL_law_39 (by decide +kernel) (by decide +kernel) (by decide +kernel) (by decide) (law_29 hI hX hA hS hL hi hcc hcs kn)
  | 30, _ => exact V_tableIn (off := 1987) 2026 dL_law_39 (by decide +kernel) (by decide +kernel) (by decide +kernel) (by decide) (law_30 hI hX hA hS hL hi hcc hcs kn)
  | 31, _ => exact V_tableIn (off := 2062) 2101 dL_law_39 (by decide +kernel) (by decide +kernel) (by decide +kernel) (by decide) (law_31 hI hX hA hS hL hi hcc hcs kn)
  | 32, _ => exact V_tableIn (off := 2075) 2114 dL_law_39 (by decide +kernel) (by decide +kernel) (by decide +kernel) (by decide) (law_32 hI hX hA hS hL hi hcc hcs kn)
  | 33, _ => exact V_tableIn (off := 2088) 2127 dL_law_39 (by decide +kernel) (by decide +kernel) (by decide +kernel) (by decide) (law_33 hI hX hA hS hL hi hcc hcs kn)
  | 34, _ => exact V_tableIn (off := 2101) 2140 dL_law_39 (by decide +kernel) (by decide +kernel) (by decide +kernel) (by decide) (law_34 hI hX hA hS hL hi hcc hcs kn)
  | 35, _ => exact V_tableIn (off := 2114) 2153 dL_law_39 (by decide +kernel) (by decide +kernel) (by decide +kernel) (by decide) (law_35 hI hX hA hS hL hi hcc hcs kn)
  | 36, _ => exact V_tableIn (off := 2158) 2197 dL_law_39 (by decide +kernel) (by decide +kernel) (by decide +kernel) (by decide) (law_36 hI hX hA hS hL hi hcc hcs kn)
  | 37, _ => exact V_tableIn (off := 2214) 2253 dL_law_39 (by decide +kernel) (by decide +kernel) (by decide +kernel) (by decide) (law_37 hI hX hA hS hL hi hcc hcs kn)
  | 38, _ => exact V_tableIn (off := 2227) 2266 dL_law_39 (by decide +kernel) (by decide +kernel) (by decide +kernel) (by decide) (law_38 hI hX hA hS hL hi hcc hcs kn)
  | 39, _ => exact V_tableIn (off := 2240) 2279 dL_law_39 (by decide +kernel) (by decide +kernel) (by decide +kernel) (by decide) (law_39 hI hX hA hS hL hi hcc hcs kn)
  | 40, _ => exact V_tableIn (off := 2296) 2335 dL_law_39 (by decide +kernel) (by decide +kernel) (by decide +kernel) (by decide) (law_40 hI hX hA hS hL hi hcc hcs kn)
  | 41, _ => exact V_tableIn (off := 2352) 2391 dL_law_39 (by decide +kernel) (by decide +kernel) (by decide +kernel) (by decide) (law_41 hI hX hA hS hL hi hcc hcs kn)
  | 42, _ => exact V_tableIn (off := 2419) 2458 dL_law_39 (by decide +kernel) (by decide +kernel) (by decide +kernel) (by decide) (law_42 hI hX hA hS hL hi hcc hcs kn)
  | 43, _ => exact V_tableIn (off := 2460) 2499 dL_law_39 (by decide +kernel) (by decide +kernel) (by decide +kernel) (by decide) (law_43 hI hX hA hS hL hi hcc hcs kn)
  | 44, _ => exact V_tableIn (off := 2473) 2512 dL_law_39 (by decide +kernel) (by decide +kernel) (by decide +kernel) (by decide) (law_44 hI hX hA hS hL hi hcc hcs kn)
  | k + 45, hk =>
    refine V_tableOut 2556 dL_law_39 (Or.inr ?_) (by decide) ?_
    · rw [nI_toInt (by omega)]
      omega
    · exact V.widen (k := cells + 32) (n := slots + 440) (by omega) (by omega) (kn S mi ml hS hX hA)
end Loop
theorem e4 (q : Nat) : nI (4 * q) + Int32.ofInt 4 = nI (4 * (q + 1)) := by
  rw [show Int32.ofInt 4 = nI 4 from by decide, nI_add, show 4 * q + 4 = 4 * (q + 1) by omega]
theorem law_loop {κ : K0} {b Ln : Nat} {xs : Nat → Int32} {nm : String} {hh : List (Nat × Nat × Nat × Nat)} {σ : Nat → Option Kd} {x m o : Nat} (hI : LI σ x m o) (hL : Ln ≤ 2048) : ∀ (n q : Nat) (S : SS) (mi : Nat → Nat → Int32) (ml : Nat → Nat → Int64), XA mi x S → MA mi m S → SOK S → 4 * q ≤ Ln → Ln ≤ 4 * q + 4 * n → V κ (phiL κ b Ln xs nm hh) (200 + 32 * q) (5000 + 440 * q) 23 (lwL b x m o (4 * q)) [] (MM σ mi ml) := by
  intro n
  induction n with
  | zero =>
    intro q S mi ml hX hA hS h1 h2
    refine V_iload dL_law_23 rfl ?_
    refine V_aload_n dL_law_25 rfl rfl ?_
    refine V_slen dL_law_26 ?_
    refine V_iconst (v := nI 4) dL_law_27 (by decide) ?_
    refine V_isub dL_law_28 ?_
    refine V_icmp_gt 2562 dL_law_29 (by decide) (fun _ => ?_) (fun h => absurd ((sub4 hL (by omega)).mp h) (by omega))
    refine V_iconst (v := nI 1) dL_law_2562 (by decide) ?_
    exact V_lawret (by omega) (by omega) dL_law_2563
  | succ n ih =>
    intro q S mi ml hX hA hS h1 h2
    refine V_iload dL_law_23 rfl ?_
    refine V_aload_n dL_law_25 rfl rfl ?_
    refine V_slen dL_law_26 ?_
    refine V_iconst (v := nI 4) dL_law_27 (by decide) ?_
    refine V_isub dL_law_28 ?_
    refine V_icmp_gt 2562 dL_law_29 (by decide) (fun _ => ?_) (fun h => ?_)
    · refine V_iconst (v := nI 1) dL_law_2562 (by decide) ?_
      exact V_lawret (by omega) (by omega) dL_law_2563
    · have hi : 4 * q + 4 ≤ Ln := (sub4 hL (by omega)).mp h
      refine V_aload_n dL_law_32 rfl rfl ?_
      refine V_iload dL_law_33 rfl ?_
      refine V_sld (4 * q) rfl (by omega) hL dL_law_35 ?_
      refine V_bipush (v := nI 63) dL_law_36 (by decide) ?_
      refine V_iand dL_law_38 ?_
      obtain ⟨k, hk, ek⟩ := and63 (xs (4 * q))
      refine V_top ek ?_
      refine law_switch hI hX hA hS hL hi (by omega) (by omega) (fun S' m' l' hS' hX' hA' => ?_) hk
      refine V_iinc dL_law_2556 rfl (e4 q) (Nat.le_of_ble_eq_true rfl) ?_
      refine V_goto 23 dL_law_2559 (by decide) ?_
      refine V.widen (k := 200 + 32 * (q + 1)) (n := 5000 + 440 * (q + 1)) (by omega) (by omega) ?_
      exact ih (q + 1) S' m' l' hX' hA' hS' (by omega) (by omega)
