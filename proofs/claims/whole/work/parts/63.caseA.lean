/-! the law, case by case -/
theorem nI_k0 {k : Nat} (h : nI k = 0) (hk : k ≤ 100) : k = 0 := by
  rcases Nat.eq_zero_or_pos k with h0 | h0
  · exact h0
  · exact absurd h (nI_ne0 h0 (by omega))
theorem rkw (S : SS) (b n : Int32) : rk_walks S b n ≤ 100 := by
  unfold rk_walks
  (repeat' split) <;> exact Nat.le_of_ble_eq_true rfl
section Case
variable {κ : K0} {b Ln : Nat} {xs : Nat → Int32} {nm : String} {hh : List (Nat × Nat × Nat × Nat)} {cells slots : Nat} {σ : Nat → Option Kd} {mi : Nat → Nat → Int32} {ml : Nat → Nat → Int64} {x m o i : Nat} {S : SS}
theorem law_0 (hI : LI σ x m o) (hX : XA mi x S) (hA : MA mi m S) (hS : SOK S) (hL : Ln ≤ 2048) (hi : i + 4 ≤ Ln) (hcc : cells + 32 ≤ 601024) (hcs : slots + 440 ≤ 7293034) (kn : KN κ (phiL κ b Ln xs nm hh) σ x m (lwL b x m o i) cells slots) : V κ (phiL κ b Ln xs nm hh) cells slots 232 (lwL b x m o i) [] (MM σ mi ml) := by
  obtain ⟨hLx, hM, ho, hxm, hmo⟩ := hI
  refine V_aload_n dL_law_232 rfl rfl ?_
  refine V_aload_n dL_law_233 rfl rfl ?_
  refine V_iload dL_law_234 rfl ?_
  refine V_iconst (v := nI 1) dL_law_236 (by decide) ?_
  refine V_iadd dL_law_237 ?_
  refine V_sld (i + 1) (nI_add i 1) (by omega) hL dL_law_238 ?_
  refine V_aload_n dL_law_239 rfl rfl ?_
  refine V_chR (ctL_reset hLx hX hS ho) mhL_reset lkL_132 rfl rfl (Nat.le_of_ble_eq_true rfl) ⟨⟨Nat.le_of_ble_eq_true rfl, Nat.le_of_ble_eq_true rfl⟩, by show cells + 1 ≤ 601024; omega, by show slots + 6 ≤ 7293034; omega⟩ dL_law_240 (fun m1 l1 hX1 ho1 hf1 => ?_)
  have hA1 : MA m1 m S := hA.fr hS (fun a j q1 q2 => hf1 a j (by omega))
  refine V_istore dL_law_243 (Nat.le_of_ble_eq_true rfl) ?_
  refine V_aload_n dL_law_245 rfl rfl ?_
  refine V_aload_n dL_law_246 rfl rfl ?_
  refine V_iload dL_law_247 rfl ?_
  refine V_iconst (v := nI 1) dL_law_249 (by decide) ?_
  refine V_iadd dL_law_250 ?_
  refine V_sld (i + 1) (nI_add i 1) (by omega) hL dL_law_251 ?_
  refine V_cmR (ctX6_reset hM hA1 hS) mvX6_reset lkL_137 hM.1 rfl rfl rfl (Nat.le_of_ble_eq_true rfl) ⟨⟨Nat.le_of_ble_eq_true rfl, Nat.le_of_ble_eq_true rfl⟩, by show cells + 1 + 0 ≤ 601024; omega, by show slots + 6 + 0 ≤ 7293034; omega⟩ dL_law_252 (fun m2 hA2 h20 hf2 => ?_)
  have hX2 := hX1.fr (fun a j q1 q2 => hf2 a j (by omega))
  refine V_istore dL_law_255 (Nat.le_of_ble_eq_true rfl) ?_
  refine V_aload_n dL_law_257 rfl rfl ?_
  refine V_cv1 (ctX6_thrown hM h20) mvX6_thrown lkL_138 hM.1 rfl rfl rfl (Nat.le_of_ble_eq_true rfl) ⟨⟨Nat.le_of_ble_eq_true rfl, Nat.le_of_ble_eq_true rfl⟩, by show cells + 1 + 0 ≤ 601024; omega, by show slots + 6 + 0 ≤ 7293034; omega⟩ dL_law_258 ?_
  refine V_iload dL_law_261 rfl ?_
  refine V_icmp_eq 268 dL_law_263 (by decide) (fun _ => ?_) (fun hne => absurd rfl hne)
  refine V_iload dL_law_268 rfl ?_
  refine V_if_ne 285 dL_law_270 (by decide) (fun _ => ?_) (fun hz0 => ?_)
  · refine V_goto 2556 dL_law_285 (by decide) ?_
    refine V.less9 ?_
    refine V.widen (k := cells + 32) (n := slots + 440) (by omega) (by omega) ?_
    exact kn _ m2 l1 (sk_reset hS) hX2 hA2
  · have h0 := nI_k0 hz0 (Nat.le_trans rk_reset (by decide))
    refine V_aload_n dL_law_273 rfl rfl ?_
    refine V_iconst (v := nI 0) dL_law_274 (by decide) ?_
    refine V_laldN ho 0 rfl (by decide) (by decide) dL_law_275 ?_
    refine V_iload dL_law_276 rfl ?_
    refine V_i2l dL_law_278 ?_
    refine V_lcmp dL_law_279 ?_
    refine V_if_eq 285 dL_law_280 (by decide) (fun _ => ?_) (fun hne => absurd ((lg_cmp_eq _ _).mpr (ho1 h0)) hne)
    refine V_goto 2556 dL_law_285 (by decide) ?_
    refine V.less9 ?_
    refine V.widen (k := cells + 32) (n := slots + 440) (by omega) (by omega) ?_
    exact kn _ m2 l1 (sk_reset hS) hX2 hA2
theorem law_1 (hI : LI σ x m o) (hX : XA mi x S) (hA : MA mi m S) (hS : SOK S) (hL : Ln ≤ 2048) (hi : i + 4 ≤ Ln) (hcc : cells + 32 ≤ 601024) (hcs : slots + 440 ≤ 7293034) (kn : KN κ (phiL κ b Ln xs nm hh) σ x m (lwL b x m o i) cells slots) : V κ (phiL κ b Ln xs nm hh) cells slots 288 (lwL b x m o i) [] (MM σ mi ml) := by
  obtain ⟨hLx, hM, ho, hxm, hmo⟩ := hI
  refine V_aload_n dL_law_288 rfl rfl ?_
  refine V_hcall (ctX5_blockCount hLx hX hS) mvX5_blockCount lkL_141 hLx.1 rfl rfl rfl (Nat.le_of_ble_eq_true rfl) ⟨⟨Nat.le_of_ble_eq_true rfl, Nat.le_of_ble_eq_true rfl⟩, by show cells + 1 ≤ 601024; omega, by show slots + 6 ≤ 7293034; omega⟩ dL_law_289 (fun _ m1 l1 hX1 hf1 => ?_) (fun j hj => absurd (show 0 = j + 1 from hj) (by omega))
  have hA1 : MA m1 m S := hA.fr hS (fun a j q1 q2 => hf1 a j (by omega))
  refine V_aload_n dL_law_292 rfl rfl ?_
  refine V_cmR (ctX6_blockCount hM hA1 hS) mvX6_blockCount lkL_144 hM.1 rfl rfl rfl (Nat.le_of_ble_eq_true rfl) ⟨⟨Nat.le_of_ble_eq_true rfl, Nat.le_of_ble_eq_true rfl⟩, by show cells + 1 + 0 ≤ 601024; omega, by show slots + 6 + 0 ≤ 7293034; omega⟩ dL_law_293 (fun m2 hA2 h20 hf2 => ?_)
  have hX2 := hX1.fr (fun a j q1 q2 => hf2 a j (by omega))
  refine V_icmp_eq 2556 dL_law_296 (by decide) (fun _ => ?_) (fun hne => absurd rfl hne)
  refine V.less9 ?_
  refine V.widen (k := cells + 32) (n := slots + 440) (by omega) (by omega) ?_
  exact kn _ m2 l1 (sk_blockCount hS) hX2 hA2
theorem law_2 (hI : LI σ x m o) (hX : XA mi x S) (hA : MA mi m S) (hS : SOK S) (hL : Ln ≤ 2048) (hi : i + 4 ≤ Ln) (hcc : cells + 32 ≤ 601024) (hcs : slots + 440 ≤ 7293034) (kn : KN κ (phiL κ b Ln xs nm hh) σ x m (lwL b x m o i) cells slots) : V κ (phiL κ b Ln xs nm hh) cells slots 301 (lwL b x m o i) [] (MM σ mi ml) := by
  obtain ⟨hLx, hM, ho, hxm, hmo⟩ := hI
  obtain ⟨c, hc, ec⟩ := i2c_nI (xs (i + 1))
  refine V_aload_n dL_law_301 rfl rfl ?_
  refine V_aload_n dL_law_302 rfl rfl ?_
  refine V_iload dL_law_303 rfl ?_
  refine V_iconst (v := nI 1) dL_law_305 (by decide) ?_
  refine V_iadd dL_law_306 ?_
  refine V_sld (i + 1) (nI_add i 1) (by omega) hL dL_law_307 ?_
  refine V_i2c dL_law_308 ?_
  refine V_top ec ?_
  refine V_aload_n dL_law_309 rfl rfl ?_
  refine V_chR (ctL_append hLx hX hS ho hc) mhL_append lkL_145 rfl rfl (Nat.le_of_ble_eq_true rfl) ⟨⟨Nat.le_of_ble_eq_true rfl, Nat.le_of_ble_eq_true rfl⟩, by show cells + 1 ≤ 601024; omega, by show slots + 6 ≤ 7293034; omega⟩ dL_law_310 (fun m1 l1 hX1 ho1 hf1 => ?_)
  have hA1 : MA m1 m S := hA.fr hS (fun a j q1 q2 => hf1 a j (by omega))
  refine V_istore dL_law_313 (Nat.le_of_ble_eq_true rfl) ?_
  refine V_aload_n dL_law_315 rfl rfl ?_
  refine V_aload_n dL_law_316 rfl rfl ?_
  refine V_iload dL_law_317 rfl ?_
  refine V_iconst (v := nI 1) dL_law_319 (by decide) ?_
  refine V_iadd dL_law_320 ?_
  refine V_sld (i + 1) (nI_add i 1) (by omega) hL dL_law_321 ?_
  refine V_i2c dL_law_322 ?_
  refine V_top ec ?_
  refine V_cmR (ctX6_append hM hA1 hS hc) mvX6_append lkL_148 hM.1 rfl rfl rfl (Nat.le_of_ble_eq_true rfl) ⟨⟨Nat.le_of_ble_eq_true rfl, Nat.le_of_ble_eq_true rfl⟩, by show cells + 1 + 0 ≤ 601024; omega, by show slots + 6 + 0 ≤ 7293034; omega⟩ dL_law_323 (fun m2 hA2 h20 hf2 => ?_)
  have hX2 := hX1.fr (fun a j q1 q2 => hf2 a j (by omega))
  refine V_istore dL_law_326 (Nat.le_of_ble_eq_true rfl) ?_
  refine V_aload_n dL_law_328 rfl rfl ?_
  refine V_cv1 (ctX6_thrown hM h20) mvX6_thrown lkL_138 hM.1 rfl rfl rfl (Nat.le_of_ble_eq_true rfl) ⟨⟨Nat.le_of_ble_eq_true rfl, Nat.le_of_ble_eq_true rfl⟩, by show cells + 1 + 0 ≤ 601024; omega, by show slots + 6 + 0 ≤ 7293034; omega⟩ dL_law_329 ?_
  refine V_iload dL_law_332 rfl ?_
  refine V_icmp_eq 339 dL_law_334 (by decide) (fun _ => ?_) (fun hne => absurd rfl hne)
  refine V_iload dL_law_339 rfl ?_
  refine V_if_ne 356 dL_law_341 (by decide) (fun _ => ?_) (fun hz0 => ?_)
  · refine V_goto 2556 dL_law_356 (by decide) ?_
    refine V.less9 ?_
    refine V.widen (k := cells + 32) (n := slots + 440) (by omega) (by omega) ?_
    exact kn _ m2 l1 (sk_append hS) hX2 hA2
  · have h0 := nI_k0 hz0 (Nat.le_trans rk_append (by decide))
    refine V_aload_n dL_law_344 rfl rfl ?_
    refine V_iconst (v := nI 0) dL_law_345 (by decide) ?_
    refine V_laldN ho 0 rfl (by decide) (by decide) dL_law_346 ?_
    refine V_iload dL_law_347 rfl ?_
    refine V_i2l dL_law_349 ?_
    refine V_lcmp dL_law_350 ?_
    refine V_if_eq 356 dL_law_351 (by decide) (fun _ => ?_) (fun hne => absurd ((lg_cmp_eq _ _).mpr (ho1 h0)) hne)
    refine V_goto 2556 dL_law_356 (by decide) ?_
    refine V.less9 ?_
    refine V.widen (k := cells + 32) (n := slots + 440) (by omega) (by omega) ?_
    exact kn _ m2 l1 (sk_append hS) hX2 hA2
theorem law_3 (hI : LI σ x m o) (hX : XA mi x S) (hA : MA mi m S) (hS : SOK S) (hL : Ln ≤ 2048) (hi : i + 4 ≤ Ln) (hcc : cells + 32 ≤ 601024) (hcs : slots + 440 ≤ 7293034) (kn : KN κ (phiL κ b Ln xs nm hh) σ x m (lwL b x m o i) cells slots) : V κ (phiL κ b Ln xs nm hh) cells slots 359 (lwL b x m o i) [] (MM σ mi ml) := by
  obtain ⟨hLx, hM, ho, hxm, hmo⟩ := hI
  refine V_aload_n dL_law_359 rfl rfl ?_
  refine V_aload_n dL_law_360 rfl rfl ?_
  refine V_chR (ctL_define hLx hX hS ho) mhL_define lkL_149 rfl rfl (Nat.le_of_ble_eq_true rfl) ⟨⟨Nat.le_of_ble_eq_true rfl, Nat.le_of_ble_eq_true rfl⟩, by show cells + 1 ≤ 601024; omega, by show slots + 6 ≤ 7293034; omega⟩ dL_law_361 (fun m1 l1 hX1 ho1 hf1 => ?_)
  have hA1 : MA m1 m S := hA.fr hS (fun a j q1 q2 => hf1 a j (by omega))
  refine V_istore dL_law_364 (Nat.le_of_ble_eq_true rfl) ?_
  refine V_aload_n dL_law_366 rfl rfl ?_
  refine V_cmR (ctX6_define hM hA1 hS) mvX6_define lkL_152 hM.1 rfl rfl rfl (Nat.le_of_ble_eq_true rfl) ⟨⟨Nat.le_of_ble_eq_true rfl, Nat.le_of_ble_eq_true rfl⟩, by show cells + 1 + 0 ≤ 601024; omega, by show slots + 6 + 0 ≤ 7293034; omega⟩ dL_law_367 (fun m2 hA2 h20 hf2 => ?_)
  have hX2 := hX1.fr (fun a j q1 q2 => hf2 a j (by omega))
  refine V_istore dL_law_370 (Nat.le_of_ble_eq_true rfl) ?_
  refine V_aload_n dL_law_372 rfl rfl ?_
  refine V_cv1 (ctX6_thrown hM h20) mvX6_thrown lkL_138 hM.1 rfl rfl rfl (Nat.le_of_ble_eq_true rfl) ⟨⟨Nat.le_of_ble_eq_true rfl, Nat.le_of_ble_eq_true rfl⟩, by show cells + 1 + 0 ≤ 601024; omega, by show slots + 6 + 0 ≤ 7293034; omega⟩ dL_law_373 ?_
  refine V_iload dL_law_376 rfl ?_
  refine V_icmp_eq 383 dL_law_378 (by decide) (fun _ => ?_) (fun hne => absurd rfl hne)
  refine V_iload dL_law_383 rfl ?_
  refine V_if_ne 400 dL_law_385 (by decide) (fun _ => ?_) (fun hz0 => ?_)
  · refine V_goto 2556 dL_law_400 (by decide) ?_
    refine V.less9 ?_
    refine V.widen (k := cells + 32) (n := slots + 440) (by omega) (by omega) ?_
    exact kn _ m2 l1 (sk_define hS) hX2 hA2
  · have h0 := nI_k0 hz0 (Nat.le_trans rk_define (by decide))
    refine V_aload_n dL_law_388 rfl rfl ?_
    refine V_iconst (v := nI 0) dL_law_389 (by decide) ?_
    refine V_laldN ho 0 rfl (by decide) (by decide) dL_law_390 ?_
    refine V_iload dL_law_391 rfl ?_
    refine V_i2l dL_law_393 ?_
    refine V_lcmp dL_law_394 ?_
    refine V_if_eq 400 dL_law_395 (by decide) (fun _ => ?_) (fun hne => absurd ((lg_cmp_eq _ _).mpr (ho1 h0)) hne)
    refine V_goto 2556 dL_law_400 (by decide) ?_
    refine V.less9 ?_
    refine V.widen (k := cells + 32) (n := slots + 440) (by omega) (by omega) ?_
    exact kn _ m2 l1 (sk_define hS) hX2 hA2
theorem law_4 (hI : LI σ x m o) (hX : XA mi x S) (hA : MA mi m S) (hS : SOK S) (hL : Ln ≤ 2048) (hi : i + 4 ≤ Ln) (hcc : cells + 32 ≤ 601024) (hcs : slots + 440 ≤ 7293034) (kn : KN κ (phiL κ b Ln xs nm hh) σ x m (lwL b x m o i) cells slots) : V κ (phiL κ b Ln xs nm hh) cells slots 403 (lwL b x m o i) [] (MM σ mi ml) := by
  obtain ⟨hLx, hM, ho, hxm, hmo⟩ := hI
  refine V_aload_n dL_law_403 rfl rfl ?_
  refine V_aload_n dL_law_404 rfl rfl ?_
  refine V_chR (ctL_errorPosition hLx hX hS ho) mhL_errorPosition lkL_153 rfl rfl (Nat.le_of_ble_eq_true rfl) ⟨⟨Nat.le_of_ble_eq_true rfl, Nat.le_of_ble_eq_true rfl⟩, by show cells + 1 ≤ 601024; omega, by show slots + 6 ≤ 7293034; omega⟩ dL_law_405 (fun m1 l1 hX1 ho1 hf1 => ?_)
  have hA1 : MA m1 m S := hA.fr hS (fun a j q1 q2 => hf1 a j (by omega))
  refine V_istore dL_law_408 (Nat.le_of_ble_eq_true rfl) ?_
  refine V_aload_n dL_law_410 rfl rfl ?_
  refine V_cmR (ctX6_errorPosition hM hA1 hS) mvX6_errorPosition lkL_155 hM.1 rfl rfl rfl (Nat.le_of_ble_eq_true rfl) ⟨⟨Nat.le_of_ble_eq_true rfl, Nat.le_of_ble_eq_true rfl⟩, by show cells + 1 + 0 ≤ 601024; omega, by show slots + 6 + 0 ≤ 7293034; omega⟩ dL_law_411 (fun m2 hA2 h20 hf2 => ?_)
  have hX2 := hX1.fr (fun a j q1 q2 => hf2 a j (by omega))
  refine V_istore dL_law_414 (Nat.le_of_ble_eq_true rfl) ?_
  refine V_aload_n dL_law_416 rfl rfl ?_
  refine V_cv1 (ctX6_thrown hM h20) mvX6_thrown lkL_138 hM.1 rfl rfl rfl (Nat.le_of_ble_eq_true rfl) ⟨⟨Nat.le_of_ble_eq_true rfl, Nat.le_of_ble_eq_true rfl⟩, by show cells + 1 + 0 ≤ 601024; omega, by show slots + 6 + 0 ≤ 7293034; omega⟩ dL_law_417 ?_
  refine V_iload dL_law_420 rfl ?_
  refine V_icmp_eq 427 dL_law_422 (by decide) (fun _ => ?_) (fun hne => absurd rfl hne)
  refine V_iload dL_law_427 rfl ?_
  refine V_if_ne 444 dL_law_429 (by decide) (fun _ => ?_) (fun hz0 => ?_)
  · refine V_goto 2556 dL_law_444 (by decide) ?_
    refine V.less9 ?_
    refine V.widen (k := cells + 32) (n := slots + 440) (by omega) (by omega) ?_
    exact kn _ m2 l1 (sk_errorPosition hS) hX2 hA2
  · have h0 := nI_k0 hz0 (Nat.le_trans rk_errorPosition (by decide))
    refine V_aload_n dL_law_432 rfl rfl ?_
    refine V_iconst (v := nI 0) dL_law_433 (by decide) ?_
    refine V_laldN ho 0 rfl (by decide) (by decide) dL_law_434 ?_
    refine V_iload dL_law_435 rfl ?_
    refine V_i2l dL_law_437 ?_
    refine V_lcmp dL_law_438 ?_
    refine V_if_eq 444 dL_law_439 (by decide) (fun _ => ?_) (fun hne => absurd ((lg_cmp_eq _ _).mpr (ho1 h0)) hne)
    refine V_goto 2556 dL_law_444 (by decide) ?_
    refine V.less9 ?_
    refine V.widen (k := cells + 32) (n := slots + 440) (by omega) (by omega) ?_
    exact kn _ m2 l1 (sk_errorPosition hS) hX2 hA2
theorem law_5 (hI : LI σ x m o) (hX : XA mi x S) (hA : MA mi m S) (hS : SOK S) (hL : Ln ≤ 2048) (hi : i + 4 ≤ Ln) (hcc : cells + 32 ≤ 601024) (hcs : slots + 440 ≤ 7293034) (kn : KN κ (phiL κ b Ln xs nm hh) σ x m (lwL b x m o i) cells slots) : V κ (phiL κ b Ln xs nm hh) cells slots 447 (lwL b x m o i) [] (MM σ mi ml) := by
  obtain ⟨hLx, hM, ho, hxm, hmo⟩ := hI
  refine V_aload_n dL_law_447 rfl rfl ?_
  refine V_aload_n dL_law_448 rfl rfl ?_
  refine V_iload dL_law_449 rfl ?_
  refine V_iconst (v := nI 1) dL_law_451 (by decide) ?_
  refine V_iadd dL_law_452 ?_
  refine V_sld (i + 1) (nI_add i 1) (by omega) hL dL_law_453 ?_
  refine V_aload_n dL_law_454 rfl rfl ?_
  refine V_iload dL_law_455 rfl ?_
  refine V_iconst (v := nI 2) dL_law_457 (by decide) ?_
  refine V_iadd dL_law_458 ?_
  refine V_sld (i + 2) (nI_add i 2) (by omega) hL dL_law_459 ?_
  refine V_aload_n dL_law_460 rfl rfl ?_
  refine V_chR (ctL_removeAction hLx hX hS ho) mhL_removeAction lkL_156 rfl rfl (Nat.le_of_ble_eq_true rfl) ⟨⟨Nat.le_of_ble_eq_true rfl, Nat.le_of_ble_eq_true rfl⟩, by show cells + 1 ≤ 601024; omega, by show slots + 6 ≤ 7293034; omega⟩ dL_law_461 (fun m1 l1 hX1 ho1 hf1 => ?_)
  have hA1 : MA m1 m S := hA.fr hS (fun a j q1 q2 => hf1 a j (by omega))
  refine V_istore dL_law_464 (Nat.le_of_ble_eq_true rfl) ?_
  refine V_aload_n dL_law_466 rfl rfl ?_
  refine V_aload_n dL_law_467 rfl rfl ?_
  refine V_iload dL_law_468 rfl ?_
  refine V_iconst (v := nI 1) dL_law_470 (by decide) ?_
  refine V_iadd dL_law_471 ?_
  refine V_sld (i + 1) (nI_add i 1) (by omega) hL dL_law_472 ?_
  refine V_aload_n dL_law_473 rfl rfl ?_
  refine V_iload dL_law_474 rfl ?_
  refine V_iconst (v := nI 2) dL_law_476 (by decide) ?_
  refine V_iadd dL_law_477 ?_
  refine V_sld (i + 2) (nI_add i 2) (by omega) hL dL_law_478 ?_
  refine V_cmR (ctX6_removeAction hM hA1 hS) mvX6_removeAction lkL_159 hM.1 rfl rfl rfl (Nat.le_of_ble_eq_true rfl) ⟨⟨Nat.le_of_ble_eq_true rfl, Nat.le_of_ble_eq_true rfl⟩, by show cells + 1 + 0 ≤ 601024; omega, by show slots + 6 + 0 ≤ 7293034; omega⟩ dL_law_479 (fun m2 hA2 h20 hf2 => ?_)
  have hX2 := hX1.fr (fun a j q1 q2 => hf2 a j (by omega))
  refine V_istore dL_law_482 (Nat.le_of_ble_eq_true rfl) ?_
  refine V_aload_n dL_law_484 rfl rfl ?_
  refine V_cv1 (ctX6_thrown hM h20) mvX6_thrown lkL_138 hM.1 rfl rfl rfl (Nat.le_of_ble_eq_true rfl) ⟨⟨Nat.le_of_ble_eq_true rfl, Nat.le_of_ble_eq_true rfl⟩, by show cells + 1 + 0 ≤ 601024; omega, by show slots + 6 + 0 ≤ 7293034; omega⟩ dL_law_485 ?_
  refine V_iload dL_law_488 rfl ?_
  refine V_icmp_eq 495 dL_law_490 (by decide) (fun _ => ?_) (fun hne => absurd rfl hne)
  refine V_iload dL_law_495 rfl ?_
  refine V_if_ne 512 dL_law_497 (by decide) (fun _ => ?_) (fun hz0 => ?_)
  · refine V_goto 2556 dL_law_512 (by decide) ?_
    refine V.less9 ?_
    refine V.widen (k := cells + 32) (n := slots + 440) (by omega) (by omega) ?_
    exact kn _ m2 l1 (sk_removeAction hS) hX2 hA2
  · have h0 := nI_k0 hz0 (Nat.le_trans rk_removeAction (by decide))
    refine V_aload_n dL_law_500 rfl rfl ?_
    refine V_iconst (v := nI 0) dL_law_501 (by decide) ?_
    refine V_laldN ho 0 rfl (by decide) (by decide) dL_law_502 ?_
    refine V_iload dL_law_503 rfl ?_
    refine V_i2l dL_law_505 ?_
    refine V_lcmp dL_law_506 ?_
    refine V_if_eq 512 dL_law_507 (by decide) (fun _ => ?_) (fun hne => absurd ((lg_cmp_eq _ _).mpr (ho1 h0)) hne)
    refine V_goto 2556 dL_law_512 (by decide) ?_
    refine V.less9 ?_
    refine V.widen (k := cells + 32) (n := slots + 440) (by omega) (by omega) ?_
    exact kn _ m2 l1 (sk_removeAction hS) hX2 hA2
theorem law_6 (hI : LI σ x m o) (hX : XA mi x S) (hA : MA mi m S) (hS : SOK S) (hL : Ln ≤ 2048) (hi : i + 4 ≤ Ln) (hcc : cells + 32 ≤ 601024) (hcs : slots + 440 ≤ 7293034) (kn : KN κ (phiL κ b Ln xs nm hh) σ x m (lwL b x m o i) cells slots) : V κ (phiL κ b Ln xs nm hh) cells slots 515 (lwL b x m o i) [] (MM σ mi ml) := by
  obtain ⟨hLx, hM, ho, hxm, hmo⟩ := hI
  refine V_aload_n dL_law_515 rfl rfl ?_
  refine V_aload_n dL_law_516 rfl rfl ?_
  refine V_iload dL_law_517 rfl ?_
  refine V_iconst (v := nI 1) dL_law_519 (by decide) ?_
  refine V_iadd dL_law_520 ?_
  refine V_sld (i + 1) (nI_add i 1) (by omega) hL dL_law_521 ?_
  refine V_aload_n dL_law_522 rfl rfl ?_
  refine V_iload dL_law_523 rfl ?_
  refine V_iconst (v := nI 2) dL_law_525 (by decide) ?_
  refine V_iadd dL_law_526 ?_
  refine V_sld (i + 2) (nI_add i 2) (by omega) hL dL_law_527 ?_
  refine V_aload_n dL_law_528 rfl rfl ?_
  refine V_chR (ctL_addEdge hLx hX hS ho) mhL_addEdge lkL_160 rfl rfl (Nat.le_of_ble_eq_true rfl) ⟨⟨Nat.le_of_ble_eq_true rfl, Nat.le_of_ble_eq_true rfl⟩, by show cells + 1 ≤ 601024; omega, by show slots + 6 ≤ 7293034; omega⟩ dL_law_529 (fun m1 l1 hX1 ho1 hf1 => ?_)
  have hA1 : MA m1 m S := hA.fr hS (fun a j q1 q2 => hf1 a j (by omega))
  refine V_istore dL_law_532 (Nat.le_of_ble_eq_true rfl) ?_
  refine V_aload_n dL_law_534 rfl rfl ?_
  refine V_aload_n dL_law_535 rfl rfl ?_
  refine V_iload dL_law_536 rfl ?_
  refine V_iconst (v := nI 1) dL_law_538 (by decide) ?_
  refine V_iadd dL_law_539 ?_
  refine V_sld (i + 1) (nI_add i 1) (by omega) hL dL_law_540 ?_
  refine V_aload_n dL_law_541 rfl rfl ?_
  refine V_iload dL_law_542 rfl ?_
  refine V_iconst (v := nI 2) dL_law_544 (by decide) ?_
  refine V_iadd dL_law_545 ?_
  refine V_sld (i + 2) (nI_add i 2) (by omega) hL dL_law_546 ?_
  refine V_cmR (ctX6_addEdge hM hA1 hS) mvX6_addEdge lkL_162 hM.1 rfl rfl rfl (Nat.le_of_ble_eq_true rfl) ⟨⟨Nat.le_of_ble_eq_true rfl, Nat.le_of_ble_eq_true rfl⟩, by show cells + 1 + 0 ≤ 601024; omega, by show slots + 6 + 0 ≤ 7293034; omega⟩ dL_law_547 (fun m2 hA2 h20 hf2 => ?_)
  have hX2 := hX1.fr (fun a j q1 q2 => hf2 a j (by omega))
  refine V_istore dL_law_550 (Nat.le_of_ble_eq_true rfl) ?_
  refine V_aload_n dL_law_552 rfl rfl ?_
  refine V_cv1 (ctX6_thrown hM h20) mvX6_thrown lkL_138 hM.1 rfl rfl rfl (Nat.le_of_ble_eq_true rfl) ⟨⟨Nat.le_of_ble_eq_true rfl, Nat.le_of_ble_eq_true rfl⟩, by show cells + 1 + 0 ≤ 601024; omega, by show slots + 6 + 0 ≤ 7293034; omega⟩ dL_law_553 ?_
  refine V_iload dL_law_556 rfl ?_
  refine V_icmp_eq 563 dL_law_558 (by decide) (fun _ => ?_) (fun hne => absurd rfl hne)
  refine V_iload dL_law_563 rfl ?_
  refine V_if_ne 580 dL_law_565 (by decide) (fun _ => ?_) (fun hz0 => ?_)
  · refine V_goto 2556 dL_law_580 (by decide) ?_
    refine V.less9 ?_
    refine V.widen (k := cells + 32) (n := slots + 440) (by omega) (by omega) ?_
    exact kn _ m2 l1 (sk_addEdge hS) hX2 hA2
  · have h0 := nI_k0 hz0 (Nat.le_trans rk_addEdge (by decide))
    refine V_aload_n dL_law_568 rfl rfl ?_
    refine V_iconst (v := nI 0) dL_law_569 (by decide) ?_
    refine V_laldN ho 0 rfl (by decide) (by decide) dL_law_570 ?_
    refine V_iload dL_law_571 rfl ?_
    refine V_i2l dL_law_573 ?_
    refine V_lcmp dL_law_574 ?_
    refine V_if_eq 580 dL_law_575 (by decide) (fun _ => ?_) (fun hne => absurd ((lg_cmp_eq _ _).mpr (ho1 h0)) hne)
    refine V_goto 2556 dL_law_580 (by decide) ?_
    refine V.less9 ?_
    refine V.widen (k := cells + 32) (n := slots + 440) (by omega) (by omega) ?_
    exact kn _ m2 l1 (sk_addEdge hS) hX2 hA2
theorem law_7 (hI : LI σ x m o) (hX : XA mi x S) (hA : MA mi m S) (hS : SOK S) (hL : Ln ≤ 2048) (hi : i + 4 ≤ Ln) (hcc : cells + 32 ≤ 601024) (hcs : slots + 440 ≤ 7293034) (kn : KN κ (phiL κ b Ln xs nm hh) σ x m (lwL b x m o i) cells slots) : V κ (phiL κ b Ln xs nm hh) cells slots 583 (lwL b x m o i) [] (MM σ mi ml) := by
  obtain ⟨hLx, hM, ho, hxm, hmo⟩ := hI
  refine V_aload_n dL_law_583 rfl rfl ?_
  refine V_aload_n dL_law_584 rfl rfl ?_
  refine V_iload dL_law_585 rfl ?_
  refine V_iconst (v := nI 1) dL_law_587 (by decide) ?_
  refine V_iadd dL_law_588 ?_
  refine V_sld (i + 1) (nI_add i 1) (by omega) hL dL_law_589 ?_
  refine V_aload_n dL_law_590 rfl rfl ?_
  refine V_iload dL_law_591 rfl ?_
  refine V_iconst (v := nI 2) dL_law_593 (by decide) ?_
  refine V_iadd dL_law_594 ?_
  refine V_sld (i + 2) (nI_add i 2) (by omega) hL dL_law_595 ?_
  refine V_aload_n dL_law_596 rfl rfl ?_
  refine V_chR (ctL_removeEdge hLx hX hS ho) mhL_removeEdge lkL_163 rfl rfl (Nat.le_of_ble_eq_true rfl) ⟨⟨Nat.le_of_ble_eq_true rfl, Nat.le_of_ble_eq_true rfl⟩, by show cells + 1 ≤ 601024; omega, by show slots + 6 ≤ 7293034; omega⟩ dL_law_597 (fun m1 l1 hX1 ho1 hf1 => ?_)
  have hA1 : MA m1 m S := hA.fr hS (fun a j q1 q2 => hf1 a j (by omega))
  refine V_istore dL_law_600 (Nat.le_of_ble_eq_true rfl) ?_
  refine V_aload_n dL_law_602 rfl rfl ?_
  refine V_aload_n dL_law_603 rfl rfl ?_
  refine V_iload dL_law_604 rfl ?_
  refine V_iconst (v := nI 1) dL_law_606 (by decide) ?_
  refine V_iadd dL_law_607 ?_
  refine V_sld (i + 1) (nI_add i 1) (by omega) hL dL_law_608 ?_
  refine V_aload_n dL_law_609 rfl rfl ?_
  refine V_iload dL_law_610 rfl ?_
  refine V_iconst (v := nI 2) dL_law_612 (by decide) ?_
  refine V_iadd dL_law_613 ?_
  refine V_sld (i + 2) (nI_add i 2) (by omega) hL dL_law_614 ?_
  refine V_cmR (ctX6_removeEdge hM hA1 hS) mvX6_removeEdge lkL_165 hM.1 rfl rfl rfl (Nat.le_of_ble_eq_true rfl) ⟨⟨Nat.le_of_ble_eq_true rfl, Nat.le_of_ble_eq_true rfl⟩, by show cells + 1 + 0 ≤ 601024; omega, by show slots + 6 + 0 ≤ 7293034; omega⟩ dL_law_615 (fun m2 hA2 h20 hf2 => ?_)
  have hX2 := hX1.fr (fun a j q1 q2 => hf2 a j (by omega))
  refine V_istore dL_law_618 (Nat.le_of_ble_eq_true rfl) ?_
  refine V_aload_n dL_law_620 rfl rfl ?_
  refine V_cv1 (ctX6_thrown hM h20) mvX6_thrown lkL_138 hM.1 rfl rfl rfl (Nat.le_of_ble_eq_true rfl) ⟨⟨Nat.le_of_ble_eq_true rfl, Nat.le_of_ble_eq_true rfl⟩, by show cells + 1 + 0 ≤ 601024; omega, by show slots + 6 + 0 ≤ 7293034; omega⟩ dL_law_621 ?_
  refine V_iload dL_law_624 rfl ?_
  refine V_icmp_eq 631 dL_law_626 (by decide) (fun _ => ?_) (fun hne => absurd rfl hne)
  refine V_iload dL_law_631 rfl ?_
  refine V_if_ne 648 dL_law_633 (by decide) (fun _ => ?_) (fun hz0 => ?_)
  · refine V_goto 2556 dL_law_648 (by decide) ?_
    refine V.less9 ?_
    refine V.widen (k := cells + 32) (n := slots + 440) (by omega) (by omega) ?_
    exact kn _ m2 l1 (sk_removeEdge hS) hX2 hA2
  · have h0 := nI_k0 hz0 (Nat.le_trans rk_removeEdge (by decide))
    refine V_aload_n dL_law_636 rfl rfl ?_
    refine V_iconst (v := nI 0) dL_law_637 (by decide) ?_
    refine V_laldN ho 0 rfl (by decide) (by decide) dL_law_638 ?_
    refine V_iload dL_law_639 rfl ?_
    refine V_i2l dL_law_641 ?_
    refine V_lcmp dL_law_642 ?_
    refine V_if_eq 648 dL_law_643 (by decide) (fun _ => ?_) (fun hne => absurd ((lg_cmp_eq _ _).mpr (ho1 h0)) hne)
    refine V_goto 2556 dL_law_648 (by decide) ?_
    refine V.less9 ?_
    refine V.widen (k := cells + 32) (n := slots + 440) (by omega) (by omega) ?_
    exact kn _ m2 l1 (sk_removeEdge hS) hX2 hA2
theorem law_8 (hI : LI σ x m o) (hX : XA mi x S) (hA : MA mi m S) (hS : SOK S) (hL : Ln ≤ 2048) (hi : i + 4 ≤ Ln) (hcc : cells + 32 ≤ 601024) (hcs : slots + 440 ≤ 7293034) (kn : KN κ (phiL κ b Ln xs nm hh) σ x m (lwL b x m o i) cells slots) : V κ (phiL κ b Ln xs nm hh) cells slots 651 (lwL b x m o i) [] (MM σ mi ml) := by
  obtain ⟨hLx, hM, ho, hxm, hmo⟩ := hI
  refine V_aload_n dL_law_651 rfl rfl ?_
  refine V_aload_n dL_law_652 rfl rfl ?_
  refine V_iload dL_law_653 rfl ?_
  refine V_iconst (v := nI 1) dL_law_655 (by decide) ?_
  refine V_iadd dL_law_656 ?_
  refine V_sld (i + 1) (nI_add i 1) (by omega) hL dL_law_657 ?_
  refine V_aload_n dL_law_658 rfl rfl ?_
  refine V_iload dL_law_659 rfl ?_
  refine V_iconst (v := nI 2) dL_law_661 (by decide) ?_
  refine V_iadd dL_law_662 ?_
  refine V_sld (i + 2) (nI_add i 2) (by omega) hL dL_law_663 ?_
  refine V_aload_n dL_law_664 rfl rfl ?_
  refine V_iload dL_law_665 rfl ?_
  refine V_iconst (v := nI 3) dL_law_667 (by decide) ?_
  refine V_iadd dL_law_668 ?_
  refine V_sld (i + 3) (nI_add i 3) (by omega) hL dL_law_669 ?_
  refine V_aload_n dL_law_670 rfl rfl ?_
  refine V_chR (ctL_thread hLx hX hS ho) mhL_thread lkL_166 rfl rfl (Nat.le_of_ble_eq_true rfl) ⟨⟨Nat.le_of_ble_eq_true rfl, Nat.le_of_ble_eq_true rfl⟩, by show cells + 1 ≤ 601024; omega, by show slots + 6 ≤ 7293034; omega⟩ dL_law_671 (fun m1 l1 hX1 ho1 hf1 => ?_)
  have hA1 : MA m1 m S := hA.fr hS (fun a j q1 q2 => hf1 a j (by omega))
  refine V_istore dL_law_674 (Nat.le_of_ble_eq_true rfl) ?_
  refine V_aload_n dL_law_676 rfl rfl ?_
  refine V_aload_n dL_law_677 rfl rfl ?_
  refine V_iload dL_law_678 rfl ?_
  refine V_iconst (v := nI 1) dL_law_680 (by decide) ?_
  refine V_iadd dL_law_681 ?_
  refine V_sld (i + 1) (nI_add i 1) (by omega) hL dL_law_682 ?_
  refine V_aload_n dL_law_683 rfl rfl ?_
  refine V_iload dL_law_684 rfl ?_
  refine V_iconst (v := nI 2) dL_law_686 (by decide) ?_
  refine V_iadd dL_law_687 ?_
  refine V_sld (i + 2) (nI_add i 2) (by omega) hL dL_law_688 ?_
  refine V_aload_n dL_law_689 rfl rfl ?_
  refine V_iload dL_law_690 rfl ?_
  refine V_iconst (v := nI 3) dL_law_692 (by decide) ?_
  refine V_iadd dL_law_693 ?_
  refine V_sld (i + 3) (nI_add i 3) (by omega) hL dL_law_694 ?_
  refine V_cmR (ctX6_thread hM hA1 hS) mvX6_thread lkL_169 hM.1 rfl rfl rfl (Nat.le_of_ble_eq_true rfl) ⟨⟨Nat.le_of_ble_eq_true rfl, Nat.le_of_ble_eq_true rfl⟩, by show cells + 1 + 0 ≤ 601024; omega, by show slots + 6 + 0 ≤ 7293034; omega⟩ dL_law_695 (fun m2 hA2 h20 hf2 => ?_)
  have hX2 := hX1.fr (fun a j q1 q2 => hf2 a j (by omega))
  refine V_istore dL_law_698 (Nat.le_of_ble_eq_true rfl) ?_
  refine V_aload_n dL_law_700 rfl rfl ?_
  refine V_cv1 (ctX6_thrown hM h20) mvX6_thrown lkL_138 hM.1 rfl rfl rfl (Nat.le_of_ble_eq_true rfl) ⟨⟨Nat.le_of_ble_eq_true rfl, Nat.le_of_ble_eq_true rfl⟩, by show cells + 1 + 0 ≤ 601024; omega, by show slots + 6 + 0 ≤ 7293034; omega⟩ dL_law_701 ?_
  refine V_iload dL_law_704 rfl ?_
  refine V_icmp_eq 711 dL_law_706 (by decide) (fun _ => ?_) (fun hne => absurd rfl hne)
  refine V_iload dL_law_711 rfl ?_
  refine V_if_ne 728 dL_law_713 (by decide) (fun _ => ?_) (fun hz0 => ?_)
  · refine V_goto 2556 dL_law_728 (by decide) ?_
    refine V.less9 ?_
    refine V.widen (k := cells + 32) (n := slots + 440) (by omega) (by omega) ?_
    exact kn _ m2 l1 (sk_thread hS) hX2 hA2
  · have h0 := nI_k0 hz0 (Nat.le_trans rk_thread (by decide))
    refine V_aload_n dL_law_716 rfl rfl ?_
    refine V_iconst (v := nI 0) dL_law_717 (by decide) ?_
    refine V_laldN ho 0 rfl (by decide) (by decide) dL_law_718 ?_
    refine V_iload dL_law_719 rfl ?_
    refine V_i2l dL_law_721 ?_
    refine V_lcmp dL_law_722 ?_
    refine V_if_eq 728 dL_law_723 (by decide) (fun _ => ?_) (fun hne => absurd ((lg_cmp_eq _ _).mpr (ho1 h0)) hne)
    refine V_goto 2556 dL_law_728 (by decide) ?_
    refine V.less9 ?_
    refine V.widen (k := cells + 32) (n := slots + 440) (by omega) (by omega) ?_
    exact kn _ m2 l1 (sk_thread hS) hX2 hA2
theorem law_9 (hI : LI σ x m o) (hX : XA mi x S) (hA : MA mi m S) (hS : SOK S) (hL : Ln ≤ 2048) (hi : i + 4 ≤ Ln) (hcc : cells + 32 ≤ 601024) (hcs : slots + 440 ≤ 7293034) (kn : KN κ (phiL κ b Ln xs nm hh) σ x m (lwL b x m o i) cells slots) : V κ (phiL κ b Ln xs nm hh) cells slots 731 (lwL b x m o i) [] (MM σ mi ml) := by
  obtain ⟨hLx, hM, ho, hxm, hmo⟩ := hI
  refine V_aload_n dL_law_731 rfl rfl ?_
  refine V_aload_n dL_law_732 rfl rfl ?_
  refine V_iload dL_law_733 rfl ?_
  refine V_iconst (v := nI 1) dL_law_735 (by decide) ?_
  refine V_iadd dL_law_736 ?_
  refine V_sld (i + 1) (nI_add i 1) (by omega) hL dL_law_737 ?_
  refine V_aload_n dL_law_738 rfl rfl ?_
  refine V_chR (ctL_actionCount hLx hX hS ho) mhL_actionCount lkL_170 rfl rfl (Nat.le_of_ble_eq_true rfl) ⟨⟨Nat.le_of_ble_eq_true rfl, Nat.le_of_ble_eq_true rfl⟩, by show cells + 1 ≤ 601024; omega, by show slots + 6 ≤ 7293034; omega⟩ dL_law_739 (fun m1 l1 hX1 ho1 hf1 => ?_)
  have hA1 : MA m1 m S := hA.fr hS (fun a j q1 q2 => hf1 a j (by omega))
  refine V_istore dL_law_742 (Nat.le_of_ble_eq_true rfl) ?_
  refine V_aload_n dL_law_744 rfl rfl ?_
  refine V_aload_n dL_law_745 rfl rfl ?_
  refine V_iload dL_law_746 rfl ?_
  refine V_iconst (v := nI 1) dL_law_748 (by decide) ?_
  refine V_iadd dL_law_749 ?_
  refine V_sld (i + 1) (nI_add i 1) (by omega) hL dL_law_750 ?_
  refine V_cmR (ctX6_actionCount hM hA1 hS) mvX6_actionCount lkL_172 hM.1 rfl rfl rfl (Nat.le_of_ble_eq_true rfl) ⟨⟨Nat.le_of_ble_eq_true rfl, Nat.le_of_ble_eq_true rfl⟩, by show cells + 1 + 0 ≤ 601024; omega, by show slots + 6 + 0 ≤ 7293034; omega⟩ dL_law_751 (fun m2 hA2 h20 hf2 => ?_)
  have hX2 := hX1.fr (fun a j q1 q2 => hf2 a j (by omega))
  refine V_istore dL_law_754 (Nat.le_of_ble_eq_true rfl) ?_
  refine V_aload_n dL_law_756 rfl rfl ?_
  refine V_cv1 (ctX6_thrown hM h20) mvX6_thrown lkL_138 hM.1 rfl rfl rfl (Nat.le_of_ble_eq_true rfl) ⟨⟨Nat.le_of_ble_eq_true rfl, Nat.le_of_ble_eq_true rfl⟩, by show cells + 1 + 0 ≤ 601024; omega, by show slots + 6 + 0 ≤ 7293034; omega⟩ dL_law_757 ?_
  refine V_iload dL_law_760 rfl ?_
  refine V_icmp_eq 767 dL_law_762 (by decide) (fun _ => ?_) (fun hne => absurd rfl hne)
  refine V_iload dL_law_767 rfl ?_
  refine V_if_ne 784 dL_law_769 (by decide) (fun _ => ?_) (fun hz0 => ?_)
  · refine V_goto 2556 dL_law_784 (by decide) ?_
    refine V.less9 ?_
    refine V.widen (k := cells + 32) (n := slots + 440) (by omega) (by omega) ?_
    exact kn _ m2 l1 (sk_actionCount hS) hX2 hA2
  · have h0 := nI_k0 hz0 (Nat.le_trans rk_actionCount (by decide))
    refine V_aload_n dL_law_772 rfl rfl ?_
    refine V_iconst (v := nI 0) dL_law_773 (by decide) ?_
    refine V_laldN ho 0 rfl (by decide) (by decide) dL_law_774 ?_
    refine V_iload dL_law_775 rfl ?_
    refine V_i2l dL_law_777 ?_
    refine V_lcmp dL_law_778 ?_
    refine V_if_eq 784 dL_law_779 (by decide) (fun _ => ?_) (fun hne => absurd ((lg_cmp_eq _ _).mpr (ho1 h0)) hne)
    refine V_goto 2556 dL_law_784 (by decide) ?_
    refine V.less9 ?_
    refine V.widen (k := cells + 32) (n := slots + 440) (by omega) (by omega) ?_
    exact kn _ m2 l1 (sk_actionCount hS) hX2 hA2
theorem law_10 (hI : LI σ x m o) (hX : XA mi x S) (hA : MA mi m S) (hS : SOK S) (hL : Ln ≤ 2048) (hi : i + 4 ≤ Ln) (hcc : cells + 32 ≤ 601024) (hcs : slots + 440 ≤ 7293034) (kn : KN κ (phiL κ b Ln xs nm hh) σ x m (lwL b x m o i) cells slots) : V κ (phiL κ b Ln xs nm hh) cells slots 787 (lwL b x m o i) [] (MM σ mi ml) := by
  obtain ⟨hLx, hM, ho, hxm, hmo⟩ := hI
  refine V_aload_n dL_law_787 rfl rfl ?_
  refine V_aload_n dL_law_788 rfl rfl ?_
  refine V_iload dL_law_789 rfl ?_
  refine V_iconst (v := nI 1) dL_law_791 (by decide) ?_
  refine V_iadd dL_law_792 ?_
  refine V_sld (i + 1) (nI_add i 1) (by omega) hL dL_law_793 ?_
  refine V_aload_n dL_law_794 rfl rfl ?_
  refine V_iload dL_law_795 rfl ?_
  refine V_iconst (v := nI 2) dL_law_797 (by decide) ?_
  refine V_iadd dL_law_798 ?_
  refine V_sld (i + 2) (nI_add i 2) (by omega) hL dL_law_799 ?_
  refine V_aload_n dL_law_800 rfl rfl ?_
  refine V_chR (ctL_action hLx hX hS ho) mhL_action lkL_173 rfl rfl (Nat.le_of_ble_eq_true rfl) ⟨⟨Nat.le_of_ble_eq_true rfl, Nat.le_of_ble_eq_true rfl⟩, by show cells + 1 ≤ 601024; omega, by show slots + 6 ≤ 7293034; omega⟩ dL_law_801 (fun m1 l1 hX1 ho1 hf1 => ?_)
  have hA1 : MA m1 m S := hA.fr hS (fun a j q1 q2 => hf1 a j (by omega))
  refine V_istore dL_law_804 (Nat.le_of_ble_eq_true rfl) ?_
  refine V_aload_n dL_law_806 rfl rfl ?_
  refine V_aload_n dL_law_807 rfl rfl ?_
  refine V_iload dL_law_808 rfl ?_
  refine V_iconst (v := nI 1) dL_law_810 (by decide) ?_
  refine V_iadd dL_law_811 ?_
  refine V_sld (i + 1) (nI_add i 1) (by omega) hL dL_law_812 ?_
  refine V_aload_n dL_law_813 rfl rfl ?_
  refine V_iload dL_law_814 rfl ?_
  refine V_iconst (v := nI 2) dL_law_816 (by decide) ?_
  refine V_iadd dL_law_817 ?_
  refine V_sld (i + 2) (nI_add i 2) (by omega) hL dL_law_818 ?_
  refine V_cmR (ctX6_action hM hA1 hS) mvX6_action lkL_175 hM.1 rfl rfl rfl (Nat.le_of_ble_eq_true rfl) ⟨⟨Nat.le_of_ble_eq_true rfl, Nat.le_of_ble_eq_true rfl⟩, by show cells + 1 + 0 ≤ 601024; omega, by show slots + 6 + 0 ≤ 7293034; omega⟩ dL_law_819 (fun m2 hA2 h20 hf2 => ?_)
  have hX2 := hX1.fr (fun a j q1 q2 => hf2 a j (by omega))
  refine V_istore dL_law_822 (Nat.le_of_ble_eq_true rfl) ?_
  refine V_aload_n dL_law_824 rfl rfl ?_
  refine V_cv1 (ctX6_thrown hM h20) mvX6_thrown lkL_138 hM.1 rfl rfl rfl (Nat.le_of_ble_eq_true rfl) ⟨⟨Nat.le_of_ble_eq_true rfl, Nat.le_of_ble_eq_true rfl⟩, by show cells + 1 + 0 ≤ 601024; omega, by show slots + 6 + 0 ≤ 7293034; omega⟩ dL_law_825 ?_
  refine V_iload dL_law_828 rfl ?_
  refine V_icmp_eq 835 dL_law_830 (by decide) (fun _ => ?_) (fun hne => absurd rfl hne)
  refine V_iload dL_law_835 rfl ?_
  refine V_if_ne 852 dL_law_837 (by decide) (fun _ => ?_) (fun hz0 => ?_)
  · refine V_goto 2556 dL_law_852 (by decide) ?_
    refine V.less9 ?_
    refine V.widen (k := cells + 32) (n := slots + 440) (by omega) (by omega) ?_
    exact kn _ m2 l1 (sk_action hS) hX2 hA2
  · have h0 := nI_k0 hz0 (Nat.le_trans rk_action (by decide))
    refine V_aload_n dL_law_840 rfl rfl ?_
    refine V_iconst (v := nI 0) dL_law_841 (by decide) ?_
    refine V_laldN ho 0 rfl (by decide) (by decide) dL_law_842 ?_
    refine V_iload dL_law_843 rfl ?_
    refine V_i2l dL_law_845 ?_
    refine V_lcmp dL_law_846 ?_
    refine V_if_eq 852 dL_law_847 (by decide) (fun _ => ?_) (fun hne => absurd ((lg_cmp_eq _ _).mpr (ho1 h0)) hne)
    refine V_goto 2556 dL_law_852 (by decide) ?_
    refine V.less9 ?_
    refine V.widen (k := cells + 32) (n := slots + 440) (by omega) (by omega) ?_
    exact kn _ m2 l1 (sk_action hS) hX2 hA2
end Case
