/-! the law, case by case -/
section Case
variable {κ : K0} {b Ln : Nat} {xs : Nat → Int32} {nm : String} {hh : List (Nat × Nat × Nat × Nat)} {cells slots : Nat} {σ : Nat → Option Kd} {mi : Nat → Nat → Int32} {ml : Nat → Nat → Int64} {x m o i : Nat} {S : SS}
theorem law_31 (hI : LI σ x m o) (hX : XA mi x S) (hA : MA mi m S) (hS : SOK S) (hL : Ln ≤ 2048) (hi : i + 4 ≤ Ln) (hcc : cells + 32 ≤ 601024) (hcs : slots + 440 ≤ 7293034) (kn : KN κ (phiL κ b Ln xs nm hh) σ x m (lwL b x m o i) cells slots) : V κ (phiL κ b Ln xs nm hh) cells slots 2101 (lwL b x m o i) [] (MM σ mi ml) := by
  obtain ⟨hLx, hM, ho, hxm, hmo⟩ := hI
  refine V_aload_n dL_law_2101 rfl rfl ?_
  refine V_hcall (ctX5_addedMerges hLx hX hS) mvX5_addedMerges lkL_239 hLx.1 rfl rfl rfl (Nat.le_of_ble_eq_true rfl) ⟨⟨Nat.le_of_ble_eq_true rfl, Nat.le_of_ble_eq_true rfl⟩, by show cells + 1 ≤ 601024; omega, by show slots + 6 ≤ 7293034; omega⟩ dL_law_2102 (fun _ m1 l1 hX1 hf1 => ?_) (fun j hj => absurd (show 0 = j + 1 from hj) (by omega))
  have hA1 : MA m1 m S := hA.fr hS (fun a j q1 q2 => hf1 a j (by omega))
  refine V_aload_n dL_law_2105 rfl rfl ?_
  refine V_cmR (ctX6_addedMerges hM hA1 hS) mvX6_addedMerges lkL_242 hM.1 rfl rfl rfl (Nat.le_of_ble_eq_true rfl) ⟨⟨Nat.le_of_ble_eq_true rfl, Nat.le_of_ble_eq_true rfl⟩, by show cells + 1 + 0 ≤ 601024; omega, by show slots + 6 + 0 ≤ 7293034; omega⟩ dL_law_2106 (fun m2 hA2 h20 hf2 => ?_)
  have hX2 := hX1.fr (fun a j q1 q2 => hf2 a j (by omega))
  refine V_icmp_eq 2556 dL_law_2109 (by decide) (fun _ => ?_) (fun hne => absurd rfl hne)
  refine V.less9 ?_
  refine V.widen (k := cells + 32) (n := slots + 440) (by omega) (by omega) ?_
  exact kn _ m2 l1 (sk_addedMerges hS) hX2 hA2
theorem law_32 (hI : LI σ x m o) (hX : XA mi x S) (hA : MA mi m S) (hS : SOK S) (hL : Ln ≤ 2048) (hi : i + 4 ≤ Ln) (hcc : cells + 32 ≤ 601024) (hcs : slots + 440 ≤ 7293034) (kn : KN κ (phiL κ b Ln xs nm hh) σ x m (lwL b x m o i) cells slots) : V κ (phiL κ b Ln xs nm hh) cells slots 2114 (lwL b x m o i) [] (MM σ mi ml) := by
  obtain ⟨hLx, hM, ho, hxm, hmo⟩ := hI
  refine V_aload_n dL_law_2114 rfl rfl ?_
  refine V_hcall (ctX5_removedMerges hLx hX hS) mvX5_removedMerges lkL_243 hLx.1 rfl rfl rfl (Nat.le_of_ble_eq_true rfl) ⟨⟨Nat.le_of_ble_eq_true rfl, Nat.le_of_ble_eq_true rfl⟩, by show cells + 1 ≤ 601024; omega, by show slots + 6 ≤ 7293034; omega⟩ dL_law_2115 (fun _ m1 l1 hX1 hf1 => ?_) (fun j hj => absurd (show 0 = j + 1 from hj) (by omega))
  have hA1 : MA m1 m S := hA.fr hS (fun a j q1 q2 => hf1 a j (by omega))
  refine V_aload_n dL_law_2118 rfl rfl ?_
  refine V_cmR (ctX6_removedMerges hM hA1 hS) mvX6_removedMerges lkL_246 hM.1 rfl rfl rfl (Nat.le_of_ble_eq_true rfl) ⟨⟨Nat.le_of_ble_eq_true rfl, Nat.le_of_ble_eq_true rfl⟩, by show cells + 1 + 0 ≤ 601024; omega, by show slots + 6 + 0 ≤ 7293034; omega⟩ dL_law_2119 (fun m2 hA2 h20 hf2 => ?_)
  have hX2 := hX1.fr (fun a j q1 q2 => hf2 a j (by omega))
  refine V_icmp_eq 2556 dL_law_2122 (by decide) (fun _ => ?_) (fun hne => absurd rfl hne)
  refine V.less9 ?_
  refine V.widen (k := cells + 32) (n := slots + 440) (by omega) (by omega) ?_
  exact kn _ m2 l1 (sk_removedMerges hS) hX2 hA2
theorem law_33 (hI : LI σ x m o) (hX : XA mi x S) (hA : MA mi m S) (hS : SOK S) (hL : Ln ≤ 2048) (hi : i + 4 ≤ Ln) (hcc : cells + 32 ≤ 601024) (hcs : slots + 440 ≤ 7293034) (kn : KN κ (phiL κ b Ln xs nm hh) σ x m (lwL b x m o i) cells slots) : V κ (phiL κ b Ln xs nm hh) cells slots 2127 (lwL b x m o i) [] (MM σ mi ml) := by
  obtain ⟨hLx, hM, ho, hxm, hmo⟩ := hI
  refine V_aload_n dL_law_2127 rfl rfl ?_
  refine V_hcall (ctX5_changedUses hLx hX hS) mvX5_changedUses lkL_247 hLx.1 rfl rfl rfl (Nat.le_of_ble_eq_true rfl) ⟨⟨Nat.le_of_ble_eq_true rfl, Nat.le_of_ble_eq_true rfl⟩, by show cells + 1 ≤ 601024; omega, by show slots + 6 ≤ 7293034; omega⟩ dL_law_2128 (fun _ m1 l1 hX1 hf1 => ?_) (fun j hj => absurd (show 0 = j + 1 from hj) (by omega))
  have hA1 : MA m1 m S := hA.fr hS (fun a j q1 q2 => hf1 a j (by omega))
  refine V_aload_n dL_law_2131 rfl rfl ?_
  refine V_cmR (ctX6_changedUses hM hA1 hS) mvX6_changedUses lkL_250 hM.1 rfl rfl rfl (Nat.le_of_ble_eq_true rfl) ⟨⟨Nat.le_of_ble_eq_true rfl, Nat.le_of_ble_eq_true rfl⟩, by show cells + 1 + 0 ≤ 601024; omega, by show slots + 6 + 0 ≤ 7293034; omega⟩ dL_law_2132 (fun m2 hA2 h20 hf2 => ?_)
  have hX2 := hX1.fr (fun a j q1 q2 => hf2 a j (by omega))
  refine V_icmp_eq 2556 dL_law_2135 (by decide) (fun _ => ?_) (fun hne => absurd rfl hne)
  refine V.less9 ?_
  refine V.widen (k := cells + 32) (n := slots + 440) (by omega) (by omega) ?_
  exact kn _ m2 l1 (sk_changedUses hS) hX2 hA2
theorem law_34 (hI : LI σ x m o) (hX : XA mi x S) (hA : MA mi m S) (hS : SOK S) (hL : Ln ≤ 2048) (hi : i + 4 ≤ Ln) (hcc : cells + 32 ≤ 601024) (hcs : slots + 440 ≤ 7293034) (kn : KN κ (phiL κ b Ln xs nm hh) σ x m (lwL b x m o i) cells slots) : V κ (phiL κ b Ln xs nm hh) cells slots 2140 (lwL b x m o i) [] (MM σ mi ml) := by
  obtain ⟨hLx, hM, ho, hxm, hmo⟩ := hI
  refine V_aload_n dL_law_2140 rfl rfl ?_
  refine V_hcall (ctX5_newlyReachable hLx hX hS) mvX5_newlyReachable lkL_251 hLx.1 rfl rfl rfl (Nat.le_of_ble_eq_true rfl) ⟨⟨Nat.le_of_ble_eq_true rfl, Nat.le_of_ble_eq_true rfl⟩, by show cells + 1 ≤ 601024; omega, by show slots + 6 ≤ 7293034; omega⟩ dL_law_2141 (fun _ m1 l1 hX1 hf1 => ?_) (fun j hj => absurd (show 0 = j + 1 from hj) (by omega))
  have hA1 : MA m1 m S := hA.fr hS (fun a j q1 q2 => hf1 a j (by omega))
  refine V_aload_n dL_law_2144 rfl rfl ?_
  refine V_cmR (ctX6_newlyReachable hM hA1 hS) mvX6_newlyReachable lkL_254 hM.1 rfl rfl rfl (Nat.le_of_ble_eq_true rfl) ⟨⟨Nat.le_of_ble_eq_true rfl, Nat.le_of_ble_eq_true rfl⟩, by show cells + 1 + 0 ≤ 601024; omega, by show slots + 6 + 0 ≤ 7293034; omega⟩ dL_law_2145 (fun m2 hA2 h20 hf2 => ?_)
  have hX2 := hX1.fr (fun a j q1 q2 => hf2 a j (by omega))
  refine V_icmp_eq 2556 dL_law_2148 (by decide) (fun _ => ?_) (fun hne => absurd rfl hne)
  refine V.less9 ?_
  refine V.widen (k := cells + 32) (n := slots + 440) (by omega) (by omega) ?_
  exact kn _ m2 l1 (sk_newlyReachable hS) hX2 hA2
theorem law_35 (hI : LI σ x m o) (hX : XA mi x S) (hA : MA mi m S) (hS : SOK S) (hL : Ln ≤ 2048) (hi : i + 4 ≤ Ln) (hcc : cells + 32 ≤ 601024) (hcs : slots + 440 ≤ 7293034) (kn : KN κ (phiL κ b Ln xs nm hh) σ x m (lwL b x m o i) cells slots) : V κ (phiL κ b Ln xs nm hh) cells slots 2153 (lwL b x m o i) [] (MM σ mi ml) := by
  obtain ⟨hLx, hM, ho, hxm, hmo⟩ := hI
  refine V_aload_n dL_law_2153 rfl rfl ?_
  refine V_aload_n dL_law_2154 rfl rfl ?_
  refine V_chR (ctL_undo hLx hX hS ho) mhL_undo lkL_255 rfl rfl (Nat.le_of_ble_eq_true rfl) ⟨⟨Nat.le_of_ble_eq_true rfl, Nat.le_of_ble_eq_true rfl⟩, by show cells + 1 ≤ 601024; omega, by show slots + 6 ≤ 7293034; omega⟩ dL_law_2155 (fun m1 l1 hX1 ho1 hf1 => ?_)
  have hA1 : MA m1 m S := hA.fr hS (fun a j q1 q2 => hf1 a j (by omega))
  refine V_istore dL_law_2158 (Nat.le_of_ble_eq_true rfl) ?_
  refine V_aload_n dL_law_2160 rfl rfl ?_
  refine V_cmR (ctX6_undo hM hA1 hS) mvX6_undo lkL_257 hM.1 rfl rfl rfl (Nat.le_of_ble_eq_true rfl) ⟨⟨Nat.le_of_ble_eq_true rfl, Nat.le_of_ble_eq_true rfl⟩, by show cells + 1 + 0 ≤ 601024; omega, by show slots + 6 + 0 ≤ 7293034; omega⟩ dL_law_2161 (fun m2 hA2 h20 hf2 => ?_)
  have hX2 := hX1.fr (fun a j q1 q2 => hf2 a j (by omega))
  refine V_istore dL_law_2164 (Nat.le_of_ble_eq_true rfl) ?_
  refine V_aload_n dL_law_2166 rfl rfl ?_
  refine V_cv1 (ctX6_thrown hM h20) mvX6_thrown lkL_138 hM.1 rfl rfl rfl (Nat.le_of_ble_eq_true rfl) ⟨⟨Nat.le_of_ble_eq_true rfl, Nat.le_of_ble_eq_true rfl⟩, by show cells + 1 + 0 ≤ 601024; omega, by show slots + 6 + 0 ≤ 7293034; omega⟩ dL_law_2167 ?_
  refine V_iload dL_law_2170 rfl ?_
  refine V_icmp_eq 2177 dL_law_2172 (by decide) (fun _ => ?_) (fun hne => absurd rfl hne)
  refine V_iload dL_law_2177 rfl ?_
  refine V_if_ne 2194 dL_law_2179 (by decide) (fun _ => ?_) (fun hz0 => ?_)
  · refine V_goto 2556 dL_law_2194 (by decide) ?_
    refine V.less9 ?_
    refine V.widen (k := cells + 32) (n := slots + 440) (by omega) (by omega) ?_
    exact kn _ m2 l1 (sk_undo hS) hX2 hA2
  · have h0 := nI_k0 hz0 (Nat.le_trans rk_undo (by decide))
    refine V_aload_n dL_law_2182 rfl rfl ?_
    refine V_iconst (v := nI 0) dL_law_2183 (by decide) ?_
    refine V_laldN ho 0 rfl (by decide) (by decide) dL_law_2184 ?_
    refine V_iload dL_law_2185 rfl ?_
    refine V_i2l dL_law_2187 ?_
    refine V_lcmp dL_law_2188 ?_
    refine V_if_eq 2194 dL_law_2189 (by decide) (fun _ => ?_) (fun hne => absurd ((lg_cmp_eq _ _).mpr (ho1 h0)) hne)
    refine V_goto 2556 dL_law_2194 (by decide) ?_
    refine V.less9 ?_
    refine V.widen (k := cells + 32) (n := slots + 440) (by omega) (by omega) ?_
    exact kn _ m2 l1 (sk_undo hS) hX2 hA2
theorem law_36 (hI : LI σ x m o) (hX : XA mi x S) (hA : MA mi m S) (hS : SOK S) (hL : Ln ≤ 2048) (hi : i + 4 ≤ Ln) (hcc : cells + 32 ≤ 601024) (hcs : slots + 440 ≤ 7293034) (kn : KN κ (phiL κ b Ln xs nm hh) σ x m (lwL b x m o i) cells slots) : V κ (phiL κ b Ln xs nm hh) cells slots 2197 (lwL b x m o i) [] (MM σ mi ml) := by
  obtain ⟨hLx, hM, ho, hxm, hmo⟩ := hI
  refine V_aload_n dL_law_2197 rfl rfl ?_
  refine V_aload_n dL_law_2198 rfl rfl ?_
  refine V_iload dL_law_2199 rfl ?_
  refine V_iconst (v := nI 1) dL_law_2201 (by decide) ?_
  refine V_iadd dL_law_2202 ?_
  refine V_sld (i + 1) (nI_add i 1) (by omega) hL dL_law_2203 ?_
  refine V_aload_n dL_law_2204 rfl rfl ?_
  refine V_chR (ctL_walk hLx hX hS ho) mhL_walk lkL_258 rfl rfl (Nat.le_of_ble_eq_true rfl) ⟨⟨Nat.le_of_ble_eq_true rfl, Nat.le_of_ble_eq_true rfl⟩, by show cells + 1 ≤ 601024; omega, by show slots + 6 ≤ 7293034; omega⟩ dL_law_2205 (fun m1 l1 hX1 ho1 hf1 => ?_)
  have hA1 : MA m1 m S := hA.fr hS (fun a j q1 q2 => hf1 a j (by omega))
  refine V_istore dL_law_2208 (Nat.le_of_ble_eq_true rfl) ?_
  refine V_aload_n dL_law_2210 rfl rfl ?_
  refine V_aload_n dL_law_2211 rfl rfl ?_
  refine V_iload dL_law_2212 rfl ?_
  refine V_iconst (v := nI 1) dL_law_2214 (by decide) ?_
  refine V_iadd dL_law_2215 ?_
  refine V_sld (i + 1) (nI_add i 1) (by omega) hL dL_law_2216 ?_
  refine V_cmR (ctX6_walk hM hA1 hS) mvX6_walk lkL_260 hM.1 rfl rfl rfl (Nat.le_of_ble_eq_true rfl) ⟨⟨Nat.le_of_ble_eq_true rfl, Nat.le_of_ble_eq_true rfl⟩, by show cells + 1 + 0 ≤ 601024; omega, by show slots + 6 + 0 ≤ 7293034; omega⟩ dL_law_2217 (fun m2 hA2 h20 hf2 => ?_)
  have hX2 := hX1.fr (fun a j q1 q2 => hf2 a j (by omega))
  refine V_istore dL_law_2220 (Nat.le_of_ble_eq_true rfl) ?_
  refine V_aload_n dL_law_2222 rfl rfl ?_
  refine V_cv1 (ctX6_thrown hM h20) mvX6_thrown lkL_138 hM.1 rfl rfl rfl (Nat.le_of_ble_eq_true rfl) ⟨⟨Nat.le_of_ble_eq_true rfl, Nat.le_of_ble_eq_true rfl⟩, by show cells + 1 + 0 ≤ 601024; omega, by show slots + 6 + 0 ≤ 7293034; omega⟩ dL_law_2223 ?_
  refine V_iload dL_law_2226 rfl ?_
  refine V_icmp_eq 2233 dL_law_2228 (by decide) (fun _ => ?_) (fun hne => absurd rfl hne)
  refine V_iload dL_law_2233 rfl ?_
  refine V_if_ne 2250 dL_law_2235 (by decide) (fun _ => ?_) (fun hz0 => ?_)
  · refine V_goto 2556 dL_law_2250 (by decide) ?_
    refine V.less9 ?_
    refine V.widen (k := cells + 32) (n := slots + 440) (by omega) (by omega) ?_
    exact kn _ m2 l1 (sk_walk hS) hX2 hA2
  · have h0 := nI_k0 hz0 (Nat.le_trans rk_walk (by decide))
    refine V_aload_n dL_law_2238 rfl rfl ?_
    refine V_iconst (v := nI 0) dL_law_2239 (by decide) ?_
    refine V_laldN ho 0 rfl (by decide) (by decide) dL_law_2240 ?_
    refine V_iload dL_law_2241 rfl ?_
    refine V_i2l dL_law_2243 ?_
    refine V_lcmp dL_law_2244 ?_
    refine V_if_eq 2250 dL_law_2245 (by decide) (fun _ => ?_) (fun hne => absurd ((lg_cmp_eq _ _).mpr (ho1 h0)) hne)
    refine V_goto 2556 dL_law_2250 (by decide) ?_
    refine V.less9 ?_
    refine V.widen (k := cells + 32) (n := slots + 440) (by omega) (by omega) ?_
    exact kn _ m2 l1 (sk_walk hS) hX2 hA2
theorem law_37 (hI : LI σ x m o) (hX : XA mi x S) (hA : MA mi m S) (hS : SOK S) (hL : Ln ≤ 2048) (hi : i + 4 ≤ Ln) (hcc : cells + 32 ≤ 601024) (hcs : slots + 440 ≤ 7293034) (kn : KN κ (phiL κ b Ln xs nm hh) σ x m (lwL b x m o i) cells slots) : V κ (phiL κ b Ln xs nm hh) cells slots 2253 (lwL b x m o i) [] (MM σ mi ml) := by
  obtain ⟨hLx, hM, ho, hxm, hmo⟩ := hI
  refine V_aload_n dL_law_2253 rfl rfl ?_
  refine V_hcall (ctX5_clearWalk hLx hX hS) mvX5_clearWalk lkL_261 hLx.1 rfl rfl rfl (Nat.le_of_ble_eq_true rfl) ⟨⟨Nat.le_of_ble_eq_true rfl, Nat.le_of_ble_eq_true rfl⟩, by show cells + 1 ≤ 601024; omega, by show slots + 6 ≤ 7293034; omega⟩ dL_law_2254 (fun _ m1 l1 hX1 hf1 => ?_) (fun j hj => absurd (show 0 = j + 1 from hj) (by omega))
  have hA1 : MA m1 m S := hA.fr hS (fun a j q1 q2 => hf1 a j (by omega))
  refine V_aload_n dL_law_2257 rfl rfl ?_
  refine V_cmR (ctX6_clearWalk hM hA1 hS) mvX6_clearWalk lkL_264 hM.1 rfl rfl rfl (Nat.le_of_ble_eq_true rfl) ⟨⟨Nat.le_of_ble_eq_true rfl, Nat.le_of_ble_eq_true rfl⟩, by show cells + 1 + 0 ≤ 601024; omega, by show slots + 6 + 0 ≤ 7293034; omega⟩ dL_law_2258 (fun m2 hA2 h20 hf2 => ?_)
  have hX2 := hX1.fr (fun a j q1 q2 => hf2 a j (by omega))
  refine V_icmp_eq 2556 dL_law_2261 (by decide) (fun _ => ?_) (fun hne => absurd rfl hne)
  refine V.less9 ?_
  refine V.widen (k := cells + 32) (n := slots + 440) (by omega) (by omega) ?_
  exact kn _ m2 l1 (sk_clearWalk hS) hX2 hA2
theorem law_38 (hI : LI σ x m o) (hX : XA mi x S) (hA : MA mi m S) (hS : SOK S) (hL : Ln ≤ 2048) (hi : i + 4 ≤ Ln) (hcc : cells + 32 ≤ 601024) (hcs : slots + 440 ≤ 7293034) (kn : KN κ (phiL κ b Ln xs nm hh) σ x m (lwL b x m o i) cells slots) : V κ (phiL κ b Ln xs nm hh) cells slots 2266 (lwL b x m o i) [] (MM σ mi ml) := by
  obtain ⟨hLx, hM, ho, hxm, hmo⟩ := hI
  refine V_aload_n dL_law_2266 rfl rfl ?_
  refine V_hcall (ctX5_walkEnd hLx hX hS) mvX5_walkEnd lkL_265 hLx.1 rfl rfl rfl (Nat.le_of_ble_eq_true rfl) ⟨⟨Nat.le_of_ble_eq_true rfl, Nat.le_of_ble_eq_true rfl⟩, by show cells + 1 ≤ 601024; omega, by show slots + 6 ≤ 7293034; omega⟩ dL_law_2267 (fun _ m1 l1 hX1 hf1 => ?_) (fun j hj => absurd (show 0 = j + 1 from hj) (by omega))
  have hA1 : MA m1 m S := hA.fr hS (fun a j q1 q2 => hf1 a j (by omega))
  refine V_aload_n dL_law_2270 rfl rfl ?_
  refine V_cmR (ctX6_walkEnd hM hA1 hS) mvX6_walkEnd lkL_268 hM.1 rfl rfl rfl (Nat.le_of_ble_eq_true rfl) ⟨⟨Nat.le_of_ble_eq_true rfl, Nat.le_of_ble_eq_true rfl⟩, by show cells + 1 + 0 ≤ 601024; omega, by show slots + 6 + 0 ≤ 7293034; omega⟩ dL_law_2271 (fun m2 hA2 h20 hf2 => ?_)
  have hX2 := hX1.fr (fun a j q1 q2 => hf2 a j (by omega))
  refine V_icmp_eq 2556 dL_law_2274 (by decide) (fun _ => ?_) (fun hne => absurd rfl hne)
  refine V.less9 ?_
  refine V.widen (k := cells + 32) (n := slots + 440) (by omega) (by omega) ?_
  exact kn _ m2 l1 (sk_walkEnd hS) hX2 hA2
theorem law_39 (hI : LI σ x m o) (hX : XA mi x S) (hA : MA mi m S) (hS : SOK S) (hL : Ln ≤ 2048) (hi : i + 4 ≤ Ln) (hcc : cells + 32 ≤ 601024) (hcs : slots + 440 ≤ 7293034) (kn : KN κ (phiL κ b Ln xs nm hh) σ x m (lwL b x m o i) cells slots) : V κ (phiL κ b Ln xs nm hh) cells slots 2279 (lwL b x m o i) [] (MM σ mi ml) := by
  obtain ⟨hLx, hM, ho, hxm, hmo⟩ := hI
  refine V_aload_n dL_law_2279 rfl rfl ?_
  refine V_aload_n dL_law_2280 rfl rfl ?_
  refine V_iload dL_law_2281 rfl ?_
  refine V_iconst (v := nI 1) dL_law_2283 (by decide) ?_
  refine V_iadd dL_law_2284 ?_
  refine V_sld (i + 1) (nI_add i 1) (by omega) hL dL_law_2285 ?_
  refine V_aload_n dL_law_2286 rfl rfl ?_
  refine V_chR (ctL_lastOnWalk hLx hX hS ho) mhL_lastOnWalk lkL_269 rfl rfl (Nat.le_of_ble_eq_true rfl) ⟨⟨Nat.le_of_ble_eq_true rfl, Nat.le_of_ble_eq_true rfl⟩, by show cells + 1 ≤ 601024; omega, by show slots + 6 ≤ 7293034; omega⟩ dL_law_2287 (fun m1 l1 hX1 ho1 hf1 => ?_)
  have hA1 : MA m1 m S := hA.fr hS (fun a j q1 q2 => hf1 a j (by omega))
  refine V_istore dL_law_2290 (Nat.le_of_ble_eq_true rfl) ?_
  refine V_aload_n dL_law_2292 rfl rfl ?_
  refine V_aload_n dL_law_2293 rfl rfl ?_
  refine V_iload dL_law_2294 rfl ?_
  refine V_iconst (v := nI 1) dL_law_2296 (by decide) ?_
  refine V_iadd dL_law_2297 ?_
  refine V_sld (i + 1) (nI_add i 1) (by omega) hL dL_law_2298 ?_
  refine V_cmR (ctX6_lastOnWalk hM hA1 hS) mvX6_lastOnWalk lkL_271 hM.1 rfl rfl rfl (Nat.le_of_ble_eq_true rfl) ⟨⟨Nat.le_of_ble_eq_true rfl, Nat.le_of_ble_eq_true rfl⟩, by show cells + 1 + 0 ≤ 601024; omega, by show slots + 6 + 0 ≤ 7293034; omega⟩ dL_law_2299 (fun m2 hA2 h20 hf2 => ?_)
  have hX2 := hX1.fr (fun a j q1 q2 => hf2 a j (by omega))
  refine V_istore dL_law_2302 (Nat.le_of_ble_eq_true rfl) ?_
  refine V_aload_n dL_law_2304 rfl rfl ?_
  refine V_cv1 (ctX6_thrown hM h20) mvX6_thrown lkL_138 hM.1 rfl rfl rfl (Nat.le_of_ble_eq_true rfl) ⟨⟨Nat.le_of_ble_eq_true rfl, Nat.le_of_ble_eq_true rfl⟩, by show cells + 1 + 0 ≤ 601024; omega, by show slots + 6 + 0 ≤ 7293034; omega⟩ dL_law_2305 ?_
  refine V_iload dL_law_2308 rfl ?_
  refine V_icmp_eq 2315 dL_law_2310 (by decide) (fun _ => ?_) (fun hne => absurd rfl hne)
  refine V_iload dL_law_2315 rfl ?_
  refine V_if_ne 2332 dL_law_2317 (by decide) (fun _ => ?_) (fun hz0 => ?_)
  · refine V_goto 2556 dL_law_2332 (by decide) ?_
    refine V.less9 ?_
    refine V.widen (k := cells + 32) (n := slots + 440) (by omega) (by omega) ?_
    exact kn _ m2 l1 (sk_lastOnWalk hS) hX2 hA2
  · have h0 := nI_k0 hz0 (Nat.le_trans rk_lastOnWalk (by decide))
    refine V_aload_n dL_law_2320 rfl rfl ?_
    refine V_iconst (v := nI 0) dL_law_2321 (by decide) ?_
    refine V_laldN ho 0 rfl (by decide) (by decide) dL_law_2322 ?_
    refine V_iload dL_law_2323 rfl ?_
    refine V_i2l dL_law_2325 ?_
    refine V_lcmp dL_law_2326 ?_
    refine V_if_eq 2332 dL_law_2327 (by decide) (fun _ => ?_) (fun hne => absurd ((lg_cmp_eq _ _).mpr (ho1 h0)) hne)
    refine V_goto 2556 dL_law_2332 (by decide) ?_
    refine V.less9 ?_
    refine V.widen (k := cells + 32) (n := slots + 440) (by omega) (by omega) ?_
    exact kn _ m2 l1 (sk_lastOnWalk hS) hX2 hA2
theorem law_40 (hI : LI σ x m o) (hX : XA mi x S) (hA : MA mi m S) (hS : SOK S) (hL : Ln ≤ 2048) (hi : i + 4 ≤ Ln) (hcc : cells + 32 ≤ 601024) (hcs : slots + 440 ≤ 7293034) (kn : KN κ (phiL κ b Ln xs nm hh) σ x m (lwL b x m o i) cells slots) : V κ (phiL κ b Ln xs nm hh) cells slots 2335 (lwL b x m o i) [] (MM σ mi ml) := by
  obtain ⟨hLx, hM, ho, hxm, hmo⟩ := hI
  refine V_aload_n dL_law_2335 rfl rfl ?_
  refine V_aload_n dL_law_2336 rfl rfl ?_
  refine V_iload dL_law_2337 rfl ?_
  refine V_iconst (v := nI 1) dL_law_2339 (by decide) ?_
  refine V_iadd dL_law_2340 ?_
  refine V_sld (i + 1) (nI_add i 1) (by omega) hL dL_law_2341 ?_
  refine V_aload_n dL_law_2342 rfl rfl ?_
  refine V_chR (ctL_mergesOnWalk hLx hX hS ho) mhL_mergesOnWalk lkL_272 rfl rfl (Nat.le_of_ble_eq_true rfl) ⟨⟨Nat.le_of_ble_eq_true rfl, Nat.le_of_ble_eq_true rfl⟩, by show cells + 1 ≤ 601024; omega, by show slots + 6 ≤ 7293034; omega⟩ dL_law_2343 (fun m1 l1 hX1 ho1 hf1 => ?_)
  have hA1 : MA m1 m S := hA.fr hS (fun a j q1 q2 => hf1 a j (by omega))
  refine V_istore dL_law_2346 (Nat.le_of_ble_eq_true rfl) ?_
  refine V_aload_n dL_law_2348 rfl rfl ?_
  refine V_aload_n dL_law_2349 rfl rfl ?_
  refine V_iload dL_law_2350 rfl ?_
  refine V_iconst (v := nI 1) dL_law_2352 (by decide) ?_
  refine V_iadd dL_law_2353 ?_
  refine V_sld (i + 1) (nI_add i 1) (by omega) hL dL_law_2354 ?_
  refine V_cmR (ctX6_mergesOnWalk hM hA1 hS) mvX6_mergesOnWalk lkL_274 hM.1 rfl rfl rfl (Nat.le_of_ble_eq_true rfl) ⟨⟨Nat.le_of_ble_eq_true rfl, Nat.le_of_ble_eq_true rfl⟩, by show cells + 1 + 0 ≤ 601024; omega, by show slots + 6 + 0 ≤ 7293034; omega⟩ dL_law_2355 (fun m2 hA2 h20 hf2 => ?_)
  have hX2 := hX1.fr (fun a j q1 q2 => hf2 a j (by omega))
  refine V_istore dL_law_2358 (Nat.le_of_ble_eq_true rfl) ?_
  refine V_aload_n dL_law_2360 rfl rfl ?_
  refine V_cv1 (ctX6_thrown hM h20) mvX6_thrown lkL_138 hM.1 rfl rfl rfl (Nat.le_of_ble_eq_true rfl) ⟨⟨Nat.le_of_ble_eq_true rfl, Nat.le_of_ble_eq_true rfl⟩, by show cells + 1 + 0 ≤ 601024; omega, by show slots + 6 + 0 ≤ 7293034; omega⟩ dL_law_2361 ?_
  refine V_iload dL_law_2364 rfl ?_
  refine V_icmp_eq 2371 dL_law_2366 (by decide) (fun _ => ?_) (fun hne => absurd rfl hne)
  refine V_iload dL_law_2371 rfl ?_
  refine V_if_ne 2388 dL_law_2373 (by decide) (fun _ => ?_) (fun hz0 => ?_)
  · refine V_goto 2556 dL_law_2388 (by decide) ?_
    refine V.less9 ?_
    refine V.widen (k := cells + 32) (n := slots + 440) (by omega) (by omega) ?_
    exact kn _ m2 l1 (sk_mergesOnWalk hS) hX2 hA2
  · have h0 := nI_k0 hz0 (Nat.le_trans rk_mergesOnWalk (by decide))
    refine V_aload_n dL_law_2376 rfl rfl ?_
    refine V_iconst (v := nI 0) dL_law_2377 (by decide) ?_
    refine V_laldN ho 0 rfl (by decide) (by decide) dL_law_2378 ?_
    refine V_iload dL_law_2379 rfl ?_
    refine V_i2l dL_law_2381 ?_
    refine V_lcmp dL_law_2382 ?_
    refine V_if_eq 2388 dL_law_2383 (by decide) (fun _ => ?_) (fun hne => absurd ((lg_cmp_eq _ _).mpr (ho1 h0)) hne)
    refine V_goto 2556 dL_law_2388 (by decide) ?_
    refine V.less9 ?_
    refine V.widen (k := cells + 32) (n := slots + 440) (by omega) (by omega) ?_
    exact kn _ m2 l1 (sk_mergesOnWalk hS) hX2 hA2
theorem law_41 (hI : LI σ x m o) (hX : XA mi x S) (hA : MA mi m S) (hS : SOK S) (hL : Ln ≤ 2048) (hi : i + 4 ≤ Ln) (hcc : cells + 32 ≤ 601024) (hcs : slots + 440 ≤ 7293034) (kn : KN κ (phiL κ b Ln xs nm hh) σ x m (lwL b x m o i) cells slots) : V κ (phiL κ b Ln xs nm hh) cells slots 2391 (lwL b x m o i) [] (MM σ mi ml) := by
  obtain ⟨hLx, hM, ho, hxm, hmo⟩ := hI
  refine V_aload_n dL_law_2391 rfl rfl ?_
  refine V_aload_n dL_law_2392 rfl rfl ?_
  refine V_iload dL_law_2393 rfl ?_
  refine V_iconst (v := nI 1) dL_law_2395 (by decide) ?_
  refine V_iadd dL_law_2396 ?_
  refine V_sld (i + 1) (nI_add i 1) (by omega) hL dL_law_2397 ?_
  refine V_aload_n dL_law_2398 rfl rfl ?_
  refine V_iload dL_law_2399 rfl ?_
  refine V_iconst (v := nI 2) dL_law_2401 (by decide) ?_
  refine V_iadd dL_law_2402 ?_
  refine V_sld (i + 2) (nI_add i 2) (by omega) hL dL_law_2403 ?_
  refine V_aload_n dL_law_2404 rfl rfl ?_
  refine V_chR (ctL_walks hLx hX hS ho) mhL_walks lkL_275 rfl rfl (Nat.le_of_ble_eq_true rfl) ⟨⟨Nat.le_of_ble_eq_true rfl, Nat.le_of_ble_eq_true rfl⟩, by show cells + 1 ≤ 601024; omega, by show slots + 6 ≤ 7293034; omega⟩ dL_law_2405 (fun m1 l1 hX1 ho1 hf1 => ?_)
  have hA1 : MA m1 m S := hA.fr hS (fun a j q1 q2 => hf1 a j (by omega))
  refine V_istore dL_law_2408 (Nat.le_of_ble_eq_true rfl) ?_
  refine V_aload_n dL_law_2410 rfl rfl ?_
  refine V_aload_n dL_law_2411 rfl rfl ?_
  refine V_iload dL_law_2412 rfl ?_
  refine V_iconst (v := nI 1) dL_law_2414 (by decide) ?_
  refine V_iadd dL_law_2415 ?_
  refine V_sld (i + 1) (nI_add i 1) (by omega) hL dL_law_2416 ?_
  refine V_aload_n dL_law_2417 rfl rfl ?_
  refine V_iload dL_law_2418 rfl ?_
  refine V_iconst (v := nI 2) dL_law_2420 (by decide) ?_
  refine V_iadd dL_law_2421 ?_
  refine V_sld (i + 2) (nI_add i 2) (by omega) hL dL_law_2422 ?_
  refine V_callVP_any (ctX6_walks hM hA1 hS) mvX6_walks lkL_277 hM.1 rfl rfl rfl (Nat.le_of_ble_eq_true rfl) ⟨⟨Nat.le_of_ble_eq_true rfl, Nat.le_of_ble_eq_true rfl⟩, by show cells + 1 + 31 ≤ 601024; omega, by show slots + 6 + 434 ≤ 7293034; omega⟩ dL_law_2423 (fun v μ' h => ?_) (fun E μ' h => by cases h.1)
  obtain ⟨hv, m2, rfl, hA2, h20, hf2⟩ := h
  cases hv
  have hX2 := hX1.fr (fun a j q1 q2 => hf2 a j (by omega))
  show V κ _ _ _ _ _ (.long _ :: []) _
  refine V_lstore dL_law_2426 (Nat.le_of_ble_eq_true rfl) ?_
  refine V_aload_n dL_law_2428 rfl rfl ?_
  refine V_cv1 (ctX6_thrown hM h20) mvX6_thrown lkL_138 hM.1 rfl rfl rfl (Nat.le_of_ble_eq_true rfl) ⟨⟨Nat.le_of_ble_eq_true rfl, Nat.le_of_ble_eq_true rfl⟩, by show cells + 1 + 31 + 0 ≤ 601024; omega, by show slots + 6 + 434 + 0 ≤ 7293034; omega⟩ dL_law_2429 ?_
  refine V_iload dL_law_2432 rfl ?_
  refine V_icmp_eq 2439 dL_law_2434 (by decide) (fun _ => ?_) (fun hne => absurd rfl hne)
  refine V_iload dL_law_2439 rfl ?_
  refine V_if_ne 2455 dL_law_2441 (by decide) (fun _ => ?_) (fun hz0 => ?_)
  · refine V_goto 2556 dL_law_2455 (by decide) ?_
    refine V.less9 ?_
    refine V.widen (k := cells + 32) (n := slots + 440) (by omega) (by omega) ?_
    exact kn _ m2 l1 hS hX2 hA2
  · have h0 := nI_k0 hz0 (rkw S _ _)
    refine V_aload_n dL_law_2444 rfl rfl ?_
    refine V_iconst (v := nI 0) dL_law_2445 (by decide) ?_
    refine V_laldN ho 0 rfl (by decide) (by decide) dL_law_2446 ?_
    refine V_lload dL_law_2447 rfl ?_
    refine V_lcmp dL_law_2449 ?_
    refine V_if_eq 2455 dL_law_2450 (by decide) (fun _ => ?_) (fun hne => absurd ((lg_cmp_eq _ _).mpr ((ho1 h0).trans (if_pos h0).symm)) hne)
    refine V_goto 2556 dL_law_2455 (by decide) ?_
    refine V.less9 ?_
    refine V.widen (k := cells + 32) (n := slots + 440) (by omega) (by omega) ?_
    exact kn _ m2 l1 hS hX2 hA2
theorem law_42 (hI : LI σ x m o) (hX : XA mi x S) (hA : MA mi m S) (hS : SOK S) (hL : Ln ≤ 2048) (hi : i + 4 ≤ Ln) (hcc : cells + 32 ≤ 601024) (hcs : slots + 440 ≤ 7293034) (kn : KN κ (phiL κ b Ln xs nm hh) σ x m (lwL b x m o i) cells slots) : V κ (phiL κ b Ln xs nm hh) cells slots 2458 (lwL b x m o i) [] (MM σ mi ml) := by
  obtain ⟨hLx, hM, ho, hxm, hmo⟩ := hI
  refine V_aload_n dL_law_2458 rfl rfl ?_
  refine V_cv1 (ctX5_mergeDensity hLx hX hS) mvX5_mergeDensity lkL_278 hLx.1 rfl rfl rfl (Nat.le_of_ble_eq_true rfl) ⟨⟨Nat.le_of_ble_eq_true rfl, Nat.le_of_ble_eq_true rfl⟩, by show cells + 0 ≤ 601024; omega, by show slots + 0 ≤ 7293034; omega⟩ dL_law_2459 ?_
  refine V_dstore dL_law_2462 (Nat.le_of_ble_eq_true rfl) ?_
  refine V_aload_n dL_law_2464 rfl rfl ?_
  refine V_callVP_any (ctX6_mergeDensity hM hA hS) mvX6_mergeDensity lkL_282 hM.1 rfl rfl rfl (Nat.le_of_ble_eq_true rfl) ⟨⟨Nat.le_of_ble_eq_true rfl, Nat.le_of_ble_eq_true rfl⟩, by show cells + 0 ≤ 601024; omega, by show slots + 0 ≤ 7293034; omega⟩ dL_law_2465 (fun v μ' h => ?_) (fun E μ' h => by cases h.1)
  obtain ⟨hv, m2, rfl, hA2, h20, hf2⟩ := h
  cases hv
  have hX2 := hX.fr (fun a j q1 q2 => hf2 a j (by omega))
  show V κ _ _ _ _ _ (.double _ :: []) _
  refine V_dstore dL_law_2468 (Nat.le_of_ble_eq_true rfl) ?_
  refine V_dload dL_law_2470 rfl ?_
  refine V_dload dL_law_2472 rfl ?_
  refine V_dcmp dL_law_2474 ?_
  refine V_if_eq 2496 dL_law_2475 (by decide) (fun _ => ?_) (fun hne => absurd (denK _ (rcN_le S.1) (rcN_pos S.1) _ (mcN_le S.1)).2 hne)
  refine V_goto 2556 dL_law_2496 (by decide) ?_
  refine V.less9 ?_
  refine V.widen (k := cells + 32) (n := slots + 440) (by omega) (by omega) ?_
  exact kn _ m2 ml hS hX2 hA2
theorem law_43 (hI : LI σ x m o) (hX : XA mi x S) (hA : MA mi m S) (hS : SOK S) (hL : Ln ≤ 2048) (hi : i + 4 ≤ Ln) (hcc : cells + 32 ≤ 601024) (hcs : slots + 440 ≤ 7293034) (kn : KN κ (phiL κ b Ln xs nm hh) σ x m (lwL b x m o i) cells slots) : V κ (phiL κ b Ln xs nm hh) cells slots 2499 (lwL b x m o i) [] (MM σ mi ml) := by
  obtain ⟨hLx, hM, ho, hxm, hmo⟩ := hI
  refine V_aload_n dL_law_2499 rfl rfl ?_
  refine V_hcall (ctX5_save hLx hX hS) mvX5_save lkL_283 hLx.1 rfl rfl rfl (Nat.le_of_ble_eq_true rfl) ⟨⟨Nat.le_of_ble_eq_true rfl, Nat.le_of_ble_eq_true rfl⟩, by show cells + 1 ≤ 601024; omega, by show slots + 6 ≤ 7293034; omega⟩ dL_law_2500 (fun _ m1 l1 hX1 hf1 => ?_) (fun j hj => absurd (show 0 = j + 1 from hj) (by omega))
  have hA1 : MA m1 m S := hA.fr hS (fun a j q1 q2 => hf1 a j (by omega))
  refine V_aload_n dL_law_2503 rfl rfl ?_
  refine V_cmR (ctX6_save hM hA1 hS) mvX6_save lkL_286 hM.1 rfl rfl rfl (Nat.le_of_ble_eq_true rfl) ⟨⟨Nat.le_of_ble_eq_true rfl, Nat.le_of_ble_eq_true rfl⟩, by show cells + 1 + 0 ≤ 601024; omega, by show slots + 6 + 0 ≤ 7293034; omega⟩ dL_law_2504 (fun m2 hA2 h20 hf2 => ?_)
  have hX2 := hX1.fr (fun a j q1 q2 => hf2 a j (by omega))
  refine V_icmp_eq 2556 dL_law_2507 (by decide) (fun _ => ?_) (fun hne => absurd rfl hne)
  refine V.less9 ?_
  refine V.widen (k := cells + 32) (n := slots + 440) (by omega) (by omega) ?_
  exact kn _ m2 l1 (sk_save hS) hX2 hA2
theorem law_44 (hI : LI σ x m o) (hX : XA mi x S) (hA : MA mi m S) (hS : SOK S) (hL : Ln ≤ 2048) (hi : i + 4 ≤ Ln) (hcc : cells + 32 ≤ 601024) (hcs : slots + 440 ≤ 7293034) (kn : KN κ (phiL κ b Ln xs nm hh) σ x m (lwL b x m o i) cells slots) : V κ (phiL κ b Ln xs nm hh) cells slots 2512 (lwL b x m o i) [] (MM σ mi ml) := by
  obtain ⟨hLx, hM, ho, hxm, hmo⟩ := hI
  refine V_aload_n dL_law_2512 rfl rfl ?_
  refine V_aload_n dL_law_2513 rfl rfl ?_
  refine V_chR (ctL_restore hLx hX hS ho) mhL_restore lkL_287 rfl rfl (Nat.le_of_ble_eq_true rfl) ⟨⟨Nat.le_of_ble_eq_true rfl, Nat.le_of_ble_eq_true rfl⟩, by show cells + 1 ≤ 601024; omega, by show slots + 6 ≤ 7293034; omega⟩ dL_law_2514 (fun m1 l1 hX1 ho1 hf1 => ?_)
  have hA1 : MA m1 m S := hA.fr hS (fun a j q1 q2 => hf1 a j (by omega))
  refine V_istore dL_law_2517 (Nat.le_of_ble_eq_true rfl) ?_
  refine V_aload_n dL_law_2519 rfl rfl ?_
  refine V_cmR (ctX6_restore hM hA1 hS) mvX6_restore lkL_289 hM.1 rfl rfl rfl (Nat.le_of_ble_eq_true rfl) ⟨⟨Nat.le_of_ble_eq_true rfl, Nat.le_of_ble_eq_true rfl⟩, by show cells + 1 + 0 ≤ 601024; omega, by show slots + 6 + 0 ≤ 7293034; omega⟩ dL_law_2520 (fun m2 hA2 h20 hf2 => ?_)
  have hX2 := hX1.fr (fun a j q1 q2 => hf2 a j (by omega))
  refine V_istore dL_law_2523 (Nat.le_of_ble_eq_true rfl) ?_
  refine V_aload_n dL_law_2525 rfl rfl ?_
  refine V_cv1 (ctX6_thrown hM h20) mvX6_thrown lkL_138 hM.1 rfl rfl rfl (Nat.le_of_ble_eq_true rfl) ⟨⟨Nat.le_of_ble_eq_true rfl, Nat.le_of_ble_eq_true rfl⟩, by show cells + 1 + 0 ≤ 601024; omega, by show slots + 6 + 0 ≤ 7293034; omega⟩ dL_law_2526 ?_
  refine V_iload dL_law_2529 rfl ?_
  refine V_icmp_eq 2536 dL_law_2531 (by decide) (fun _ => ?_) (fun hne => absurd rfl hne)
  refine V_iload dL_law_2536 rfl ?_
  refine V_if_ne 2553 dL_law_2538 (by decide) (fun _ => ?_) (fun hz0 => ?_)
  · refine V_goto 2556 dL_law_2553 (by decide) ?_
    refine V.less9 ?_
    refine V.widen (k := cells + 32) (n := slots + 440) (by omega) (by omega) ?_
    exact kn _ m2 l1 (sk_restore hS) hX2 hA2
  · have h0 := nI_k0 hz0 (Nat.le_trans rk_restore (by decide))
    refine V_aload_n dL_law_2541 rfl rfl ?_
    refine V_iconst (v := nI 0) dL_law_2542 (by decide) ?_
    refine V_laldN ho 0 rfl (by decide) (by decide) dL_law_2543 ?_
    refine V_iload dL_law_2544 rfl ?_
    refine V_i2l dL_law_2546 ?_
    refine V_lcmp dL_law_2547 ?_
    refine V_if_eq 2553 dL_law_2548 (by decide) (fun _ => ?_) (fun hne => absurd ((lg_cmp_eq _ _).mpr (ho1 h0)) hne)
    refine V_goto 2556 dL_law_2553 (by decide) ?_
    refine V.less9 ?_
    refine V.widen (k := cells + 32) (n := slots + 440) (by omega) (by omega) ?_
    exact kn _ m2 l1 (sk_restore hS) hX2 hA2
end Case
