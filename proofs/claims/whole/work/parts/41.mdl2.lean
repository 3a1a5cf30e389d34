/-! SsaRepairModel: reachable blocks, predecessors, dominators -/
section Mdl2
variable {κ : K0} {σ : Nat → Option Kd} {mi : Nat → Nat → Int32} {ml : Nat → Nat → Int64} {m : Nat} {G : Gr} {S : SS} {μ : Mem}
theorem edg14 (hw : Wf G) {b k : Nat} (hk : k < (G.2.2 b).length) : 1 ≤ (G.2.2 b).getD k 0 ∧ (G.2.2 b).getD k 0 < G.1 ∧ Ed G b ((G.2.2 b).getD k 0) := by
  have h := mem_getD.mpr ⟨k, hk, rfl⟩
  have := (hw.2.2.2.1 b).2.1 _ h
  exact ⟨this.1, this.2, h⟩
theorem edg_all {b t : Nat} (h : Ed G b t) : ∃ k, k < (G.2.2 b).length ∧ (G.2.2 b).getD k 0 = t := mem_getD.mp h
/-- what analyze may change -/
def offA (mi m' : Nat → Nat → Int32) (m : Nat) : Prop := ∀ a i, ¬ (a = m ∧ i = 20) → (a < m + 47 ∨ m + 84 ≤ a) → m' a i = mi a i
theorem offA.rf : offA mi mi m := fun _ _ _ _ => rfl
theorem offA.tr {m1 m2 m3 : Nat → Nat → Int32} (h1 : offA m1 m2 m) (h2 : offA m2 m3 m) : offA m1 m3 m := fun a i q1 q2 => (h2 a i q1 q2).trans (h1 a i q1 q2)
theorem offA.u2 {m1 m2 : Nat → Nat → Int32} {a i : Nat} {x : Int32} (h : offA m1 m2 m) (ha : (a = m ∧ i = 20) ∨ (m + 47 ≤ a ∧ a < m + 84)) : offA m1 (u2 m2 a i x) m := fun b j h1 h2 => by
  rw [u2_n _ _ (by omega)]; exact h b j h1 h2
theorem GM_off {m1 : Nat → Nat → Int32} (h : GM mi m G) (ho : offA mi m1 m) : GM m1 m G := h.keep (fun a i q => ho a i (by omega) (by omega))
theorem or1 {P : Nat → Bool} {t : Nat} (ht : t < 14) : msk P ||| ((1 : Int32) <<< (nI t &&& 31)) = msk (fun k => P k || decide (k = t)) := by rw [msk_one ht, msk_or]
theorem bI_or (a b : Bool) : bI a ||| bI b = bI (a || b) := by cases a <;> cases b <;> decide
theorem bI_and (a b : Bool) : bI a &&& bI b = bI (a && b) := by cases a <;> cases b <;> decide
def A1 (mi : Nat → Nat → Int32) (m : Nat) (G : Gr) : Prop := mi m 20 = msk (fun k => bp (Rc G k)) ∧ ∀ t, t < G.1 → mi (m + 47) t = msk (fun p => bp (Pd G p t))
theorem ctX6_findReached (hM : ML σ m) (hG : GM mi m G) (hw : Wf G) : CtP κ 0 0 2 mrX6_findReached [.ref m] (MM σ mi ml) (fun o μ' => o = .inl none ∧ ∃ m', μ' = MM σ m' ml ∧ A1 m' m G ∧ offA mi m' m) := by
  refine CtP.of rfl (by simp [Value.category]) (Nat.le_of_ble_eq_true rfl) ?_
  have h14 := hw.2.1
  have h1g := hw.1
  have lpE : ∀ i, i ≤ G.1 → ∀ m1 o1 o3, offA mi m1 m → m1 m 20 = msk (fun k => bp (Rc G k)) → (∀ t, t < G.1 → m1 (m + 47) t = msk (fun p => bp (Pd G p t ∧ p < i))) → V κ (phiP κ mrX6_findReached 2 0 0 (fun o μ' => o = .inl none ∧ ∃ m', μ' = MM σ m' ml ∧ A1 m' m G ∧ offA mi m' m)) 0 0 112 [some (.ref m), o1, some (.int (nI i)), o3] [] (MM σ m1 ml) := loop_up _ (fun i hi ih m1 o1 o3 ho hr hb => by
    have lpK : i < G.1 → ∀ k, k ≤ (G.2.2 i).length → ∀ m1, offA mi m1 m → m1 m 20 = msk (fun k => bp (Rc G k)) → (∀ t, t < G.1 → m1 (m + 47) t = msk (fun p => bp ((Pd G p t ∧ p < i) ∨ (p = i ∧ Rc G i ∧ t ∈ (G.2.2 i).take k)))) → V κ (phiP κ mrX6_findReached 2 0 0 (fun o μ' => o = .inl none ∧ ∃ m', μ' = MM σ m' ml ∧ A1 m' m G ∧ offA mi m' m)) 0 0 122 [some (.ref m), o1, some (.int (nI i)), some (.int (nI k))] [] (MM σ m1 ml) := fun hi2 => loop_up _ (fun k hk ih2 m1 ho hr hb => by
      have hG1 := GM_off hG ho
      have h3 := (hw.2.2.2.1 i).1
      refine V_iload_n dX6_findReached_122 rfl rfl ?_
      refine V_aload_n dX6_findReached_123 rfl rfl ?_
      refine V_getR frX6_17 hM.1 rfl dX6_findReached_124 ?_
      refine V_iload_n dX6_findReached_127 rfl rfl ?_
      refine V_ialdE hM.2.2.1 i rfl (by omega) (by decide) ((hG1.2 i (by omega)).2.1) dX6_findReached_128 ?_
      refine V_N_ge (by omega) (by omega) 168 dX6_findReached_129 (by decide) (fun h129 => ?_) (fun h129 => ?_)
      · refine V_iinc1 dX6_findReached_168 rfl (Nat.le_of_ble_eq_true rfl) ?_
        refine V_goto 112 dX6_findReached_171 (by decide) ?_
        exact ih hi2 m1 _ _ ho hr (fun t ht => (hb t ht).trans (msk_congr (fun p _ => bp_congr ⟨fun h => by
          rcases h with h | ⟨h1, h2, h3⟩
          · exact ⟨h.1, by omega⟩
          · subst h1; exact ⟨⟨h2, List.mem_of_mem_take h3⟩, by omega⟩, fun h => by
          rcases Nat.lt_or_ge p i with q | q
          · exact Or.inl ⟨h.1, q⟩
          · have e : p = i := by omega
            subst e
            exact Or.inr ⟨rfl, h.1.1, by rw [List.take_of_length_le h129]; exact h.1.2⟩⟩)))
      · obtain ⟨e1, e2, e3⟩ := edg14 hw h129
        refine V_aload_n dX6_findReached_132 rfl rfl ?_
        refine V_getE frX6_155 hM.1 rfl hr dX6_findReached_133 ?_
        refine V_iload_n dX6_findReached_136 rfl rfl ?_
        refine V_cs1 (ctX6_hasM (by omega)) msX6_has lkX6_158 rfl rfl (Nat.le_of_ble_eq_true rfl) ⟨⟨Nat.le_of_ble_eq_true rfl, Nat.le_of_ble_eq_true rfl⟩, Nat.le_of_ble_eq_true rfl, Nat.le_of_ble_eq_true rfl⟩ dX6_findReached_137 ?_
        refine V_ifeqB 168 dX6_findReached_140 (by decide) (fun h140 => ?_) (fun h140 => ?_)
        · refine V_iinc1 dX6_findReached_168 rfl (Nat.le_of_ble_eq_true rfl) ?_
          refine V_goto 112 dX6_findReached_171 (by decide) ?_
          exact ih hi2 m1 _ _ ho hr (fun t ht => (hb t ht).trans (msk_congr (fun p _ => bp_congr ⟨fun h => by
            rcases h with h | ⟨h1, h2, h3⟩
            · exact ⟨h.1, by omega⟩
            · subst h1; exact ⟨⟨h2, List.mem_of_mem_take h3⟩, by omega⟩, fun h => by
            rcases Nat.lt_or_ge p i with q | q
            · exact Or.inl ⟨h.1, q⟩
            · have e : p = i := by omega
              subst e
              exact absurd h.1.1 (bp_f.mp h140)⟩)))
        · refine V_aload_n dX6_findReached_143 rfl rfl ?_
          refine V_getR frX6_47 hM.1 rfl dX6_findReached_144 ?_
          refine V_aload_n dX6_findReached_147 rfl rfl ?_
          refine V_getR frX6_25 hM.1 rfl dX6_findReached_148 ?_
          refine V_iload_n dX6_findReached_151 rfl rfl ?_
          refine V_aaldR hM.2.2.2.2.2.2.2.2.2.2.2.2.2.2.2.2.2.1 (i) rfl (show i < 14 by omega) (by decide) dX6_findReached_152 ?_
          refine V_iload_n dX6_findReached_153 rfl rfl ?_
          refine V_ialdE (hM.2.2.2.2.2.2.2.2.2.2.2.2.2.2.2.2.2.1.row (j := i) (show i < 14 by omega)) k rfl (by omega) (by decide) ((hG1.2 i (by omega)).2.2.2 k h129) dX6_findReached_154 ?_
          refine V_dup2 dX6_findReached_155 rfl rfl ?_
          refine V_ialdE hM.2.2.2.2.2.2.1 ((G.2.2 i).getD k 0) rfl (by omega) (by decide) (hb _ e2) dX6_findReached_156 ?_
          refine V_iconst (v := nI 1) dX6_findReached_157 (by decide) ?_
          refine V_iload_n dX6_findReached_158 rfl rfl ?_
          refine V_ishl dX6_findReached_159 ?_
          refine V_ior dX6_findReached_160 ?_
          refine V_top (or1 (by omega)) ?_
          refine V_iastN hM.2.2.2.2.2.2.1 ((G.2.2 i).getD k 0) rfl (by omega) (by decide) dX6_findReached_161 ?_
          refine V_iinc1 dX6_findReached_162 rfl (Nat.le_of_ble_eq_true rfl) ?_
          refine V_goto 122 dX6_findReached_165 (by decide) ?_
          refine ih2 h129 _ (ho.u2 (Or.inr (by omega))) ((u2_n _ _ (Or.inl (by omega))).trans hr) (fun t ht => ?_)
          by_cases e : t = (G.2.2 i).getD k 0
          · rw [← e]
            refine (u2_s _ _ _ _).trans (msk_congr (fun p _ => ?_))
            rw [show decide (p = i) = bp (p = i) from (bp_eq decide_eq_true_iff).symm, bp_or]
            refine bp_congr ⟨fun h => ?_, fun h => ?_⟩
            · rcases h with (h | ⟨h1, h2, h3⟩) | h
              · exact Or.inl h
              · exact Or.inr ⟨h1, h2, by rw [take_getD h129]; exact List.mem_append_left _ h3⟩
              · exact Or.inr ⟨h, bp_t.mp h140, by rw [take_getD h129, ← e]; exact List.mem_append_right _ (List.mem_singleton.mpr rfl)⟩
            · rcases h with h | ⟨h1, h2, h3⟩
              · exact Or.inl (Or.inl h)
              · exact Or.inr h1
          · refine (u2_n _ _ (Or.inr e)).trans ((hb t ht).trans (msk_congr (fun p _ => bp_congr (or_congr_right (and_congr_right (fun _ => and_congr_right (fun _ => ?_)))))))
            rw [take_getD h129, List.mem_append, List.mem_singleton]
            exact ⟨Or.inl, fun h => h.resolve_right e⟩
      )
    refine V_iload_n dX6_findReached_112 rfl rfl ?_
    refine V_aload_n dX6_findReached_113 rfl rfl ?_
    refine V_getE frX6_7 hM.1 rfl ((GM_off hG ho).1) dX6_findReached_114 ?_
    refine V_N_ge (by omega) (by omega) 174 dX6_findReached_117 (by decide) (fun h117 => ?_) (fun h117 => ?_)
    · exact V_vretP rfl ⟨rfl, m1, rfl, ⟨hr, fun t ht => (hb t ht).trans (msk_congr (fun p _ => bp_congr ⟨fun h => h.1, fun h => ⟨h, by have := h.1.lt hw; omega⟩⟩))⟩, ho⟩ ⟨Nat.le_of_ble_eq_true rfl, Nat.le_of_ble_eq_true rfl⟩ dX6_findReached_174
    · refine V_iconst (v := nI 0) dX6_findReached_120 (by decide) ?_
      refine V_istore_n dX6_findReached_121 rfl (Nat.le_of_ble_eq_true rfl) ?_
      exact lpK h117 0 (Nat.zero_le _) m1 ho hr (fun t ht => (hb t ht).trans (msk_congr (fun p _ => bp_congr ⟨Or.inl, fun h => h.elim id (fun h => by cases h.2.2)⟩)))
    )
  have lpZ : ∀ i, i ≤ G.1 → ∀ m1 o1 o3, offA mi m1 m → m1 m 20 = msk (fun k => bp (Rc G k)) → (∀ t, t < i → m1 (m + 47) t = nI 0) → V κ (phiP κ mrX6_findReached 2 0 0 (fun o μ' => o = .inl none ∧ ∃ m', μ' = MM σ m' ml ∧ A1 m' m G ∧ offA mi m' m)) 0 0 89 [some (.ref m), o1, some (.int (nI i)), o3] [] (MM σ m1 ml) := loop_up _ (fun i hi ih m1 o1 o3 ho hr hb => by
    refine V_iload_n dX6_findReached_89 rfl rfl ?_
    refine V_aload_n dX6_findReached_90 rfl rfl ?_
    refine V_getE frX6_7 hM.1 rfl ((GM_off hG ho).1) dX6_findReached_91 ?_
    refine V_N_ge (by omega) (by omega) 110 dX6_findReached_94 (by decide) (fun h94 => ?_) (fun h94 => ?_)
    · refine V_iconst (v := nI 0) dX6_findReached_110 (by decide) ?_
      refine V_istore_n dX6_findReached_111 rfl (Nat.le_of_ble_eq_true rfl) ?_
      exact lpE 0 (Nat.zero_le _) m1 _ _ ho hr (fun t ht => (hb t (by omega)).trans (msk_eq0.mpr (fun p _ => bp_neg (fun h => absurd h.2 (Nat.not_lt_zero p)))).symm)
    · refine V_aload_n dX6_findReached_97 rfl rfl ?_
      refine V_getR frX6_47 hM.1 rfl dX6_findReached_98 ?_
      refine V_iload_n dX6_findReached_101 rfl rfl ?_
      refine V_iconst (v := nI 0) dX6_findReached_102 (by decide) ?_
      refine V_iastN hM.2.2.2.2.2.2.1 i rfl (by omega) (by decide) dX6_findReached_103 ?_
      refine V_iinc1 dX6_findReached_104 rfl (Nat.le_of_ble_eq_true rfl) ?_
      refine V_goto 89 dX6_findReached_107 (by decide) ?_
      exact ih h94 _ _ _ (ho.u2 (Or.inr (by omega))) ((u2_n _ _ (Or.inl (by omega))).trans hr) (fun t ht => by
        by_cases e : t = i
        · subst e; exact u2_s _ _ _ _
        · exact (u2_n _ _ (Or.inr e)).trans (hb t (by omega)))
    )
  have pass : ∀ (P0 : Nat → Bool) (n : Nat), (∀ P l o2 o3, (l ≠ msk P → 14 < cnt P 14 + n) → (∀ k, k < 14 → P k = true → Rc G k) → P 0 = true → (l = msk P → ∀ a b, a < 14 → P a = true → Ed G a b → P b = true) → V κ (phiP κ mrX6_findReached 2 0 0 (fun o μ' => o = .inl none ∧ ∃ m', μ' = MM σ m' ml ∧ A1 m' m G ∧ offA mi m' m)) 0 0 7 [some (.ref m), some (.int l), o2, o3] [] (MM σ (u2 mi m 20 (msk P)) ml)) → 14 < cnt P0 14 + (n + 1) → ∀ i, i ≤ G.1 → ∀ P o3, (∀ k, k < 14 → P0 k = true → P k = true) → (∀ k, k < 14 → P k = true → Rc G k) → P 0 = true → (∀ a b, a < i → P0 a = true → Ed G a b → P b = true) → V κ (phiP κ mrX6_findReached 2 0 0 (fun o μ' => o = .inl none ∧ ∃ m', μ' = MM σ m' ml ∧ A1 m' m G ∧ offA mi m' m)) 0 0 22 [some (.ref m), some (.int (msk P0)), some (.int (nI i)), o3] [] (MM σ (u2 mi m 20 (msk P)) ml) := fun P0 n IH hn => loop_up _ (fun i hi ih P o3 j1 j2 j3 j4 => by
    have lpK : i < G.1 → ∀ k, k ≤ (G.2.2 i).length → ∀ P, (∀ k, k < 14 → P0 k = true → P k = true) → (∀ k, k < 14 → P k = true → Rc G k) → P 0 = true → (∀ a b, a < i → P0 a = true → Ed G a b → P b = true) → (∀ z, z < k → P ((G.2.2 i).getD z 0) = true) → V κ (phiP κ mrX6_findReached 2 0 0 (fun o μ' => o = .inl none ∧ ∃ m', μ' = MM σ m' ml ∧ A1 m' m G ∧ offA mi m' m)) 0 0 32 [some (.ref m), some (.int (msk P0)), some (.int (nI i)), some (.int (nI k))] [] (MM σ (u2 mi m 20 (msk P)) ml) := fun hi2 => loop_up _ (fun k hk ih2 P j1 j2 j3 j4 j5 => by
      have hG1 : GM (u2 mi m 20 (msk P)) m G := hG.keep (fun a i q => u2_n _ _ (by omega))
      have h3 := (hw.2.2.2.1 i).1
      refine V_iload_n dX6_findReached_32 rfl rfl ?_
      refine V_aload_n dX6_findReached_33 rfl rfl ?_
      refine V_getR frX6_17 hM.1 rfl dX6_findReached_34 ?_
      refine V_iload_n dX6_findReached_37 rfl rfl ?_
      refine V_ialdE hM.2.2.1 i rfl (by omega) (by decide) ((hG1.2 i (by omega)).2.1) dX6_findReached_38 ?_
      refine V_N_ge (by omega) (by omega) 78 dX6_findReached_39 (by decide) (fun h39 => ?_) (fun h39 => ?_)
      · refine V_iinc1 dX6_findReached_78 rfl (Nat.le_of_ble_eq_true rfl) ?_
        refine V_goto 22 dX6_findReached_81 (by decide) ?_
        exact ih hi2 P _ j1 j2 j3 (fun a b ha hp he => by
          rcases Nat.lt_or_ge a i with q | q
          · exact j4 a b q hp he
          · have e : a = i := by omega
            subst e
            obtain ⟨z, z1, z2⟩ := edg_all he
            rw [← z2]; exact j5 z (by omega))
      · obtain ⟨e1, e2, e3⟩ := edg14 hw h39
        refine V_aload_n dX6_findReached_42 rfl rfl ?_
        refine V_getE frX6_155 hM.1 rfl (u2_s _ _ _ _) dX6_findReached_43 ?_
        refine V_iload_n dX6_findReached_46 rfl rfl ?_
        refine V_cs1 (ctX6_hasM (by omega)) msX6_has lkX6_158 rfl rfl (Nat.le_of_ble_eq_true rfl) ⟨⟨Nat.le_of_ble_eq_true rfl, Nat.le_of_ble_eq_true rfl⟩, Nat.le_of_ble_eq_true rfl, Nat.le_of_ble_eq_true rfl⟩ dX6_findReached_47 ?_
        refine V_ifeqB 78 dX6_findReached_50 (by decide) (fun h50 => ?_) (fun h50 => ?_)
        · refine V_iinc1 dX6_findReached_78 rfl (Nat.le_of_ble_eq_true rfl) ?_
          refine V_goto 22 dX6_findReached_81 (by decide) ?_
          exact ih hi2 P _ j1 j2 j3 (fun a b ha hp he => by
            rcases Nat.lt_or_ge a i with q | q
            · exact j4 a b q hp he
            · have e : a = i := by omega
              subst e
              rw [j1 a (by omega) hp] at h50
              cases h50)
        · refine V_aload_n dX6_findReached_53 rfl rfl ?_
          refine V_dup dX6_findReached_54 rfl ?_
          refine V_getE frX6_155 hM.1 rfl (u2_s _ _ _ _) dX6_findReached_55 ?_
          refine V_iconst (v := nI 1) dX6_findReached_58 (by decide) ?_
          refine V_aload_n dX6_findReached_59 rfl rfl ?_
          refine V_getR frX6_25 hM.1 rfl dX6_findReached_60 ?_
          refine V_iload_n dX6_findReached_63 rfl rfl ?_
          refine V_aaldR hM.2.2.2.2.2.2.2.2.2.2.2.2.2.2.2.2.2.1 (i) rfl (show i < 14 by omega) (by decide) dX6_findReached_64 ?_
          refine V_iload_n dX6_findReached_65 rfl rfl ?_
          refine V_ialdE (hM.2.2.2.2.2.2.2.2.2.2.2.2.2.2.2.2.2.1.row (j := i) (show i < 14 by omega)) k rfl (by omega) (by decide) ((hG1.2 i (by omega)).2.2.2 k h39) dX6_findReached_66 ?_
          refine V_ishl dX6_findReached_67 ?_
          refine V_ior dX6_findReached_68 ?_
          refine V_top (or1 (by omega)) ?_
          refine V_putI fpX6_155 rfl rfl hM.1 rfl dX6_findReached_69 ?_
          refine V_iinc1 dX6_findReached_72 rfl (Nat.le_of_ble_eq_true rfl) ?_
          refine V_goto 32 dX6_findReached_75 (by decide) ?_
          exact V.cM (ih2 h39 (fun z => P z || decide (z = (G.2.2 i).getD k 0)) (fun z hz hp => by rw [j1 z hz hp]; rfl) (fun z hz hp => by
            rcases Bool.or_eq_true _ _ ▸ hp with q | q
            · exact j2 z hz q
            · rw [of_decide_eq_true q]; exact (j2 i (by omega) h50).step e3) (by rw [j3]; rfl) (fun a b ha hp he => by rw [j4 a b ha hp he]; rfl) (fun z hz => by
            by_cases e : z = k
            · subst e; simp
            · rw [j5 z (by omega)]; rfl)) (congrArg (fun f => MM σ f ml) (u2_uu mi m 20 _ _))
      )
    refine V_iload_n dX6_findReached_22 rfl rfl ?_
    refine V_aload_n dX6_findReached_23 rfl rfl ?_
    refine V_getE frX6_7 hM.1 rfl ((u2_n _ _ (Or.inr (by decide))).trans hG.1) dX6_findReached_24 ?_
    refine V_N_ge (by omega) (by omega) 84 dX6_findReached_27 (by decide) (fun h27 => ?_) (fun h27 => ?_)
    · refine V_goto 7 dX6_findReached_84 (by decide) ?_
      exact IH P (msk P0) _ _ (fun hne => by
        obtain ⟨k, hk, hk2⟩ := msk_ne hne
        have hc := cnt_lt (P := P0) (Q := P) 14 j1 ⟨k, hk, by
          cases hp : P0 k with
          | true => exact absurd (hp.trans (j1 k hk hp).symm) hk2
          | false => exact ⟨by cases hq : P k with | true => rfl | false => exact absurd (hp.trans hq.symm) hk2, rfl⟩⟩
        omega) j2 j3 (fun he a b ha hp hed => j4 a b (by have := (j2 a ha hp).lt hw; omega) (by rw [msk_inj he a ha]; exact hp) hed)
    · refine V_iconst (v := nI 0) dX6_findReached_30 (by decide) ?_
      refine V_istore_n dX6_findReached_31 rfl (Nat.le_of_ble_eq_true rfl) ?_
      exact lpK h27 0 (Nat.zero_le _) P j1 j2 j3 j4 (fun z hz => absurd hz (Nat.not_lt_zero z))
    )
  have lp : ∀ n P l o2 o3, (l ≠ msk P → 14 < cnt P 14 + n) → (∀ k, k < 14 → P k = true → Rc G k) → P 0 = true → (l = msk P → ∀ a b, a < 14 → P a = true → Ed G a b → P b = true) → V κ (phiP κ mrX6_findReached 2 0 0 (fun o μ' => o = .inl none ∧ ∃ m', μ' = MM σ m' ml ∧ A1 m' m G ∧ offA mi m' m)) 0 0 7 [some (.ref m), some (.int l), o2, o3] [] (MM σ (u2 mi m 20 (msk P)) ml) := by
    intro n
    induction n with
    | zero =>
      intro P l o2 o3 hf j2 j3 j4
      have hle := cnt_le P 14
      refine V_iload_n dX6_findReached_7 rfl rfl ?_
      refine V_aload_n dX6_findReached_8 rfl rfl ?_
      refine V_getE frX6_155 hM.1 rfl (u2_s _ _ _ _) dX6_findReached_9 ?_
      refine V_icmp_eq 87 dX6_findReached_12 (by decide) (fun h12 => ?_) (fun h12 => ?_)
      · refine V_iconst (v := nI 0) dX6_findReached_87 (by decide) ?_
        refine V_istore_n dX6_findReached_88 rfl (Nat.le_of_ble_eq_true rfl) ?_
        refine V.cM (lpZ 0 (Nat.zero_le _) (u2 mi m 20 (msk P)) _ _ (offA.rf.u2 (Or.inl ⟨rfl, rfl⟩)) ?_ (fun t ht => absurd ht (Nat.not_lt_zero t))) rfl
        rw [u2_s]
        exact Cl.mask (fun a h => Rc.lt14 hw h) j2 (fun a ha h => by rw [h]; exact j3) (fun a b ha hb hp he => j4 h12 a b ha hp he)
      · exfalso
        have := hf h12
        omega

    | succ n IH =>
      intro P l o2 o3 hf j2 j3 j4
      refine V_iload_n dX6_findReached_7 rfl rfl ?_
      refine V_aload_n dX6_findReached_8 rfl rfl ?_
      refine V_getE frX6_155 hM.1 rfl (u2_s _ _ _ _) dX6_findReached_9 ?_
      refine V_icmp_eq 87 dX6_findReached_12 (by decide) (fun h12 => ?_) (fun h12 => ?_)
      · refine V_iconst (v := nI 0) dX6_findReached_87 (by decide) ?_
        refine V_istore_n dX6_findReached_88 rfl (Nat.le_of_ble_eq_true rfl) ?_
        refine V.cM (lpZ 0 (Nat.zero_le _) (u2 mi m 20 (msk P)) _ _ (offA.rf.u2 (Or.inl ⟨rfl, rfl⟩)) ?_ (fun t ht => absurd ht (Nat.not_lt_zero t))) rfl
        rw [u2_s]
        exact Cl.mask (fun a h => Rc.lt14 hw h) j2 (fun a ha h => by rw [h]; exact j3) (fun a b ha hb hp he => j4 h12 a b ha hp he)
      · refine V_aload_n dX6_findReached_15 rfl rfl ?_
        refine V_getE frX6_155 hM.1 rfl (u2_s _ _ _ _) dX6_findReached_16 ?_
        refine V_istore_n dX6_findReached_19 rfl (Nat.le_of_ble_eq_true rfl) ?_
        refine V_iconst (v := nI 0) dX6_findReached_20 (by decide) ?_
        refine V_istore_n dX6_findReached_21 rfl (Nat.le_of_ble_eq_true rfl) ?_
        exact pass P n IH (hf h12) 0 (Nat.zero_le _) P _ (fun _ _ h => h) j2 j3 (fun a b ha => absurd ha (Nat.not_lt_zero a))

  refine V_aload_n dX6_findReached_0 rfl rfl ?_
  refine V_iconst (v := nI 1) dX6_findReached_1 (by decide) ?_
  refine V_putI fpX6_155 rfl rfl hM.1 rfl dX6_findReached_2 ?_
  refine V_iconst (v := nI 0) dX6_findReached_5 (by decide) ?_
  refine V_istore_n dX6_findReached_6 rfl (Nat.le_of_ble_eq_true rfl) ?_
  exact V.cM (lp 15 (fun k => decide (k = 0)) _ _ _ (fun _ => by omega) (fun k _ h => by rw [of_decide_eq_true h]; exact Rc.zero) rfl (fun h => absurd h (by decide))) (by rw [show msk (fun k => decide (k = 0)) = nI 1 by decide])

def A2d (mi : Nat → Nat → Int32) (m : Nat) (G : Gr) : Prop := ∀ b, Rc G b → mi (m + 48) b = msk (fun x => bp (Dm G x b))
/-- sets that are on the way to the dominators -/
def DI (G : Gr) (dm : Nat → Nat → Bool) : Prop := (∀ b x, Rc G b → Dm G x b → dm b x = true) ∧ (∀ b x, Rc G b → x < 14 → dm b x = true → Rc G x) ∧ (∀ x, x < 14 → dm 0 x = true → x = 0) ∧ ∀ b x, Rc G b → b ≠ 0 → x < 14 → (x = b ∨ (Rc G x ∧ ∀ p, Pd G p b → dm p x = true)) → dm b x = true
def DF (dm : Nat → Nat → Bool) (G : Gr) (b : Nat) : Prop := ∀ x, x < 14 → dm b x = true → x = b ∨ ∀ p, Pd G p b → dm p x = true
noncomputable def DT (G : Gr) (dm : Nat → Nat → Bool) : Nat := sm (fun b => if bp (Rc G b) = true then cnt (dm b) 14 else 0) 14
theorem DI.fix {dm : Nat → Nat → Bool} (hw : Wf G) (h : DI G dm) (hf : ∀ b, Rc G b → b ≠ 0 → DF dm G b) {b x : Nat} (hb : Rc G b) (hx : x < 14) : dm b x = true ↔ Dm G x b := by
  refine ⟨fun hd => ⟨h.2.1 b x hb hx hd, hb, fun hr => ?_⟩, h.1 b x hb⟩
  refine Cl.rec' (C := fun k => dm k x = true → False) (fun a ha hd => ?_) (fun a c ha hc ht hd => ?_) hr hd
  · rw [ha.1] at hd
    exact ha.2 ((h.2.2.1 x hx ((congrFun (congrArg dm rfl) x).trans hd)).symm ▸ ha.1)
  · have hRa : Rc G a := RW.rc ha
    have hRc : Rc G c := hRa.step ht.1
    rcases hf c hRc (by have := (Ed.lt hw ht.1).2.1; omega) x hx hd with q | q
    · exact ht.2 q.symm
    · exact hc (q a ⟨hRa, ht.1⟩)
theorem sm_mono {f g : Nat → Nat} : ∀ n, (∀ k, k < n → f k ≤ g k) → sm f n ≤ sm g n
  | 0, _ => Nat.le_refl _
  | n + 1, h => by have := sm_mono n (fun k hk => h k (by omega)); have := h n (by omega); rw [sm, sm]; omega
theorem sm_lt {f g : Nat → Nat} : ∀ n, (∀ k, k < n → f k ≤ g k) → (∃ k, k < n ∧ f k < g k) → sm f n < sm g n
  | 0, _, ⟨k, hk, _⟩ => absurd hk (Nat.not_lt_zero k)
  | n + 1, h, ⟨k, hk, hl⟩ => by
    rw [sm, sm]
    by_cases e : k = n
    · subst e; have := sm_mono k (fun j hj => h j (by omega)); omega
    · have := sm_lt n (fun j hj => h j (by omega)) ⟨k, by omega, hl⟩; have := h n (by omega); omega
/-- one step: the set of block i becomes what its predecessors' sets say -/
noncomputable def dSt (G : Gr) (dm : Nat → Nat → Bool) (i : Nat) : Nat → Nat → Bool := fun b x => if b = i then bp (x = i ∨ (Rc G x ∧ ∀ p, Pd G p i → dm p x = true)) else dm b x
theorem dSt_le {dm : Nat → Nat → Bool} (h : DI G dm) {i : Nat} (h0 : i ≠ 0) {b x : Nat} (hb : Rc G b) (hx : x < 14) (hd : dSt G dm i b x = true) : dm b x = true := by
  unfold dSt at hd
  split at hd
  · next e => subst e; exact h.2.2.2 b x hb h0 hx (bp_t.mp hd)
  · exact hd
theorem DI.step {dm : Nat → Nat → Bool} (hw : Wf G) (h : DI G dm) {i : Nat} (h0 : i ≠ 0) (hR : Rc G i) : DI G (dSt G dm i) := by
  refine ⟨fun b x hb hd => ?_, fun b x hb hx hd => h.2.1 b x hb hx (dSt_le h h0 hb hx hd), fun x hx hd => h.2.2.1 x hx (dSt_le h h0 Rc.zero hx hd), fun b x hb hb0 hx hd => ?_⟩
  · unfold dSt
    split
    · next e =>
      subst e
      refine bp_pos ?_
      by_cases e : x = b
      · exact Or.inl e
      · exact Or.inr ⟨hd.1, fun p hp => h.1 p x hp.1 (hd.pred e hp)⟩
    · exact h.1 b x hb hd
  · have hd' : x = b ∨ (Rc G x ∧ ∀ p, Pd G p b → dm p x = true) := hd.imp_right (fun q => ⟨q.1, fun p hp => dSt_le h h0 hp.1 hx (q.2 p hp)⟩)
    unfold dSt
    split
    · next e => subst e; exact bp_pos hd'
    · exact h.2.2.2 b x hb hb0 hx hd'
theorem DT_step {dm : Nat → Nat → Bool} (hw : Wf G) (h : DI G dm) {i : Nat} (h0 : i ≠ 0) (hR : Rc G i) : DT G (dSt G dm i) ≤ DT G dm ∧ ((∃ x, x < 14 ∧ dSt G dm i i x ≠ dm i x) → DT G (dSt G dm i) < DT G dm) := by
  have le : ∀ b, b < 14 → (if bp (Rc G b) = true then cnt (dSt G dm i b) 14 else 0) ≤ (if bp (Rc G b) = true then cnt (dm b) 14 else 0) := fun b _ => by
    cases hb : bp (Rc G b) with
    | false => exact Nat.le_refl _
    | true => rw [if_pos rfl, if_pos rfl]; exact cnt_sub 14 (fun x hx hd => dSt_le h h0 (bp_t.mp hb) hx hd)
  refine ⟨sm_mono 14 le, fun ⟨x, hx, hne⟩ => sm_lt 14 le ⟨i, hR.lt14 hw, ?_⟩⟩
  rw [if_pos (bp_pos hR), if_pos (bp_pos hR)]
  refine cnt_lt 14 (fun y hy hd => dSt_le h h0 hR hy hd) ⟨x, hx, ?_⟩
  cases hq : dSt G dm i i x with
  | true => exact absurd ((dSt_le h h0 hR hx hq).symm) (by rw [hq] at hne; exact fun q => hne q)
  | false =>
    rw [hq] at hne
    exact ⟨by cases hd : dm i x with | true => rfl | false => exact absurd hd.symm hne, rfl⟩
theorem ctX6_findDominators (hM : ML σ m) (hG : GM mi m G) (hw : Wf G) (h1 : A1 mi m G) : CtP κ 0 0 2 mrX6_findDominators [.ref m] (MM σ mi ml) (fun o μ' => o = .inl none ∧ ∃ m', μ' = MM σ m' ml ∧ A2d m' m G ∧ ∀ a i, a ≠ m + 48 → m' a i = mi a i) := by
  refine CtP.of rfl (by simp [Value.category]) (Nat.le_of_ble_eq_true rfl) ?_
  have h14 := hw.2.1
  have h1g := hw.1
  have pass : ∀ (dm0 : Nat → Nat → Bool) (n : Nat), (∀ dm ch m1 o2 o3 o4, (ch = true → DT G dm < n) → (∀ a i, a ≠ m + 48 → m1 a i = mi a i) → (∀ b, Rc G b → m1 (m + 48) b = msk (dm b)) → DI G dm → (ch = false → ∀ b, Rc G b → b ≠ 0 → DF dm G b) → V κ (phiP κ mrX6_findDominators 2 0 0 (fun o μ' => o = .inl none ∧ ∃ m', μ' = MM σ m' ml ∧ A2d m' m G ∧ ∀ a i, a ≠ m + 48 → m' a i = mi a i)) 0 0 36 [some (.ref m), some (.int (bI ch)), o2, o3, o4] [] (MM σ m1 ml)) → DT G dm0 < n + 1 → ∀ i, i ≤ G.1 → 1 ≤ i → ∀ dm ch m1 o3 o4, (∀ a i, a ≠ m + 48 → m1 a i = mi a i) → (∀ b, Rc G b → m1 (m + 48) b = msk (dm b)) → DI G dm → DT G dm ≤ DT G dm0 → (ch = true → DT G dm < DT G dm0) → (ch = false → ∀ b, b < i → Rc G b → b ≠ 0 → DF dm G b) → V κ (phiP κ mrX6_findDominators 2 0 0 (fun o μ' => o = .inl none ∧ ∃ m', μ' = MM σ m' ml ∧ A2d m' m G ∧ ∀ a i, a ≠ m + 48 → m' a i = mi a i)) 0 0 44 [some (.ref m), some (.int (bI ch)), some (.int (nI i)), o3, o4] [] (MM σ m1 ml) := fun dm0 n IH hn => loop_up _ (fun i hi ih hi1 dm ch m1 o3 o4 ho hr hD ht1 ht2 hfx => by
    have hG1 : GM m1 m G := hG.keep (fun a i q => ho a i (by omega))
    have h20 : m1 m 20 = msk (fun k => bp (Rc G k)) := (ho _ _ (by omega)).trans h1.1
    have h47 : i < G.1 → m1 (m + 47) i = msk (fun p => bp (Pd G p i)) := fun q => (ho _ _ (by omega)).trans (h1.2 i q)
    have lpF : i < G.1 → ∀ f, f ≤ G.1 → V κ (phiP κ mrX6_findDominators 2 0 0 (fun o μ' => o = .inl none ∧ ∃ m', μ' = MM σ m' ml ∧ A2d m' m G ∧ ∀ a i, a ≠ m + 48 → m' a i = mi a i)) 0 0 60 [some (.ref m), some (.int (bI ch)), some (.int (nI i)), some (.int (msk (fun x => bp (Rc G x ∧ ∀ p, p < f → Pd G p i → dm p x = true)))), some (.int (nI f))] [] (MM σ m1 ml) := fun hi2 => loop_up _ (fun f hf ih2 => by
      refine V_iload dX6_findDominators_60 rfl ?_
      refine V_aload_n dX6_findDominators_62 rfl rfl ?_
      refine V_getE frX6_7 hM.1 rfl hG1.1 dX6_findDominators_63 ?_
      refine V_N_ge (by omega) (by omega) 106 dX6_findDominators_66 (by decide) (fun h66 => ?_) (fun h66 => ?_)
      · refine V_iload_n dX6_findDominators_106 rfl rfl ?_
        refine V_iconst (v := nI 1) dX6_findDominators_107 (by decide) ?_
        refine V_iload_n dX6_findDominators_108 rfl rfl ?_
        refine V_ishl dX6_findDominators_109 ?_
        refine V_ior dX6_findDominators_110 ?_
        refine V_top (show _ = msk (fun x => bp (x = i ∨ (Rc G x ∧ ∀ p, Pd G p i → dm p x = true))) by
          refine (or1 (by omega)).trans (msk_congr (fun x _ => ?_))
          rw [show decide (x = i) = bp (x = i) from (bp_eq decide_eq_true_iff).symm, bp_or]
          exact bp_congr ⟨fun h => h.elim (fun h => Or.inr ⟨h.1, fun p hp => h.2 p (by have := hp.1.lt hw; omega) hp⟩) Or.inl, fun h => h.elim Or.inr (fun h => Or.inl ⟨h.1, fun p _ hp => h.2 p hp⟩)⟩) ?_
        refine V_istore_n dX6_findDominators_111 rfl (Nat.le_of_ble_eq_true rfl) ?_
        refine V_iload_n dX6_findDominators_112 rfl rfl ?_
        refine V_aload_n dX6_findDominators_113 rfl rfl ?_
        refine V_getE frX6_155 hM.1 rfl h20 dX6_findDominators_114 ?_
        refine V_iload_n dX6_findDominators_117 rfl rfl ?_
        refine V_cs1 (ctX6_hasM (by omega)) msX6_has lkX6_158 rfl rfl (Nat.le_of_ble_eq_true rfl) ⟨⟨Nat.le_of_ble_eq_true rfl, Nat.le_of_ble_eq_true rfl⟩, Nat.le_of_ble_eq_true rfl, Nat.le_of_ble_eq_true rfl⟩ dX6_findDominators_118 ?_
        refine V_ifeqB 138 dX6_findDominators_121 (by decide) (fun h121 => ?_) (fun h121 => ?_)
        · refine V_iconst (v := nI 0) dX6_findDominators_138 (by decide) ?_
          refine V_ior dX6_findDominators_139 ?_
          refine V_top (bI_or ch false) ?_
          refine V_istore_n dX6_findDominators_140 rfl (Nat.le_of_ble_eq_true rfl) ?_
          refine V_aload_n dX6_findDominators_141 rfl rfl ?_
          refine V_getR frX6_50 hM.1 rfl dX6_findDominators_142 ?_
          refine V_iload_n dX6_findDominators_145 rfl rfl ?_
          refine V_aload_n dX6_findDominators_146 rfl rfl ?_
          refine V_getE frX6_155 hM.1 rfl h20 dX6_findDominators_147 ?_
          refine V_iload_n dX6_findDominators_150 rfl rfl ?_
          refine V_cs1 (ctX6_hasM (by omega)) msX6_has lkX6_158 rfl rfl (Nat.le_of_ble_eq_true rfl) ⟨⟨Nat.le_of_ble_eq_true rfl, Nat.le_of_ble_eq_true rfl⟩, Nat.le_of_ble_eq_true rfl, Nat.le_of_ble_eq_true rfl⟩ dX6_findDominators_151 ?_
          refine V_ifeqB 161 dX6_findDominators_154 (by decide) (fun h154 => ?_) (fun h154 => absurd (h154.symm.trans h121) (by decide))
          refine V_iconst (v := nI 0) dX6_findDominators_161 (by decide) ?_
          refine V_iastN hM.2.2.2.2.2.2.2.1 i rfl (by omega) (by decide) dX6_findDominators_162 ?_
          refine V_iinc1 dX6_findDominators_163 rfl (Nat.le_of_ble_eq_true rfl) ?_
          refine V_goto 44 dX6_findDominators_166 (by decide) ?_
          have hnR : ¬ Rc G i := bp_f.mp h121
          exact V.cL (ih hi2 (by omega) dm ch _ _ _ (fun a j q => (u2_n _ _ (Or.inl q)).trans (ho a j q)) (fun b hb => (u2_n _ _ (Or.inr (show b ≠ i from fun e => hnR (by rw [← e]; exact hb)))).trans (hr b hb)) hD ht1 ht2 (fun q b hb hR h0 => by
            rcases Nat.lt_or_ge b i with z | z
            · exact hfx q b z hR h0
            · have e : b = i := by omega
              exact absurd (e ▸ hR) hnR)) (by rw [Bool.or_false]; rfl)
        · refine V_iload_n dX6_findDominators_124 rfl rfl ?_
          refine V_aload_n dX6_findDominators_125 rfl rfl ?_
          refine V_getR frX6_50 hM.1 rfl dX6_findDominators_126 ?_
          refine V_iload_n dX6_findDominators_129 rfl rfl ?_
          refine V_ialdE hM.2.2.2.2.2.2.2.1 i rfl (by omega) (by decide) (hr i (bp_t.mp h121)) dX6_findDominators_130 ?_
          refine V_icmp_eq 138 dX6_findDominators_131 (by decide) (fun h131 => ?_) (fun h131 => ?_)
          · refine V_iconst (v := nI 0) dX6_findDominators_138 (by decide) ?_
            refine V_ior dX6_findDominators_139 ?_
            refine V_top (bI_or ch false) ?_
            refine V_istore_n dX6_findDominators_140 rfl (Nat.le_of_ble_eq_true rfl) ?_
            refine V_aload_n dX6_findDominators_141 rfl rfl ?_
            refine V_getR frX6_50 hM.1 rfl dX6_findDominators_142 ?_
            refine V_iload_n dX6_findDominators_145 rfl rfl ?_
            refine V_aload_n dX6_findDominators_146 rfl rfl ?_
            refine V_getE frX6_155 hM.1 rfl h20 dX6_findDominators_147 ?_
            refine V_iload_n dX6_findDominators_150 rfl rfl ?_
            refine V_cs1 (ctX6_hasM (by omega)) msX6_has lkX6_158 rfl rfl (Nat.le_of_ble_eq_true rfl) ⟨⟨Nat.le_of_ble_eq_true rfl, Nat.le_of_ble_eq_true rfl⟩, Nat.le_of_ble_eq_true rfl, Nat.le_of_ble_eq_true rfl⟩ dX6_findDominators_151 ?_
            refine V_ifeqB 161 dX6_findDominators_154 (by decide) (fun h154 => absurd (h154.symm.trans h121) (by decide)) (fun h154 => ?_)
            refine V_iload_n dX6_findDominators_157 rfl rfl ?_
            refine V_goto 162 dX6_findDominators_158 (by decide) ?_
            refine V_iastN hM.2.2.2.2.2.2.2.1 i rfl (by omega) (by decide) dX6_findDominators_162 ?_
            refine V_iinc1 dX6_findDominators_163 rfl (Nat.le_of_ble_eq_true rfl) ?_
            refine V_goto 44 dX6_findDominators_166 (by decide) ?_
            have hR : Rc G i := bp_t.mp h121
            have h0 : i ≠ 0 := by omega
            have hst := DT_step hw hD h0 hR
            have hrr : ∀ b, Rc G b → u2 m1 (m + 48) i (msk (fun x => bp (x = i ∨ (Rc G x ∧ ∀ p, Pd G p i → dm p x = true)))) (m + 48) b = msk (dSt G dm i b) := fun b hb => by
              by_cases e : b = i
              · subst e; rw [u2_s]; exact msk_congr (fun x _ => by unfold dSt; rw [if_pos rfl])
              · rw [u2_n _ _ (Or.inr e), hr b hb]; exact msk_congr (fun x _ => by unfold dSt; rw [if_neg e])
            have heq : ∀ x, x < 14 → dSt G dm i i x = dm i x := fun x hx => by
              have := msk_inj h131 x hx
              unfold dSt; rw [if_pos rfl]; exact this
            have hall : ∀ b x, x < 14 → dSt G dm i b x = dm b x := fun b x hx => by
              by_cases e : b = i
              · subst e; exact heq x hx
              · unfold dSt; rw [if_neg e]
            exact V.cL (ih hi2 (by omega) (dSt G dm i) ch _ _ _ (fun a j q => (u2_n _ _ (Or.inl q)).trans (ho a j q)) hrr (hD.step hw h0 hR) (by omega) (fun q => by have := ht2 q; omega) (fun q b hb hRb hb0 => by
              intro x hx hd
              rcases Nat.lt_or_ge b i with z | z
              · rw [hall b x hx] at hd
                exact (hfx q b z hRb hb0 x hx hd).imp_right (fun g p hp => (hall p x hx).trans (g p hp))
              · have e : b = i := by omega
                subst e
                unfold dSt at hd
                rw [if_pos rfl] at hd
                exact (bp_t.mp hd).imp_right (fun g p hp => (hall p x hx).trans (g.2 p hp)))) (by rw [Bool.or_false]; rfl)
          · refine V_iconst (v := nI 1) dX6_findDominators_134 (by decide) ?_
            refine V_goto 139 dX6_findDominators_135 (by decide) ?_
            refine V_ior dX6_findDominators_139 ?_
            refine V_top (bI_or ch true) ?_
            refine V_istore_n dX6_findDominators_140 rfl (Nat.le_of_ble_eq_true rfl) ?_
            refine V_aload_n dX6_findDominators_141 rfl rfl ?_
            refine V_getR frX6_50 hM.1 rfl dX6_findDominators_142 ?_
            refine V_iload_n dX6_findDominators_145 rfl rfl ?_
            refine V_aload_n dX6_findDominators_146 rfl rfl ?_
            refine V_getE frX6_155 hM.1 rfl h20 dX6_findDominators_147 ?_
            refine V_iload_n dX6_findDominators_150 rfl rfl ?_
            refine V_cs1 (ctX6_hasM (by omega)) msX6_has lkX6_158 rfl rfl (Nat.le_of_ble_eq_true rfl) ⟨⟨Nat.le_of_ble_eq_true rfl, Nat.le_of_ble_eq_true rfl⟩, Nat.le_of_ble_eq_true rfl, Nat.le_of_ble_eq_true rfl⟩ dX6_findDominators_151 ?_
            refine V_ifeqB 161 dX6_findDominators_154 (by decide) (fun h154 => absurd (h154.symm.trans h121) (by decide)) (fun h154 => ?_)
            refine V_iload_n dX6_findDominators_157 rfl rfl ?_
            refine V_goto 162 dX6_findDominators_158 (by decide) ?_
            refine V_iastN hM.2.2.2.2.2.2.2.1 i rfl (by omega) (by decide) dX6_findDominators_162 ?_
            refine V_iinc1 dX6_findDominators_163 rfl (Nat.le_of_ble_eq_true rfl) ?_
            refine V_goto 44 dX6_findDominators_166 (by decide) ?_
            have hR : Rc G i := bp_t.mp h121
            have h0 : i ≠ 0 := by omega
            have hst := DT_step hw hD h0 hR
            have hrr : ∀ b, Rc G b → u2 m1 (m + 48) i (msk (fun x => bp (x = i ∨ (Rc G x ∧ ∀ p, Pd G p i → dm p x = true)))) (m + 48) b = msk (dSt G dm i b) := fun b hb => by
              by_cases e : b = i
              · subst e; rw [u2_s]; exact msk_congr (fun x _ => by unfold dSt; rw [if_pos rfl])
              · rw [u2_n _ _ (Or.inr e), hr b hb]; exact msk_congr (fun x _ => by unfold dSt; rw [if_neg e])
            have hlt := hst.2 (by
              obtain ⟨x, hx, hne⟩ := msk_ne h131
              refine ⟨x, hx, fun q => hne ?_⟩
              unfold dSt at q; rw [if_pos rfl] at q; exact q)
            exact V.cL (ih hi2 (by omega) (dSt G dm i) true _ _ _ (fun a j q => (u2_n _ _ (Or.inl q)).trans (ho a j q)) hrr (hD.step hw h0 hR) (by omega) (fun _ => by omega) (fun q => by cases q)) (by rw [Bool.or_true]; rfl)
      · refine V_iload_n dX6_findDominators_69 rfl rfl ?_
        refine V_aload_n dX6_findDominators_70 rfl rfl ?_
        refine V_getR frX6_47 hM.1 rfl dX6_findDominators_71 ?_
        refine V_iload_n dX6_findDominators_74 rfl rfl ?_
        refine V_ialdE hM.2.2.2.2.2.2.1 i rfl (by omega) (by decide) (h47 hi2) dX6_findDominators_75 ?_
        refine V_iload dX6_findDominators_76 rfl ?_
        refine V_cs1 (ctX6_hasM (by omega)) msX6_has lkX6_158 rfl rfl (Nat.le_of_ble_eq_true rfl) ⟨⟨Nat.le_of_ble_eq_true rfl, Nat.le_of_ble_eq_true rfl⟩, Nat.le_of_ble_eq_true rfl, Nat.le_of_ble_eq_true rfl⟩ dX6_findDominators_78 ?_
        refine V_ifeqB 94 dX6_findDominators_81 (by decide) (fun h81 => ?_) (fun h81 => ?_)
        · refine V_aload_n dX6_findDominators_94 rfl rfl ?_
          refine V_getE frX6_155 hM.1 rfl h20 dX6_findDominators_95 ?_
          refine V_iand dX6_findDominators_98 ?_
          refine V_top (msk_and _ _) ?_
          refine V_istore_n dX6_findDominators_99 rfl (Nat.le_of_ble_eq_true rfl) ?_
          refine V_iinc1 dX6_findDominators_100 rfl (Nat.le_of_ble_eq_true rfl) ?_
          refine V_goto 60 dX6_findDominators_103 (by decide) ?_
          exact V.cL (ih2 h66) (by
            rw [show msk (fun k => bp (Rc G k ∧ ∀ p, p < f → Pd G p i → dm p k = true) && bp (Rc G k)) = msk (fun x => bp (Rc G x ∧ ∀ p, p < f + 1 → Pd G p i → dm p x = true)) from msk_congr (fun x _ => by
              rw [bp_and]
              exact bp_congr ⟨fun h => ⟨h.2, fun p hp hpd => by
                rcases Nat.lt_or_ge p f with q | q
                · exact h.1.2 p q hpd
                · have e : p = f := by omega
                  subst e; exact absurd hpd (bp_f.mp h81)⟩, fun h => ⟨⟨h.1, fun p hp hpd => h.2 p (by omega) hpd⟩, h.1⟩⟩)]; rfl)
        · refine V_aload_n dX6_findDominators_84 rfl rfl ?_
          refine V_getR frX6_50 hM.1 rfl dX6_findDominators_85 ?_
          refine V_iload dX6_findDominators_88 rfl ?_
          refine V_ialdE hM.2.2.2.2.2.2.2.1 f rfl (by omega) (by decide) (hr f (bp_t.mp h81).1) dX6_findDominators_90 ?_
          refine V_goto 98 dX6_findDominators_91 (by decide) ?_
          refine V_iand dX6_findDominators_98 ?_
          refine V_top (msk_and _ _) ?_
          refine V_istore_n dX6_findDominators_99 rfl (Nat.le_of_ble_eq_true rfl) ?_
          refine V_iinc1 dX6_findDominators_100 rfl (Nat.le_of_ble_eq_true rfl) ?_
          refine V_goto 60 dX6_findDominators_103 (by decide) ?_
          exact V.cL (ih2 h66) (by
            rw [show msk (fun k => bp (Rc G k ∧ ∀ p, p < f → Pd G p i → dm p k = true) && dm f k) = msk (fun x => bp (Rc G x ∧ ∀ p, p < f + 1 → Pd G p i → dm p x = true)) from msk_congr (fun x _ => by
              have hpf := bp_t.mp h81
              cases hd : dm f x with
              | true =>
                rw [Bool.and_true]
                exact bp_congr ⟨fun h => ⟨h.1, fun p hp hpd => by
                  rcases Nat.lt_or_ge p f with q | q
                  · exact h.2 p q hpd
                  · have e : p = f := by omega
                    subst e; exact hd⟩, fun h => ⟨h.1, fun p hp hpd => h.2 p (by omega) hpd⟩⟩
              | false =>
                rw [Bool.and_false]
                exact (bp_neg (fun h => by have := h.2 f (by omega) hpf; rw [hd] at this; cases this)).symm)]; rfl)
      )
    refine V_iload_n dX6_findDominators_44 rfl rfl ?_
    refine V_aload_n dX6_findDominators_45 rfl rfl ?_
    refine V_getE frX6_7 hM.1 rfl hG1.1 dX6_findDominators_46 ?_
    refine V_N_ge (by omega) (by omega) 169 dX6_findDominators_49 (by decide) (fun h49 => ?_) (fun h49 => ?_)
    · refine V_goto 36 dX6_findDominators_169 (by decide) ?_
      exact IH dm ch m1 _ _ _ (fun q => by have := ht2 q; omega) ho hr hD (fun q b hb h0 => hfx q b (by have := hb.lt hw; omega) hb h0)
    · refine V_aload_n dX6_findDominators_52 rfl rfl ?_
      refine V_getE frX6_155 hM.1 rfl h20 dX6_findDominators_53 ?_
      refine V_istore_n dX6_findDominators_56 rfl (Nat.le_of_ble_eq_true rfl) ?_
      refine V_iconst (v := nI 0) dX6_findDominators_57 (by decide) ?_
      refine V_istore dX6_findDominators_58 (Nat.le_of_ble_eq_true rfl) ?_
      exact V.cL (lpF h49 0 (Nat.zero_le _)) (by rw [show msk (fun x => bp (Rc G x ∧ ∀ p, p < 0 → Pd G p i → dm p x = true)) = msk (fun k => bp (Rc G k)) from msk_congr (fun x _ => bp_congr ⟨fun h => h.1, fun h => ⟨h, fun p hp => absurd hp (Nat.not_lt_zero p)⟩⟩)]; rfl)
    )
  have lp : ∀ n dm ch m1 o2 o3 o4, (ch = true → DT G dm < n) → (∀ a i, a ≠ m + 48 → m1 a i = mi a i) → (∀ b, Rc G b → m1 (m + 48) b = msk (dm b)) → DI G dm → (ch = false → ∀ b, Rc G b → b ≠ 0 → DF dm G b) → V κ (phiP κ mrX6_findDominators 2 0 0 (fun o μ' => o = .inl none ∧ ∃ m', μ' = MM σ m' ml ∧ A2d m' m G ∧ ∀ a i, a ≠ m + 48 → m' a i = mi a i)) 0 0 36 [some (.ref m), some (.int (bI ch)), o2, o3, o4] [] (MM σ m1 ml) := by
    intro n
    induction n with
    | zero =>
      intro dm ch m1 o2 o3 o4 hf ho hr hD hfx
      refine V_iload_n dX6_findDominators_36 rfl rfl ?_
      refine V_ifeqB 172 dX6_findDominators_37 (by decide) (fun h37 => ?_) (fun h37 => ?_)
      · exact V_vretP rfl ⟨rfl, m1, rfl, fun b hb => (hr b hb).trans (msk_congr (fun x hx => (bp_eq (hD.fix hw (hfx h37) hb hx)).symm)), ho⟩ ⟨Nat.le_of_ble_eq_true rfl, Nat.le_of_ble_eq_true rfl⟩ dX6_findDominators_172
      · exact absurd (hf h37) (Nat.not_lt_zero _)

    | succ n IH =>
      intro dm ch m1 o2 o3 o4 hf ho hr hD hfx
      refine V_iload_n dX6_findDominators_36 rfl rfl ?_
      refine V_ifeqB 172 dX6_findDominators_37 (by decide) (fun h37 => ?_) (fun h37 => ?_)
      · exact V_vretP rfl ⟨rfl, m1, rfl, fun b hb => (hr b hb).trans (msk_congr (fun x hx => (bp_eq (hD.fix hw (hfx h37) hb hx)).symm)), ho⟩ ⟨Nat.le_of_ble_eq_true rfl, Nat.le_of_ble_eq_true rfl⟩ dX6_findDominators_172
      · refine V_iconst (v := nI 0) dX6_findDominators_40 (by decide) ?_
        refine V_istore_n dX6_findDominators_41 rfl (Nat.le_of_ble_eq_true rfl) ?_
        refine V_iconst (v := nI 1) dX6_findDominators_42 (by decide) ?_
        refine V_istore_n dX6_findDominators_43 rfl (Nat.le_of_ble_eq_true rfl) ?_
        exact pass dm n IH (hf h37) 1 h1g (Nat.le_refl _) dm false m1 _ _ ho hr hD (Nat.le_refl _) (fun q => by cases q) (fun _ b hb hR h0 => absurd hb (by omega))

  have lp0 : ∀ i, i ≤ G.1 → ∀ m1 o2 o3 o4, (∀ a i, a ≠ m + 48 → m1 a i = mi a i) → (∀ b, b < i → m1 (m + 48) b = msk (fun x => if b = 0 then decide (x = 0) else bp (Rc G x))) → V κ (phiP κ mrX6_findDominators 2 0 0 (fun o μ' => o = .inl none ∧ ∃ m', μ' = MM σ m' ml ∧ A2d m' m G ∧ ∀ a i, a ≠ m + 48 → m' a i = mi a i)) 0 0 2 [some (.ref m), some (.int (nI i)), o2, o3, o4] [] (MM σ m1 ml) := loop_up _ (fun i hi ih m1 o2 o3 o4 ho hr => by
    have hG1 : GM m1 m G := hG.keep (fun a i q => ho a i (by omega))
    refine V_iload_n dX6_findDominators_2 rfl rfl ?_
    refine V_aload_n dX6_findDominators_3 rfl rfl ?_
    refine V_getE frX6_7 hM.1 rfl hG1.1 dX6_findDominators_4 ?_
    refine V_N_ge (by omega) (by omega) 34 dX6_findDominators_7 (by decide) (fun h7 => ?_) (fun h7 => ?_)
    · refine V_iconst (v := nI 1) dX6_findDominators_34 (by decide) ?_
      refine V_istore_n dX6_findDominators_35 rfl (Nat.le_of_ble_eq_true rfl) ?_
      refine lp (14 * 14 + 1) (fun b x => if b = 0 then decide (x = 0) else bp (Rc G x)) true m1 _ _ _ (fun _ => ?_) ho (fun b hb => hr b (by have := hb.lt hw; omega)) ⟨fun b x hb hd => ?_, fun b x hb hx hd => ?_, fun x hx hd => by simpa using hd, fun b x hb h0 hx hd => ?_⟩ (fun q => by cases q)
      · have := sm_le (f := fun b => if bp (Rc G b) = true then cnt ((fun b x => if b = 0 then decide (x = 0) else bp (Rc G x)) b) 14 else 0) (c := 14) 14 (fun k _ => by split; exact cnt_le _ 14; omega)
        unfold DT
        omega
      · by_cases e : b = 0
        · subst e; rw [hd.to0]; rfl
        · show (if b = 0 then _ else bp (Rc G x)) = true
          rw [if_neg e]; exact bp_pos hd.1
      · by_cases e : b = 0
        · subst e
          have : x = 0 := by simpa using hd
          rw [this]; exact Rc.zero
        · have hd' : (if b = 0 then decide (x = 0) else bp (Rc G x)) = true := hd
          rw [if_neg e] at hd'
          exact bp_t.mp hd'
      · show (if b = 0 then _ else bp (Rc G x)) = true
        rw [if_neg h0]
        refine bp_pos ?_
        rcases hd with q | q
        · rw [q]; exact hb
        · exact q.1
    · refine V_aload_n dX6_findDominators_10 rfl rfl ?_
      refine V_getR frX6_50 hM.1 rfl dX6_findDominators_11 ?_
      refine V_iload_n dX6_findDominators_14 rfl rfl ?_
      refine V_iload_n dX6_findDominators_15 rfl rfl ?_
      refine V_Z_ne (by omega) 23 dX6_findDominators_16 (by decide) (fun h16 => ?_) (fun h16 => ?_)
      · refine V_aload_n dX6_findDominators_23 rfl rfl ?_
        refine V_getE frX6_155 hM.1 rfl ((ho _ _ (by omega)).trans h1.1) dX6_findDominators_24 ?_
        refine V_iastN hM.2.2.2.2.2.2.2.1 i rfl (by omega) (by decide) dX6_findDominators_27 ?_
        refine V_iinc1 dX6_findDominators_28 rfl (Nat.le_of_ble_eq_true rfl) ?_
        refine V_goto 2 dX6_findDominators_31 (by decide) ?_
        exact ih h7 _ _ _ _ (fun a j q => (u2_n _ _ (Or.inl q)).trans (ho a j q)) (fun b hb => by
          by_cases e : b = i
          · subst e; rw [show (fun x => if b = 0 then decide (x = 0) else bp (Rc G x)) = fun k => bp (Rc G k) from funext fun x => if_neg h16]; exact u2_s _ _ _ _
          · exact (u2_n _ _ (Or.inr e)).trans (hr b (by omega)))
      · refine V_iconst (v := nI 1) dX6_findDominators_19 (by decide) ?_
        refine V_goto 27 dX6_findDominators_20 (by decide) ?_
        refine V_iastN hM.2.2.2.2.2.2.2.1 i rfl (by omega) (by decide) dX6_findDominators_27 ?_
        refine V_iinc1 dX6_findDominators_28 rfl (Nat.le_of_ble_eq_true rfl) ?_
        refine V_goto 2 dX6_findDominators_31 (by decide) ?_
        exact ih h7 _ _ _ _ (fun a j q => (u2_n _ _ (Or.inl q)).trans (ho a j q)) (fun b hb => by
          by_cases e : b = i
          · subst e; rw [show (fun x => if b = 0 then decide (x = 0) else bp (Rc G x)) = fun k => decide (k = 0) from funext fun x => if_pos h16, show msk (fun k => decide (k = 0)) = nI 1 by decide]; exact u2_s _ _ _ _
          · exact (u2_n _ _ (Or.inr e)).trans (hr b (by omega)))
    )
  refine V_iconst (v := nI 0) dX6_findDominators_0 (by decide) ?_
  refine V_istore_n dX6_findDominators_1 rfl (Nat.le_of_ble_eq_true rfl) ?_
  exact lp0 0 (Nat.zero_le _) mi _ _ _ (fun _ _ _ => rfl) (fun b hb => absurd hb (Nat.not_lt_zero b))

theorem ctX6_isDominator (hM : ML σ m) (h2 : A2d mi m G) (hw : Wf G) {x s : Nat} (hs : Rc G s) (hx : x < 14) : Ct κ 0 0 2 mrX6_isDominator [.ref m, .int (nI x), .int (nI s)] (MM σ mi ml) (.inl (some (.int (bI (bp (Dm G x s)))))) (MM σ mi ml) := by
  refine Ct.of rfl (by simp [Value.category]) (Nat.le_of_ble_eq_true rfl) ?_
  have hs2 := hs.lt14 hw
  refine V_aload_n dX6_isDominator_0 rfl rfl ?_
  refine V_getR frX6_50 hM.1 rfl dX6_isDominator_1 ?_
  refine V_iload_n dX6_isDominator_4 rfl rfl ?_
  refine V_ialdE hM.2.2.2.2.2.2.2.1 s rfl (by omega) (by decide) (h2 s hs) dX6_isDominator_5 ?_
  refine V_iload_n dX6_isDominator_6 rfl rfl ?_
  refine V_cs1 (ctX6_hasM hx) msX6_has lkX6_158 rfl rfl (Nat.le_of_ble_eq_true rfl) ⟨⟨Nat.le_of_ble_eq_true rfl, Nat.le_of_ble_eq_true rfl⟩, Nat.le_of_ble_eq_true rfl, Nat.le_of_ble_eq_true rfl⟩ dX6_isDominator_7 ?_
  exact V_zret rfl (bI_nar _) rfl rfl ⟨Nat.le_of_ble_eq_true rfl, Nat.le_of_ble_eq_true rfl⟩ dX6_isDominator_10

def A2p (mi : Nat → Nat → Int32) (m : Nat) (G : Gr) : Prop := (∀ b, Rc G b → b ≠ 0 → mi (m + 49) b = nI (par G b)) ∧ ∀ x, x < G.1 → mi (m + 50) x = msk (fun y => bp (Fr' G x y))
theorem par_str (hw : Wf G) {b o : Nat} (hb : Rc G b) (h0 : b ≠ 0) (ho : o < 14) : (bp (Dm G o b ∧ o ≠ b) = true ∧ msk (fun x => bp (Dm G x o)) = msk (fun x => bp (Dm G x b ∧ x ≠ b))) ↔ o = par G b := by
  constructor
  · rintro ⟨h1, h2⟩
    rw [bp_t] at h1
    refine (IsPar.eq ⟨h1.1, h1.2, fun x hx hne => ?_⟩).symm
    have := msk_inj h2 x (hx.1.lt14 hw)
    rw [bp_pos (p := Dm G x b ∧ x ≠ b) ⟨hx, hne⟩] at this
    exact bp_t.mp this
  · intro e
    have hp := par_is hw hb h0
    rw [e]
    exact ⟨bp_pos ⟨hp.1, hp.2.1⟩, msk_congr (fun x _ => bp_congr (par_dom hw hb h0))⟩
theorem ctX6_findParents (hM : ML σ m) (hG : GM mi m G) (hw : Wf G) (h1 : A1 mi m G) (h2 : A2d mi m G) : CtP κ 0 0 3 mrX6_findParents [.ref m] (MM σ mi ml) (fun o μ' => o = .inl none ∧ ∃ m', μ' = MM σ m' ml ∧ A2p m' m G ∧ ∀ a i, a ≠ m + 49 → a ≠ m + 50 → m' a i = mi a i) := by
  refine CtP.of rfl (by simp [Value.category]) (Nat.le_of_ble_eq_true rfl) ?_
  have h14 := hw.2.1
  have h1g := hw.1
  have lpB : ∀ b, b ≤ G.1 → ∀ m1 o2 o3 o4, (∀ a i, a ≠ m + 49 → a ≠ m + 50 → m1 a i = mi a i) → (∀ b, Rc G b → b ≠ 0 → m1 (m + 49) b = nI (par G b)) → (∀ y, y < G.1 → m1 (m + 50) y = msk (fun c => bp ((c < b ∧ Fr' G y c)))) → V κ (phiP κ mrX6_findParents 3 0 0 (fun o μ' => o = .inl none ∧ ∃ m', μ' = MM σ m' ml ∧ A2p m' m G ∧ ∀ a i, a ≠ m + 49 → a ≠ m + 50 → m' a i = mi a i)) 0 0 95 [some (.ref m), some (.int (nI b)), o2, o3, o4] [] (MM σ m1 ml) := loop_up _ (fun b hb ih m1 o2 o3 o4 ho hp hf => by
    have lpF : b < G.1 → ∀ f, f ≤ G.1 → ∀ m1 o3 o4, (∀ a i, a ≠ m + 49 → a ≠ m + 50 → m1 a i = mi a i) → (∀ b, Rc G b → b ≠ 0 → m1 (m + 49) b = nI (par G b)) → (∀ y, y < G.1 → m1 (m + 50) y = msk (fun c => bp ((c < b ∧ Fr' G y c) ∨ (c = b ∧ ∃ p, p < f ∧ Pd G p b ∧ Dm G y p ∧ (b = y ∨ ¬ Dm G y b))))) → V κ (phiP κ mrX6_findParents 3 0 0 (fun o μ' => o = .inl none ∧ ∃ m', μ' = MM σ m' ml ∧ A2p m' m G ∧ ∀ a i, a ≠ m + 49 → a ≠ m + 50 → m' a i = mi a i)) 0 0 105 [some (.ref m), some (.int (nI b)), some (.int (nI f)), o3, o4] [] (MM σ m1 ml) := fun hb2 => loop_up _ (fun f hf2 ih2 m1 o3 o4 ho hp hf => by
      have lpX : f < G.1 → ∀ x, x ≤ G.1 → ∀ m1 o4, (∀ a i, a ≠ m + 49 → a ≠ m + 50 → m1 a i = mi a i) → (∀ b, Rc G b → b ≠ 0 → m1 (m + 49) b = nI (par G b)) → (∀ y, y < G.1 → m1 (m + 50) y = msk (fun c => bp ((c < b ∧ Fr' G y c) ∨ (c = b ∧ ∃ p, (p < f ∨ (p = f ∧ y < x)) ∧ Pd G p b ∧ Dm G y p ∧ (b = y ∨ ¬ Dm G y b))))) → V κ (phiP κ mrX6_findParents 3 0 0 (fun o μ' => o = .inl none ∧ ∃ m', μ' = MM σ m' ml ∧ A2p m' m G ∧ ∀ a i, a ≠ m + 49 → a ≠ m + 50 → m' a i = mi a i)) 0 0 115 [some (.ref m), some (.int (nI b)), some (.int (nI f)), some (.int (nI x)), o4] [] (MM σ m1 ml) := fun hf3 => loop_up _ (fun x hx ih3 m1 o4 ho hp hf => by
        have hG1 : GM m1 m G := hG.keep (fun a i q => ho a i (by omega) (by omega))
        have h47 : m1 (m + 47) b = msk (fun p => bp (Pd G p b)) := (ho _ _ (by omega) (by omega)).trans (h1.2 b hb2)
        have h21 : A2d m1 m G := fun b hb => (ho _ _ (by omega) (by omega)).trans (h2 b hb)
        have J : x < G.1 → Pd G f b → V κ (phiP κ mrX6_findParents 3 0 0 (fun o μ' => o = .inl none ∧ ∃ m', μ' = MM σ m' ml ∧ A2p m' m G ∧ ∀ a i, a ≠ m + 49 → a ≠ m + 50 → m' a i = mi a i)) 0 0 166 [some (.ref m), some (.int (nI b)), some (.int (nI f)), some (.int (nI x)), some (.int (bI (bp (Dm G x f ∧ (b = x ∨ ¬ Dm G x b)))))] [] (MM σ m1 ml) := fun hx2 hpd => by
          cases hz : bp (Dm G x f ∧ (b = x ∨ ¬ Dm G x b)) with
          | true =>
            refine V_aload_n dX6_findParents_166 rfl rfl ?_
            refine V_getR frX6_56 hM.1 rfl dX6_findParents_167 ?_
            refine V_iload_n dX6_findParents_170 rfl rfl ?_
            refine V_dup2 dX6_findParents_171 rfl rfl ?_
            refine V_ialdE hM.2.2.2.2.2.2.2.2.2.1 x rfl (by omega) (by decide) (hf x hx2) dX6_findParents_172 ?_
            refine V_iload dX6_findParents_173 rfl ?_
            refine V_ifeqB 184 dX6_findParents_175 (by decide) (fun h175 => absurd (h175.symm.trans rfl) (by decide)) (fun h175 => ?_)
            refine V_iconst (v := nI 1) dX6_findParents_178 (by decide) ?_
            refine V_iload_n dX6_findParents_179 rfl rfl ?_
            refine V_ishl dX6_findParents_180 ?_
            refine V_goto 185 dX6_findParents_181 (by decide) ?_
            refine V_ior dX6_findParents_185 ?_
            refine V_top (or1 (by omega)) ?_
            refine V_iastN hM.2.2.2.2.2.2.2.2.2.1 x rfl (by omega) (by decide) dX6_findParents_186 ?_
            refine V_iinc1 dX6_findParents_187 rfl (Nat.le_of_ble_eq_true rfl) ?_
            refine V_goto 115 dX6_findParents_190 (by decide) ?_
            exact ih3 hx2 _ _ (fun a j q1 q2 => (u2_n _ _ (Or.inl q2)).trans (ho a j q1 q2)) (fun b hb h0 => (u2_n _ _ (Or.inl (by omega))).trans (hp b hb h0)) (fun y hy => by
              by_cases e : y = x
              · subst e
                refine (u2_s _ _ _ _).trans (msk_congr (fun c _ => ?_))
                rw [show decide (c = b) = bp (c = b) from (bp_eq decide_eq_true_iff).symm, bp_or]
                exact bp_congr ⟨fun h => by
                  rcases h with (h | ⟨h1, p, h2, h3⟩) | h
                  · exact Or.inl h
                  · exact Or.inr ⟨h1, p, by omega, h3⟩
                  · exact Or.inr ⟨h, f, by omega, hpd, (bp_t.mp hz).1, (bp_t.mp hz).2⟩, fun h => by
                  rcases h with h | ⟨h1, p, h2, h3⟩
                  · exact Or.inl (Or.inl h)
                  · exact Or.inr h1⟩
              · refine (u2_n _ _ (Or.inr e)).trans ((hf y hy).trans (msk_congr (fun c _ => bp_congr (or_congr_right (and_congr_right (fun _ => exists_congr (fun p => and_congr_left (fun _ => ?_))))))))
                omega)

          | false =>
            refine V_aload_n dX6_findParents_166 rfl rfl ?_
            refine V_getR frX6_56 hM.1 rfl dX6_findParents_167 ?_
            refine V_iload_n dX6_findParents_170 rfl rfl ?_
            refine V_dup2 dX6_findParents_171 rfl rfl ?_
            refine V_ialdE hM.2.2.2.2.2.2.2.2.2.1 x rfl (by omega) (by decide) (hf x hx2) dX6_findParents_172 ?_
            refine V_iload dX6_findParents_173 rfl ?_
            refine V_ifeqB 184 dX6_findParents_175 (by decide) (fun h175 => ?_) (fun h175 => absurd (h175.symm.trans rfl) (by decide))
            refine V_iconst (v := nI 0) dX6_findParents_184 (by decide) ?_
            refine V_ior dX6_findParents_185 ?_
            refine V_top (show _ = msk _ from Int32.or_zero) ?_
            refine V_iastN hM.2.2.2.2.2.2.2.2.2.1 x rfl (by omega) (by decide) dX6_findParents_186 ?_
            refine V_iinc1 dX6_findParents_187 rfl (Nat.le_of_ble_eq_true rfl) ?_
            refine V_goto 115 dX6_findParents_190 (by decide) ?_
            exact ih3 hx2 _ _ (fun a j q1 q2 => (u2_n _ _ (Or.inl q2)).trans (ho a j q1 q2)) (fun b hb h0 => (u2_n _ _ (Or.inl (by omega))).trans (hp b hb h0)) (fun y hy => by
              by_cases e : y = x
              · subst e
                refine (u2_s _ _ _ _).trans (msk_congr (fun c _ => ?_))
                exact bp_congr ⟨fun h => by
                  rcases h with h | ⟨h1, p, h2, h3⟩
                  · exact Or.inl h
                  · exact Or.inr ⟨h1, p, by omega, h3⟩, fun h => by
                  rcases h with h | ⟨h1, p, h2, h3⟩
                  · exact Or.inl h
                  · by_cases q : p = f
                    · subst q; exact absurd ⟨h3.2.1, h3.2.2⟩ (bp_f.mp hz)
                    · exact Or.inr ⟨h1, p, by omega, h3⟩⟩
              · refine (u2_n _ _ (Or.inr e)).trans ((hf y hy).trans (msk_congr (fun c _ => bp_congr (or_congr_right (and_congr_right (fun _ => exists_congr (fun p => and_congr_left (fun _ => ?_))))))))
                omega)

        refine V_iload_n dX6_findParents_115 rfl rfl ?_
        refine V_aload_n dX6_findParents_116 rfl rfl ?_
        refine V_getE frX6_7 hM.1 rfl hG1.1 dX6_findParents_117 ?_
        refine V_N_ge (by omega) (by omega) 193 dX6_findParents_120 (by decide) (fun h120 => ?_) (fun h120 => ?_)
        · refine V_iinc1 dX6_findParents_193 rfl (Nat.le_of_ble_eq_true rfl) ?_
          refine V_goto 105 dX6_findParents_196 (by decide) ?_
          exact ih2 hf3 m1 _ _ ho hp (fun y hy => (hf y hy).trans (msk_congr (fun c _ => bp_congr (or_congr_right (and_congr_right (fun _ => exists_congr (fun p => and_congr_left (fun hh => by
            have := hh.1.1.lt hw
            omega))))))))
        · refine V_aload_n dX6_findParents_123 rfl rfl ?_
          refine V_getR frX6_47 hM.1 rfl dX6_findParents_124 ?_
          refine V_iload_n dX6_findParents_127 rfl rfl ?_
          refine V_ialdE hM.2.2.2.2.2.2.1 b rfl (by omega) (by decide) h47 dX6_findParents_128 ?_
          refine V_iload_n dX6_findParents_129 rfl rfl ?_
          refine V_cs1 (ctX6_hasM (by omega)) msX6_has lkX6_158 rfl rfl (Nat.le_of_ble_eq_true rfl) ⟨⟨Nat.le_of_ble_eq_true rfl, Nat.le_of_ble_eq_true rfl⟩, Nat.le_of_ble_eq_true rfl, Nat.le_of_ble_eq_true rfl⟩ dX6_findParents_130 ?_
          refine V_ifeqB 193 dX6_findParents_133 (by decide) (fun h133 => ?_) (fun h133 => ?_)
          · refine V_iinc1 dX6_findParents_193 rfl (Nat.le_of_ble_eq_true rfl) ?_
            refine V_goto 105 dX6_findParents_196 (by decide) ?_
            exact ih2 hf3 m1 _ _ ho hp (fun y hy => (hf y hy).trans (msk_congr (fun c _ => bp_congr (or_congr_right (and_congr_right (fun _ => exists_congr (fun p => and_congr_left (fun hh => by
              have hne : p ≠ f := fun e => bp_f.mp h133 (e ▸ hh.1)
              omega))))))))
          · have hpd : Pd G f b := bp_t.mp h133
            have hRb : Rc G b := Cl.step hpd.1 hpd.2
            refine V_aload_n dX6_findParents_136 rfl rfl ?_
            refine V_iload_n dX6_findParents_137 rfl rfl ?_
            refine V_iload_n dX6_findParents_138 rfl rfl ?_
            refine V_cv1 (ctX6_isDominator hM h21 hw hpd.1 (by omega)) mvX6_isDominator lkX6_161 hM.1 rfl rfl rfl (Nat.le_of_ble_eq_true rfl) ⟨⟨Nat.le_of_ble_eq_true rfl, Nat.le_of_ble_eq_true rfl⟩, Nat.le_of_ble_eq_true rfl, Nat.le_of_ble_eq_true rfl⟩ dX6_findParents_139 ?_
            refine V_ifeqB 163 dX6_findParents_142 (by decide) (fun h142 => ?_) (fun h142 => ?_)
            · refine V_iconst (v := nI 0) dX6_findParents_163 (by decide) ?_
              refine V_istore dX6_findParents_164 (Nat.le_of_ble_eq_true rfl) ?_
              exact V.cL (J h120 hpd) (by rw [show bp (Dm G x f ∧ (b = x ∨ ¬ Dm G x b)) = false from bp_neg (fun q => bp_f.mp h142 q.1)]; rfl)
            · refine V_aload_n dX6_findParents_145 rfl rfl ?_
              refine V_iload_n dX6_findParents_146 rfl rfl ?_
              refine V_iload_n dX6_findParents_147 rfl rfl ?_
              refine V_cv1 (ctX6_isDominator hM h21 hw hRb (by omega)) mvX6_isDominator lkX6_161 hM.1 rfl rfl rfl (Nat.le_of_ble_eq_true rfl) ⟨⟨Nat.le_of_ble_eq_true rfl, Nat.le_of_ble_eq_true rfl⟩, Nat.le_of_ble_eq_true rfl, Nat.le_of_ble_eq_true rfl⟩ dX6_findParents_148 ?_
              refine V_ifeqB 159 dX6_findParents_151 (by decide) (fun h151 => ?_) (fun h151 => ?_)
              · refine V_iconst (v := nI 1) dX6_findParents_159 (by decide) ?_
                refine V_goto 164 dX6_findParents_160 (by decide) ?_
                refine V_istore dX6_findParents_164 (Nat.le_of_ble_eq_true rfl) ?_
                exact V.cL (J h120 hpd) (by rw [show bp (Dm G x f ∧ (b = x ∨ ¬ Dm G x b)) = true from bp_pos ⟨bp_t.mp h142, Or.inr (bp_f.mp h151)⟩]; rfl)
              · refine V_iload_n dX6_findParents_154 rfl rfl ?_
                refine V_iload_n dX6_findParents_155 rfl rfl ?_
                refine V_N_ne (by omega) (by omega) 163 dX6_findParents_156 (by decide) (fun h156 => ?_) (fun h156 => ?_)
                · refine V_iconst (v := nI 0) dX6_findParents_163 (by decide) ?_
                  refine V_istore dX6_findParents_164 (Nat.le_of_ble_eq_true rfl) ?_
                  exact V.cL (J h120 hpd) (by rw [show bp (Dm G x f ∧ (b = x ∨ ¬ Dm G x b)) = false from bp_neg (fun q => q.2.elim (fun e => h156 e.symm) (fun z => z (bp_t.mp h151)))]; rfl)
                · refine V_iconst (v := nI 1) dX6_findParents_159 (by decide) ?_
                  refine V_goto 164 dX6_findParents_160 (by decide) ?_
                  refine V_istore dX6_findParents_164 (Nat.le_of_ble_eq_true rfl) ?_
                  exact V.cL (J h120 hpd) (by rw [show bp (Dm G x f ∧ (b = x ∨ ¬ Dm G x b)) = true from bp_pos ⟨bp_t.mp h142, Or.inl h156.symm⟩]; rfl)
        )
      refine V_iload_n dX6_findParents_105 rfl rfl ?_
      refine V_aload_n dX6_findParents_106 rfl rfl ?_
      refine V_getE frX6_7 hM.1 rfl ((hG.keep (fun a i q => ho a i (by omega) (by omega))).1) dX6_findParents_107 ?_
      refine V_N_ge (by omega) (by omega) 199 dX6_findParents_110 (by decide) (fun h110 => ?_) (fun h110 => ?_)
      · refine V_iinc1 dX6_findParents_199 rfl (Nat.le_of_ble_eq_true rfl) ?_
        refine V_goto 95 dX6_findParents_202 (by decide) ?_
        exact ih hb2 m1 _ _ _ ho hp (fun y hy => (hf y hy).trans (msk_congr (fun c _ => bp_congr ⟨fun h => by
          rcases h with h | ⟨h1, p, h2, h3, h4, h5⟩
          · exact ⟨by omega, h.2⟩
          · subst h1; exact ⟨by omega, ⟨p, h3, h4⟩, h5⟩, fun h => by
          rcases Nat.lt_or_ge c b with q | q
          · exact Or.inl ⟨q, h.2⟩
          · have e : c = b := by omega
            subst e
            obtain ⟨⟨p, h3, h4⟩, h5⟩ := h.2
            exact Or.inr ⟨rfl, p, by have := h3.1.lt hw; omega, h3, h4, h5⟩⟩)))
      · refine V_iconst (v := nI 0) dX6_findParents_113 (by decide) ?_
        refine V_istore_n dX6_findParents_114 rfl (Nat.le_of_ble_eq_true rfl) ?_
        exact lpX h110 0 (Nat.zero_le _) m1 _ ho hp (fun y hy => (hf y hy).trans (msk_congr (fun c _ => bp_congr (or_congr_right (and_congr_right (fun _ => exists_congr (fun p => and_congr_left (fun _ => by omega))))))))
      )
    refine V_iload_n dX6_findParents_95 rfl rfl ?_
    refine V_aload_n dX6_findParents_96 rfl rfl ?_
    refine V_getE frX6_7 hM.1 rfl ((hG.keep (fun a i q => ho a i (by omega) (by omega))).1) dX6_findParents_97 ?_
    refine V_N_ge (by omega) (by omega) 205 dX6_findParents_100 (by decide) (fun h100 => ?_) (fun h100 => ?_)
    · exact V_vretP rfl ⟨rfl, m1, rfl, ⟨hp, fun y hy => (hf y hy).trans (msk_congr (fun c hc => bp_congr ⟨fun h => h.2, fun h => ⟨by have := h.rc.2.lt hw; omega, h⟩⟩))⟩, ho⟩ ⟨Nat.le_of_ble_eq_true rfl, Nat.le_of_ble_eq_true rfl⟩ dX6_findParents_205
    · refine V_iconst (v := nI 0) dX6_findParents_103 (by decide) ?_
      refine V_istore_n dX6_findParents_104 rfl (Nat.le_of_ble_eq_true rfl) ?_
      exact lpF h100 0 (Nat.zero_le _) m1 _ _ ho hp (fun y hy => (hf y hy).trans (msk_congr (fun c _ => bp_congr ⟨Or.inl, fun h => h.elim id (fun ⟨_, p, h2, _⟩ => absurd h2 (Nat.not_lt_zero p))⟩)))
    )
  have lpA : ∀ b, b ≤ G.1 → ∀ m1 o2 o3 o4, (∀ a i, a ≠ m + 49 → a ≠ m + 50 → m1 a i = mi a i) → (∀ c, c < b → Rc G c → c ≠ 0 → m1 (m + 49) c = nI (par G c)) → (∀ y, y < b → m1 (m + 50) y = nI 0) → V κ (phiP κ mrX6_findParents 3 0 0 (fun o μ' => o = .inl none ∧ ∃ m', μ' = MM σ m' ml ∧ A2p m' m G ∧ ∀ a i, a ≠ m + 49 → a ≠ m + 50 → m' a i = mi a i)) 0 0 2 [some (.ref m), some (.int (nI b)), o2, o3, o4] [] (MM σ m1 ml) := loop_up _ (fun b hb ih m1 o2 o3 o4 ho hp hf => by
    have hG1 : GM m1 m G := hG.keep (fun a i q => ho a i (by omega) (by omega))
    have lpO : b < G.1 → ∀ s : Int32, (Rc G b → s = msk (fun x => bp (Dm G x b ∧ x ≠ b))) → ∀ z, z ≤ G.1 → ∀ m1, (∀ a i, a ≠ m + 49 → a ≠ m + 50 → m1 a i = mi a i) → (∀ c, c < b → Rc G c → c ≠ 0 → m1 (m + 49) c = nI (par G c)) → (Rc G b → b ≠ 0 → m1 (m + 49) b = if par G b < z then nI (par G b) else -1) → (∀ y, y < b + 1 → m1 (m + 50) y = nI 0) → V κ (phiP κ mrX6_findParents 3 0 0 (fun o μ' => o = .inl none ∧ ∃ m', μ' = MM σ m' ml ∧ A2p m' m G ∧ ∀ a i, a ≠ m + 49 → a ≠ m + 50 → m' a i = mi a i)) 0 0 39 [some (.ref m), some (.int (nI b)), some (.int s), some (.int (nI z)), o4] [] (MM σ m1 ml) := fun hb2 s hs => loop_up _ (fun z hz ih2 m1 ho hp hpb hf => by
      have hG1 : GM m1 m G := hG.keep (fun a i q => ho a i (by omega) (by omega))
      refine V_iload_n dX6_findParents_39 rfl rfl ?_
      refine V_aload_n dX6_findParents_40 rfl rfl ?_
      refine V_getE frX6_7 hM.1 rfl hG1.1 dX6_findParents_41 ?_
      refine V_N_ge (by omega) (by omega) 87 dX6_findParents_44 (by decide) (fun h44 => ?_) (fun h44 => ?_)
      · refine V_iinc1 dX6_findParents_87 rfl (Nat.le_of_ble_eq_true rfl) ?_
        refine V_goto 2 dX6_findParents_90 (by decide) ?_
        exact ih hb2 m1 _ _ _ ho (fun c hc hR h0 => by
          rcases Nat.lt_or_ge c b with q | q
          · exact hp c q hR h0
          · have e : c = b := by omega
            subst e
            rw [hpb hR h0, if_pos (by have := (par_rc hw hR h0).lt hw; omega)]) hf
      · refine V_aload_n dX6_findParents_47 rfl rfl ?_
        refine V_getR frX6_53 hM.1 rfl dX6_findParents_48 ?_
        refine V_iload_n dX6_findParents_51 rfl rfl ?_
        refine V_iload_n dX6_findParents_52 rfl rfl ?_
        refine V_iload_n dX6_findParents_53 rfl rfl ?_
        refine V_cs1 (ctX6_has) msX6_has lkX6_158 rfl rfl (Nat.le_of_ble_eq_true rfl) ⟨⟨Nat.le_of_ble_eq_true rfl, Nat.le_of_ble_eq_true rfl⟩, Nat.le_of_ble_eq_true rfl, Nat.le_of_ble_eq_true rfl⟩ dX6_findParents_54 ?_
        refine V_ifeqB 74 dX6_findParents_57 (by decide) (fun h57 => ?_) (fun h57 => ?_)
        · refine V_aload_n dX6_findParents_74 rfl rfl ?_
          refine V_getR frX6_53 hM.1 rfl dX6_findParents_75 ?_
          refine V_iload_n dX6_findParents_78 rfl rfl ?_
          refine V_ialdN hM.2.2.2.2.2.2.2.2.1 b rfl (by omega) (by decide) dX6_findParents_79 ?_
          refine V_iastN hM.2.2.2.2.2.2.2.2.1 b rfl (by omega) (by decide) dX6_findParents_80 ?_
          refine V_iinc1 dX6_findParents_81 rfl (Nat.le_of_ble_eq_true rfl) ?_
          refine V_goto 39 dX6_findParents_84 (by decide) ?_
          exact ih2 h44 _ (fun a j q1 q2 => (u2_n _ _ (Or.inl q1)).trans (ho a j q1 q2)) (fun c hc hR h0 => (u2_n _ _ (Or.inr (by omega))).trans (hp c hc hR h0)) (fun hR h0 => by
            refine (u2_s _ _ _ _).trans ?_
            have hne : z ≠ par G b := fun e => by
              have q := (par_str hw hR h0 (show z < 14 by omega)).mpr e
              have h57' := h57
              rw [hs hR, hasC_msk _ (by omega), q.1] at h57'
              cases h57'
            refine (hpb hR h0).trans ?_
            by_cases q : par G b < z
            · rw [if_pos q, if_pos (by omega)]
            · rw [if_neg q, if_neg (by omega)]) (fun y hy => (u2_n _ _ (Or.inl (by omega))).trans (hf y hy))
        · refine V_aload_n dX6_findParents_60 rfl rfl ?_
          refine V_getR frX6_50 hM.1 rfl dX6_findParents_61 ?_
          refine V_iload_n dX6_findParents_64 rfl rfl ?_
          refine V_ialdN hM.2.2.2.2.2.2.2.1 z rfl (by omega) (by decide) dX6_findParents_65 ?_
          refine V_iload_n dX6_findParents_66 rfl rfl ?_
          refine V_icmp_ne 74 dX6_findParents_67 (by decide) (fun h67 => ?_) (fun h67 => ?_)
          · refine V_aload_n dX6_findParents_74 rfl rfl ?_
            refine V_getR frX6_53 hM.1 rfl dX6_findParents_75 ?_
            refine V_iload_n dX6_findParents_78 rfl rfl ?_
            refine V_ialdN hM.2.2.2.2.2.2.2.2.1 b rfl (by omega) (by decide) dX6_findParents_79 ?_
            refine V_iastN hM.2.2.2.2.2.2.2.2.1 b rfl (by omega) (by decide) dX6_findParents_80 ?_
            refine V_iinc1 dX6_findParents_81 rfl (Nat.le_of_ble_eq_true rfl) ?_
            refine V_goto 39 dX6_findParents_84 (by decide) ?_
            exact ih2 h44 _ (fun a j q1 q2 => (u2_n _ _ (Or.inl q1)).trans (ho a j q1 q2)) (fun c hc hR h0 => (u2_n _ _ (Or.inr (by omega))).trans (hp c hc hR h0)) (fun hR h0 => by
              refine (u2_s _ _ _ _).trans ?_
              have hne : z ≠ par G b := fun e => by
                have q := (par_str hw hR h0 (show z < 14 by omega)).mpr e
                refine h67 ?_
                rw [hs hR, ← q.2]
                exact (ho _ _ (by omega) (by omega)).trans (h2 z (bp_t.mp q.1).1.1)
              refine (hpb hR h0).trans ?_
              by_cases q : par G b < z
              · rw [if_pos q, if_pos (by omega)]
              · rw [if_neg q, if_neg (by omega)]) (fun y hy => (u2_n _ _ (Or.inl (by omega))).trans (hf y hy))
          · refine V_iload_n dX6_findParents_70 rfl rfl ?_
            refine V_goto 80 dX6_findParents_71 (by decide) ?_
            refine V_iastN hM.2.2.2.2.2.2.2.2.1 b rfl (by omega) (by decide) dX6_findParents_80 ?_
            refine V_iinc1 dX6_findParents_81 rfl (Nat.le_of_ble_eq_true rfl) ?_
            refine V_goto 39 dX6_findParents_84 (by decide) ?_
            exact ih2 h44 _ (fun a j q1 q2 => (u2_n _ _ (Or.inl q1)).trans (ho a j q1 q2)) (fun c hc hR h0 => (u2_n _ _ (Or.inr (by omega))).trans (hp c hc hR h0)) (fun hR h0 => by
              refine (u2_s _ _ _ _).trans ?_
              have h57' := h57
              rw [hs hR, hasC_msk _ (by omega)] at h57'
              have e : z = par G b := (par_str hw hR h0 (show z < 14 by omega)).mp ⟨h57', by
                have q := h67
                rw [hs hR] at q
                rw [← q]
                exact ((ho _ _ (by omega) (by omega)).trans (h2 z (bp_t.mp h57').1.1)).symm⟩
              rw [if_pos (by omega), e]) (fun y hy => (u2_n _ _ (Or.inl (by omega))).trans (hf y hy))
      )
    refine V_iload_n dX6_findParents_2 rfl rfl ?_
    refine V_aload_n dX6_findParents_3 rfl rfl ?_
    refine V_getE frX6_7 hM.1 rfl hG1.1 dX6_findParents_4 ?_
    refine V_N_ge (by omega) (by omega) 93 dX6_findParents_7 (by decide) (fun h7 => ?_) (fun h7 => ?_)
    · refine V_iconst (v := nI 0) dX6_findParents_93 (by decide) ?_
      refine V_istore_n dX6_findParents_94 rfl (Nat.le_of_ble_eq_true rfl) ?_
      exact lpB 0 (Nat.zero_le _) m1 _ _ _ ho (fun c hR h0 => hp c (by have := hR.lt hw; omega) hR h0) (fun y hy => (hf y (by omega)).trans (msk_eq0.mpr (fun c _ => bp_neg (fun h => absurd h.1 (Nat.not_lt_zero c)))).symm)
    · refine V_aload_n dX6_findParents_10 rfl rfl ?_
      refine V_getR frX6_53 hM.1 rfl dX6_findParents_11 ?_
      refine V_iload_n dX6_findParents_14 rfl rfl ?_
      refine V_iconst (v := (-1)) dX6_findParents_15 (by decide) ?_
      refine V_iastN hM.2.2.2.2.2.2.2.2.1 b rfl (by omega) (by decide) dX6_findParents_16 ?_
      refine V_aload_n dX6_findParents_17 rfl rfl ?_
      refine V_getR frX6_56 hM.1 rfl dX6_findParents_18 ?_
      refine V_iload_n dX6_findParents_21 rfl rfl ?_
      refine V_iconst (v := nI 0) dX6_findParents_22 (by decide) ?_
      refine V_iastN hM.2.2.2.2.2.2.2.2.2.1 b rfl (by omega) (by decide) dX6_findParents_23 ?_
      refine V_aload_n dX6_findParents_24 rfl rfl ?_
      refine V_getR frX6_50 hM.1 rfl dX6_findParents_25 ?_
      refine V_iload_n dX6_findParents_28 rfl rfl ?_
      refine V_ialdN hM.2.2.2.2.2.2.2.1 b rfl (by omega) (by decide) dX6_findParents_29 ?_
      refine V_iconst (v := nI 1) dX6_findParents_30 (by decide) ?_
      refine V_iload_n dX6_findParents_31 rfl rfl ?_
      refine V_ishl dX6_findParents_32 ?_
      refine V_iconst (v := (-1)) dX6_findParents_33 (by decide) ?_
      refine V_ixor dX6_findParents_34 ?_
      refine V_iand dX6_findParents_35 ?_
      refine V_istore_n dX6_findParents_36 rfl (Nat.le_of_ble_eq_true rfl) ?_
      refine V_iconst (v := nI 0) dX6_findParents_37 (by decide) ?_
      refine V_istore_n dX6_findParents_38 rfl (Nat.le_of_ble_eq_true rfl) ?_
      refine lpO h7 _ (fun hR => ?_) 0 (Nat.zero_le _) _ (fun a j q1 q2 => (u2_n _ _ (Or.inl q2)).trans ((u2_n _ _ (Or.inl q1)).trans (ho a j q1 q2))) (fun c hc hR h0 => (u2_n _ _ (Or.inl (by omega))).trans ((u2_n _ _ (Or.inr (by omega))).trans (hp c hc hR h0))) (fun hR h0 => (u2_n _ _ (Or.inl (by omega))).trans ((u2_s _ _ _ _).trans (by rw [if_neg (Nat.not_lt_zero _)]))) (fun y hy => by
        by_cases e : y = b
        · subst e; exact u2_s _ _ _ _
        · exact (u2_n _ _ (Or.inr e)).trans ((u2_n _ _ (Or.inl (by omega))).trans (hf y (by omega))))
      have hrd : u2 (u2 m1 (m + 49) b (-1)) (m + 50) b (nI 0) (m + 48) b = msk (fun x => bp (Dm G x b)) := (u2_n _ _ (Or.inl (by omega))).trans ((u2_n _ _ (Or.inl (by omega))).trans ((ho _ _ (by omega) (by omega)).trans (h2 b hR)))
      show u2 (u2 m1 (m + 49) b (-1)) (m + 50) b (nI 0) (m + 48) b &&& (((1 : Int32) <<< (nI b &&& 31)) ^^^ -1) = _
      rw [hrd, msk_one (by omega), msk_andN]
      refine msk_congr (fun x _ => ?_)
      rw [show decide (x = b) = bp (x = b) from (bp_eq decide_eq_true_iff).symm, bp_not, bp_and]
    )
  refine V_iconst (v := nI 0) dX6_findParents_0 (by decide) ?_
  refine V_istore_n dX6_findParents_1 rfl (Nat.le_of_ble_eq_true rfl) ?_
  exact lpA 0 (Nat.zero_le _) mi _ _ _ (fun _ _ _ _ => rfl) (fun c hc => absurd hc (Nat.not_lt_zero c)) (fun y hy => absurd hy (Nat.not_lt_zero y))

end Mdl2
