/-! the state stays sound; how many exceptions a call has -/
section Sok
variable {S : SS}
theorem getD_in {l : List Nat} {k : Nat} (h : k < l.length) : l.getD k 0 ∈ l := by
  rw [List.getD_eq_getElem?_getD, List.getElem?_eq_getElem h]
  exact List.getElem_mem h
theorem bt_of {b : Bool} (h : ¬ b = false) : b = true := by
  cases b with
  | true => rfl
  | false => exact absurd rfl h
theorem SOK.chg (hS : SOK S) {G' : Gr} (hG : Wf G') : SOK (chg S G') := by
  obtain ⟨h1, ⟨h2, h3⟩, h4, h5, h6, h7, h8, h9⟩ := hS
  refine ⟨hG, ⟨?_, fun i hi => ?_⟩, h4, h5, h6, Nat.zero_le _, h8, fun i hi => absurd hi (Nat.not_lt_zero i)⟩
  · show min (S.2.1.1 + 1) 8 ≤ 8
    omega
  · have hi : i < min (S.2.1.1 + 1) 8 := hi
    show Wf (hcons S.1 S.2.1.2 i)
    cases i with
    | zero => exact h1
    | succ i => exact h3 i (by omega)
theorem sk_reset {p : Int32} (hS : SOK S) : SOK (rs_reset S p).2.2 := by
  cases hp : (decide (p < nI 1) || decide (nI 14 < p)) with
  | true => unfold rs_reset; rw [if_pos hp]; exact hS
  | false =>
    unfold rs_reset
    rw [if_neg (by rw [hp]; decide)]
    rw [Bool.or_eq_false_iff, decide_eq_false_iff_not, decide_eq_false_iff_not] at hp
    obtain ⟨j, hj1, hj2, rfl⟩ := pR hp.1 hp.2
    rw [tn_nI (by omega)]
    obtain ⟨h1, ⟨h2, h3⟩, h4, h5, h6, h7, h8, h9⟩ := hS
    exact ⟨Wf.empty hj1 hj2, ⟨Nat.zero_le _, fun i hi => absurd hi (Nat.not_lt_zero i)⟩, h4, h5, h6, Nat.zero_le _, h8, fun i hi => absurd hi (Nat.not_lt_zero i)⟩
theorem sk_append {c : Nat} (hS : SOK S) : SOK (rs_append S c).2.2 := by
  unfold rs_append
  split
  · exact hS
  · rename_i h1
    split
    · exact hS
    · rename_i h2
      obtain ⟨g1, g2, g3, g4, g5, g6, g7, g8⟩ := hS
      have hc : 32 ≤ c ∧ c < 127 := by
        simp only [Bool.or_eq_true, decide_eq_true_eq, not_or, Nat.not_lt] at h1
        omega
      refine ⟨g1, g2, g3, ⟨?_, fun x hx => ?_⟩, g5, g6, g7, g8⟩
      · show (S.2.2.2.1 ++ [c]).length ≤ 30
        rw [List.length_append, List.length_singleton]
        omega
      · rcases List.mem_append.mp hx with hx | hx
        · exact g4.2 x hx
        · rw [List.mem_singleton.mp hx]; exact hc
theorem sk_define (hS : SOK S) : SOK (rs_define S).2.2 := by
  unfold rs_define
  cases hp : pr S.2.2.2.1 S.1.1 with
  | inl e =>
    obtain ⟨g1, g2, g3, g4, g5, g6, g7, g8⟩ := hS
    exact ⟨g1, g2, g3, ⟨Nat.zero_le _, (fun x hx => by cases hx)⟩, Or.inr ⟨e, pr_lt g4 hp, rfl⟩, g6, g7, g8⟩
  | inr q =>
    obtain ⟨b, la, le⟩ := q
    obtain ⟨p1, p2, p3, p4, p5, p6⟩ := pr_ok hp
    have hS2 : SOK (S.1, S.2.1, S.2.2.1, ([] : List Nat), S.2.2.2.2) := by
      obtain ⟨g1, g2, g3, g4, g5, g6, g7, g8⟩ := hS
      exact ⟨g1, g2, g3, ⟨Nat.zero_le _, (fun x hx => by cases hx)⟩, g5, g6, g7, g8⟩
    exact hS2.chg ((hS.1.upA p1 p2 p3).upE p1 p4 p5 p6)
theorem sk_removeAction {b k : Int32} (hS : SOK S) : SOK (rs_removeAction S b k).2.2 := by
  unfold rs_removeAction
  split
  · exact hS
  · rename_i h
    have hh := bt_of h
    unfold hasAct at hh
    rw [Bool.and_eq_true] at hh
    have h14 := hS.1.2.1
    obtain ⟨j, hj, rfl⟩ := inR_t (by omega) hh.1
    rw [tn_nI (by omega)]
    exact hS.chg (hS.1.dropA hj)
theorem sk_addEdge {b t : Int32} (hS : SOK S) : SOK (rs_addEdge S b t).2.2 := by
  unfold rs_addEdge
  split
  · exact hS
  · rename_i h
    have hh := bt_of h
    rw [Bool.and_eq_true] at hh
    have h14 := hS.1.2.1
    obtain ⟨j, hj, rfl⟩ := inR_t (by omega) hh.1
    obtain ⟨i, hi, rfl⟩ := inR_t (by omega) hh.2
    rw [tn_nI (show j < 2 ^ 31 by omega), tn_nI (show i < 2 ^ 31 by omega)]
    split
    · exact hS
    · rename_i h2
      rw [Bool.or_eq_true, decide_eq_true_eq, decide_eq_true_eq, not_or] at h2
      split
      · exact hS
      · exact hS.chg (hS.1.addE hj (by omega) (by omega) hi h2.2)
theorem sk_removeEdge {b t : Int32} (hS : SOK S) : SOK (rs_removeEdge S b t).2.2 := by
  unfold rs_removeEdge
  split
  · exact hS
  · rename_i h
    have hh := bt_of h
    rw [Bool.and_eq_true] at hh
    have h14 := hS.1.2.1
    obtain ⟨j, hj, rfl⟩ := inR_t (by omega) hh.1
    obtain ⟨i, hi, rfl⟩ := inR_t (by omega) hh.2
    rw [tn_nI (show j < 2 ^ 31 by omega), tn_nI (show i < 2 ^ 31 by omega)]
    split
    · exact hS
    · exact hS.chg (hS.1.dropE hj)
theorem sk_thread {b u t : Int32} (hS : SOK S) : SOK (rs_thread S b u t).2.2 := by
  unfold rs_thread
  split
  · exact hS
  · rename_i h
    have hh := bt_of h
    rw [Bool.and_eq_true, Bool.and_eq_true] at hh
    have h14 := hS.1.2.1
    obtain ⟨j, hj, rfl⟩ := inR_t (by omega) hh.1
    obtain ⟨i, hi, rfl⟩ := inR_t (by omega) hh.2.1
    obtain ⟨k, hk, rfl⟩ := inR_t (by omega) hh.2.2
    rw [tn_nI (show j < 2 ^ 31 by omega), tn_nI (show i < 2 ^ 31 by omega), tn_nI (show k < 2 ^ 31 by omega)]
    split
    · exact hS
    · rename_i h2
      have h3 := bt_of h2
      rw [Bool.and_eq_true, decide_eq_true_eq, decide_eq_true_eq] at h3
      split
      · exact hS
      · exact hS.chg (hS.1.thr hj hi hk ((hS.1.2.2.2.1 i).2.1 k h3.2).1 (by omega))
theorem sk_undo (hS : SOK S) : SOK (rs_undo S).2.2 := by
  unfold rs_undo
  split
  · exact hS
  · rename_i h
    obtain ⟨g1, ⟨g2, g2b⟩, g3, g4, g5, g6, g7, g8⟩ := hS
    refine ⟨g2b 0 (by omega), ⟨?_, fun i hi => ?_⟩, g3, g4, g5, Nat.zero_le _, g7, fun i hi => absurd hi (Nat.not_lt_zero i)⟩
    · show S.2.1.1 - 1 ≤ 8
      omega
    · have hi : i < S.2.1.1 - 1 := hi
      exact g2b (i + 1) (by omega)
theorem sk_walk {e : Int32} (hS : SOK S) : SOK (rs_walk S e).2.2 := by
  unfold rs_walk
  split
  · exact hS
  · rename_i h1
    split
    · exact hS
    · rename_i h2
      have hh := bt_of h2
      obtain ⟨g1, g2, g3, g4, g5, g6, g7, g8⟩ := hS
      have hl := (g1.2.2.2.1 (S.2.2.2.2.2.2 S.2.2.2.2.2.1)).1
      obtain ⟨j, hj, rfl⟩ := inR_t (by omega) hh
      rw [tn_nI (by omega)]
      refine ⟨g1, g2, g3, g4, g5, ?_, ?_, fun i hi => ?_⟩
      · show S.2.2.2.2.2.1 + 1 ≤ 30
        omega
      · show (if 0 = S.2.2.2.2.2.1 + 1 then (S.1.2.2 (S.2.2.2.2.2.2 S.2.2.2.2.2.1)).getD j 0 else S.2.2.2.2.2.2 0) = 0
        rw [if_neg (by omega)]
        exact g7
      · have hi : i < S.2.2.2.2.2.1 + 1 := hi
        show Ed S.1 (if i = S.2.2.2.2.2.1 + 1 then (S.1.2.2 (S.2.2.2.2.2.2 S.2.2.2.2.2.1)).getD j 0 else S.2.2.2.2.2.2 i) (if i + 1 = S.2.2.2.2.2.1 + 1 then (S.1.2.2 (S.2.2.2.2.2.2 S.2.2.2.2.2.1)).getD j 0 else S.2.2.2.2.2.2 (i + 1))
        rw [if_neg (by omega)]
        by_cases hc : i = S.2.2.2.2.2.1
        · rw [if_pos (by omega), hc]
          exact getD_in hj
        · rw [if_neg (by omega)]
          exact g8 i (by omega)
theorem sk_clearWalk (hS : SOK S) : SOK (rs_clearWalk S).2.2 := by
  obtain ⟨g1, g2, g3, g4, g5, g6, g7, g8⟩ := hS
  exact ⟨g1, g2, g3, g4, g5, Nat.zero_le _, g7, fun i hi => absurd hi (Nat.not_lt_zero i)⟩
theorem sk_save (hS : SOK S) : SOK (rs_save S).2.2 := by
  obtain ⟨g1, g2, g3, g4, g5, g6, g7, g8⟩ := hS
  exact ⟨g1, g2, (fun g hg => by cases hg; exact g1), g4, g5, g6, g7, g8⟩
theorem sk_restore (hS : SOK S) : SOK (rs_restore S).2.2 := by
  unfold rs_restore
  cases hp : S.2.2.1 with
  | none => exact hS
  | some g =>
    obtain ⟨g1, g2, g3, g4, g5, g6, g7, g8⟩ := hS
    exact ⟨g3 g hp, ⟨Nat.zero_le _, fun i hi => absurd hi (Nat.not_lt_zero i)⟩, (fun q hq => by rw [hp] at g3; exact g3 q hq), g4, g5, Nat.zero_le _, g7, fun i hi => absurd hi (Nat.not_lt_zero i)⟩
theorem sk_actionCount {b : Int32} (hS : SOK S) : SOK (rs_actionCount S b).2.2 := by
  unfold rs_actionCount
  (repeat' split) <;> exact hS
theorem sk_action {b : Int32} {k : Int32} (hS : SOK S) : SOK (rs_action S b k).2.2 := by
  unfold rs_action
  (repeat' split) <;> exact hS
theorem sk_edgeCount {b : Int32} (hS : SOK S) : SOK (rs_edgeCount S b).2.2 := by
  unfold rs_edgeCount
  (repeat' split) <;> exact hS
theorem sk_target {b : Int32} {k : Int32} (hS : SOK S) : SOK (rs_target S b k).2.2 := by
  unfold rs_target
  (repeat' split) <;> exact hS
theorem sk_isReachable {b : Int32} (hS : SOK S) : SOK (rs_isReachable S b).2.2 := by
  unfold rs_isReachable
  (repeat' split) <;> exact hS
theorem sk_predecessors {b : Int32} (hS : SOK S) : SOK (rs_predecessors S b).2.2 := by
  unfold rs_predecessors
  (repeat' split) <;> exact hS
theorem sk_dominates {b : Int32} {t : Int32} (hS : SOK S) : SOK (rs_dominates S b t).2.2 := by
  unfold rs_dominates
  (repeat' split) <;> exact hS
theorem sk_parent {b : Int32} (hS : SOK S) : SOK (rs_parent S b).2.2 := by
  unfold rs_parent
  (repeat' split) <;> exact hS
theorem sk_frontier {b : Int32} (hS : SOK S) : SOK (rs_frontier S b).2.2 := by
  unfold rs_frontier
  (repeat' split) <;> exact hS
theorem sk_isLive {b : Int32} {v : Int32} (hS : SOK S) : SOK (rs_isLive S b v).2.2 := by
  unfold rs_isLive
  (repeat' split) <;> exact hS
theorem sk_minimalMerges {v : Int32} (hS : SOK S) : SOK (rs_minimalMerges S v).2.2 := by
  unfold rs_minimalMerges
  (repeat' split) <;> exact hS
theorem sk_merges {v : Int32} (hS : SOK S) : SOK (rs_merges S v).2.2 := by
  unfold rs_merges
  (repeat' split) <;> exact hS
theorem sk_source {b : Int32} {v : Int32} {z : Bool} (hS : SOK S) : SOK (rs_source S b v z).2.2 := by
  unfold rs_source
  (repeat' split) <;> exact hS
theorem sk_sourceOfUse {b : Int32} {k : Int32} (hS : SOK S) : SOK (rs_sourceOfUse S b k).2.2 := by
  unfold rs_sourceOfUse
  (repeat' split) <;> exact hS
theorem sk_operand {b : Int32} {v : Int32} {p : Int32} (hS : SOK S) : SOK (rs_operand S b v p).2.2 := by
  unfold rs_operand
  (repeat' split) <;> exact hS
theorem sk_differentOperands {b : Int32} {v : Int32} (hS : SOK S) : SOK (rs_differentOperands S b v).2.2 := by
  unfold rs_differentOperands
  (repeat' split) <;> exact hS
theorem sk_usesOf {v : Int32} {s : Int32} (hS : SOK S) : SOK (rs_usesOf S v s).2.2 := by
  unfold rs_usesOf
  (repeat' split) <;> exact hS
theorem sk_reachingCount {b : Int32} {v : Int32} (hS : SOK S) : SOK (rs_reachingCount S b v).2.2 := by
  unfold rs_reachingCount
  (repeat' split) <;> exact hS
theorem sk_reaching {b : Int32} {v : Int32} {y : Int32} (hS : SOK S) : SOK (rs_reaching S b v y).2.2 := by
  unfold rs_reaching
  (repeat' split) <;> exact hS
theorem sk_isInitialReaching {b : Int32} {v : Int32} (hS : SOK S) : SOK (rs_isInitialReaching S b v).2.2 := by
  unfold rs_isInitialReaching
  (repeat' split) <;> exact hS
theorem sk_lastOnWalk {v : Int32} (hS : SOK S) : SOK (rs_lastOnWalk S v).2.2 := by
  unfold rs_lastOnWalk
  (repeat' split) <;> exact hS
theorem sk_mergesOnWalk {v : Int32} (hS : SOK S) : SOK (rs_mergesOnWalk S v).2.2 := by
  unfold rs_mergesOnWalk
  (repeat' split) <;> exact hS
theorem sk_blockCount  (hS : SOK S) : SOK (rs_blockCount S ).2.2 := by
  unfold rs_blockCount
  (repeat' split) <;> exact hS
theorem sk_mergeCount  (hS : SOK S) : SOK (rs_mergeCount S ).2.2 := by
  unfold rs_mergeCount
  (repeat' split) <;> exact hS
theorem sk_errorPosition  (hS : SOK S) : SOK (rs_errorPosition S ).2.2 := by
  unfold rs_errorPosition
  (repeat' split) <;> exact hS
theorem sk_unneeded  (hS : SOK S) : SOK (rs_unneeded S ).2.2 := by
  unfold rs_unneeded
  (repeat' split) <;> exact hS
theorem sk_addedMerges  (hS : SOK S) : SOK (rs_addedMerges S ).2.2 := by
  unfold rs_addedMerges
  (repeat' split) <;> exact hS
theorem sk_removedMerges  (hS : SOK S) : SOK (rs_removedMerges S ).2.2 := by
  unfold rs_removedMerges
  (repeat' split) <;> exact hS
theorem sk_changedUses  (hS : SOK S) : SOK (rs_changedUses S ).2.2 := by
  unfold rs_changedUses
  (repeat' split) <;> exact hS
theorem sk_newlyReachable  (hS : SOK S) : SOK (rs_newlyReachable S ).2.2 := by
  unfold rs_newlyReachable
  (repeat' split) <;> exact hS
theorem sk_walkEnd  (hS : SOK S) : SOK (rs_walkEnd S ).2.2 := by
  unfold rs_walkEnd
  (repeat' split) <;> exact hS
theorem rk_reset {p : Int32} : (rs_reset S p).1 ≤ 1 := by
  unfold rs_reset
  (repeat' split) <;> exact Nat.le_of_ble_eq_true rfl
theorem rk_append {c : Nat} : (rs_append S c).1 ≤ 2 := by
  unfold rs_append
  (repeat' split) <;> exact Nat.le_of_ble_eq_true rfl
theorem rk_define  : (rs_define S ).1 ≤ 1 := by
  unfold rs_define
  (repeat' split) <;> exact Nat.le_of_ble_eq_true rfl
theorem rk_errorPosition  : (rs_errorPosition S ).1 ≤ 1 := by
  unfold rs_errorPosition
  (repeat' split) <;> exact Nat.le_of_ble_eq_true rfl
theorem rk_removeAction {b : Int32} {k : Int32} : (rs_removeAction S b k).1 ≤ 1 := by
  unfold rs_removeAction
  (repeat' split) <;> exact Nat.le_of_ble_eq_true rfl
theorem rk_addEdge {b : Int32} {t : Int32} : (rs_addEdge S b t).1 ≤ 3 := by
  unfold rs_addEdge
  (repeat' split) <;> exact Nat.le_of_ble_eq_true rfl
theorem rk_removeEdge {b : Int32} {t : Int32} : (rs_removeEdge S b t).1 ≤ 2 := by
  unfold rs_removeEdge
  (repeat' split) <;> exact Nat.le_of_ble_eq_true rfl
theorem rk_thread {b : Int32} {u : Int32} {t : Int32} : (rs_thread S b u t).1 ≤ 3 := by
  unfold rs_thread
  (repeat' split) <;> exact Nat.le_of_ble_eq_true rfl
theorem rk_undo  : (rs_undo S ).1 ≤ 1 := by
  unfold rs_undo
  (repeat' split) <;> exact Nat.le_of_ble_eq_true rfl
theorem rk_walk {e : Int32} : (rs_walk S e).1 ≤ 2 := by
  unfold rs_walk
  (repeat' split) <;> exact Nat.le_of_ble_eq_true rfl
theorem rk_restore  : (rs_restore S ).1 ≤ 1 := by
  unfold rs_restore
  (repeat' split) <;> exact Nat.le_of_ble_eq_true rfl
theorem rk_actionCount {b : Int32} : (rs_actionCount S b).1 ≤ 1 := by
  unfold rs_actionCount
  (repeat' split) <;> exact Nat.le_of_ble_eq_true rfl
theorem rk_action {b : Int32} {k : Int32} : (rs_action S b k).1 ≤ 1 := by
  unfold rs_action
  (repeat' split) <;> exact Nat.le_of_ble_eq_true rfl
theorem rk_edgeCount {b : Int32} : (rs_edgeCount S b).1 ≤ 1 := by
  unfold rs_edgeCount
  (repeat' split) <;> exact Nat.le_of_ble_eq_true rfl
theorem rk_target {b : Int32} {k : Int32} : (rs_target S b k).1 ≤ 1 := by
  unfold rs_target
  (repeat' split) <;> exact Nat.le_of_ble_eq_true rfl
theorem rk_isReachable {b : Int32} : (rs_isReachable S b).1 ≤ 1 := by
  unfold rs_isReachable
  (repeat' split) <;> exact Nat.le_of_ble_eq_true rfl
theorem rk_predecessors {b : Int32} : (rs_predecessors S b).1 ≤ 2 := by
  unfold rs_predecessors
  (repeat' split) <;> exact Nat.le_of_ble_eq_true rfl
theorem rk_dominates {b : Int32} {t : Int32} : (rs_dominates S b t).1 ≤ 2 := by
  unfold rs_dominates
  (repeat' split) <;> exact Nat.le_of_ble_eq_true rfl
theorem rk_parent {b : Int32} : (rs_parent S b).1 ≤ 3 := by
  unfold rs_parent
  (repeat' split) <;> exact Nat.le_of_ble_eq_true rfl
theorem rk_frontier {b : Int32} : (rs_frontier S b).1 ≤ 2 := by
  unfold rs_frontier
  (repeat' split) <;> exact Nat.le_of_ble_eq_true rfl
theorem rk_isLive {b : Int32} {v : Int32} : (rs_isLive S b v).1 ≤ 2 := by
  unfold rs_isLive
  (repeat' split) <;> exact Nat.le_of_ble_eq_true rfl
theorem rk_minimalMerges {v : Int32} : (rs_minimalMerges S v).1 ≤ 1 := by
  unfold rs_minimalMerges
  (repeat' split) <;> exact Nat.le_of_ble_eq_true rfl
theorem rk_merges {v : Int32} : (rs_merges S v).1 ≤ 1 := by
  unfold rs_merges
  (repeat' split) <;> exact Nat.le_of_ble_eq_true rfl
theorem rk_source {b : Int32} {v : Int32} {z : Bool} : (rs_source S b v z).1 ≤ 2 := by
  unfold rs_source
  (repeat' split) <;> exact Nat.le_of_ble_eq_true rfl
theorem rk_sourceOfUse {b : Int32} {k : Int32} : (rs_sourceOfUse S b k).1 ≤ 3 := by
  unfold rs_sourceOfUse
  (repeat' split) <;> exact Nat.le_of_ble_eq_true rfl
theorem rk_operand {b : Int32} {v : Int32} {p : Int32} : (rs_operand S b v p).1 ≤ 3 := by
  unfold rs_operand
  (repeat' split) <;> exact Nat.le_of_ble_eq_true rfl
theorem rk_differentOperands {b : Int32} {v : Int32} : (rs_differentOperands S b v).1 ≤ 3 := by
  unfold rs_differentOperands
  (repeat' split) <;> exact Nat.le_of_ble_eq_true rfl
theorem rk_usesOf {v : Int32} {s : Int32} : (rs_usesOf S v s).1 ≤ 1 := by
  unfold rs_usesOf
  (repeat' split) <;> exact Nat.le_of_ble_eq_true rfl
theorem rk_reachingCount {b : Int32} {v : Int32} : (rs_reachingCount S b v).1 ≤ 2 := by
  unfold rs_reachingCount
  (repeat' split) <;> exact Nat.le_of_ble_eq_true rfl
theorem rk_reaching {b : Int32} {v : Int32} {y : Int32} : (rs_reaching S b v y).1 ≤ 3 := by
  unfold rs_reaching
  (repeat' split) <;> exact Nat.le_of_ble_eq_true rfl
theorem rk_isInitialReaching {b : Int32} {v : Int32} : (rs_isInitialReaching S b v).1 ≤ 2 := by
  unfold rs_isInitialReaching
  (repeat' split) <;> exact Nat.le_of_ble_eq_true rfl
theorem rk_lastOnWalk {v : Int32} : (rs_lastOnWalk S v).1 ≤ 1 := by
  unfold rs_lastOnWalk
  (repeat' split) <;> exact Nat.le_of_ble_eq_true rfl
theorem rk_mergesOnWalk {v : Int32} : (rs_mergesOnWalk S v).1 ≤ 1 := by
  unfold rs_mergesOnWalk
  (repeat' split) <;> exact Nat.le_of_ble_eq_true rfl
end Sok
