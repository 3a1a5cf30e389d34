/-! what the calls answer, and what they leave: the state that both programs are held against -/
/-- the graph; how many graphs are remembered, the latest first; the saved one; the input; the kept error position; the walk -/
abbrev SS : Type := Gr × (Nat × (Nat → Gr)) × Option Gr × List Nat × Int32 × Nat × (Nat → Nat)
def SOK (S : SS) : Prop := Wf S.1 ∧ (S.2.1.1 ≤ 8 ∧ ∀ i, i < S.2.1.1 → Wf (S.2.1.2 i)) ∧ (∀ g, S.2.2.1 = some g → Wf g) ∧ Cok S.2.2.2.1 ∧ (S.2.2.2.2.1 = -1 ∨ ∃ e, e < 100 ∧ S.2.2.2.2.1 = nI e) ∧ S.2.2.2.2.2.1 ≤ 30 ∧ S.2.2.2.2.2.2 0 = 0 ∧ ∀ i, i < S.2.2.2.2.2.1 → Ed S.1 (S.2.2.2.2.2.2 i) (S.2.2.2.2.2.2 (i + 1))
/-- the graph changes: the old one is remembered, the walk is emptied -/
def chg (S : SS) (G' : Gr) : SS := (G', (min (S.2.1.1 + 1) 8, hcons S.1 S.2.1.2), S.2.2.1, S.2.2.2.1, S.2.2.2.2.1, 0, S.2.2.2.2.2.2)
abbrev Rs : Type := Nat × Int32 × SS
/-- the member of a set with an index -/
def mAt (P : Nat → Bool) (i : Nat) : Nat → Nat → Nat
  | _, 0 => 0
  | b, n + 1 => if P b = true then (if i = cnt P b then b else mAt P i (b + 1) n) else mAt P i (b + 1) n
/-- the last definition on the walk's first c blocks -/
def lwN (G : Gr) (v : Nat) (W : Nat → Nat) : Nat → Nat
  | 0 => 2000
  | c + 1 => match ldef (G.2.1 (W c)) v (G.2.1 (W c)).length with
    | some k => 10 * W c + k
    | none => lwN G v W c
noncomputable def adN (G H : Gr) : Nat := sm (fun v => cnt (fun b => bp (PM G v b) && !bp (PM H v b)) 14) 4
noncomputable def chB (G H : Gr) (b : Nat) : Nat := cnt (fun k => decide (10 ≤ (G.2.1 b).getD k 0) && (decide ((G.2.1 b).getD k 0 = (H.2.1 b).getD k 0) && decide (srcU G b k ≠ srcU H b k))) (min (G.2.1 b).length (H.2.1 b).length)
noncomputable def chN (G H : Gr) : Nat := sm (fun b => if (bp (Rc G b) && bp (Rc H b)) = true then chB G H b else 0) 14
noncomputable def tn (b : Int32) : Nat := b.toNatClampNeg
theorem tn_nI {j : Nat} (h : j < 2 ^ 31) : tn (nI j) = j := nI_clamp h
noncomputable def rs_reset (S : SS) (p : Int32) : Rs := if (decide (p < nI 1) || decide (nI 14 < p)) = true then (1, 0, S) else (0, nI S.1.1, ((tn p, fun _ => [], fun _ => []), (0, S.2.1.2), S.2.2.1, S.2.2.2.1, S.2.2.2.2.1, 0, S.2.2.2.2.2.2))
noncomputable def rs_blockCount (S : SS)  : Rs := (0, nI S.1.1, S)
noncomputable def rs_append (S : SS) (ch : Nat) : Rs := if (decide (ch < 32) || decide (126 < ch)) = true then (1, 0, S) else if 30 ≤ S.2.2.2.1.length then (2, 0, S) else (0, nI (S.2.2.2.1.length + 1), (S.1, S.2.1, S.2.2.1, S.2.2.2.1 ++ [ch], S.2.2.2.2))
noncomputable def rs_errorPosition (S : SS)  : Rs := if S.2.2.2.2.1 = -1 then (1, 0, S) else (0, S.2.2.2.2.1, S)
noncomputable def rs_removeAction (S : SS) (b k : Int32) : Rs := if hasAct S.1 b k = false then (1, 0, S) else (0, nI ((S.1.2.1 (tn b)).length - 1), chg S (S.1.1, va_up S.1.2.1 (tn b) ((S.1.2.1 (tn b)).eraseIdx (tn k)), S.1.2.2))
noncomputable def rs_addEdge (S : SS) (b t : Int32) : Rs := if (inR b S.1.1 && inR t S.1.1) = false then (1, 0, S) else if (decide (tn t = 0) || decide (tn t ∈ S.1.2.2 (tn b))) = true then (2, 0, S) else if 3 ≤ (S.1.2.2 (tn b)).length then (3, 0, S) else (0, nI (S.1.2.2 (tn b)).length, chg S (S.1.1, S.1.2.1, va_up S.1.2.2 (tn b) (S.1.2.2 (tn b) ++ [tn t])))
noncomputable def rs_removeEdge (S : SS) (b t : Int32) : Rs := if (inR b S.1.1 && inR t S.1.1) = false then (1, 0, S) else if ¬ tn t ∈ S.1.2.2 (tn b) then (2, 0, S) else (0, nI ((S.1.2.2 (tn b)).length - 1), chg S (S.1.1, S.1.2.1, va_up S.1.2.2 (tn b) ((S.1.2.2 (tn b)).eraseIdx ((S.1.2.2 (tn b)).idxOf (tn t)))))
noncomputable def rs_thread (S : SS) (b u t : Int32) : Rs := if (inR b S.1.1 && (inR u S.1.1 && inR t S.1.1)) = false then (1, 0, S) else if (decide (tn u ∈ S.1.2.2 (tn b)) && decide (tn t ∈ S.1.2.2 (tn u))) = false then (2, 0, S) else if 14 ≤ S.1.1 then (3, 0, S) else (0, nI S.1.1, chg S (S.1.1 + 1, va_up S.1.2.1 S.1.1 (S.1.2.1 (tn u)), va_up (va_up S.1.2.2 S.1.1 [tn t]) (tn b) ((S.1.2.2 (tn b)).set ((S.1.2.2 (tn b)).idxOf (tn u)) S.1.1)))
noncomputable def rs_actionCount (S : SS) (b : Int32) : Rs := if inR b S.1.1 = false then (1, 0, S) else (0, nI (S.1.2.1 (tn b)).length, S)
noncomputable def rs_action (S : SS) (b k : Int32) : Rs := if hasAct S.1 b k = false then (1, 0, S) else (0, nI ((S.1.2.1 (tn b)).getD (tn k) 0), S)
noncomputable def rs_edgeCount (S : SS) (b : Int32) : Rs := if inR b S.1.1 = false then (1, 0, S) else (0, nI (S.1.2.2 (tn b)).length, S)
noncomputable def rs_target (S : SS) (b k : Int32) : Rs := if hasEdg S.1 b k = false then (1, 0, S) else (0, nI ((S.1.2.2 (tn b)).getD (tn k) 0), S)
noncomputable def rs_isReachable (S : SS) (b : Int32) : Rs := if inR b S.1.1 = false then (1, 0, S) else (0, bI (bp (Rc S.1 (tn b))), S)
noncomputable def rs_predecessors (S : SS) (b : Int32) : Rs := if inR b S.1.1 = false then (1, 0, S) else if bp (Rc S.1 (tn b)) = false then (2, 0, S) else (0, msk (fun p => bp (Pd S.1 p (tn b))), S)
noncomputable def rs_dominates (S : SS) (b t : Int32) : Rs := if (inR b S.1.1 && inR t S.1.1) = false then (1, 0, S) else if (bp (Rc S.1 (tn b)) && bp (Rc S.1 (tn t))) = false then (2, 0, S) else (0, bI (bp (Dm S.1 (tn b) (tn t))), S)
noncomputable def rs_parent (S : SS) (b : Int32) : Rs := if inR b S.1.1 = false then (1, 0, S) else if bp (Rc S.1 (tn b)) = false then (2, 0, S) else if tn b = 0 then (3, 0, S) else (0, nI (par S.1 (tn b)), S)
noncomputable def rs_frontier (S : SS) (b : Int32) : Rs := if inR b S.1.1 = false then (1, 0, S) else if bp (Rc S.1 (tn b)) = false then (2, 0, S) else (0, msk (fun y => bp (Fr' S.1 (tn b) y)), S)
noncomputable def rs_isLive (S : SS) (b v : Int32) : Rs := if (inR v 4 && inR b S.1.1) = false then (1, 0, S) else if bp (Rc S.1 (tn b)) = false then (2, 0, S) else (0, bI (bp (LV S.1 (tn v) (tn b))), S)
noncomputable def rs_minimalMerges (S : SS) (v : Int32) : Rs := if inR v 4 = false then (1, 0, S) else (0, msk (fun b => bp (MN S.1 (tn v) b)), S)
noncomputable def rs_merges (S : SS) (v : Int32) : Rs := if inR v 4 = false then (1, 0, S) else (0, msk (fun b => bp (PM S.1 (tn v) b)), S)
noncomputable def rs_mergeCount (S : SS)  : Rs := (0, nI (mcN S.1), S)
noncomputable def rs_source (S : SS) (b v : Int32) (z : Bool) : Rs := if (inR v 4 && inR b S.1.1) = false then (1, 0, S) else if bp (Rc S.1 (tn b)) = false then (2, 0, S) else (0, nI (if z = true then srcE S.1 (tn v) (tn b) else srcB S.1 (tn v) (tn b)), S)
noncomputable def rs_sourceOfUse (S : SS) (b k : Int32) : Rs := if hasAct S.1 b k = false then (1, 0, S) else if bp (Rc S.1 (tn b)) = false then (2, 0, S) else if (S.1.2.1 (tn b)).getD (tn k) 0 < 10 then (3, 0, S) else (0, nI (srcU S.1 (tn b) (tn k)), S)
noncomputable def rs_operand (S : SS) (b v p : Int32) : Rs := if (inR v 4 && inR b S.1.1) = false then (1, 0, S) else if bp (Rc S.1 (tn b)) = false then (2, 0, S) else if (bp (PM S.1 (tn v) (tn b)) && (inR p S.1.1 && bp (Pd S.1 (tn p) (tn b)))) = false then (3, 0, S) else (0, nI (srcE S.1 (tn v) (tn p)), S)
noncomputable def rs_differentOperands (S : SS) (b v : Int32) : Rs := if (inR v 4 && inR b S.1.1) = false then (1, 0, S) else if bp (Rc S.1 (tn b)) = false then (2, 0, S) else if bp (PM S.1 (tn v) (tn b)) = false then (3, 0, S) else (0, nI (opN S.1 (tn v) (tn b)), S)
noncomputable def rs_usesOf (S : SS) (v s : Int32) : Rs := if inR v 4 = false then (1, 0, S) else (0, nI (usA S.1 (tn v) s), S)
noncomputable def rs_unneeded (S : SS)  : Rs := (0, nI (unN S.1), S)
noncomputable def rs_reachingCount (S : SS) (b v : Int32) : Rs := if (inR v 4 && inR b S.1.1) = false then (1, 0, S) else if bp (Rc S.1 (tn b)) = false then (2, 0, S) else (0, nI (cnt (fun p => bp (RB S.1 (tn v) (tn b) p)) 14), S)
noncomputable def rs_reaching (S : SS) (b v i : Int32) : Rs := if (inR v 4 && inR b S.1.1) = false then (1, 0, S) else if bp (Rc S.1 (tn b)) = false then (2, 0, S) else if inR i (cnt (fun p => bp (RB S.1 (tn v) (tn b) p)) 14) = false then (3, 0, S) else (0, nI (srcE S.1 (tn v) (mAt (fun p => bp (RB S.1 (tn v) (tn b) p)) (tn i) 0 14)), S)
noncomputable def rs_isInitialReaching (S : SS) (b v : Int32) : Rs := if (inR v 4 && inR b S.1.1) = false then (1, 0, S) else if bp (Rc S.1 (tn b)) = false then (2, 0, S) else (0, bI (bp (OP S.1 (tn v) (tn b) 0)), S)
noncomputable def rs_addedMerges (S : SS)  : Rs := (0, nI (if S.2.1.1 = 0 then 0 else adN S.1 (S.2.1.2 0)), S)
noncomputable def rs_removedMerges (S : SS)  : Rs := (0, nI (if S.2.1.1 = 0 then 0 else adN (S.2.1.2 0) S.1), S)
noncomputable def rs_changedUses (S : SS)  : Rs := (0, nI (if S.2.1.1 = 0 then 0 else chN S.1 (S.2.1.2 0)), S)
noncomputable def rs_newlyReachable (S : SS)  : Rs := (0, msk (fun k => !decide (S.2.1.1 = 0) && (bp (Rc S.1 k) && !bp (Rc (S.2.1.2 0) k))), S)
noncomputable def rs_undo (S : SS)  : Rs := if S.2.1.1 = 0 then (1, 0, S) else (0, nI (S.2.1.1 - 1), (S.2.1.2 0, (S.2.1.1 - 1, fun i => S.2.1.2 (i + 1)), S.2.2.1, S.2.2.2.1, S.2.2.2.2.1, 0, S.2.2.2.2.2.2))
noncomputable def rs_walk (S : SS) (e : Int32) : Rs := if 30 ≤ S.2.2.2.2.2.1 then (1, 0, S) else if inR e (S.1.2.2 (S.2.2.2.2.2.2 S.2.2.2.2.2.1)).length = false then (2, 0, S) else (0, nI ((S.1.2.2 (S.2.2.2.2.2.2 S.2.2.2.2.2.1)).getD (tn e) 0), (S.1, S.2.1, S.2.2.1, S.2.2.2.1, S.2.2.2.2.1, S.2.2.2.2.2.1 + 1, fun i => if i = S.2.2.2.2.2.1 + 1 then (S.1.2.2 (S.2.2.2.2.2.2 S.2.2.2.2.2.1)).getD (tn e) 0 else S.2.2.2.2.2.2 i))
noncomputable def rs_clearWalk (S : SS)  : Rs := (0, nI S.2.2.2.2.2.1, (S.1, S.2.1, S.2.2.1, S.2.2.2.1, S.2.2.2.2.1, 0, S.2.2.2.2.2.2))
noncomputable def rs_walkEnd (S : SS)  : Rs := (0, nI (S.2.2.2.2.2.2 S.2.2.2.2.2.1), S)
noncomputable def rs_lastOnWalk (S : SS) (v : Int32) : Rs := if inR v 4 = false then (1, 0, S) else (0, nI (lwN S.1 (tn v) S.2.2.2.2.2.2 S.2.2.2.2.2.1), S)
noncomputable def rs_mergesOnWalk (S : SS) (v : Int32) : Rs := if inR v 4 = false then (1, 0, S) else (0, nI (cnt (fun i => bp (PM S.1 (tn v) (S.2.2.2.2.2.2 i))) (S.2.2.2.2.2.1 + 1)), S)
noncomputable def rs_save (S : SS)  : Rs := (0, nI S.1.1, (S.1, S.2.1, some S.1, S.2.2.2))
noncomputable def rs_define (S : SS) : Rs := match pr S.2.2.2.1 S.1.1 with
  | .inl e => (1, 0, (S.1, S.2.1, S.2.2.1, [], nI e, S.2.2.2.2.2))
  | .inr (b, la, le) => (0, nI b, chg (S.1, S.2.1, S.2.2.1, [], S.2.2.2.2) (S.1.1, va_up S.1.2.1 b la, va_up S.1.2.2 b le))
noncomputable def rs_restore (S : SS) : Rs := match S.2.2.1 with
  | none => (1, 0, S)
  | some g => (0, nI g.1, (g, (0, S.2.1.2), S.2.2.1, S.2.2.2.1, S.2.2.2.2.1, 0, S.2.2.2.2.2.2))
noncomputable def rk_walks (S : SS) (b n : Int32) : Nat := if inR b S.1.1 = false then 1 else if inR n 31 = false then 2 else 0
noncomputable def rv_walks (S : SS) (b n : Int32) : Int64 := wkN S.1 (tn n) (tn b)
