/-! the law's helpers, by contract -/
section Help
variable {κ : K0} {σ : Nat → Option Kd} {mi : Nat → Nat → Int32} {ml : Nat → Nat → Int64} {x o : Nat} {S : SS}
theorem ctL_action (hL : XL σ x) (hX : XA mi x S) (hS : SOK S) (ho : σ o = lngs 1) {b k : Int32} : CtHP κ 1 6 13 mrL_action hhL_action [.ref x, .int b, .int k, .ref o] (MM σ mi ml) (HR σ mi x o ((rs_action S b k).1) (vI (rs_action S b k).2.1) ((rs_action S b k).2.2)) := by
  refine CtHP.of rfl (by simp [Value.category]) (Nat.le_of_ble_eq_true rfl) ?_
  refine V_aload_n dL_action_0 rfl rfl ?_
  refine V_iconst (v := nI 0) dL_action_1 (by decide) ?_
  refine V_aload_n dL_action_2 rfl rfl ?_
  refine V_iload_n dL_action_3 rfl rfl ?_
  refine V_iload_n dL_action_4 rfl rfl ?_
  refine V_hcall (ctX5_action hL hX hS) mvX5_action lkL_49 hL.1 rfl rfl rfl (Nat.le_of_ble_eq_true rfl) ⟨⟨Nat.le_of_ble_eq_true rfl, Nat.le_of_ble_eq_true rfl⟩, Nat.le_of_ble_eq_true rfl, Nat.le_of_ble_eq_true rfl⟩ dL_action_5 (fun h0 m' l' hX' hfr => ?_) (fun j hj m' l' hX' hfr => ?_)
  · refine V_i2l dL_action_8 ?_
    refine V_lastN ho 0 rfl (by decide) (by decide) dL_action_9 ?_
    refine V_goto 17 dL_action_10 (by decide) ?_
    refine V_iconst (v := nI 0) dL_action_17 (by decide) ?_
    exact V_iretPH rfl ⟨by rw [h0], m', _, rfl, hX', fun _ => (u2_s _ _ _ _).trans (rfl), hfr⟩ ⟨Nat.le_of_ble_eq_true rfl, Nat.le_of_ble_eq_true rfl⟩ dL_action_18
  · have hb : j + 1 ≤ 1 := by rw [← hj]; exact rk_action
    match j, hj, hb with
    | 0, hj, _ =>
      refine VX_catch (E := EIOB) [] (0, 10, 13, 34) [] rfl (fun _ h => absurd h List.not_mem_nil) rfl (by decide) clL_34 cstIOB (fun q => ?_)
      refine V_astore dL_action_13 (Nat.le_of_ble_eq_true rfl) ?_
      refine V_iconst (v := nI 1) dL_action_15 (by decide) ?_
      exact V_iretPH rfl ⟨by rw [hj], m', l', rfl, hX', fun h => absurd (hj.symm.trans h) (by omega), hfr⟩ ⟨Nat.le_of_ble_eq_true rfl, Nat.le_of_ble_eq_true rfl⟩ dL_action_16
    | q + 1, _, hb => exact absurd hb (by omega)
theorem ctL_actionCount (hL : XL σ x) (hX : XA mi x S) (hS : SOK S) (ho : σ o = lngs 1) {b : Int32} : CtHP κ 1 6 13 mrL_actionCount hhL_actionCount [.ref x, .int b, .ref o] (MM σ mi ml) (HR σ mi x o ((rs_actionCount S b).1) (vI (rs_actionCount S b).2.1) ((rs_actionCount S b).2.2)) := by
  refine CtHP.of rfl (by simp [Value.category]) (Nat.le_of_ble_eq_true rfl) ?_
  refine V_aload_n dL_actionCount_0 rfl rfl ?_
  refine V_iconst (v := nI 0) dL_actionCount_1 (by decide) ?_
  refine V_aload_n dL_actionCount_2 rfl rfl ?_
  refine V_iload_n dL_actionCount_3 rfl rfl ?_
  refine V_hcall (ctX5_actionCount hL hX hS) mvX5_actionCount lkL_46 hL.1 rfl rfl rfl (Nat.le_of_ble_eq_true rfl) ⟨⟨Nat.le_of_ble_eq_true rfl, Nat.le_of_ble_eq_true rfl⟩, Nat.le_of_ble_eq_true rfl, Nat.le_of_ble_eq_true rfl⟩ dL_actionCount_4 (fun h0 m' l' hX' hfr => ?_) (fun j hj m' l' hX' hfr => ?_)
  · refine V_i2l dL_actionCount_7 ?_
    refine V_lastN ho 0 rfl (by decide) (by decide) dL_actionCount_8 ?_
    refine V_goto 15 dL_actionCount_9 (by decide) ?_
    refine V_iconst (v := nI 0) dL_actionCount_15 (by decide) ?_
    exact V_iretPH rfl ⟨by rw [h0], m', _, rfl, hX', fun _ => (u2_s _ _ _ _).trans (rfl), hfr⟩ ⟨Nat.le_of_ble_eq_true rfl, Nat.le_of_ble_eq_true rfl⟩ dL_actionCount_16
  · have hb : j + 1 ≤ 1 := by rw [← hj]; exact rk_actionCount
    match j, hj, hb with
    | 0, hj, _ =>
      refine VX_catch (E := EIOB) [] (0, 9, 12, 34) [] rfl (fun _ h => absurd h List.not_mem_nil) rfl (by decide) clL_34 cstIOB (fun q => ?_)
      refine V_astore_n dL_actionCount_12 rfl (Nat.le_of_ble_eq_true rfl) ?_
      refine V_iconst (v := nI 1) dL_actionCount_13 (by decide) ?_
      exact V_iretPH rfl ⟨by rw [hj], m', l', rfl, hX', fun h => absurd (hj.symm.trans h) (by omega), hfr⟩ ⟨Nat.le_of_ble_eq_true rfl, Nat.le_of_ble_eq_true rfl⟩ dL_actionCount_14
    | q + 1, _, hb => exact absurd hb (by omega)
theorem ctL_addEdge (hL : XL σ x) (hX : XA mi x S) (hS : SOK S) (ho : σ o = lngs 1) {b t : Int32} : CtHP κ 1 6 13 mrL_addEdge hhL_addEdge [.ref x, .int b, .int t, .ref o] (MM σ mi ml) (HR σ mi x o ((rs_addEdge S b t).1) (vI (rs_addEdge S b t).2.1) ((rs_addEdge S b t).2.2)) := by
  refine CtHP.of rfl (by simp [Value.category]) (Nat.le_of_ble_eq_true rfl) ?_
  refine V_aload_n dL_addEdge_0 rfl rfl ?_
  refine V_iconst (v := nI 0) dL_addEdge_1 (by decide) ?_
  refine V_aload_n dL_addEdge_2 rfl rfl ?_
  refine V_iload_n dL_addEdge_3 rfl rfl ?_
  refine V_iload_n dL_addEdge_4 rfl rfl ?_
  refine V_hcall (ctX5_addEdge hL hX hS) mvX5_addEdge lkL_36 hL.1 rfl rfl rfl (Nat.le_of_ble_eq_true rfl) ⟨⟨Nat.le_of_ble_eq_true rfl, Nat.le_of_ble_eq_true rfl⟩, Nat.le_of_ble_eq_true rfl, Nat.le_of_ble_eq_true rfl⟩ dL_addEdge_5 (fun h0 m' l' hX' hfr => ?_) (fun j hj m' l' hX' hfr => ?_)
  · refine V_i2l dL_addEdge_8 ?_
    refine V_lastN ho 0 rfl (by decide) (by decide) dL_addEdge_9 ?_
    refine V_goto 25 dL_addEdge_10 (by decide) ?_
    refine V_iconst (v := nI 0) dL_addEdge_25 (by decide) ?_
    exact V_iretPH rfl ⟨by rw [h0], m', _, rfl, hX', fun _ => (u2_s _ _ _ _).trans (rfl), hfr⟩ ⟨Nat.le_of_ble_eq_true rfl, Nat.le_of_ble_eq_true rfl⟩ dL_addEdge_26
  · have hb : j + 1 ≤ 3 := by rw [← hj]; exact rk_addEdge
    match j, hj, hb with
    | 0, hj, _ =>
      refine VX_catch (E := EIOB) [] (0, 10, 13, 34) [(0, 10, 17, 13), (0, 10, 21, 19)] rfl (fun _ h => absurd h List.not_mem_nil) rfl (by decide) clL_34 cstIOB (fun q => ?_)
      refine V_astore dL_addEdge_13 (Nat.le_of_ble_eq_true rfl) ?_
      refine V_iconst (v := nI 1) dL_addEdge_15 (by decide) ?_
      exact V_iretPH rfl ⟨by rw [hj], m', l', rfl, hX', fun h => absurd (hj.symm.trans h) (by omega), hfr⟩ ⟨Nat.le_of_ble_eq_true rfl, Nat.le_of_ble_eq_true rfl⟩ dL_addEdge_16
    | 1, hj, _ =>
      refine VX_catch (E := EIAE) [(0, 10, 13, 34)] (0, 10, 17, 13) [(0, 10, 21, 19)] rfl (List.forall_mem_cons.mpr ⟨⟨by decide, _, clL_34, nc_IAE_IOB⟩, fun _ h => absurd h List.not_mem_nil⟩) rfl (by decide) clL_13 cstIAE (fun q => ?_)
      refine V_astore dL_addEdge_17 (Nat.le_of_ble_eq_true rfl) ?_
      refine V_iconst (v := nI 2) dL_addEdge_19 (by decide) ?_
      exact V_iretPH rfl ⟨by rw [hj], m', l', rfl, hX', fun h => absurd (hj.symm.trans h) (by omega), hfr⟩ ⟨Nat.le_of_ble_eq_true rfl, Nat.le_of_ble_eq_true rfl⟩ dL_addEdge_20
    | 2, hj, _ =>
      refine VX_catch (E := EISE) [(0, 10, 13, 34), (0, 10, 17, 13)] (0, 10, 21, 19) [] rfl (List.forall_mem_cons.mpr ⟨⟨by decide, _, clL_34, nc_ISE_IOB⟩, List.forall_mem_cons.mpr ⟨⟨by decide, _, clL_13, nc_ISE_IAE⟩, fun _ h => absurd h List.not_mem_nil⟩⟩) rfl (by decide) clL_19 cstISE (fun q => ?_)
      refine V_astore dL_addEdge_21 (Nat.le_of_ble_eq_true rfl) ?_
      refine V_iconst (v := nI 3) dL_addEdge_23 (by decide) ?_
      exact V_iretPH rfl ⟨by rw [hj], m', l', rfl, hX', fun h => absurd (hj.symm.trans h) (by omega), hfr⟩ ⟨Nat.le_of_ble_eq_true rfl, Nat.le_of_ble_eq_true rfl⟩ dL_addEdge_24
    | q + 3, _, hb => exact absurd hb (by omega)
theorem ctL_append (hL : XL σ x) (hX : XA mi x S) (hS : SOK S) (ho : σ o = lngs 1) {c : Nat} (hc : c < 65536) : CtHP κ 1 6 13 mrL_append hhL_append [.ref x, .int (nI c), .ref o] (MM σ mi ml) (HR σ mi x o ((rs_append S c).1) (vI (rs_append S c).2.1) ((rs_append S c).2.2)) := by
  refine CtHP.of rfl (by simp [Value.category]) (Nat.le_of_ble_eq_true rfl) ?_
  refine V_aload_n dL_append_0 rfl rfl ?_
  refine V_iconst (v := nI 0) dL_append_1 (by decide) ?_
  refine V_aload_n dL_append_2 rfl rfl ?_
  refine V_iload_n dL_append_3 rfl rfl ?_
  refine V_hcall (ctX5_append hL hX hS hc) mvX5_append lkL_15 hL.1 rfl rfl rfl (Nat.le_of_ble_eq_true rfl) ⟨⟨Nat.le_of_ble_eq_true rfl, Nat.le_of_ble_eq_true rfl⟩, Nat.le_of_ble_eq_true rfl, Nat.le_of_ble_eq_true rfl⟩ dL_append_4 (fun h0 m' l' hX' hfr => ?_) (fun j hj m' l' hX' hfr => ?_)
  · refine V_i2l dL_append_7 ?_
    refine V_lastN ho 0 rfl (by decide) (by decide) dL_append_8 ?_
    refine V_goto 18 dL_append_9 (by decide) ?_
    refine V_iconst (v := nI 0) dL_append_18 (by decide) ?_
    exact V_iretPH rfl ⟨by rw [h0], m', _, rfl, hX', fun _ => (u2_s _ _ _ _).trans (rfl), hfr⟩ ⟨Nat.le_of_ble_eq_true rfl, Nat.le_of_ble_eq_true rfl⟩ dL_append_19
  · have hb : j + 1 ≤ 2 := by rw [← hj]; exact rk_append
    match j, hj, hb with
    | 0, hj, _ =>
      refine VX_catch (E := EIAE) [] (0, 9, 12, 13) [(0, 9, 15, 19)] rfl (fun _ h => absurd h List.not_mem_nil) rfl (by decide) clL_13 cstIAE (fun q => ?_)
      refine V_astore_n dL_append_12 rfl (Nat.le_of_ble_eq_true rfl) ?_
      refine V_iconst (v := nI 1) dL_append_13 (by decide) ?_
      exact V_iretPH rfl ⟨by rw [hj], m', l', rfl, hX', fun h => absurd (hj.symm.trans h) (by omega), hfr⟩ ⟨Nat.le_of_ble_eq_true rfl, Nat.le_of_ble_eq_true rfl⟩ dL_append_14
    | 1, hj, _ =>
      refine VX_catch (E := EISE) [(0, 9, 12, 13)] (0, 9, 15, 19) [] rfl (List.forall_mem_cons.mpr ⟨⟨by decide, _, clL_13, nc_ISE_IAE⟩, fun _ h => absurd h List.not_mem_nil⟩) rfl (by decide) clL_19 cstISE (fun q => ?_)
      refine V_astore_n dL_append_15 rfl (Nat.le_of_ble_eq_true rfl) ?_
      refine V_iconst (v := nI 2) dL_append_16 (by decide) ?_
      exact V_iretPH rfl ⟨by rw [hj], m', l', rfl, hX', fun h => absurd (hj.symm.trans h) (by omega), hfr⟩ ⟨Nat.le_of_ble_eq_true rfl, Nat.le_of_ble_eq_true rfl⟩ dL_append_17
    | q + 2, _, hb => exact absurd hb (by omega)
theorem ctL_define (hL : XL σ x) (hX : XA mi x S) (hS : SOK S) (ho : σ o = lngs 1)  : CtHP κ 1 6 13 mrL_define hhL_define [.ref x, .ref o] (MM σ mi ml) (HR σ mi x o ((rs_define S).1) (vI (rs_define S).2.1) ((rs_define S).2.2)) := by
  refine CtHP.of rfl (by simp [Value.category]) (Nat.le_of_ble_eq_true rfl) ?_
  refine V_aload_n dL_define_0 rfl rfl ?_
  refine V_iconst (v := nI 0) dL_define_1 (by decide) ?_
  refine V_aload_n dL_define_2 rfl rfl ?_
  refine V_hcall (ctX5_define hL hX hS) mvX5_define lkL_21 hL.1 rfl rfl rfl (Nat.le_of_ble_eq_true rfl) ⟨⟨Nat.le_of_ble_eq_true rfl, Nat.le_of_ble_eq_true rfl⟩, Nat.le_of_ble_eq_true rfl, Nat.le_of_ble_eq_true rfl⟩ dL_define_3 (fun h0 m' l' hX' hfr => ?_) (fun j hj m' l' hX' hfr => ?_)
  · refine V_i2l dL_define_6 ?_
    refine V_lastN ho 0 rfl (by decide) (by decide) dL_define_7 ?_
    refine V_goto 14 dL_define_8 (by decide) ?_
    refine V_iconst (v := nI 0) dL_define_14 (by decide) ?_
    exact V_iretPH rfl ⟨by rw [h0], m', _, rfl, hX', fun _ => (u2_s _ _ _ _).trans (rfl), hfr⟩ ⟨Nat.le_of_ble_eq_true rfl, Nat.le_of_ble_eq_true rfl⟩ dL_define_15
  · have hb : j + 1 ≤ 1 := by rw [← hj]; exact rk_define
    match j, hj, hb with
    | 0, hj, _ =>
      refine VX_catch (E := EIAE) [] (0, 8, 11, 13) [] rfl (fun _ h => absurd h List.not_mem_nil) rfl (by decide) clL_13 cstIAE (fun q => ?_)
      refine V_astore_n dL_define_11 rfl (Nat.le_of_ble_eq_true rfl) ?_
      refine V_iconst (v := nI 1) dL_define_12 (by decide) ?_
      exact V_iretPH rfl ⟨by rw [hj], m', l', rfl, hX', fun h => absurd (hj.symm.trans h) (by omega), hfr⟩ ⟨Nat.le_of_ble_eq_true rfl, Nat.le_of_ble_eq_true rfl⟩ dL_define_13
    | q + 1, _, hb => exact absurd hb (by omega)
theorem ctL_differentOperands (hL : XL σ x) (hX : XA mi x S) (hS : SOK S) (ho : σ o = lngs 1) {b v : Int32} : CtHP κ 1 6 13 mrL_differentOperands hhL_differentOperands [.ref x, .int b, .int v, .ref o] (MM σ mi ml) (HR σ mi x o ((rs_differentOperands S b v).1) (vI (rs_differentOperands S b v).2.1) ((rs_differentOperands S b v).2.2)) := by
  refine CtHP.of rfl (by simp [Value.category]) (Nat.le_of_ble_eq_true rfl) ?_
  refine V_aload_n dL_differentOperands_0 rfl rfl ?_
  refine V_iconst (v := nI 0) dL_differentOperands_1 (by decide) ?_
  refine V_aload_n dL_differentOperands_2 rfl rfl ?_
  refine V_iload_n dL_differentOperands_3 rfl rfl ?_
  refine V_iload_n dL_differentOperands_4 rfl rfl ?_
  refine V_hcall (ctX5_differentOperands hL hX hS) mvX5_differentOperands lkL_94 hL.1 rfl rfl rfl (Nat.le_of_ble_eq_true rfl) ⟨⟨Nat.le_of_ble_eq_true rfl, Nat.le_of_ble_eq_true rfl⟩, Nat.le_of_ble_eq_true rfl, Nat.le_of_ble_eq_true rfl⟩ dL_differentOperands_5 (fun h0 m' l' hX' hfr => ?_) (fun j hj m' l' hX' hfr => ?_)
  · refine V_i2l dL_differentOperands_8 ?_
    refine V_lastN ho 0 rfl (by decide) (by decide) dL_differentOperands_9 ?_
    refine V_goto 25 dL_differentOperands_10 (by decide) ?_
    refine V_iconst (v := nI 0) dL_differentOperands_25 (by decide) ?_
    exact V_iretPH rfl ⟨by rw [h0], m', _, rfl, hX', fun _ => (u2_s _ _ _ _).trans (rfl), hfr⟩ ⟨Nat.le_of_ble_eq_true rfl, Nat.le_of_ble_eq_true rfl⟩ dL_differentOperands_26
  · have hb : j + 1 ≤ 3 := by rw [← hj]; exact rk_differentOperands
    match j, hj, hb with
    | 0, hj, _ =>
      refine VX_catch (E := EIOB) [] (0, 10, 13, 34) [(0, 10, 17, 19), (0, 10, 21, 28)] rfl (fun _ h => absurd h List.not_mem_nil) rfl (by decide) clL_34 cstIOB (fun q => ?_)
      refine V_astore dL_differentOperands_13 (Nat.le_of_ble_eq_true rfl) ?_
      refine V_iconst (v := nI 1) dL_differentOperands_15 (by decide) ?_
      exact V_iretPH rfl ⟨by rw [hj], m', l', rfl, hX', fun h => absurd (hj.symm.trans h) (by omega), hfr⟩ ⟨Nat.le_of_ble_eq_true rfl, Nat.le_of_ble_eq_true rfl⟩ dL_differentOperands_16
    | 1, hj, _ =>
      refine VX_catch (E := EISE) [(0, 10, 13, 34)] (0, 10, 17, 19) [(0, 10, 21, 28)] rfl (List.forall_mem_cons.mpr ⟨⟨by decide, _, clL_34, nc_ISE_IOB⟩, fun _ h => absurd h List.not_mem_nil⟩) rfl (by decide) clL_19 cstISE (fun q => ?_)
      refine V_astore dL_differentOperands_17 (Nat.le_of_ble_eq_true rfl) ?_
      refine V_iconst (v := nI 2) dL_differentOperands_19 (by decide) ?_
      exact V_iretPH rfl ⟨by rw [hj], m', l', rfl, hX', fun h => absurd (hj.symm.trans h) (by omega), hfr⟩ ⟨Nat.le_of_ble_eq_true rfl, Nat.le_of_ble_eq_true rfl⟩ dL_differentOperands_20
    | 2, hj, _ =>
      refine VX_catch (E := ENSE) [(0, 10, 13, 34), (0, 10, 17, 19)] (0, 10, 21, 28) [] rfl (List.forall_mem_cons.mpr ⟨⟨by decide, _, clL_34, nc_NSE_IOB⟩, List.forall_mem_cons.mpr ⟨⟨by decide, _, clL_19, nc_NSE_ISE⟩, fun _ h => absurd h List.not_mem_nil⟩⟩) rfl (by decide) clL_28 cstNSE (fun q => ?_)
      refine V_astore dL_differentOperands_21 (Nat.le_of_ble_eq_true rfl) ?_
      refine V_iconst (v := nI 3) dL_differentOperands_23 (by decide) ?_
      exact V_iretPH rfl ⟨by rw [hj], m', l', rfl, hX', fun h => absurd (hj.symm.trans h) (by omega), hfr⟩ ⟨Nat.le_of_ble_eq_true rfl, Nat.le_of_ble_eq_true rfl⟩ dL_differentOperands_24
    | q + 3, _, hb => exact absurd hb (by omega)
theorem ctL_dominates (hL : XL σ x) (hX : XA mi x S) (hS : SOK S) (ho : σ o = lngs 1) {b t : Int32} : CtHP κ 1 6 13 mrL_dominates hhL_dominates [.ref x, .int b, .int t, .ref o] (MM σ mi ml) (HR σ mi x o ((rs_dominates S b t).1) (vB (rs_dominates S b t).2.1) ((rs_dominates S b t).2.2)) := by
  refine CtHP.of rfl (by simp [Value.category]) (Nat.le_of_ble_eq_true rfl) ?_
  refine V_aload_n dL_dominates_0 rfl rfl ?_
  refine V_iconst (v := nI 0) dL_dominates_1 (by decide) ?_
  refine V_aload_n dL_dominates_2 rfl rfl ?_
  refine V_iload_n dL_dominates_3 rfl rfl ?_
  refine V_iload_n dL_dominates_4 rfl rfl ?_
  refine V_hcall (ctX5_dominates hL hX hS) mvX5_dominates lkL_65 hL.1 rfl rfl rfl (Nat.le_of_ble_eq_true rfl) ⟨⟨Nat.le_of_ble_eq_true rfl, Nat.le_of_ble_eq_true rfl⟩, Nat.le_of_ble_eq_true rfl, Nat.le_of_ble_eq_true rfl⟩ dL_dominates_5 (fun h0 m' l' hX' hfr => ?_) (fun j hj m' l' hX' hfr => ?_)
  · refine V_if_eq 15 dL_dominates_8 (by decide) (fun hz => ?_) (fun hz => ?_)
    · refine V_lconst (v := 0) dL_dominates_15 (by decide) ?_
      refine V_lastN ho 0 rfl (by decide) (by decide) dL_dominates_16 ?_
      refine V_goto 28 dL_dominates_17 (by decide) ?_
      refine V_iconst (v := nI 0) dL_dominates_28 (by decide) ?_
      exact V_iretPH rfl ⟨by rw [h0], m', _, rfl, hX', fun _ => (u2_s _ _ _ _).trans ((if_pos hz).symm), hfr⟩ ⟨Nat.le_of_ble_eq_true rfl, Nat.le_of_ble_eq_true rfl⟩ dL_dominates_29
    · refine V_lconst (v := 1) dL_dominates_11 (by decide) ?_
      refine V_goto 16 dL_dominates_12 (by decide) ?_
      refine V_lastN ho 0 rfl (by decide) (by decide) dL_dominates_16 ?_
      refine V_goto 28 dL_dominates_17 (by decide) ?_
      refine V_iconst (v := nI 0) dL_dominates_28 (by decide) ?_
      exact V_iretPH rfl ⟨by rw [h0], m', _, rfl, hX', fun _ => (u2_s _ _ _ _).trans ((if_neg hz).symm), hfr⟩ ⟨Nat.le_of_ble_eq_true rfl, Nat.le_of_ble_eq_true rfl⟩ dL_dominates_29
  · have hb : j + 1 ≤ 2 := by rw [← hj]; exact rk_dominates
    match j, hj, hb with
    | 0, hj, _ =>
      refine VX_catch (E := EIOB) [] (0, 17, 20, 34) [(0, 17, 24, 19)] rfl (fun _ h => absurd h List.not_mem_nil) rfl (by decide) clL_34 cstIOB (fun q => ?_)
      refine V_astore dL_dominates_20 (Nat.le_of_ble_eq_true rfl) ?_
      refine V_iconst (v := nI 1) dL_dominates_22 (by decide) ?_
      exact V_iretPH rfl ⟨by rw [hj], m', l', rfl, hX', fun h => absurd (hj.symm.trans h) (by omega), hfr⟩ ⟨Nat.le_of_ble_eq_true rfl, Nat.le_of_ble_eq_true rfl⟩ dL_dominates_23
    | 1, hj, _ =>
      refine VX_catch (E := EISE) [(0, 17, 20, 34)] (0, 17, 24, 19) [] rfl (List.forall_mem_cons.mpr ⟨⟨by decide, _, clL_34, nc_ISE_IOB⟩, fun _ h => absurd h List.not_mem_nil⟩) rfl (by decide) clL_19 cstISE (fun q => ?_)
      refine V_astore dL_dominates_24 (Nat.le_of_ble_eq_true rfl) ?_
      refine V_iconst (v := nI 2) dL_dominates_26 (by decide) ?_
      exact V_iretPH rfl ⟨by rw [hj], m', l', rfl, hX', fun h => absurd (hj.symm.trans h) (by omega), hfr⟩ ⟨Nat.le_of_ble_eq_true rfl, Nat.le_of_ble_eq_true rfl⟩ dL_dominates_27
    | q + 2, _, hb => exact absurd hb (by omega)
theorem ctL_edgeCount (hL : XL σ x) (hX : XA mi x S) (hS : SOK S) (ho : σ o = lngs 1) {b : Int32} : CtHP κ 1 6 13 mrL_edgeCount hhL_edgeCount [.ref x, .int b, .ref o] (MM σ mi ml) (HR σ mi x o ((rs_edgeCount S b).1) (vI (rs_edgeCount S b).2.1) ((rs_edgeCount S b).2.2)) := by
  refine CtHP.of rfl (by simp [Value.category]) (Nat.le_of_ble_eq_true rfl) ?_
  refine V_aload_n dL_edgeCount_0 rfl rfl ?_
  refine V_iconst (v := nI 0) dL_edgeCount_1 (by decide) ?_
  refine V_aload_n dL_edgeCount_2 rfl rfl ?_
  refine V_iload_n dL_edgeCount_3 rfl rfl ?_
  refine V_hcall (ctX5_edgeCount hL hX hS) mvX5_edgeCount lkL_52 hL.1 rfl rfl rfl (Nat.le_of_ble_eq_true rfl) ⟨⟨Nat.le_of_ble_eq_true rfl, Nat.le_of_ble_eq_true rfl⟩, Nat.le_of_ble_eq_true rfl, Nat.le_of_ble_eq_true rfl⟩ dL_edgeCount_4 (fun h0 m' l' hX' hfr => ?_) (fun j hj m' l' hX' hfr => ?_)
  · refine V_i2l dL_edgeCount_7 ?_
    refine V_lastN ho 0 rfl (by decide) (by decide) dL_edgeCount_8 ?_
    refine V_goto 15 dL_edgeCount_9 (by decide) ?_
    refine V_iconst (v := nI 0) dL_edgeCount_15 (by decide) ?_
    exact V_iretPH rfl ⟨by rw [h0], m', _, rfl, hX', fun _ => (u2_s _ _ _ _).trans (rfl), hfr⟩ ⟨Nat.le_of_ble_eq_true rfl, Nat.le_of_ble_eq_true rfl⟩ dL_edgeCount_16
  · have hb : j + 1 ≤ 1 := by rw [← hj]; exact rk_edgeCount
    match j, hj, hb with
    | 0, hj, _ =>
      refine VX_catch (E := EIOB) [] (0, 9, 12, 34) [] rfl (fun _ h => absurd h List.not_mem_nil) rfl (by decide) clL_34 cstIOB (fun q => ?_)
      refine V_astore_n dL_edgeCount_12 rfl (Nat.le_of_ble_eq_true rfl) ?_
      refine V_iconst (v := nI 1) dL_edgeCount_13 (by decide) ?_
      exact V_iretPH rfl ⟨by rw [hj], m', l', rfl, hX', fun h => absurd (hj.symm.trans h) (by omega), hfr⟩ ⟨Nat.le_of_ble_eq_true rfl, Nat.le_of_ble_eq_true rfl⟩ dL_edgeCount_14
    | q + 1, _, hb => exact absurd hb (by omega)
theorem ctL_errorPosition (hL : XL σ x) (hX : XA mi x S) (hS : SOK S) (ho : σ o = lngs 1)  : CtHP κ 1 6 13 mrL_errorPosition hhL_errorPosition [.ref x, .ref o] (MM σ mi ml) (HR σ mi x o ((rs_errorPosition S).1) (vI (rs_errorPosition S).2.1) ((rs_errorPosition S).2.2)) := by
  refine CtHP.of rfl (by simp [Value.category]) (Nat.le_of_ble_eq_true rfl) ?_
  refine V_aload_n dL_errorPosition_0 rfl rfl ?_
  refine V_iconst (v := nI 0) dL_errorPosition_1 (by decide) ?_
  refine V_aload_n dL_errorPosition_2 rfl rfl ?_
  refine V_hcall (ctX5_errorPosition hL hX hS) mvX5_errorPosition lkL_25 hL.1 rfl rfl rfl (Nat.le_of_ble_eq_true rfl) ⟨⟨Nat.le_of_ble_eq_true rfl, Nat.le_of_ble_eq_true rfl⟩, Nat.le_of_ble_eq_true rfl, Nat.le_of_ble_eq_true rfl⟩ dL_errorPosition_3 (fun h0 m' l' hX' hfr => ?_) (fun j hj m' l' hX' hfr => ?_)
  · refine V_i2l dL_errorPosition_6 ?_
    refine V_lastN ho 0 rfl (by decide) (by decide) dL_errorPosition_7 ?_
    refine V_goto 14 dL_errorPosition_8 (by decide) ?_
    refine V_iconst (v := nI 0) dL_errorPosition_14 (by decide) ?_
    exact V_iretPH rfl ⟨by rw [h0], m', _, rfl, hX', fun _ => (u2_s _ _ _ _).trans (rfl), hfr⟩ ⟨Nat.le_of_ble_eq_true rfl, Nat.le_of_ble_eq_true rfl⟩ dL_errorPosition_15
  · have hb : j + 1 ≤ 1 := by rw [← hj]; exact rk_errorPosition
    match j, hj, hb with
    | 0, hj, _ =>
      refine VX_catch (E := ENSE) [] (0, 8, 11, 28) [] rfl (fun _ h => absurd h List.not_mem_nil) rfl (by decide) clL_28 cstNSE (fun q => ?_)
      refine V_astore_n dL_errorPosition_11 rfl (Nat.le_of_ble_eq_true rfl) ?_
      refine V_iconst (v := nI 1) dL_errorPosition_12 (by decide) ?_
      exact V_iretPH rfl ⟨by rw [hj], m', l', rfl, hX', fun h => absurd (hj.symm.trans h) (by omega), hfr⟩ ⟨Nat.le_of_ble_eq_true rfl, Nat.le_of_ble_eq_true rfl⟩ dL_errorPosition_13
    | q + 1, _, hb => exact absurd hb (by omega)
theorem ctL_frontier (hL : XL σ x) (hX : XA mi x S) (hS : SOK S) (ho : σ o = lngs 1) {b : Int32} : CtHP κ 1 6 13 mrL_frontier hhL_frontier [.ref x, .int b, .ref o] (MM σ mi ml) (HR σ mi x o ((rs_frontier S b).1) (vI (rs_frontier S b).2.1) ((rs_frontier S b).2.2)) := by
  refine CtHP.of rfl (by simp [Value.category]) (Nat.le_of_ble_eq_true rfl) ?_
  refine V_aload_n dL_frontier_0 rfl rfl ?_
  refine V_iconst (v := nI 0) dL_frontier_1 (by decide) ?_
  refine V_aload_n dL_frontier_2 rfl rfl ?_
  refine V_iload_n dL_frontier_3 rfl rfl ?_
  refine V_hcall (ctX5_frontier hL hX hS) mvX5_frontier lkL_72 hL.1 rfl rfl rfl (Nat.le_of_ble_eq_true rfl) ⟨⟨Nat.le_of_ble_eq_true rfl, Nat.le_of_ble_eq_true rfl⟩, Nat.le_of_ble_eq_true rfl, Nat.le_of_ble_eq_true rfl⟩ dL_frontier_4 (fun h0 m' l' hX' hfr => ?_) (fun j hj m' l' hX' hfr => ?_)
  · refine V_i2l dL_frontier_7 ?_
    refine V_lastN ho 0 rfl (by decide) (by decide) dL_frontier_8 ?_
    refine V_goto 18 dL_frontier_9 (by decide) ?_
    refine V_iconst (v := nI 0) dL_frontier_18 (by decide) ?_
    exact V_iretPH rfl ⟨by rw [h0], m', _, rfl, hX', fun _ => (u2_s _ _ _ _).trans (rfl), hfr⟩ ⟨Nat.le_of_ble_eq_true rfl, Nat.le_of_ble_eq_true rfl⟩ dL_frontier_19
  · have hb : j + 1 ≤ 2 := by rw [← hj]; exact rk_frontier
    match j, hj, hb with
    | 0, hj, _ =>
      refine VX_catch (E := EIOB) [] (0, 9, 12, 34) [(0, 9, 15, 19)] rfl (fun _ h => absurd h List.not_mem_nil) rfl (by decide) clL_34 cstIOB (fun q => ?_)
      refine V_astore_n dL_frontier_12 rfl (Nat.le_of_ble_eq_true rfl) ?_
      refine V_iconst (v := nI 1) dL_frontier_13 (by decide) ?_
      exact V_iretPH rfl ⟨by rw [hj], m', l', rfl, hX', fun h => absurd (hj.symm.trans h) (by omega), hfr⟩ ⟨Nat.le_of_ble_eq_true rfl, Nat.le_of_ble_eq_true rfl⟩ dL_frontier_14
    | 1, hj, _ =>
      refine VX_catch (E := EISE) [(0, 9, 12, 34)] (0, 9, 15, 19) [] rfl (List.forall_mem_cons.mpr ⟨⟨by decide, _, clL_34, nc_ISE_IOB⟩, fun _ h => absurd h List.not_mem_nil⟩) rfl (by decide) clL_19 cstISE (fun q => ?_)
      refine V_astore_n dL_frontier_15 rfl (Nat.le_of_ble_eq_true rfl) ?_
      refine V_iconst (v := nI 2) dL_frontier_16 (by decide) ?_
      exact V_iretPH rfl ⟨by rw [hj], m', l', rfl, hX', fun h => absurd (hj.symm.trans h) (by omega), hfr⟩ ⟨Nat.le_of_ble_eq_true rfl, Nat.le_of_ble_eq_true rfl⟩ dL_frontier_17
    | q + 2, _, hb => exact absurd hb (by omega)
theorem ctL_isInitialReaching (hL : XL σ x) (hX : XA mi x S) (hS : SOK S) (ho : σ o = lngs 1) {b v : Int32} : CtHP κ 1 6 13 mrL_isInitialReaching hhL_isInitialReaching [.ref x, .int b, .int v, .ref o] (MM σ mi ml) (HR σ mi x o ((rs_isInitialReaching S b v).1) (vB (rs_isInitialReaching S b v).2.1) ((rs_isInitialReaching S b v).2.2)) := by
  refine CtHP.of rfl (by simp [Value.category]) (Nat.le_of_ble_eq_true rfl) ?_
  refine V_aload_n dL_isInitialReaching_0 rfl rfl ?_
  refine V_iconst (v := nI 0) dL_isInitialReaching_1 (by decide) ?_
  refine V_aload_n dL_isInitialReaching_2 rfl rfl ?_
  refine V_iload_n dL_isInitialReaching_3 rfl rfl ?_
  refine V_iload_n dL_isInitialReaching_4 rfl rfl ?_
  refine V_hcall (ctX5_isInitialReaching hL hX hS) mvX5_isInitialReaching lkL_106 hL.1 rfl rfl rfl (Nat.le_of_ble_eq_true rfl) ⟨⟨Nat.le_of_ble_eq_true rfl, Nat.le_of_ble_eq_true rfl⟩, Nat.le_of_ble_eq_true rfl, Nat.le_of_ble_eq_true rfl⟩ dL_isInitialReaching_5 (fun h0 m' l' hX' hfr => ?_) (fun j hj m' l' hX' hfr => ?_)
  · refine V_if_eq 15 dL_isInitialReaching_8 (by decide) (fun hz => ?_) (fun hz => ?_)
    · refine V_lconst (v := 0) dL_isInitialReaching_15 (by decide) ?_
      refine V_lastN ho 0 rfl (by decide) (by decide) dL_isInitialReaching_16 ?_
      refine V_goto 28 dL_isInitialReaching_17 (by decide) ?_
      refine V_iconst (v := nI 0) dL_isInitialReaching_28 (by decide) ?_
      exact V_iretPH rfl ⟨by rw [h0], m', _, rfl, hX', fun _ => (u2_s _ _ _ _).trans ((if_pos hz).symm), hfr⟩ ⟨Nat.le_of_ble_eq_true rfl, Nat.le_of_ble_eq_true rfl⟩ dL_isInitialReaching_29
    · refine V_lconst (v := 1) dL_isInitialReaching_11 (by decide) ?_
      refine V_goto 16 dL_isInitialReaching_12 (by decide) ?_
      refine V_lastN ho 0 rfl (by decide) (by decide) dL_isInitialReaching_16 ?_
      refine V_goto 28 dL_isInitialReaching_17 (by decide) ?_
      refine V_iconst (v := nI 0) dL_isInitialReaching_28 (by decide) ?_
      exact V_iretPH rfl ⟨by rw [h0], m', _, rfl, hX', fun _ => (u2_s _ _ _ _).trans ((if_neg hz).symm), hfr⟩ ⟨Nat.le_of_ble_eq_true rfl, Nat.le_of_ble_eq_true rfl⟩ dL_isInitialReaching_29
  · have hb : j + 1 ≤ 2 := by rw [← hj]; exact rk_isInitialReaching
    match j, hj, hb with
    | 0, hj, _ =>
      refine VX_catch (E := EIOB) [] (0, 17, 20, 34) [(0, 17, 24, 19)] rfl (fun _ h => absurd h List.not_mem_nil) rfl (by decide) clL_34 cstIOB (fun q => ?_)
      refine V_astore dL_isInitialReaching_20 (Nat.le_of_ble_eq_true rfl) ?_
      refine V_iconst (v := nI 1) dL_isInitialReaching_22 (by decide) ?_
      exact V_iretPH rfl ⟨by rw [hj], m', l', rfl, hX', fun h => absurd (hj.symm.trans h) (by omega), hfr⟩ ⟨Nat.le_of_ble_eq_true rfl, Nat.le_of_ble_eq_true rfl⟩ dL_isInitialReaching_23
    | 1, hj, _ =>
      refine VX_catch (E := EISE) [(0, 17, 20, 34)] (0, 17, 24, 19) [] rfl (List.forall_mem_cons.mpr ⟨⟨by decide, _, clL_34, nc_ISE_IOB⟩, fun _ h => absurd h List.not_mem_nil⟩) rfl (by decide) clL_19 cstISE (fun q => ?_)
      refine V_astore dL_isInitialReaching_24 (Nat.le_of_ble_eq_true rfl) ?_
      refine V_iconst (v := nI 2) dL_isInitialReaching_26 (by decide) ?_
      exact V_iretPH rfl ⟨by rw [hj], m', l', rfl, hX', fun h => absurd (hj.symm.trans h) (by omega), hfr⟩ ⟨Nat.le_of_ble_eq_true rfl, Nat.le_of_ble_eq_true rfl⟩ dL_isInitialReaching_27
    | q + 2, _, hb => exact absurd hb (by omega)
theorem ctL_isLive (hL : XL σ x) (hX : XA mi x S) (hS : SOK S) (ho : σ o = lngs 1) {b v : Int32} : CtHP κ 1 6 13 mrL_isLive hhL_isLive [.ref x, .int b, .int v, .ref o] (MM σ mi ml) (HR σ mi x o ((rs_isLive S b v).1) (vB (rs_isLive S b v).2.1) ((rs_isLive S b v).2.2)) := by
  refine CtHP.of rfl (by simp [Value.category]) (Nat.le_of_ble_eq_true rfl) ?_
  refine V_aload_n dL_isLive_0 rfl rfl ?_
  refine V_iconst (v := nI 0) dL_isLive_1 (by decide) ?_
  refine V_aload_n dL_isLive_2 rfl rfl ?_
  refine V_iload_n dL_isLive_3 rfl rfl ?_
  refine V_iload_n dL_isLive_4 rfl rfl ?_
  refine V_hcall (ctX5_isLive hL hX hS) mvX5_isLive lkL_75 hL.1 rfl rfl rfl (Nat.le_of_ble_eq_true rfl) ⟨⟨Nat.le_of_ble_eq_true rfl, Nat.le_of_ble_eq_true rfl⟩, Nat.le_of_ble_eq_true rfl, Nat.le_of_ble_eq_true rfl⟩ dL_isLive_5 (fun h0 m' l' hX' hfr => ?_) (fun j hj m' l' hX' hfr => ?_)
  · refine V_if_eq 15 dL_isLive_8 (by decide) (fun hz => ?_) (fun hz => ?_)
    · refine V_lconst (v := 0) dL_isLive_15 (by decide) ?_
      refine V_lastN ho 0 rfl (by decide) (by decide) dL_isLive_16 ?_
      refine V_goto 28 dL_isLive_17 (by decide) ?_
      refine V_iconst (v := nI 0) dL_isLive_28 (by decide) ?_
      exact V_iretPH rfl ⟨by rw [h0], m', _, rfl, hX', fun _ => (u2_s _ _ _ _).trans ((if_pos hz).symm), hfr⟩ ⟨Nat.le_of_ble_eq_true rfl, Nat.le_of_ble_eq_true rfl⟩ dL_isLive_29
    · refine V_lconst (v := 1) dL_isLive_11 (by decide) ?_
      refine V_goto 16 dL_isLive_12 (by decide) ?_
      refine V_lastN ho 0 rfl (by decide) (by decide) dL_isLive_16 ?_
      refine V_goto 28 dL_isLive_17 (by decide) ?_
      refine V_iconst (v := nI 0) dL_isLive_28 (by decide) ?_
      exact V_iretPH rfl ⟨by rw [h0], m', _, rfl, hX', fun _ => (u2_s _ _ _ _).trans ((if_neg hz).symm), hfr⟩ ⟨Nat.le_of_ble_eq_true rfl, Nat.le_of_ble_eq_true rfl⟩ dL_isLive_29
  · have hb : j + 1 ≤ 2 := by rw [← hj]; exact rk_isLive
    match j, hj, hb with
    | 0, hj, _ =>
      refine VX_catch (E := EIOB) [] (0, 17, 20, 34) [(0, 17, 24, 19)] rfl (fun _ h => absurd h List.not_mem_nil) rfl (by decide) clL_34 cstIOB (fun q => ?_)
      refine V_astore dL_isLive_20 (Nat.le_of_ble_eq_true rfl) ?_
      refine V_iconst (v := nI 1) dL_isLive_22 (by decide) ?_
      exact V_iretPH rfl ⟨by rw [hj], m', l', rfl, hX', fun h => absurd (hj.symm.trans h) (by omega), hfr⟩ ⟨Nat.le_of_ble_eq_true rfl, Nat.le_of_ble_eq_true rfl⟩ dL_isLive_23
    | 1, hj, _ =>
      refine VX_catch (E := EISE) [(0, 17, 20, 34)] (0, 17, 24, 19) [] rfl (List.forall_mem_cons.mpr ⟨⟨by decide, _, clL_34, nc_ISE_IOB⟩, fun _ h => absurd h List.not_mem_nil⟩) rfl (by decide) clL_19 cstISE (fun q => ?_)
      refine V_astore dL_isLive_24 (Nat.le_of_ble_eq_true rfl) ?_
      refine V_iconst (v := nI 2) dL_isLive_26 (by decide) ?_
      exact V_iretPH rfl ⟨by rw [hj], m', l', rfl, hX', fun h => absurd (hj.symm.trans h) (by omega), hfr⟩ ⟨Nat.le_of_ble_eq_true rfl, Nat.le_of_ble_eq_true rfl⟩ dL_isLive_27
    | q + 2, _, hb => exact absurd hb (by omega)
theorem ctL_isReachable (hL : XL σ x) (hX : XA mi x S) (hS : SOK S) (ho : σ o = lngs 1) {b : Int32} : CtHP κ 1 6 13 mrL_isReachable hhL_isReachable [.ref x, .int b, .ref o] (MM σ mi ml) (HR σ mi x o ((rs_isReachable S b).1) (vB (rs_isReachable S b).2.1) ((rs_isReachable S b).2.2)) := by
  refine CtHP.of rfl (by simp [Value.category]) (Nat.le_of_ble_eq_true rfl) ?_
  refine V_aload_n dL_isReachable_0 rfl rfl ?_
  refine V_iconst (v := nI 0) dL_isReachable_1 (by decide) ?_
  refine V_aload_n dL_isReachable_2 rfl rfl ?_
  refine V_iload_n dL_isReachable_3 rfl rfl ?_
  refine V_hcall (ctX5_isReachable hL hX hS) mvX5_isReachable lkL_58 hL.1 rfl rfl rfl (Nat.le_of_ble_eq_true rfl) ⟨⟨Nat.le_of_ble_eq_true rfl, Nat.le_of_ble_eq_true rfl⟩, Nat.le_of_ble_eq_true rfl, Nat.le_of_ble_eq_true rfl⟩ dL_isReachable_4 (fun h0 m' l' hX' hfr => ?_) (fun j hj m' l' hX' hfr => ?_)
  · refine V_if_eq 14 dL_isReachable_7 (by decide) (fun hz => ?_) (fun hz => ?_)
    · refine V_lconst (v := 0) dL_isReachable_14 (by decide) ?_
      refine V_lastN ho 0 rfl (by decide) (by decide) dL_isReachable_15 ?_
      refine V_goto 22 dL_isReachable_16 (by decide) ?_
      refine V_iconst (v := nI 0) dL_isReachable_22 (by decide) ?_
      exact V_iretPH rfl ⟨by rw [h0], m', _, rfl, hX', fun _ => (u2_s _ _ _ _).trans ((if_pos hz).symm), hfr⟩ ⟨Nat.le_of_ble_eq_true rfl, Nat.le_of_ble_eq_true rfl⟩ dL_isReachable_23
    · refine V_lconst (v := 1) dL_isReachable_10 (by decide) ?_
      refine V_goto 15 dL_isReachable_11 (by decide) ?_
      refine V_lastN ho 0 rfl (by decide) (by decide) dL_isReachable_15 ?_
      refine V_goto 22 dL_isReachable_16 (by decide) ?_
      refine V_iconst (v := nI 0) dL_isReachable_22 (by decide) ?_
      exact V_iretPH rfl ⟨by rw [h0], m', _, rfl, hX', fun _ => (u2_s _ _ _ _).trans ((if_neg hz).symm), hfr⟩ ⟨Nat.le_of_ble_eq_true rfl, Nat.le_of_ble_eq_true rfl⟩ dL_isReachable_23
  · have hb : j + 1 ≤ 1 := by rw [← hj]; exact rk_isReachable
    match j, hj, hb with
    | 0, hj, _ =>
      refine VX_catch (E := EIOB) [] (0, 16, 19, 34) [] rfl (fun _ h => absurd h List.not_mem_nil) rfl (by decide) clL_34 cstIOB (fun q => ?_)
      refine V_astore_n dL_isReachable_19 rfl (Nat.le_of_ble_eq_true rfl) ?_
      refine V_iconst (v := nI 1) dL_isReachable_20 (by decide) ?_
      exact V_iretPH rfl ⟨by rw [hj], m', l', rfl, hX', fun h => absurd (hj.symm.trans h) (by omega), hfr⟩ ⟨Nat.le_of_ble_eq_true rfl, Nat.le_of_ble_eq_true rfl⟩ dL_isReachable_21
    | q + 1, _, hb => exact absurd hb (by omega)
theorem ctL_lastOnWalk (hL : XL σ x) (hX : XA mi x S) (hS : SOK S) (ho : σ o = lngs 1) {v : Int32} : CtHP κ 1 6 13 mrL_lastOnWalk hhL_lastOnWalk [.ref x, .int v, .ref o] (MM σ mi ml) (HR σ mi x o ((rs_lastOnWalk S v).1) (vI (rs_lastOnWalk S v).2.1) ((rs_lastOnWalk S v).2.2)) := by
  refine CtHP.of rfl (by simp [Value.category]) (Nat.le_of_ble_eq_true rfl) ?_
  refine V_aload_n dL_lastOnWalk_0 rfl rfl ?_
  refine V_iconst (v := nI 0) dL_lastOnWalk_1 (by decide) ?_
  refine V_aload_n dL_lastOnWalk_2 rfl rfl ?_
  refine V_iload_n dL_lastOnWalk_3 rfl rfl ?_
  refine V_hcall (ctX5_lastOnWalk hL hX hS) mvX5_lastOnWalk lkL_115 hL.1 rfl rfl rfl (Nat.le_of_ble_eq_true rfl) ⟨⟨Nat.le_of_ble_eq_true rfl, Nat.le_of_ble_eq_true rfl⟩, Nat.le_of_ble_eq_true rfl, Nat.le_of_ble_eq_true rfl⟩ dL_lastOnWalk_4 (fun h0 m' l' hX' hfr => ?_) (fun j hj m' l' hX' hfr => ?_)
  · refine V_i2l dL_lastOnWalk_7 ?_
    refine V_lastN ho 0 rfl (by decide) (by decide) dL_lastOnWalk_8 ?_
    refine V_goto 15 dL_lastOnWalk_9 (by decide) ?_
    refine V_iconst (v := nI 0) dL_lastOnWalk_15 (by decide) ?_
    exact V_iretPH rfl ⟨by rw [h0], m', _, rfl, hX', fun _ => (u2_s _ _ _ _).trans (rfl), hfr⟩ ⟨Nat.le_of_ble_eq_true rfl, Nat.le_of_ble_eq_true rfl⟩ dL_lastOnWalk_16
  · have hb : j + 1 ≤ 1 := by rw [← hj]; exact rk_lastOnWalk
    match j, hj, hb with
    | 0, hj, _ =>
      refine VX_catch (E := EIOB) [] (0, 9, 12, 34) [] rfl (fun _ h => absurd h List.not_mem_nil) rfl (by decide) clL_34 cstIOB (fun q => ?_)
      refine V_astore_n dL_lastOnWalk_12 rfl (Nat.le_of_ble_eq_true rfl) ?_
      refine V_iconst (v := nI 1) dL_lastOnWalk_13 (by decide) ?_
      exact V_iretPH rfl ⟨by rw [hj], m', l', rfl, hX', fun h => absurd (hj.symm.trans h) (by omega), hfr⟩ ⟨Nat.le_of_ble_eq_true rfl, Nat.le_of_ble_eq_true rfl⟩ dL_lastOnWalk_14
    | q + 1, _, hb => exact absurd hb (by omega)
theorem ctL_merges (hL : XL σ x) (hX : XA mi x S) (hS : SOK S) (ho : σ o = lngs 1) {v : Int32} : CtHP κ 1 6 13 mrL_merges hhL_merges [.ref x, .int v, .ref o] (MM σ mi ml) (HR σ mi x o ((rs_merges S v).1) (vI (rs_merges S v).2.1) ((rs_merges S v).2.2)) := by
  refine CtHP.of rfl (by simp [Value.category]) (Nat.le_of_ble_eq_true rfl) ?_
  refine V_aload_n dL_merges_0 rfl rfl ?_
  refine V_iconst (v := nI 0) dL_merges_1 (by decide) ?_
  refine V_aload_n dL_merges_2 rfl rfl ?_
  refine V_iload_n dL_merges_3 rfl rfl ?_
  refine V_hcall (ctX5_merges hL hX hS) mvX5_merges lkL_81 hL.1 rfl rfl rfl (Nat.le_of_ble_eq_true rfl) ⟨⟨Nat.le_of_ble_eq_true rfl, Nat.le_of_ble_eq_true rfl⟩, Nat.le_of_ble_eq_true rfl, Nat.le_of_ble_eq_true rfl⟩ dL_merges_4 (fun h0 m' l' hX' hfr => ?_) (fun j hj m' l' hX' hfr => ?_)
  · refine V_i2l dL_merges_7 ?_
    refine V_lastN ho 0 rfl (by decide) (by decide) dL_merges_8 ?_
    refine V_goto 15 dL_merges_9 (by decide) ?_
    refine V_iconst (v := nI 0) dL_merges_15 (by decide) ?_
    exact V_iretPH rfl ⟨by rw [h0], m', _, rfl, hX', fun _ => (u2_s _ _ _ _).trans (rfl), hfr⟩ ⟨Nat.le_of_ble_eq_true rfl, Nat.le_of_ble_eq_true rfl⟩ dL_merges_16
  · have hb : j + 1 ≤ 1 := by rw [← hj]; exact rk_merges
    match j, hj, hb with
    | 0, hj, _ =>
      refine VX_catch (E := EIOB) [] (0, 9, 12, 34) [] rfl (fun _ h => absurd h List.not_mem_nil) rfl (by decide) clL_34 cstIOB (fun q => ?_)
      refine V_astore_n dL_merges_12 rfl (Nat.le_of_ble_eq_true rfl) ?_
      refine V_iconst (v := nI 1) dL_merges_13 (by decide) ?_
      exact V_iretPH rfl ⟨by rw [hj], m', l', rfl, hX', fun h => absurd (hj.symm.trans h) (by omega), hfr⟩ ⟨Nat.le_of_ble_eq_true rfl, Nat.le_of_ble_eq_true rfl⟩ dL_merges_14
    | q + 1, _, hb => exact absurd hb (by omega)
theorem ctL_mergesOnWalk (hL : XL σ x) (hX : XA mi x S) (hS : SOK S) (ho : σ o = lngs 1) {v : Int32} : CtHP κ 1 6 13 mrL_mergesOnWalk hhL_mergesOnWalk [.ref x, .int v, .ref o] (MM σ mi ml) (HR σ mi x o ((rs_mergesOnWalk S v).1) (vI (rs_mergesOnWalk S v).2.1) ((rs_mergesOnWalk S v).2.2)) := by
  refine CtHP.of rfl (by simp [Value.category]) (Nat.le_of_ble_eq_true rfl) ?_
  refine V_aload_n dL_mergesOnWalk_0 rfl rfl ?_
  refine V_iconst (v := nI 0) dL_mergesOnWalk_1 (by decide) ?_
  refine V_aload_n dL_mergesOnWalk_2 rfl rfl ?_
  refine V_iload_n dL_mergesOnWalk_3 rfl rfl ?_
  refine V_hcall (ctX5_mergesOnWalk hL hX hS) mvX5_mergesOnWalk lkL_118 hL.1 rfl rfl rfl (Nat.le_of_ble_eq_true rfl) ⟨⟨Nat.le_of_ble_eq_true rfl, Nat.le_of_ble_eq_true rfl⟩, Nat.le_of_ble_eq_true rfl, Nat.le_of_ble_eq_true rfl⟩ dL_mergesOnWalk_4 (fun h0 m' l' hX' hfr => ?_) (fun j hj m' l' hX' hfr => ?_)
  · refine V_i2l dL_mergesOnWalk_7 ?_
    refine V_lastN ho 0 rfl (by decide) (by decide) dL_mergesOnWalk_8 ?_
    refine V_goto 15 dL_mergesOnWalk_9 (by decide) ?_
    refine V_iconst (v := nI 0) dL_mergesOnWalk_15 (by decide) ?_
    exact V_iretPH rfl ⟨by rw [h0], m', _, rfl, hX', fun _ => (u2_s _ _ _ _).trans (rfl), hfr⟩ ⟨Nat.le_of_ble_eq_true rfl, Nat.le_of_ble_eq_true rfl⟩ dL_mergesOnWalk_16
  · have hb : j + 1 ≤ 1 := by rw [← hj]; exact rk_mergesOnWalk
    match j, hj, hb with
    | 0, hj, _ =>
      refine VX_catch (E := EIOB) [] (0, 9, 12, 34) [] rfl (fun _ h => absurd h List.not_mem_nil) rfl (by decide) clL_34 cstIOB (fun q => ?_)
      refine V_astore_n dL_mergesOnWalk_12 rfl (Nat.le_of_ble_eq_true rfl) ?_
      refine V_iconst (v := nI 1) dL_mergesOnWalk_13 (by decide) ?_
      exact V_iretPH rfl ⟨by rw [hj], m', l', rfl, hX', fun h => absurd (hj.symm.trans h) (by omega), hfr⟩ ⟨Nat.le_of_ble_eq_true rfl, Nat.le_of_ble_eq_true rfl⟩ dL_mergesOnWalk_14
    | q + 1, _, hb => exact absurd hb (by omega)
theorem ctL_minimalMerges (hL : XL σ x) (hX : XA mi x S) (hS : SOK S) (ho : σ o = lngs 1) {v : Int32} : CtHP κ 1 6 13 mrL_minimalMerges hhL_minimalMerges [.ref x, .int v, .ref o] (MM σ mi ml) (HR σ mi x o ((rs_minimalMerges S v).1) (vI (rs_minimalMerges S v).2.1) ((rs_minimalMerges S v).2.2)) := by
  refine CtHP.of rfl (by simp [Value.category]) (Nat.le_of_ble_eq_true rfl) ?_
  refine V_aload_n dL_minimalMerges_0 rfl rfl ?_
  refine V_iconst (v := nI 0) dL_minimalMerges_1 (by decide) ?_
  refine V_aload_n dL_minimalMerges_2 rfl rfl ?_
  refine V_iload_n dL_minimalMerges_3 rfl rfl ?_
  refine V_hcall (ctX5_minimalMerges hL hX hS) mvX5_minimalMerges lkL_78 hL.1 rfl rfl rfl (Nat.le_of_ble_eq_true rfl) ⟨⟨Nat.le_of_ble_eq_true rfl, Nat.le_of_ble_eq_true rfl⟩, Nat.le_of_ble_eq_true rfl, Nat.le_of_ble_eq_true rfl⟩ dL_minimalMerges_4 (fun h0 m' l' hX' hfr => ?_) (fun j hj m' l' hX' hfr => ?_)
  · refine V_i2l dL_minimalMerges_7 ?_
    refine V_lastN ho 0 rfl (by decide) (by decide) dL_minimalMerges_8 ?_
    refine V_goto 15 dL_minimalMerges_9 (by decide) ?_
    refine V_iconst (v := nI 0) dL_minimalMerges_15 (by decide) ?_
    exact V_iretPH rfl ⟨by rw [h0], m', _, rfl, hX', fun _ => (u2_s _ _ _ _).trans (rfl), hfr⟩ ⟨Nat.le_of_ble_eq_true rfl, Nat.le_of_ble_eq_true rfl⟩ dL_minimalMerges_16
  · have hb : j + 1 ≤ 1 := by rw [← hj]; exact rk_minimalMerges
    match j, hj, hb with
    | 0, hj, _ =>
      refine VX_catch (E := EIOB) [] (0, 9, 12, 34) [] rfl (fun _ h => absurd h List.not_mem_nil) rfl (by decide) clL_34 cstIOB (fun q => ?_)
      refine V_astore_n dL_minimalMerges_12 rfl (Nat.le_of_ble_eq_true rfl) ?_
      refine V_iconst (v := nI 1) dL_minimalMerges_13 (by decide) ?_
      exact V_iretPH rfl ⟨by rw [hj], m', l', rfl, hX', fun h => absurd (hj.symm.trans h) (by omega), hfr⟩ ⟨Nat.le_of_ble_eq_true rfl, Nat.le_of_ble_eq_true rfl⟩ dL_minimalMerges_14
    | q + 1, _, hb => exact absurd hb (by omega)
theorem ctL_operand (hL : XL σ x) (hX : XA mi x S) (hS : SOK S) (ho : σ o = lngs 1) {b v p : Int32} : CtHP κ 1 6 13 mrL_operand hhL_operand [.ref x, .int b, .int v, .int p, .ref o] (MM σ mi ml) (HR σ mi x o ((rs_operand S b v p).1) (vI (rs_operand S b v p).2.1) ((rs_operand S b v p).2.2)) := by
  refine CtHP.of rfl (by simp [Value.category]) (Nat.le_of_ble_eq_true rfl) ?_
  refine V_aload dL_operand_0 rfl ?_
  refine V_iconst (v := nI 0) dL_operand_2 (by decide) ?_
  refine V_aload_n dL_operand_3 rfl rfl ?_
  refine V_iload_n dL_operand_4 rfl rfl ?_
  refine V_iload_n dL_operand_5 rfl rfl ?_
  refine V_iload_n dL_operand_6 rfl rfl ?_
  refine V_hcall (ctX5_operand hL hX hS) mvX5_operand lkL_91 hL.1 rfl rfl rfl (Nat.le_of_ble_eq_true rfl) ⟨⟨Nat.le_of_ble_eq_true rfl, Nat.le_of_ble_eq_true rfl⟩, Nat.le_of_ble_eq_true rfl, Nat.le_of_ble_eq_true rfl⟩ dL_operand_7 (fun h0 m' l' hX' hfr => ?_) (fun j hj m' l' hX' hfr => ?_)
  · refine V_i2l dL_operand_10 ?_
    refine V_lastN ho 0 rfl (by decide) (by decide) dL_operand_11 ?_
    refine V_goto 27 dL_operand_12 (by decide) ?_
    refine V_iconst (v := nI 0) dL_operand_27 (by decide) ?_
    exact V_iretPH rfl ⟨by rw [h0], m', _, rfl, hX', fun _ => (u2_s _ _ _ _).trans (rfl), hfr⟩ ⟨Nat.le_of_ble_eq_true rfl, Nat.le_of_ble_eq_true rfl⟩ dL_operand_28
  · have hb : j + 1 ≤ 3 := by rw [← hj]; exact rk_operand
    match j, hj, hb with
    | 0, hj, _ =>
      refine VX_catch (E := EIOB) [] (0, 12, 15, 34) [(0, 12, 19, 19), (0, 12, 23, 28)] rfl (fun _ h => absurd h List.not_mem_nil) rfl (by decide) clL_34 cstIOB (fun q => ?_)
      refine V_astore dL_operand_15 (Nat.le_of_ble_eq_true rfl) ?_
      refine V_iconst (v := nI 1) dL_operand_17 (by decide) ?_
      exact V_iretPH rfl ⟨by rw [hj], m', l', rfl, hX', fun h => absurd (hj.symm.trans h) (by omega), hfr⟩ ⟨Nat.le_of_ble_eq_true rfl, Nat.le_of_ble_eq_true rfl⟩ dL_operand_18
    | 1, hj, _ =>
      refine VX_catch (E := EISE) [(0, 12, 15, 34)] (0, 12, 19, 19) [(0, 12, 23, 28)] rfl (List.forall_mem_cons.mpr ⟨⟨by decide, _, clL_34, nc_ISE_IOB⟩, fun _ h => absurd h List.not_mem_nil⟩) rfl (by decide) clL_19 cstISE (fun q => ?_)
      refine V_astore dL_operand_19 (Nat.le_of_ble_eq_true rfl) ?_
      refine V_iconst (v := nI 2) dL_operand_21 (by decide) ?_
      exact V_iretPH rfl ⟨by rw [hj], m', l', rfl, hX', fun h => absurd (hj.symm.trans h) (by omega), hfr⟩ ⟨Nat.le_of_ble_eq_true rfl, Nat.le_of_ble_eq_true rfl⟩ dL_operand_22
    | 2, hj, _ =>
      refine VX_catch (E := ENSE) [(0, 12, 15, 34), (0, 12, 19, 19)] (0, 12, 23, 28) [] rfl (List.forall_mem_cons.mpr ⟨⟨by decide, _, clL_34, nc_NSE_IOB⟩, List.forall_mem_cons.mpr ⟨⟨by decide, _, clL_19, nc_NSE_ISE⟩, fun _ h => absurd h List.not_mem_nil⟩⟩) rfl (by decide) clL_28 cstNSE (fun q => ?_)
      refine V_astore dL_operand_23 (Nat.le_of_ble_eq_true rfl) ?_
      refine V_iconst (v := nI 3) dL_operand_25 (by decide) ?_
      exact V_iretPH rfl ⟨by rw [hj], m', l', rfl, hX', fun h => absurd (hj.symm.trans h) (by omega), hfr⟩ ⟨Nat.le_of_ble_eq_true rfl, Nat.le_of_ble_eq_true rfl⟩ dL_operand_26
    | q + 3, _, hb => exact absurd hb (by omega)
theorem ctL_parent (hL : XL σ x) (hX : XA mi x S) (hS : SOK S) (ho : σ o = lngs 1) {b : Int32} : CtHP κ 1 6 13 mrL_parent hhL_parent [.ref x, .int b, .ref o] (MM σ mi ml) (HR σ mi x o ((rs_parent S b).1) (vI (rs_parent S b).2.1) ((rs_parent S b).2.2)) := by
  refine CtHP.of rfl (by simp [Value.category]) (Nat.le_of_ble_eq_true rfl) ?_
  refine V_aload_n dL_parent_0 rfl rfl ?_
  refine V_iconst (v := nI 0) dL_parent_1 (by decide) ?_
  refine V_aload_n dL_parent_2 rfl rfl ?_
  refine V_iload_n dL_parent_3 rfl rfl ?_
  refine V_hcall (ctX5_parent hL hX hS) mvX5_parent lkL_69 hL.1 rfl rfl rfl (Nat.le_of_ble_eq_true rfl) ⟨⟨Nat.le_of_ble_eq_true rfl, Nat.le_of_ble_eq_true rfl⟩, Nat.le_of_ble_eq_true rfl, Nat.le_of_ble_eq_true rfl⟩ dL_parent_4 (fun h0 m' l' hX' hfr => ?_) (fun j hj m' l' hX' hfr => ?_)
  · refine V_i2l dL_parent_7 ?_
    refine V_lastN ho 0 rfl (by decide) (by decide) dL_parent_8 ?_
    refine V_goto 21 dL_parent_9 (by decide) ?_
    refine V_iconst (v := nI 0) dL_parent_21 (by decide) ?_
    exact V_iretPH rfl ⟨by rw [h0], m', _, rfl, hX', fun _ => (u2_s _ _ _ _).trans (rfl), hfr⟩ ⟨Nat.le_of_ble_eq_true rfl, Nat.le_of_ble_eq_true rfl⟩ dL_parent_22
  · have hb : j + 1 ≤ 3 := by rw [← hj]; exact rk_parent
    match j, hj, hb with
    | 0, hj, _ =>
      refine VX_catch (E := EIOB) [] (0, 9, 12, 34) [(0, 9, 15, 19), (0, 9, 18, 28)] rfl (fun _ h => absurd h List.not_mem_nil) rfl (by decide) clL_34 cstIOB (fun q => ?_)
      refine V_astore_n dL_parent_12 rfl (Nat.le_of_ble_eq_true rfl) ?_
      refine V_iconst (v := nI 1) dL_parent_13 (by decide) ?_
      exact V_iretPH rfl ⟨by rw [hj], m', l', rfl, hX', fun h => absurd (hj.symm.trans h) (by omega), hfr⟩ ⟨Nat.le_of_ble_eq_true rfl, Nat.le_of_ble_eq_true rfl⟩ dL_parent_14
    | 1, hj, _ =>
      refine VX_catch (E := EISE) [(0, 9, 12, 34)] (0, 9, 15, 19) [(0, 9, 18, 28)] rfl (List.forall_mem_cons.mpr ⟨⟨by decide, _, clL_34, nc_ISE_IOB⟩, fun _ h => absurd h List.not_mem_nil⟩) rfl (by decide) clL_19 cstISE (fun q => ?_)
      refine V_astore_n dL_parent_15 rfl (Nat.le_of_ble_eq_true rfl) ?_
      refine V_iconst (v := nI 2) dL_parent_16 (by decide) ?_
      exact V_iretPH rfl ⟨by rw [hj], m', l', rfl, hX', fun h => absurd (hj.symm.trans h) (by omega), hfr⟩ ⟨Nat.le_of_ble_eq_true rfl, Nat.le_of_ble_eq_true rfl⟩ dL_parent_17
    | 2, hj, _ =>
      refine VX_catch (E := ENSE) [(0, 9, 12, 34), (0, 9, 15, 19)] (0, 9, 18, 28) [] rfl (List.forall_mem_cons.mpr ⟨⟨by decide, _, clL_34, nc_NSE_IOB⟩, List.forall_mem_cons.mpr ⟨⟨by decide, _, clL_19, nc_NSE_ISE⟩, fun _ h => absurd h List.not_mem_nil⟩⟩) rfl (by decide) clL_28 cstNSE (fun q => ?_)
      refine V_astore_n dL_parent_18 rfl (Nat.le_of_ble_eq_true rfl) ?_
      refine V_iconst (v := nI 3) dL_parent_19 (by decide) ?_
      exact V_iretPH rfl ⟨by rw [hj], m', l', rfl, hX', fun h => absurd (hj.symm.trans h) (by omega), hfr⟩ ⟨Nat.le_of_ble_eq_true rfl, Nat.le_of_ble_eq_true rfl⟩ dL_parent_20
    | q + 3, _, hb => exact absurd hb (by omega)
theorem ctL_predecessors (hL : XL σ x) (hX : XA mi x S) (hS : SOK S) (ho : σ o = lngs 1) {b : Int32} : CtHP κ 1 6 13 mrL_predecessors hhL_predecessors [.ref x, .int b, .ref o] (MM σ mi ml) (HR σ mi x o ((rs_predecessors S b).1) (vI (rs_predecessors S b).2.1) ((rs_predecessors S b).2.2)) := by
  refine CtHP.of rfl (by simp [Value.category]) (Nat.le_of_ble_eq_true rfl) ?_
  refine V_aload_n dL_predecessors_0 rfl rfl ?_
  refine V_iconst (v := nI 0) dL_predecessors_1 (by decide) ?_
  refine V_aload_n dL_predecessors_2 rfl rfl ?_
  refine V_iload_n dL_predecessors_3 rfl rfl ?_
  refine V_hcall (ctX5_predecessors hL hX hS) mvX5_predecessors lkL_62 hL.1 rfl rfl rfl (Nat.le_of_ble_eq_true rfl) ⟨⟨Nat.le_of_ble_eq_true rfl, Nat.le_of_ble_eq_true rfl⟩, Nat.le_of_ble_eq_true rfl, Nat.le_of_ble_eq_true rfl⟩ dL_predecessors_4 (fun h0 m' l' hX' hfr => ?_) (fun j hj m' l' hX' hfr => ?_)
  · refine V_i2l dL_predecessors_7 ?_
    refine V_lastN ho 0 rfl (by decide) (by decide) dL_predecessors_8 ?_
    refine V_goto 18 dL_predecessors_9 (by decide) ?_
    refine V_iconst (v := nI 0) dL_predecessors_18 (by decide) ?_
    exact V_iretPH rfl ⟨by rw [h0], m', _, rfl, hX', fun _ => (u2_s _ _ _ _).trans (rfl), hfr⟩ ⟨Nat.le_of_ble_eq_true rfl, Nat.le_of_ble_eq_true rfl⟩ dL_predecessors_19
  · have hb : j + 1 ≤ 2 := by rw [← hj]; exact rk_predecessors
    match j, hj, hb with
    | 0, hj, _ =>
      refine VX_catch (E := EIOB) [] (0, 9, 12, 34) [(0, 9, 15, 19)] rfl (fun _ h => absurd h List.not_mem_nil) rfl (by decide) clL_34 cstIOB (fun q => ?_)
      refine V_astore_n dL_predecessors_12 rfl (Nat.le_of_ble_eq_true rfl) ?_
      refine V_iconst (v := nI 1) dL_predecessors_13 (by decide) ?_
      exact V_iretPH rfl ⟨by rw [hj], m', l', rfl, hX', fun h => absurd (hj.symm.trans h) (by omega), hfr⟩ ⟨Nat.le_of_ble_eq_true rfl, Nat.le_of_ble_eq_true rfl⟩ dL_predecessors_14
    | 1, hj, _ =>
      refine VX_catch (E := EISE) [(0, 9, 12, 34)] (0, 9, 15, 19) [] rfl (List.forall_mem_cons.mpr ⟨⟨by decide, _, clL_34, nc_ISE_IOB⟩, fun _ h => absurd h List.not_mem_nil⟩) rfl (by decide) clL_19 cstISE (fun q => ?_)
      refine V_astore_n dL_predecessors_15 rfl (Nat.le_of_ble_eq_true rfl) ?_
      refine V_iconst (v := nI 2) dL_predecessors_16 (by decide) ?_
      exact V_iretPH rfl ⟨by rw [hj], m', l', rfl, hX', fun h => absurd (hj.symm.trans h) (by omega), hfr⟩ ⟨Nat.le_of_ble_eq_true rfl, Nat.le_of_ble_eq_true rfl⟩ dL_predecessors_17
    | q + 2, _, hb => exact absurd hb (by omega)
theorem ctL_reaching (hL : XL σ x) (hX : XA mi x S) (hS : SOK S) (ho : σ o = lngs 1) {b v y : Int32} : CtHP κ 1 6 13 mrL_reaching hhL_reaching [.ref x, .int b, .int v, .int y, .ref o] (MM σ mi ml) (HR σ mi x o ((rs_reaching S b v y).1) (vI (rs_reaching S b v y).2.1) ((rs_reaching S b v y).2.2)) := by
  refine CtHP.of rfl (by simp [Value.category]) (Nat.le_of_ble_eq_true rfl) ?_
  refine V_aload dL_reaching_0 rfl ?_
  refine V_iconst (v := nI 0) dL_reaching_2 (by decide) ?_
  refine V_aload_n dL_reaching_3 rfl rfl ?_
  refine V_iload_n dL_reaching_4 rfl rfl ?_
  refine V_iload_n dL_reaching_5 rfl rfl ?_
  refine V_iload_n dL_reaching_6 rfl rfl ?_
  refine V_hcall (ctX5_reaching hL hX hS) mvX5_reaching lkL_103 hL.1 rfl rfl rfl (Nat.le_of_ble_eq_true rfl) ⟨⟨Nat.le_of_ble_eq_true rfl, Nat.le_of_ble_eq_true rfl⟩, Nat.le_of_ble_eq_true rfl, Nat.le_of_ble_eq_true rfl⟩ dL_reaching_7 (fun h0 m' l' hX' hfr => ?_) (fun j hj m' l' hX' hfr => ?_)
  · refine V_i2l dL_reaching_10 ?_
    refine V_lastN ho 0 rfl (by decide) (by decide) dL_reaching_11 ?_
    refine V_goto 27 dL_reaching_12 (by decide) ?_
    refine V_iconst (v := nI 0) dL_reaching_27 (by decide) ?_
    exact V_iretPH rfl ⟨by rw [h0], m', _, rfl, hX', fun _ => (u2_s _ _ _ _).trans (rfl), hfr⟩ ⟨Nat.le_of_ble_eq_true rfl, Nat.le_of_ble_eq_true rfl⟩ dL_reaching_28
  · have hb : j + 1 ≤ 3 := by rw [← hj]; exact rk_reaching
    match j, hj, hb with
    | 0, hj, _ =>
      refine VX_catch (E := EIOB) [] (0, 12, 15, 34) [(0, 12, 19, 19), (0, 12, 23, 28)] rfl (fun _ h => absurd h List.not_mem_nil) rfl (by decide) clL_34 cstIOB (fun q => ?_)
      refine V_astore dL_reaching_15 (Nat.le_of_ble_eq_true rfl) ?_
      refine V_iconst (v := nI 1) dL_reaching_17 (by decide) ?_
      exact V_iretPH rfl ⟨by rw [hj], m', l', rfl, hX', fun h => absurd (hj.symm.trans h) (by omega), hfr⟩ ⟨Nat.le_of_ble_eq_true rfl, Nat.le_of_ble_eq_true rfl⟩ dL_reaching_18
    | 1, hj, _ =>
      refine VX_catch (E := EISE) [(0, 12, 15, 34)] (0, 12, 19, 19) [(0, 12, 23, 28)] rfl (List.forall_mem_cons.mpr ⟨⟨by decide, _, clL_34, nc_ISE_IOB⟩, fun _ h => absurd h List.not_mem_nil⟩) rfl (by decide) clL_19 cstISE (fun q => ?_)
      refine V_astore dL_reaching_19 (Nat.le_of_ble_eq_true rfl) ?_
      refine V_iconst (v := nI 2) dL_reaching_21 (by decide) ?_
      exact V_iretPH rfl ⟨by rw [hj], m', l', rfl, hX', fun h => absurd (hj.symm.trans h) (by omega), hfr⟩ ⟨Nat.le_of_ble_eq_true rfl, Nat.le_of_ble_eq_true rfl⟩ dL_reaching_22
    | 2, hj, _ =>
      refine VX_catch (E := ENSE) [(0, 12, 15, 34), (0, 12, 19, 19)] (0, 12, 23, 28) [] rfl (List.forall_mem_cons.mpr ⟨⟨by decide, _, clL_34, nc_NSE_IOB⟩, List.forall_mem_cons.mpr ⟨⟨by decide, _, clL_19, nc_NSE_ISE⟩, fun _ h => absurd h List.not_mem_nil⟩⟩) rfl (by decide) clL_28 cstNSE (fun q => ?_)
      refine V_astore dL_reaching_23 (Nat.le_of_ble_eq_true rfl) ?_
      refine V_iconst (v := nI 3) dL_reaching_25 (by decide) ?_
      exact V_iretPH rfl ⟨by rw [hj], m', l', rfl, hX', fun h => absurd (hj.symm.trans h) (by omega), hfr⟩ ⟨Nat.le_of_ble_eq_true rfl, Nat.le_of_ble_eq_true rfl⟩ dL_reaching_26
    | q + 3, _, hb => exact absurd hb (by omega)
theorem ctL_reachingCount (hL : XL σ x) (hX : XA mi x S) (hS : SOK S) (ho : σ o = lngs 1) {b v : Int32} : CtHP κ 1 6 13 mrL_reachingCount hhL_reachingCount [.ref x, .int b, .int v, .ref o] (MM σ mi ml) (HR σ mi x o ((rs_reachingCount S b v).1) (vI (rs_reachingCount S b v).2.1) ((rs_reachingCount S b v).2.2)) := by
  refine CtHP.of rfl (by simp [Value.category]) (Nat.le_of_ble_eq_true rfl) ?_
  refine V_aload_n dL_reachingCount_0 rfl rfl ?_
  refine V_iconst (v := nI 0) dL_reachingCount_1 (by decide) ?_
  refine V_aload_n dL_reachingCount_2 rfl rfl ?_
  refine V_iload_n dL_reachingCount_3 rfl rfl ?_
  refine V_iload_n dL_reachingCount_4 rfl rfl ?_
  refine V_hcall (ctX5_reachingCount hL hX hS) mvX5_reachingCount lkL_100 hL.1 rfl rfl rfl (Nat.le_of_ble_eq_true rfl) ⟨⟨Nat.le_of_ble_eq_true rfl, Nat.le_of_ble_eq_true rfl⟩, Nat.le_of_ble_eq_true rfl, Nat.le_of_ble_eq_true rfl⟩ dL_reachingCount_5 (fun h0 m' l' hX' hfr => ?_) (fun j hj m' l' hX' hfr => ?_)
  · refine V_i2l dL_reachingCount_8 ?_
    refine V_lastN ho 0 rfl (by decide) (by decide) dL_reachingCount_9 ?_
    refine V_goto 21 dL_reachingCount_10 (by decide) ?_
    refine V_iconst (v := nI 0) dL_reachingCount_21 (by decide) ?_
    exact V_iretPH rfl ⟨by rw [h0], m', _, rfl, hX', fun _ => (u2_s _ _ _ _).trans (rfl), hfr⟩ ⟨Nat.le_of_ble_eq_true rfl, Nat.le_of_ble_eq_true rfl⟩ dL_reachingCount_22
  · have hb : j + 1 ≤ 2 := by rw [← hj]; exact rk_reachingCount
    match j, hj, hb with
    | 0, hj, _ =>
      refine VX_catch (E := EIOB) [] (0, 10, 13, 34) [(0, 10, 17, 19)] rfl (fun _ h => absurd h List.not_mem_nil) rfl (by decide) clL_34 cstIOB (fun q => ?_)
      refine V_astore dL_reachingCount_13 (Nat.le_of_ble_eq_true rfl) ?_
      refine V_iconst (v := nI 1) dL_reachingCount_15 (by decide) ?_
      exact V_iretPH rfl ⟨by rw [hj], m', l', rfl, hX', fun h => absurd (hj.symm.trans h) (by omega), hfr⟩ ⟨Nat.le_of_ble_eq_true rfl, Nat.le_of_ble_eq_true rfl⟩ dL_reachingCount_16
    | 1, hj, _ =>
      refine VX_catch (E := EISE) [(0, 10, 13, 34)] (0, 10, 17, 19) [] rfl (List.forall_mem_cons.mpr ⟨⟨by decide, _, clL_34, nc_ISE_IOB⟩, fun _ h => absurd h List.not_mem_nil⟩) rfl (by decide) clL_19 cstISE (fun q => ?_)
      refine V_astore dL_reachingCount_17 (Nat.le_of_ble_eq_true rfl) ?_
      refine V_iconst (v := nI 2) dL_reachingCount_19 (by decide) ?_
      exact V_iretPH rfl ⟨by rw [hj], m', l', rfl, hX', fun h => absurd (hj.symm.trans h) (by omega), hfr⟩ ⟨Nat.le_of_ble_eq_true rfl, Nat.le_of_ble_eq_true rfl⟩ dL_reachingCount_20
    | q + 2, _, hb => exact absurd hb (by omega)
theorem ctL_removeAction (hL : XL σ x) (hX : XA mi x S) (hS : SOK S) (ho : σ o = lngs 1) {b k : Int32} : CtHP κ 1 6 13 mrL_removeAction hhL_removeAction [.ref x, .int b, .int k, .ref o] (MM σ mi ml) (HR σ mi x o ((rs_removeAction S b k).1) (vI (rs_removeAction S b k).2.1) ((rs_removeAction S b k).2.2)) := by
  refine CtHP.of rfl (by simp [Value.category]) (Nat.le_of_ble_eq_true rfl) ?_
  refine V_aload_n dL_removeAction_0 rfl rfl ?_
  refine V_iconst (v := nI 0) dL_removeAction_1 (by decide) ?_
  refine V_aload_n dL_removeAction_2 rfl rfl ?_
  refine V_iload_n dL_removeAction_3 rfl rfl ?_
  refine V_iload_n dL_removeAction_4 rfl rfl ?_
  refine V_hcall (ctX5_removeAction hL hX hS) mvX5_removeAction lkL_30 hL.1 rfl rfl rfl (Nat.le_of_ble_eq_true rfl) ⟨⟨Nat.le_of_ble_eq_true rfl, Nat.le_of_ble_eq_true rfl⟩, Nat.le_of_ble_eq_true rfl, Nat.le_of_ble_eq_true rfl⟩ dL_removeAction_5 (fun h0 m' l' hX' hfr => ?_) (fun j hj m' l' hX' hfr => ?_)
  · refine V_i2l dL_removeAction_8 ?_
    refine V_lastN ho 0 rfl (by decide) (by decide) dL_removeAction_9 ?_
    refine V_goto 17 dL_removeAction_10 (by decide) ?_
    refine V_iconst (v := nI 0) dL_removeAction_17 (by decide) ?_
    exact V_iretPH rfl ⟨by rw [h0], m', _, rfl, hX', fun _ => (u2_s _ _ _ _).trans (rfl), hfr⟩ ⟨Nat.le_of_ble_eq_true rfl, Nat.le_of_ble_eq_true rfl⟩ dL_removeAction_18
  · have hb : j + 1 ≤ 1 := by rw [← hj]; exact rk_removeAction
    match j, hj, hb with
    | 0, hj, _ =>
      refine VX_catch (E := EIOB) [] (0, 10, 13, 34) [] rfl (fun _ h => absurd h List.not_mem_nil) rfl (by decide) clL_34 cstIOB (fun q => ?_)
      refine V_astore dL_removeAction_13 (Nat.le_of_ble_eq_true rfl) ?_
      refine V_iconst (v := nI 1) dL_removeAction_15 (by decide) ?_
      exact V_iretPH rfl ⟨by rw [hj], m', l', rfl, hX', fun h => absurd (hj.symm.trans h) (by omega), hfr⟩ ⟨Nat.le_of_ble_eq_true rfl, Nat.le_of_ble_eq_true rfl⟩ dL_removeAction_16
    | q + 1, _, hb => exact absurd hb (by omega)
theorem ctL_removeEdge (hL : XL σ x) (hX : XA mi x S) (hS : SOK S) (ho : σ o = lngs 1) {b t : Int32} : CtHP κ 1 6 13 mrL_removeEdge hhL_removeEdge [.ref x, .int b, .int t, .ref o] (MM σ mi ml) (HR σ mi x o ((rs_removeEdge S b t).1) (vI (rs_removeEdge S b t).2.1) ((rs_removeEdge S b t).2.2)) := by
  refine CtHP.of rfl (by simp [Value.category]) (Nat.le_of_ble_eq_true rfl) ?_
  refine V_aload_n dL_removeEdge_0 rfl rfl ?_
  refine V_iconst (v := nI 0) dL_removeEdge_1 (by decide) ?_
  refine V_aload_n dL_removeEdge_2 rfl rfl ?_
  refine V_iload_n dL_removeEdge_3 rfl rfl ?_
  refine V_iload_n dL_removeEdge_4 rfl rfl ?_
  refine V_hcall (ctX5_removeEdge hL hX hS) mvX5_removeEdge lkL_39 hL.1 rfl rfl rfl (Nat.le_of_ble_eq_true rfl) ⟨⟨Nat.le_of_ble_eq_true rfl, Nat.le_of_ble_eq_true rfl⟩, Nat.le_of_ble_eq_true rfl, Nat.le_of_ble_eq_true rfl⟩ dL_removeEdge_5 (fun h0 m' l' hX' hfr => ?_) (fun j hj m' l' hX' hfr => ?_)
  · refine V_i2l dL_removeEdge_8 ?_
    refine V_lastN ho 0 rfl (by decide) (by decide) dL_removeEdge_9 ?_
    refine V_goto 21 dL_removeEdge_10 (by decide) ?_
    refine V_iconst (v := nI 0) dL_removeEdge_21 (by decide) ?_
    exact V_iretPH rfl ⟨by rw [h0], m', _, rfl, hX', fun _ => (u2_s _ _ _ _).trans (rfl), hfr⟩ ⟨Nat.le_of_ble_eq_true rfl, Nat.le_of_ble_eq_true rfl⟩ dL_removeEdge_22
  · have hb : j + 1 ≤ 2 := by rw [← hj]; exact rk_removeEdge
    match j, hj, hb with
    | 0, hj, _ =>
      refine VX_catch (E := EIOB) [] (0, 10, 13, 34) [(0, 10, 17, 28)] rfl (fun _ h => absurd h List.not_mem_nil) rfl (by decide) clL_34 cstIOB (fun q => ?_)
      refine V_astore dL_removeEdge_13 (Nat.le_of_ble_eq_true rfl) ?_
      refine V_iconst (v := nI 1) dL_removeEdge_15 (by decide) ?_
      exact V_iretPH rfl ⟨by rw [hj], m', l', rfl, hX', fun h => absurd (hj.symm.trans h) (by omega), hfr⟩ ⟨Nat.le_of_ble_eq_true rfl, Nat.le_of_ble_eq_true rfl⟩ dL_removeEdge_16
    | 1, hj, _ =>
      refine VX_catch (E := ENSE) [(0, 10, 13, 34)] (0, 10, 17, 28) [] rfl (List.forall_mem_cons.mpr ⟨⟨by decide, _, clL_34, nc_NSE_IOB⟩, fun _ h => absurd h List.not_mem_nil⟩) rfl (by decide) clL_28 cstNSE (fun q => ?_)
      refine V_astore dL_removeEdge_17 (Nat.le_of_ble_eq_true rfl) ?_
      refine V_iconst (v := nI 2) dL_removeEdge_19 (by decide) ?_
      exact V_iretPH rfl ⟨by rw [hj], m', l', rfl, hX', fun h => absurd (hj.symm.trans h) (by omega), hfr⟩ ⟨Nat.le_of_ble_eq_true rfl, Nat.le_of_ble_eq_true rfl⟩ dL_removeEdge_20
    | q + 2, _, hb => exact absurd hb (by omega)
theorem ctL_reset (hL : XL σ x) (hX : XA mi x S) (hS : SOK S) (ho : σ o = lngs 1) {p : Int32} : CtHP κ 1 6 13 mrL_reset hhL_reset [.ref x, .int p, .ref o] (MM σ mi ml) (HR σ mi x o ((rs_reset S p).1) (vI (rs_reset S p).2.1) ((rs_reset S p).2.2)) := by
  refine CtHP.of rfl (by simp [Value.category]) (Nat.le_of_ble_eq_true rfl) ?_
  refine V_aload_n dL_reset_0 rfl rfl ?_
  refine V_iconst (v := nI 0) dL_reset_1 (by decide) ?_
  refine V_aload_n dL_reset_2 rfl rfl ?_
  refine V_iload_n dL_reset_3 rfl rfl ?_
  refine V_hcall (ctX5_reset hL hX hS) mvX5_reset lkL_7 hL.1 rfl rfl rfl (Nat.le_of_ble_eq_true rfl) ⟨⟨Nat.le_of_ble_eq_true rfl, Nat.le_of_ble_eq_true rfl⟩, Nat.le_of_ble_eq_true rfl, Nat.le_of_ble_eq_true rfl⟩ dL_reset_4 (fun h0 m' l' hX' hfr => ?_) (fun j hj m' l' hX' hfr => ?_)
  · refine V_i2l dL_reset_7 ?_
    refine V_lastN ho 0 rfl (by decide) (by decide) dL_reset_8 ?_
    refine V_goto 15 dL_reset_9 (by decide) ?_
    refine V_iconst (v := nI 0) dL_reset_15 (by decide) ?_
    exact V_iretPH rfl ⟨by rw [h0], m', _, rfl, hX', fun _ => (u2_s _ _ _ _).trans (rfl), hfr⟩ ⟨Nat.le_of_ble_eq_true rfl, Nat.le_of_ble_eq_true rfl⟩ dL_reset_16
  · have hb : j + 1 ≤ 1 := by rw [← hj]; exact rk_reset
    match j, hj, hb with
    | 0, hj, _ =>
      refine VX_catch (E := EIAE) [] (0, 9, 12, 13) [] rfl (fun _ h => absurd h List.not_mem_nil) rfl (by decide) clL_13 cstIAE (fun q => ?_)
      refine V_astore_n dL_reset_12 rfl (Nat.le_of_ble_eq_true rfl) ?_
      refine V_iconst (v := nI 1) dL_reset_13 (by decide) ?_
      exact V_iretPH rfl ⟨by rw [hj], m', l', rfl, hX', fun h => absurd (hj.symm.trans h) (by omega), hfr⟩ ⟨Nat.le_of_ble_eq_true rfl, Nat.le_of_ble_eq_true rfl⟩ dL_reset_14
    | q + 1, _, hb => exact absurd hb (by omega)
theorem ctL_restore (hL : XL σ x) (hX : XA mi x S) (hS : SOK S) (ho : σ o = lngs 1)  : CtHP κ 1 6 13 mrL_restore hhL_restore [.ref x, .ref o] (MM σ mi ml) (HR σ mi x o ((rs_restore S).1) (vI (rs_restore S).2.1) ((rs_restore S).2.2)) := by
  refine CtHP.of rfl (by simp [Value.category]) (Nat.le_of_ble_eq_true rfl) ?_
  refine V_aload_n dL_restore_0 rfl rfl ?_
  refine V_iconst (v := nI 0) dL_restore_1 (by decide) ?_
  refine V_aload_n dL_restore_2 rfl rfl ?_
  refine V_hcall (ctX5_restore hL hX hS) mvX5_restore lkL_125 hL.1 rfl rfl rfl (Nat.le_of_ble_eq_true rfl) ⟨⟨Nat.le_of_ble_eq_true rfl, Nat.le_of_ble_eq_true rfl⟩, Nat.le_of_ble_eq_true rfl, Nat.le_of_ble_eq_true rfl⟩ dL_restore_3 (fun h0 m' l' hX' hfr => ?_) (fun j hj m' l' hX' hfr => ?_)
  · refine V_i2l dL_restore_6 ?_
    refine V_lastN ho 0 rfl (by decide) (by decide) dL_restore_7 ?_
    refine V_goto 14 dL_restore_8 (by decide) ?_
    refine V_iconst (v := nI 0) dL_restore_14 (by decide) ?_
    exact V_iretPH rfl ⟨by rw [h0], m', _, rfl, hX', fun _ => (u2_s _ _ _ _).trans (rfl), hfr⟩ ⟨Nat.le_of_ble_eq_true rfl, Nat.le_of_ble_eq_true rfl⟩ dL_restore_15
  · have hb : j + 1 ≤ 1 := by rw [← hj]; exact rk_restore
    match j, hj, hb with
    | 0, hj, _ =>
      refine VX_catch (E := EISE) [] (0, 8, 11, 19) [] rfl (fun _ h => absurd h List.not_mem_nil) rfl (by decide) clL_19 cstISE (fun q => ?_)
      refine V_astore_n dL_restore_11 rfl (Nat.le_of_ble_eq_true rfl) ?_
      refine V_iconst (v := nI 1) dL_restore_12 (by decide) ?_
      exact V_iretPH rfl ⟨by rw [hj], m', l', rfl, hX', fun h => absurd (hj.symm.trans h) (by omega), hfr⟩ ⟨Nat.le_of_ble_eq_true rfl, Nat.le_of_ble_eq_true rfl⟩ dL_restore_13
    | q + 1, _, hb => exact absurd hb (by omega)
theorem ctL_source (hL : XL σ x) (hX : XA mi x S) (hS : SOK S) (ho : σ o = lngs 1) {b v : Int32} {z : Bool} : CtHP κ 1 6 13 mrL_source hhL_source [.ref x, .int b, .int v, .int (bI z), .ref o] (MM σ mi ml) (HR σ mi x o ((rs_source S b v z).1) (vI (rs_source S b v z).2.1) ((rs_source S b v z).2.2)) := by
  refine CtHP.of rfl (by simp [Value.category]) (Nat.le_of_ble_eq_true rfl) ?_
  refine V_aload dL_source_0 rfl ?_
  refine V_iconst (v := nI 0) dL_source_2 (by decide) ?_
  refine V_aload_n dL_source_3 rfl rfl ?_
  refine V_iload_n dL_source_4 rfl rfl ?_
  refine V_iload_n dL_source_5 rfl rfl ?_
  refine V_iload_n dL_source_6 rfl rfl ?_
  refine V_hcall (ctX5_source hL hX hS) mvX5_source lkL_84 hL.1 rfl rfl rfl (Nat.le_of_ble_eq_true rfl) ⟨⟨Nat.le_of_ble_eq_true rfl, Nat.le_of_ble_eq_true rfl⟩, Nat.le_of_ble_eq_true rfl, Nat.le_of_ble_eq_true rfl⟩ dL_source_7 (fun h0 m' l' hX' hfr => ?_) (fun j hj m' l' hX' hfr => ?_)
  · refine V_i2l dL_source_10 ?_
    refine V_lastN ho 0 rfl (by decide) (by decide) dL_source_11 ?_
    refine V_goto 23 dL_source_12 (by decide) ?_
    refine V_iconst (v := nI 0) dL_source_23 (by decide) ?_
    exact V_iretPH rfl ⟨by rw [h0], m', _, rfl, hX', fun _ => (u2_s _ _ _ _).trans (rfl), hfr⟩ ⟨Nat.le_of_ble_eq_true rfl, Nat.le_of_ble_eq_true rfl⟩ dL_source_24
  · have hb : j + 1 ≤ 2 := by rw [← hj]; exact rk_source
    match j, hj, hb with
    | 0, hj, _ =>
      refine VX_catch (E := EIOB) [] (0, 12, 15, 34) [(0, 12, 19, 19)] rfl (fun _ h => absurd h List.not_mem_nil) rfl (by decide) clL_34 cstIOB (fun q => ?_)
      refine V_astore dL_source_15 (Nat.le_of_ble_eq_true rfl) ?_
      refine V_iconst (v := nI 1) dL_source_17 (by decide) ?_
      exact V_iretPH rfl ⟨by rw [hj], m', l', rfl, hX', fun h => absurd (hj.symm.trans h) (by omega), hfr⟩ ⟨Nat.le_of_ble_eq_true rfl, Nat.le_of_ble_eq_true rfl⟩ dL_source_18
    | 1, hj, _ =>
      refine VX_catch (E := EISE) [(0, 12, 15, 34)] (0, 12, 19, 19) [] rfl (List.forall_mem_cons.mpr ⟨⟨by decide, _, clL_34, nc_ISE_IOB⟩, fun _ h => absurd h List.not_mem_nil⟩) rfl (by decide) clL_19 cstISE (fun q => ?_)
      refine V_astore dL_source_19 (Nat.le_of_ble_eq_true rfl) ?_
      refine V_iconst (v := nI 2) dL_source_21 (by decide) ?_
      exact V_iretPH rfl ⟨by rw [hj], m', l', rfl, hX', fun h => absurd (hj.symm.trans h) (by omega), hfr⟩ ⟨Nat.le_of_ble_eq_true rfl, Nat.le_of_ble_eq_true rfl⟩ dL_source_22
    | q + 2, _, hb => exact absurd hb (by omega)
theorem ctL_sourceOfUse (hL : XL σ x) (hX : XA mi x S) (hS : SOK S) (ho : σ o = lngs 1) {b k : Int32} : CtHP κ 1 6 13 mrL_sourceOfUse hhL_sourceOfUse [.ref x, .int b, .int k, .ref o] (MM σ mi ml) (HR σ mi x o ((rs_sourceOfUse S b k).1) (vI (rs_sourceOfUse S b k).2.1) ((rs_sourceOfUse S b k).2.2)) := by
  refine CtHP.of rfl (by simp [Value.category]) (Nat.le_of_ble_eq_true rfl) ?_
  refine V_aload_n dL_sourceOfUse_0 rfl rfl ?_
  refine V_iconst (v := nI 0) dL_sourceOfUse_1 (by decide) ?_
  refine V_aload_n dL_sourceOfUse_2 rfl rfl ?_
  refine V_iload_n dL_sourceOfUse_3 rfl rfl ?_
  refine V_iload_n dL_sourceOfUse_4 rfl rfl ?_
  refine V_hcall (ctX5_sourceOfUse hL hX hS) mvX5_sourceOfUse lkL_88 hL.1 rfl rfl rfl (Nat.le_of_ble_eq_true rfl) ⟨⟨Nat.le_of_ble_eq_true rfl, Nat.le_of_ble_eq_true rfl⟩, Nat.le_of_ble_eq_true rfl, Nat.le_of_ble_eq_true rfl⟩ dL_sourceOfUse_5 (fun h0 m' l' hX' hfr => ?_) (fun j hj m' l' hX' hfr => ?_)
  · refine V_i2l dL_sourceOfUse_8 ?_
    refine V_lastN ho 0 rfl (by decide) (by decide) dL_sourceOfUse_9 ?_
    refine V_goto 25 dL_sourceOfUse_10 (by decide) ?_
    refine V_iconst (v := nI 0) dL_sourceOfUse_25 (by decide) ?_
    exact V_iretPH rfl ⟨by rw [h0], m', _, rfl, hX', fun _ => (u2_s _ _ _ _).trans (rfl), hfr⟩ ⟨Nat.le_of_ble_eq_true rfl, Nat.le_of_ble_eq_true rfl⟩ dL_sourceOfUse_26
  · have hb : j + 1 ≤ 3 := by rw [← hj]; exact rk_sourceOfUse
    match j, hj, hb with
    | 0, hj, _ =>
      refine VX_catch (E := EIOB) [] (0, 10, 13, 34) [(0, 10, 17, 19), (0, 10, 21, 28)] rfl (fun _ h => absurd h List.not_mem_nil) rfl (by decide) clL_34 cstIOB (fun q => ?_)
      refine V_astore dL_sourceOfUse_13 (Nat.le_of_ble_eq_true rfl) ?_
      refine V_iconst (v := nI 1) dL_sourceOfUse_15 (by decide) ?_
      exact V_iretPH rfl ⟨by rw [hj], m', l', rfl, hX', fun h => absurd (hj.symm.trans h) (by omega), hfr⟩ ⟨Nat.le_of_ble_eq_true rfl, Nat.le_of_ble_eq_true rfl⟩ dL_sourceOfUse_16
    | 1, hj, _ =>
      refine VX_catch (E := EISE) [(0, 10, 13, 34)] (0, 10, 17, 19) [(0, 10, 21, 28)] rfl (List.forall_mem_cons.mpr ⟨⟨by decide, _, clL_34, nc_ISE_IOB⟩, fun _ h => absurd h List.not_mem_nil⟩) rfl (by decide) clL_19 cstISE (fun q => ?_)
      refine V_astore dL_sourceOfUse_17 (Nat.le_of_ble_eq_true rfl) ?_
      refine V_iconst (v := nI 2) dL_sourceOfUse_19 (by decide) ?_
      exact V_iretPH rfl ⟨by rw [hj], m', l', rfl, hX', fun h => absurd (hj.symm.trans h) (by omega), hfr⟩ ⟨Nat.le_of_ble_eq_true rfl, Nat.le_of_ble_eq_true rfl⟩ dL_sourceOfUse_20
    | 2, hj, _ =>
      refine VX_catch (E := ENSE) [(0, 10, 13, 34), (0, 10, 17, 19)] (0, 10, 21, 28) [] rfl (List.forall_mem_cons.mpr ⟨⟨by decide, _, clL_34, nc_NSE_IOB⟩, List.forall_mem_cons.mpr ⟨⟨by decide, _, clL_19, nc_NSE_ISE⟩, fun _ h => absurd h List.not_mem_nil⟩⟩) rfl (by decide) clL_28 cstNSE (fun q => ?_)
      refine V_astore dL_sourceOfUse_21 (Nat.le_of_ble_eq_true rfl) ?_
      refine V_iconst (v := nI 3) dL_sourceOfUse_23 (by decide) ?_
      exact V_iretPH rfl ⟨by rw [hj], m', l', rfl, hX', fun h => absurd (hj.symm.trans h) (by omega), hfr⟩ ⟨Nat.le_of_ble_eq_true rfl, Nat.le_of_ble_eq_true rfl⟩ dL_sourceOfUse_24
    | q + 3, _, hb => exact absurd hb (by omega)
theorem ctL_target (hL : XL σ x) (hX : XA mi x S) (hS : SOK S) (ho : σ o = lngs 1) {b k : Int32} : CtHP κ 1 6 13 mrL_target hhL_target [.ref x, .int b, .int k, .ref o] (MM σ mi ml) (HR σ mi x o ((rs_target S b k).1) (vI (rs_target S b k).2.1) ((rs_target S b k).2.2)) := by
  refine CtHP.of rfl (by simp [Value.category]) (Nat.le_of_ble_eq_true rfl) ?_
  refine V_aload_n dL_target_0 rfl rfl ?_
  refine V_iconst (v := nI 0) dL_target_1 (by decide) ?_
  refine V_aload_n dL_target_2 rfl rfl ?_
  refine V_iload_n dL_target_3 rfl rfl ?_
  refine V_iload_n dL_target_4 rfl rfl ?_
  refine V_hcall (ctX5_target hL hX hS) mvX5_target lkL_55 hL.1 rfl rfl rfl (Nat.le_of_ble_eq_true rfl) ⟨⟨Nat.le_of_ble_eq_true rfl, Nat.le_of_ble_eq_true rfl⟩, Nat.le_of_ble_eq_true rfl, Nat.le_of_ble_eq_true rfl⟩ dL_target_5 (fun h0 m' l' hX' hfr => ?_) (fun j hj m' l' hX' hfr => ?_)
  · refine V_i2l dL_target_8 ?_
    refine V_lastN ho 0 rfl (by decide) (by decide) dL_target_9 ?_
    refine V_goto 17 dL_target_10 (by decide) ?_
    refine V_iconst (v := nI 0) dL_target_17 (by decide) ?_
    exact V_iretPH rfl ⟨by rw [h0], m', _, rfl, hX', fun _ => (u2_s _ _ _ _).trans (rfl), hfr⟩ ⟨Nat.le_of_ble_eq_true rfl, Nat.le_of_ble_eq_true rfl⟩ dL_target_18
  · have hb : j + 1 ≤ 1 := by rw [← hj]; exact rk_target
    match j, hj, hb with
    | 0, hj, _ =>
      refine VX_catch (E := EIOB) [] (0, 10, 13, 34) [] rfl (fun _ h => absurd h List.not_mem_nil) rfl (by decide) clL_34 cstIOB (fun q => ?_)
      refine V_astore dL_target_13 (Nat.le_of_ble_eq_true rfl) ?_
      refine V_iconst (v := nI 1) dL_target_15 (by decide) ?_
      exact V_iretPH rfl ⟨by rw [hj], m', l', rfl, hX', fun h => absurd (hj.symm.trans h) (by omega), hfr⟩ ⟨Nat.le_of_ble_eq_true rfl, Nat.le_of_ble_eq_true rfl⟩ dL_target_16
    | q + 1, _, hb => exact absurd hb (by omega)
theorem ctL_thread (hL : XL σ x) (hX : XA mi x S) (hS : SOK S) (ho : σ o = lngs 1) {b u t : Int32} : CtHP κ 1 6 13 mrL_thread hhL_thread [.ref x, .int b, .int u, .int t, .ref o] (MM σ mi ml) (HR σ mi x o ((rs_thread S b u t).1) (vI (rs_thread S b u t).2.1) ((rs_thread S b u t).2.2)) := by
  refine CtHP.of rfl (by simp [Value.category]) (Nat.le_of_ble_eq_true rfl) ?_
  refine V_aload dL_thread_0 rfl ?_
  refine V_iconst (v := nI 0) dL_thread_2 (by decide) ?_
  refine V_aload_n dL_thread_3 rfl rfl ?_
  refine V_iload_n dL_thread_4 rfl rfl ?_
  refine V_iload_n dL_thread_5 rfl rfl ?_
  refine V_iload_n dL_thread_6 rfl rfl ?_
  refine V_hcall (ctX5_thread hL hX hS) mvX5_thread lkL_42 hL.1 rfl rfl rfl (Nat.le_of_ble_eq_true rfl) ⟨⟨Nat.le_of_ble_eq_true rfl, Nat.le_of_ble_eq_true rfl⟩, Nat.le_of_ble_eq_true rfl, Nat.le_of_ble_eq_true rfl⟩ dL_thread_7 (fun h0 m' l' hX' hfr => ?_) (fun j hj m' l' hX' hfr => ?_)
  · refine V_i2l dL_thread_10 ?_
    refine V_lastN ho 0 rfl (by decide) (by decide) dL_thread_11 ?_
    refine V_goto 27 dL_thread_12 (by decide) ?_
    refine V_iconst (v := nI 0) dL_thread_27 (by decide) ?_
    exact V_iretPH rfl ⟨by rw [h0], m', _, rfl, hX', fun _ => (u2_s _ _ _ _).trans (rfl), hfr⟩ ⟨Nat.le_of_ble_eq_true rfl, Nat.le_of_ble_eq_true rfl⟩ dL_thread_28
  · have hb : j + 1 ≤ 3 := by rw [← hj]; exact rk_thread
    match j, hj, hb with
    | 0, hj, _ =>
      refine VX_catch (E := EIOB) [] (0, 12, 15, 34) [(0, 12, 19, 28), (0, 12, 23, 19)] rfl (fun _ h => absurd h List.not_mem_nil) rfl (by decide) clL_34 cstIOB (fun q => ?_)
      refine V_astore dL_thread_15 (Nat.le_of_ble_eq_true rfl) ?_
      refine V_iconst (v := nI 1) dL_thread_17 (by decide) ?_
      exact V_iretPH rfl ⟨by rw [hj], m', l', rfl, hX', fun h => absurd (hj.symm.trans h) (by omega), hfr⟩ ⟨Nat.le_of_ble_eq_true rfl, Nat.le_of_ble_eq_true rfl⟩ dL_thread_18
    | 1, hj, _ =>
      refine VX_catch (E := ENSE) [(0, 12, 15, 34)] (0, 12, 19, 28) [(0, 12, 23, 19)] rfl (List.forall_mem_cons.mpr ⟨⟨by decide, _, clL_34, nc_NSE_IOB⟩, fun _ h => absurd h List.not_mem_nil⟩) rfl (by decide) clL_28 cstNSE (fun q => ?_)
      refine V_astore dL_thread_19 (Nat.le_of_ble_eq_true rfl) ?_
      refine V_iconst (v := nI 2) dL_thread_21 (by decide) ?_
      exact V_iretPH rfl ⟨by rw [hj], m', l', rfl, hX', fun h => absurd (hj.symm.trans h) (by omega), hfr⟩ ⟨Nat.le_of_ble_eq_true rfl, Nat.le_of_ble_eq_true rfl⟩ dL_thread_22
    | 2, hj, _ =>
      refine VX_catch (E := EISE) [(0, 12, 15, 34), (0, 12, 19, 28)] (0, 12, 23, 19) [] rfl (List.forall_mem_cons.mpr ⟨⟨by decide, _, clL_34, nc_ISE_IOB⟩, List.forall_mem_cons.mpr ⟨⟨by decide, _, clL_28, nc_ISE_NSE⟩, fun _ h => absurd h List.not_mem_nil⟩⟩) rfl (by decide) clL_19 cstISE (fun q => ?_)
      refine V_astore dL_thread_23 (Nat.le_of_ble_eq_true rfl) ?_
      refine V_iconst (v := nI 3) dL_thread_25 (by decide) ?_
      exact V_iretPH rfl ⟨by rw [hj], m', l', rfl, hX', fun h => absurd (hj.symm.trans h) (by omega), hfr⟩ ⟨Nat.le_of_ble_eq_true rfl, Nat.le_of_ble_eq_true rfl⟩ dL_thread_26
    | q + 3, _, hb => exact absurd hb (by omega)
theorem ctL_undo (hL : XL σ x) (hX : XA mi x S) (hS : SOK S) (ho : σ o = lngs 1)  : CtHP κ 1 6 13 mrL_undo hhL_undo [.ref x, .ref o] (MM σ mi ml) (HR σ mi x o ((rs_undo S).1) (vI (rs_undo S).2.1) ((rs_undo S).2.2)) := by
  refine CtHP.of rfl (by simp [Value.category]) (Nat.le_of_ble_eq_true rfl) ?_
  refine V_aload_n dL_undo_0 rfl rfl ?_
  refine V_iconst (v := nI 0) dL_undo_1 (by decide) ?_
  refine V_aload_n dL_undo_2 rfl rfl ?_
  refine V_hcall (ctX5_undo hL hX hS) mvX5_undo lkL_109 hL.1 rfl rfl rfl (Nat.le_of_ble_eq_true rfl) ⟨⟨Nat.le_of_ble_eq_true rfl, Nat.le_of_ble_eq_true rfl⟩, Nat.le_of_ble_eq_true rfl, Nat.le_of_ble_eq_true rfl⟩ dL_undo_3 (fun h0 m' l' hX' hfr => ?_) (fun j hj m' l' hX' hfr => ?_)
  · refine V_i2l dL_undo_6 ?_
    refine V_lastN ho 0 rfl (by decide) (by decide) dL_undo_7 ?_
    refine V_goto 14 dL_undo_8 (by decide) ?_
    refine V_iconst (v := nI 0) dL_undo_14 (by decide) ?_
    exact V_iretPH rfl ⟨by rw [h0], m', _, rfl, hX', fun _ => (u2_s _ _ _ _).trans (rfl), hfr⟩ ⟨Nat.le_of_ble_eq_true rfl, Nat.le_of_ble_eq_true rfl⟩ dL_undo_15
  · have hb : j + 1 ≤ 1 := by rw [← hj]; exact rk_undo
    match j, hj, hb with
    | 0, hj, _ =>
      refine VX_catch (E := ENSE) [] (0, 8, 11, 28) [] rfl (fun _ h => absurd h List.not_mem_nil) rfl (by decide) clL_28 cstNSE (fun q => ?_)
      refine V_astore_n dL_undo_11 rfl (Nat.le_of_ble_eq_true rfl) ?_
      refine V_iconst (v := nI 1) dL_undo_12 (by decide) ?_
      exact V_iretPH rfl ⟨by rw [hj], m', l', rfl, hX', fun h => absurd (hj.symm.trans h) (by omega), hfr⟩ ⟨Nat.le_of_ble_eq_true rfl, Nat.le_of_ble_eq_true rfl⟩ dL_undo_13
    | q + 1, _, hb => exact absurd hb (by omega)
theorem ctL_usesOf (hL : XL σ x) (hX : XA mi x S) (hS : SOK S) (ho : σ o = lngs 1) {v s : Int32} : CtHP κ 1 6 13 mrL_usesOf hhL_usesOf [.ref x, .int v, .int s, .ref o] (MM σ mi ml) (HR σ mi x o ((rs_usesOf S v s).1) (vI (rs_usesOf S v s).2.1) ((rs_usesOf S v s).2.2)) := by
  refine CtHP.of rfl (by simp [Value.category]) (Nat.le_of_ble_eq_true rfl) ?_
  refine V_aload_n dL_usesOf_0 rfl rfl ?_
  refine V_iconst (v := nI 0) dL_usesOf_1 (by decide) ?_
  refine V_aload_n dL_usesOf_2 rfl rfl ?_
  refine V_iload_n dL_usesOf_3 rfl rfl ?_
  refine V_iload_n dL_usesOf_4 rfl rfl ?_
  refine V_hcall (ctX5_usesOf hL hX hS) mvX5_usesOf lkL_97 hL.1 rfl rfl rfl (Nat.le_of_ble_eq_true rfl) ⟨⟨Nat.le_of_ble_eq_true rfl, Nat.le_of_ble_eq_true rfl⟩, Nat.le_of_ble_eq_true rfl, Nat.le_of_ble_eq_true rfl⟩ dL_usesOf_5 (fun h0 m' l' hX' hfr => ?_) (fun j hj m' l' hX' hfr => ?_)
  · refine V_i2l dL_usesOf_8 ?_
    refine V_lastN ho 0 rfl (by decide) (by decide) dL_usesOf_9 ?_
    refine V_goto 17 dL_usesOf_10 (by decide) ?_
    refine V_iconst (v := nI 0) dL_usesOf_17 (by decide) ?_
    exact V_iretPH rfl ⟨by rw [h0], m', _, rfl, hX', fun _ => (u2_s _ _ _ _).trans (rfl), hfr⟩ ⟨Nat.le_of_ble_eq_true rfl, Nat.le_of_ble_eq_true rfl⟩ dL_usesOf_18
  · have hb : j + 1 ≤ 1 := by rw [← hj]; exact rk_usesOf
    match j, hj, hb with
    | 0, hj, _ =>
      refine VX_catch (E := EIOB) [] (0, 10, 13, 34) [] rfl (fun _ h => absurd h List.not_mem_nil) rfl (by decide) clL_34 cstIOB (fun q => ?_)
      refine V_astore dL_usesOf_13 (Nat.le_of_ble_eq_true rfl) ?_
      refine V_iconst (v := nI 1) dL_usesOf_15 (by decide) ?_
      exact V_iretPH rfl ⟨by rw [hj], m', l', rfl, hX', fun h => absurd (hj.symm.trans h) (by omega), hfr⟩ ⟨Nat.le_of_ble_eq_true rfl, Nat.le_of_ble_eq_true rfl⟩ dL_usesOf_16
    | q + 1, _, hb => exact absurd hb (by omega)
theorem ctL_walk (hL : XL σ x) (hX : XA mi x S) (hS : SOK S) (ho : σ o = lngs 1) {e : Int32} : CtHP κ 1 6 13 mrL_walk hhL_walk [.ref x, .int e, .ref o] (MM σ mi ml) (HR σ mi x o ((rs_walk S e).1) (vI (rs_walk S e).2.1) ((rs_walk S e).2.2)) := by
  refine CtHP.of rfl (by simp [Value.category]) (Nat.le_of_ble_eq_true rfl) ?_
  refine V_aload_n dL_walk_0 rfl rfl ?_
  refine V_iconst (v := nI 0) dL_walk_1 (by decide) ?_
  refine V_aload_n dL_walk_2 rfl rfl ?_
  refine V_iload_n dL_walk_3 rfl rfl ?_
  refine V_hcall (ctX5_walk hL hX hS) mvX5_walk lkL_112 hL.1 rfl rfl rfl (Nat.le_of_ble_eq_true rfl) ⟨⟨Nat.le_of_ble_eq_true rfl, Nat.le_of_ble_eq_true rfl⟩, Nat.le_of_ble_eq_true rfl, Nat.le_of_ble_eq_true rfl⟩ dL_walk_4 (fun h0 m' l' hX' hfr => ?_) (fun j hj m' l' hX' hfr => ?_)
  · refine V_i2l dL_walk_7 ?_
    refine V_lastN ho 0 rfl (by decide) (by decide) dL_walk_8 ?_
    refine V_goto 18 dL_walk_9 (by decide) ?_
    refine V_iconst (v := nI 0) dL_walk_18 (by decide) ?_
    exact V_iretPH rfl ⟨by rw [h0], m', _, rfl, hX', fun _ => (u2_s _ _ _ _).trans (rfl), hfr⟩ ⟨Nat.le_of_ble_eq_true rfl, Nat.le_of_ble_eq_true rfl⟩ dL_walk_19
  · have hb : j + 1 ≤ 2 := by rw [← hj]; exact rk_walk
    match j, hj, hb with
    | 0, hj, _ =>
      refine VX_catch (E := EISE) [] (0, 9, 12, 19) [(0, 9, 15, 28)] rfl (fun _ h => absurd h List.not_mem_nil) rfl (by decide) clL_19 cstISE (fun q => ?_)
      refine V_astore_n dL_walk_12 rfl (Nat.le_of_ble_eq_true rfl) ?_
      refine V_iconst (v := nI 1) dL_walk_13 (by decide) ?_
      exact V_iretPH rfl ⟨by rw [hj], m', l', rfl, hX', fun h => absurd (hj.symm.trans h) (by omega), hfr⟩ ⟨Nat.le_of_ble_eq_true rfl, Nat.le_of_ble_eq_true rfl⟩ dL_walk_14
    | 1, hj, _ =>
      refine VX_catch (E := ENSE) [(0, 9, 12, 19)] (0, 9, 15, 28) [] rfl (List.forall_mem_cons.mpr ⟨⟨by decide, _, clL_19, nc_NSE_ISE⟩, fun _ h => absurd h List.not_mem_nil⟩) rfl (by decide) clL_28 cstNSE (fun q => ?_)
      refine V_astore_n dL_walk_15 rfl (Nat.le_of_ble_eq_true rfl) ?_
      refine V_iconst (v := nI 2) dL_walk_16 (by decide) ?_
      exact V_iretPH rfl ⟨by rw [hj], m', l', rfl, hX', fun h => absurd (hj.symm.trans h) (by omega), hfr⟩ ⟨Nat.le_of_ble_eq_true rfl, Nat.le_of_ble_eq_true rfl⟩ dL_walk_17
    | q + 2, _, hb => exact absurd hb (by omega)
theorem ctL_walks (hL : XL σ x) (hX : XA mi x S) (hS : SOK S) (ho : σ o = lngs 1) {b n : Int32} : CtHP κ 1 6 13 mrL_walks hhL_walks [.ref x, .int b, .int n, .ref o] (MM σ mi ml) (HR σ mi x o (rk_walks S b n) (rv_walks S b n) (S)) := by
  refine CtHP.of rfl (by simp [Value.category]) (Nat.le_of_ble_eq_true rfl) ?_
  refine V_aload_n dL_walks_0 rfl rfl ?_
  refine V_iconst (v := nI 0) dL_walks_1 (by decide) ?_
  refine V_aload_n dL_walks_2 rfl rfl ?_
  refine V_iload_n dL_walks_3 rfl rfl ?_
  refine V_iload_n dL_walks_4 rfl rfl ?_
  refine V_hcallW (ctX5_walks hL hX hS) mvX5_walks lkL_121 hL.1 rfl rfl rfl (Nat.le_of_ble_eq_true rfl) ⟨⟨Nat.le_of_ble_eq_true rfl, Nat.le_of_ble_eq_true rfl⟩, Nat.le_of_ble_eq_true rfl, Nat.le_of_ble_eq_true rfl⟩ dL_walks_5 (fun h0 m' l' hX' hfr => ?_) (fun j hj m' l' hX' hfr => ?_)
  · refine V_lastN ho 0 rfl (by decide) (by decide) dL_walks_8 ?_
    refine V_goto 20 dL_walks_9 (by decide) ?_
    refine V_iconst (v := nI 0) dL_walks_20 (by decide) ?_
    exact V_iretPH rfl ⟨by rw [h0], m', _, rfl, hX', fun _ => (u2_s _ _ _ _).trans (rfl), hfr⟩ ⟨Nat.le_of_ble_eq_true rfl, Nat.le_of_ble_eq_true rfl⟩ dL_walks_21
  · have hb : j + 1 ≤ 2 := by
      rw [← hj]
      unfold rk_walks; (repeat' split) <;> exact Nat.le_of_ble_eq_true rfl
    match j, hj, hb with
    | 0, hj, _ =>
      refine VX_catch (E := EIOB) [] (0, 9, 12, 34) [(0, 9, 16, 13)] rfl (fun _ h => absurd h List.not_mem_nil) rfl (by decide) clL_34 cstIOB (fun q => ?_)
      refine V_astore dL_walks_12 (Nat.le_of_ble_eq_true rfl) ?_
      refine V_iconst (v := nI 1) dL_walks_14 (by decide) ?_
      exact V_iretPH rfl ⟨by rw [hj], m', l', rfl, hX', fun h => absurd (hj.symm.trans h) (by omega), hfr⟩ ⟨Nat.le_of_ble_eq_true rfl, Nat.le_of_ble_eq_true rfl⟩ dL_walks_15
    | 1, hj, _ =>
      refine VX_catch (E := EIAE) [(0, 9, 12, 34)] (0, 9, 16, 13) [] rfl (List.forall_mem_cons.mpr ⟨⟨by decide, _, clL_34, nc_IAE_IOB⟩, fun _ h => absurd h List.not_mem_nil⟩) rfl (by decide) clL_13 cstIAE (fun q => ?_)
      refine V_astore dL_walks_16 (Nat.le_of_ble_eq_true rfl) ?_
      refine V_iconst (v := nI 2) dL_walks_18 (by decide) ?_
      exact V_iretPH rfl ⟨by rw [hj], m', l', rfl, hX', fun h => absurd (hj.symm.trans h) (by omega), hfr⟩ ⟨Nat.le_of_ble_eq_true rfl, Nat.le_of_ble_eq_true rfl⟩ dL_walks_19
    | q + 2, _, hb => exact absurd hb (by omega)
end Help
