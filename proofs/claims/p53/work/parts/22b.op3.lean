/-! ===== the opera, third: trial, save, restore, undo ===== -/
theorem HistAt.si {X : KX} {h : AH} {t : Nat} {past : List SH} {pr : SH} (p : HistAt X h t past pr) {i : Nat} {S : SH} (hi : past[i]? = some S) : SI S := by
  obtain ⟨R, j, h1, h2, h3, h4, h5, h6⟩ := p
  rw [← h6 i S hi]
  exact h4 _ (Nat.mod_lt _ (by decide))
def U_trial (S : SH) (b : Int32) : SH := if b ≤ 0 then S else (U_pass S b).2
theorem t_check_in {S : SH} {p b : Int32} (h : T_X7_checkForecast S p b = none) : vp_in p 6 := by
  unfold T_X7_checkForecast at h
  split at h
  · cases h
  · rename_i hc
    exact uhp_in hc
set_option maxRecDepth 20000 in
set_option maxHeartbeats 1000000 in
theorem c_X7_passOnTrial {X : KX} (hxs : X.1.stackTraces = false) (hg : GX X) {h : AH} {x : Nat} {S : SH} {past : List SH} {pr N : SH} {hs le lc lf : Int32} {txt ln : List Int32} (hO : OpAt X h x S past pr N hs le lc lf txt ln) (b : Int32) : Ct X mX7_passOnTrial [.ref x, .int b] h (zM none (fun h' => (∃ o, IsSh X h' (x + 13) (U_trial S b) o) ∧ OpAt X h' x S past pr N hs le lc lf txt ln)) := by
  obtain ⟨oS, hS⟩ := hO.2.2.2.2.1
  obtain ⟨T0, oT, hT⟩ := hO.2.2.2.2.2.1
  refine Ct.of (by decide) rfl (Nat.le_of_ble_eq_true rfl) rfl hxs ?_
  refine V_aload_n dX7_passOnTrial_0 0 rfl ?_
  refine gf_op_trial hO dX7_passOnTrial_1 flX7_16 ?_
  refine V_aload_n dX7_passOnTrial_4 0 rfl ?_
  refine gf_op_sheet hO dX7_passOnTrial_5 flX7_12 ?_
  refine V_cVmv (As := [.ref (x + 1)]) (rest := []) dX7_passOnTrial_8 cvX7_249 (C_copy hxs hT hS (by omega) hO.2.2.1) hT.1 rfl ⟨Nat.le_of_ble_eq_true rfl, Nat.le_of_ble_eq_true rfl, Nat.le_of_ble_eq_true rfl, Nat.le_of_ble_eq_true rfl⟩ (Nat.le_of_ble_eq_true rfl) rfl (fun h1 q1 => ?_)
  obtain ⟨hT1, hR1⟩ := q1
  have hO1 := hO.trial_upd ⟨_, _, hT1⟩ hR1
  refine V_iload_n dX7_passOnTrial_11 1 rfl ?_
  refine V_if_le (tgt := 24) dX7_passOnTrial_12 (by decide) (fun c1 => ?_) (fun c1 => ?_)
  · exact V_vret dX7_passOnTrial_24 rfl ⟨Nat.le_of_ble_eq_true rfl, Nat.le_of_ble_eq_true rfl⟩ ⟨rfl, ⟨oT, by unfold U_trial; rw [if_pos c1]; exact hT1⟩, hO1⟩
  · refine V_aload_n dX7_passOnTrial_15 0 rfl ?_
    refine gf_op_trial hO1 dX7_passOnTrial_16 flX7_16 ?_
    refine V_iload_n dX7_passOnTrial_19 1 rfl ?_
    refine V_cVmi (As := [.int b]) (rest := []) dX7_passOnTrial_20 cvX7_220 (C_pass hxs hT1 hO.2.2.1 b) hT1.1 rfl ⟨Nat.le_of_ble_eq_true rfl, Nat.le_of_ble_eq_true rfl, Nat.le_of_ble_eq_true rfl, Nat.le_of_ble_eq_true rfl⟩ (Nat.le_of_ble_eq_true rfl) rfl (fun h2 q2 => ?_)
    obtain ⟨⟨o2, hT2⟩, hR2⟩ := q2
    have hO2 := hO1.trial_upd ⟨_, _, hT2⟩ hR2
    refine V_pop dX7_passOnTrial_23 rfl ?_
    exact V_vret dX7_passOnTrial_24 rfl ⟨Nat.le_of_ble_eq_true rfl, Nat.le_of_ble_eq_true rfl⟩ ⟨rfl, ⟨o2, by unfold U_trial; rw [if_neg c1]; exact hT2⟩, hO2⟩
def T_X7_finesAfter (S : SH) (performer : Int32) (nb : Int32) : Int32 ⊕ Nat := match T_X7_checkForecast S performer nb with | none => .inl (rd (z_owed (U_trial S nb)) performer - rd (z_owed S) performer) | some j => .inr j
set_option maxRecDepth 20000 in
set_option maxHeartbeats 1000000 in
theorem c_X7_finesAfter {X : KX} (hxs : X.1.stackTraces = false) (hg : GX X) {h : AH} {x : Nat} {S : SH} {past : List SH} {N : SH} {hs le lc lf : Int32} {txt ln : List Int32} (hW : OpW X h x S past N hs le lc lf txt ln) (performer nb : Int32) : Ct X mX7_finesAfter [.ref x, .int performer, .int nb] h (zT (["java/lang/IndexOutOfBoundsException", "java/lang/IllegalArgumentException"] : List String) (T_X7_finesAfter S performer nb) (fun h' => OpW X h' x S past N hs le lc lf txt ln)) := by
  obtain ⟨pr, hO⟩ := hW
  refine Ct.of (by decide) rfl (Nat.le_of_ble_eq_true rfl) rfl hxs ?_
  refine V_aload_n dX7_finesAfter_0 0 rfl ?_
  refine V_iload_n dX7_finesAfter_1 1 rfl ?_
  refine V_iload_n dX7_finesAfter_2 2 rfl ?_
  refine V_cVv (As := [.int performer, .int nb]) (rest := []) dX7_finesAfter_3 cvX7_236 (c_X7_checkForecast hxs hg ⟨_, hO⟩ performer nb) hO.1 rfl ⟨Nat.le_of_ble_eq_true rfl, Nat.le_of_ble_eq_true rfl, Nat.le_of_ble_eq_true rfl, Nat.le_of_ble_eq_true rfl⟩ (Nat.le_of_ble_eq_true rfl) rfl (fun h1 e1 q1 => ?_) (fun j h1 e1 q1 => ?_)
  · obtain ⟨pr1, hO1⟩ := q1
    refine V_aload_n dX7_finesAfter_6 0 rfl ?_
    refine V_iload_n dX7_finesAfter_7 2 rfl ?_
    refine V_cVmv (As := [.int nb]) (rest := []) dX7_finesAfter_8 cvX7_240 (c_X7_passOnTrial hxs hg hO1 nb) hO1.1 rfl ⟨Nat.le_of_ble_eq_true rfl, Nat.le_of_ble_eq_true rfl, Nat.le_of_ble_eq_true rfl, Nat.le_of_ble_eq_true rfl⟩ (Nat.le_of_ble_eq_true rfl) rfl (fun h2 q2 => ?_)
    obtain ⟨⟨oT, hT⟩, hO2⟩ := q2
    obtain ⟨oS, hS⟩ := hO2.2.2.2.2.1
    refine V_aload_n dX7_finesAfter_11 0 rfl ?_
    refine gf_op_trial hO2 dX7_finesAfter_12 flX7_16 ?_
    refine gf_sheet_owed hT dX7_finesAfter_15 flX7_87 ?_
    refine V_iload_n dX7_finesAfter_18 1 rfl ?_
    refine ld_sheet_owed hT dX7_finesAfter_19 (t_check_in e1) ?_
    refine V_aload_n dX7_finesAfter_20 0 rfl ?_
    refine gf_op_sheet hO2 dX7_finesAfter_21 flX7_12 ?_
    refine gf_sheet_owed hS dX7_finesAfter_24 flX7_87 ?_
    refine V_iload_n dX7_finesAfter_27 1 rfl ?_
    refine ld_sheet_owed hS dX7_finesAfter_28 (t_check_in e1) ?_
    refine V_isub dX7_finesAfter_29 ?_
    exact V_iret dX7_finesAfter_30 rfl ⟨Nat.le_of_ble_eq_true rfl, Nat.le_of_ble_eq_true rfl⟩ ⟨by unfold T_X7_finesAfter; rw [e1]; rfl, _, hO2⟩
  · obtain ⟨pr1, hO1⟩ := q1
    exact VX_out rfl ⟨Nat.le_of_ble_eq_true rfl, Nat.le_of_ble_eq_true rfl⟩ ⟨by unfold T_X7_finesAfter; rw [e1]; rfl, _, hO1⟩
set_option maxRecDepth 20000 in
set_option maxHeartbeats 1000000 in
theorem c_X7_save {X : KX} (hxs : X.1.stackTraces = false) (hg : GX X) {h : AH} {x : Nat} {S : SH} {past : List SH} {N : SH} {hs le lc lf : Int32} {txt ln : List Int32} (hW : OpW X h x S past N hs le lc lf txt ln) : Ct X mX7_save [.ref x] h (zM (some (.int (z_count S))) (fun h' => OpW X h' x S past S 1 le lc lf txt ln)) := by
  obtain ⟨pr, hO⟩ := hW
  obtain ⟨oS, hS⟩ := hO.2.2.2.2.1
  obtain ⟨oN, hN⟩ := hO.2.2.2.2.2.2.1
  refine Ct.of (by decide) rfl (Nat.le_of_ble_eq_true rfl) rfl hxs ?_
  refine V_aload_n dX7_save_0 0 rfl ?_
  refine gf_op_snapshot hO dX7_save_1 flX7_19 ?_
  refine V_aload_n dX7_save_4 0 rfl ?_
  refine gf_op_sheet hO dX7_save_5 flX7_12 ?_
  refine V_cVmv (As := [.ref (x + 1)]) (rest := []) dX7_save_8 cvX7_249 (C_copy hxs hN hS (by omega) hO.2.2.1) hN.1 rfl ⟨Nat.le_of_ble_eq_true rfl, Nat.le_of_ble_eq_true rfl, Nat.le_of_ble_eq_true rfl, Nat.le_of_ble_eq_true rfl⟩ (Nat.le_of_ble_eq_true rfl) rfl (fun h1 q1 => ?_)
  obtain ⟨hN1, hR1⟩ := q1
  have hO1 := hO.snap_upd ⟨_, hN1⟩ hO.2.2.1 hR1
  refine V_aload_n dX7_save_11 0 rfl ?_
  refine V_iconst (v := 1) dX7_save_12 (by decide) ?_
  refine pf_op_hs hO1 (Or.inr rfl) dX7_save_13 flX7_43 (fun h2 hO2 => ?_)
  obtain ⟨o2, hS2⟩ := hO2.2.2.2.2.1
  refine V_aload_n dX7_save_16 0 rfl ?_
  refine gf_op_sheet hO2 dX7_save_17 flX7_12 ?_
  refine gf_sheet_cues hS2 dX7_save_20 flX7_148 ?_
  refine gf_tree_count hS2.2.1 dX7_save_23 flX7_152 ?_
  exact V_iret dX7_save_26 rfl ⟨Nat.le_of_ble_eq_true rfl, Nat.le_of_ble_eq_true rfl⟩ ⟨rfl, _, hO2⟩
set_option maxRecDepth 20000 in
set_option maxHeartbeats 1000000 in
theorem c_X7_restore0 {X : KX} (hxs : X.1.stackTraces = false) (hg : GX X) {h : AH} {x : Nat} {S : SH} {past : List SH} {N : SH} {le lc lf : Int32} {txt ln : List Int32} (hW : OpW X h x S past N 0 le lc lf txt ln) : Ct X mX7_restore [.ref x] h (zT (["java/lang/IllegalStateException"] : List String) (.inr 0) (fun h' => OpW X h' x S past N 0 le lc lf txt ln)) := by
  obtain ⟨pr, hO⟩ := hW
  refine Ct.of (by decide) rfl (Nat.le_of_ble_eq_true rfl) rfl hxs ?_
  refine V_aload_n dX7_restore_0 0 rfl ?_
  refine gf_op_hs hO dX7_restore_1 flX7_43 ?_
  refine V_if_ne (tgt := 18) dX7_restore_4 (by decide) (fun c9 => absurd c9 (fun q9 => q9 rfl)) (fun _ => ?_)
  exact V_throwSW (E := "java/lang/IllegalStateException") (names := ["java/lang/RuntimeException", "java/lang/Exception"]) rfl (by decide) (by decide) tk_65.1 tk_65.2 ta_69 hg.1 hg.p (hg.2.1 19 _ _ _ rfl) dX7_restore_7 dX7_restore_10 dX7_restore_11 dX7_restore_14 dX7_restore_17 (Nat.le_of_ble_eq_true rfl) (Nat.le_of_ble_eq_true rfl) ⟨Nat.le_of_ble_eq_true rfl, Nat.le_of_ble_eq_true rfl⟩ (fun q9 hq9 => ⟨rfl, _, hO.bump hq9⟩)
set_option maxRecDepth 20000 in
set_option maxHeartbeats 1000000 in
theorem c_X7_restore1 {X : KX} (hxs : X.1.stackTraces = false) (hg : GX X) {h : AH} {x : Nat} {S : SH} {past : List SH} {N : SH} {le lc lf : Int32} {txt ln : List Int32} (hW : OpW X h x S past N 1 le lc lf txt ln) : Ct X mX7_restore [.ref x] h (zT (["java/lang/IllegalStateException"] : List String) (.inl (z_count N)) (fun h' => OpW X h' x N [] N 1 le lc lf txt ln)) := by
  obtain ⟨pr, hO⟩ := hW
  obtain ⟨oS, hS⟩ := hO.2.2.2.2.1
  obtain ⟨oN, hN⟩ := hO.2.2.2.2.2.2.1
  refine Ct.of (by decide) rfl (Nat.le_of_ble_eq_true rfl) rfl hxs ?_
  refine V_aload_n dX7_restore_0 0 rfl ?_
  refine gf_op_hs hO dX7_restore_1 flX7_43 ?_
  refine V_if_ne (tgt := 18) dX7_restore_4 (by decide) (fun _ => ?_) (fun c9 => absurd c9 (by decide))
  refine V_aload_n dX7_restore_18 0 rfl ?_
  refine gf_op_sheet hO dX7_restore_19 flX7_12 ?_
  refine V_aload_n dX7_restore_22 0 rfl ?_
  refine gf_op_snapshot hO dX7_restore_23 flX7_19 ?_
  refine V_cVmv (As := [.ref (x + 25)]) (rest := []) dX7_restore_26 cvX7_249 (C_copy hxs hS hN (by omega) hO.2.2.2.1) hS.1 rfl ⟨Nat.le_of_ble_eq_true rfl, Nat.le_of_ble_eq_true rfl, Nat.le_of_ble_eq_true rfl, Nat.le_of_ble_eq_true rfl⟩ (Nat.le_of_ble_eq_true rfl) rfl (fun h1 q1 => ?_)
  obtain ⟨hS1, hR1⟩ := q1
  have hO1 := hO.sheet_upd ⟨_, hS1⟩ hO.2.2.2.1 hR1
  obtain ⟨R9, j9, hj9, hl9, hc9, hi9, hp9, hq9⟩ := id hO1.2.2.2.2.2.2.2.1
  refine V_aload_n dX7_restore_29 0 rfl ?_
  refine gf_op_history hO1 dX7_restore_30 flX7_25 ?_
  refine V_cVmv (As := []) (rest := []) dX7_restore_33 cvX7_363 (C_forget hxs hO1.2.2.2.2.2.2.2.1) hc9.1 rfl ⟨Nat.le_of_ble_eq_true rfl, Nat.le_of_ble_eq_true rfl, Nat.le_of_ble_eq_true rfl, Nat.le_of_ble_eq_true rfl⟩ (Nat.le_of_ble_eq_true rfl) rfl (fun h2 q2 => ?_)
  obtain ⟨hH2, hR2⟩ := q2
  have hO2 := hO1.hist_upd hH2 hR2
  obtain ⟨o2, hS2⟩ := hO2.2.2.2.2.1
  refine V_aload_n dX7_restore_36 0 rfl ?_
  refine gf_op_sheet hO2 dX7_restore_37 flX7_12 ?_
  refine gf_sheet_cues hS2 dX7_restore_40 flX7_148 ?_
  refine gf_tree_count hS2.2.1 dX7_restore_43 flX7_152 ?_
  exact V_iret dX7_restore_46 rfl ⟨Nat.le_of_ble_eq_true rfl, Nat.le_of_ble_eq_true rfl⟩ ⟨rfl, _, hO2⟩
set_option maxRecDepth 20000 in
set_option maxHeartbeats 1000000 in
theorem c_X7_undo0 {X : KX} (hxs : X.1.stackTraces = false) (hg : GX X) {h : AH} {x : Nat} {S : SH} {N : SH} {hs le lc lf : Int32} {txt ln : List Int32} (hW : OpW X h x S [] N hs le lc lf txt ln) : Ct X mX7_undo [.ref x] h (zT (["java/lang/IllegalStateException"] : List String) (.inr 0) (fun h' => OpW X h' x S [] N hs le lc lf txt ln)) := by
  obtain ⟨pr, hO⟩ := hW
  obtain ⟨R9, j9, hj9, hl9, hc9, hi9, hp9, hq9⟩ := id hO.2.2.2.2.2.2.2.1
  refine Ct.of (by decide) rfl (Nat.le_of_ble_eq_true rfl) rfl hxs ?_
  refine V_aload_n dX7_undo_0 0 rfl ?_
  refine gf_op_history hO dX7_undo_1 flX7_25 ?_
  refine gf_hist_count hc9 dX7_undo_4 flX7_355 ?_
  refine V_if_ne (tgt := 21) dX7_undo_7 (by decide) (fun c9 => absurd c9 (fun q9 => q9 rfl)) (fun _ => ?_)
  exact V_throwSW (E := "java/lang/IllegalStateException") (names := ["java/lang/RuntimeException", "java/lang/Exception"]) rfl (by decide) (by decide) tk_65.1 tk_65.2 ta_69 hg.1 hg.p (hg.2.1 18 _ _ _ rfl) dX7_undo_10 dX7_undo_13 dX7_undo_14 dX7_undo_17 dX7_undo_20 (Nat.le_of_ble_eq_true rfl) (Nat.le_of_ble_eq_true rfl) ⟨Nat.le_of_ble_eq_true rfl, Nat.le_of_ble_eq_true rfl⟩ (fun q8 hq8 => ⟨rfl, _, hO.bump hq8⟩)
set_option maxRecDepth 20000 in
set_option maxHeartbeats 1000000 in
theorem c_X7_undo1 {X : KX} (hxs : X.1.stackTraces = false) (hg : GX X) {h : AH} {x : Nat} {S : SH} {past : List SH} {a N : SH} {hs le lc lf : Int32} {txt ln : List Int32} (hW : OpW X h x S (a :: past) N hs le lc lf txt ln) : Ct X mX7_undo [.ref x] h (zT (["java/lang/IllegalStateException"] : List String) (.inl (nI past.length)) (fun h' => OpW X h' x a past N hs le lc lf txt ln)) := by
  obtain ⟨pr, hO⟩ := hW
  obtain ⟨R9, j9, hj9, hl9, hc9, hi9, hp9, hq9⟩ := id hO.2.2.2.2.2.2.2.1
  obtain ⟨oS, hS⟩ := hO.2.2.2.2.1
  refine Ct.of (by decide) rfl (Nat.le_of_ble_eq_true rfl) rfl hxs ?_
  refine V_aload_n dX7_undo_0 0 rfl ?_
  refine gf_op_history hO dX7_undo_1 flX7_25 ?_
  refine gf_hist_count hc9 dX7_undo_4 flX7_355 ?_
  refine V_if_ne (tgt := 21) dX7_undo_7 (by decide) (fun _ => ?_) (fun c9 => absurd c9 (nI_ne0 (by rw [List.length_cons]; omega) (by have : past.length + 1 ≤ 8 := hl9; rw [List.length_cons]; omega)))
  refine V_aload_n dX7_undo_21 0 rfl ?_
  refine gf_op_history hO dX7_undo_22 flX7_25 ?_
  refine V_aload_n dX7_undo_25 0 rfl ?_
  refine gf_op_sheet hO dX7_undo_26 flX7_12 ?_
  refine V_cVmv (As := [.ref (x + 1)]) (rest := []) dX7_undo_29 cvX7_358 (C_takeBack hxs hO.2.2.2.2.2.2.2.1 hS (by omega) (by omega)) hc9.1 rfl ⟨Nat.le_of_ble_eq_true rfl, Nat.le_of_ble_eq_true rfl, Nat.le_of_ble_eq_true rfl, Nat.le_of_ble_eq_true rfl⟩ (Nat.le_of_ble_eq_true rfl) rfl (fun h2 q2 => ?_)
  obtain ⟨h1, hH1, hR1, hS2, hR2⟩ := q2
  have hO1 := hO.hist_upd hH1 hR1
  have hO2 := hO1.sheet_upd ⟨_, hS2⟩ (hO.2.2.2.2.2.2.2.1.si (i := 0) rfl) hR2
  obtain ⟨R8, j8, hj8, hl8, hc8, hi8, hp8, hq8⟩ := id hO2.2.2.2.2.2.2.2.1
  refine V_aload_n dX7_undo_32 0 rfl ?_
  refine gf_op_history hO2 dX7_undo_33 flX7_25 ?_
  refine gf_hist_count hc8 dX7_undo_36 flX7_355 ?_
  exact V_iret dX7_undo_39 rfl ⟨Nat.le_of_ble_eq_true rfl, Nat.le_of_ble_eq_true rfl⟩ ⟨rfl, _, hO2⟩
