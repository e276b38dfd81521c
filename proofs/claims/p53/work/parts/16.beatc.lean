set_option maxRecDepth 20000 in
set_option maxHeartbeats 2000000 in
theorem C_pass {X : KX} (hxs : X.1.stackTraces = false) {h : AH} {s : Nat} {S : SH} {od : List Int32} (hS : IsSh X h s S od) (hI : SI S) (b : Int32) : Ct X mX6_pass [.ref s, .int b] h (zM (some (.int (U_pass S b).1)) (fun h' => (∃ od', IsSh X h' s (U_pass S b).2 od') ∧ Outs h h' s 12)) := by
  refine Ct.of (by decide) rfl (Nat.le_of_ble_eq_true rfl) rfl hxs ?_
  refine V_iload_n dX6_pass_0 1 rfl ?_
  refine V_iconst (v := 1) dX6_pass_1 (by decide) ?_
  refine V_icmp_lt (tgt := 11) dX6_pass_2 (by decide) (fun c1 => ?_) (fun c1 => ?_)
  · have eU : U_pass S b = (-1, S) := by unfold U_pass; rw [if_pos c1]
    refine V_iconst (v := (-1)) dX6_pass_11 (by decide) ?_
    exact V_iret dX6_pass_12 rfl ⟨Nat.le_of_ble_eq_true rfl, Nat.le_of_ble_eq_true rfl⟩ ⟨by rw [eU], ⟨od, by rw [eU]; exact hS⟩, Outs.rf⟩
  · refine V_iload_n dX6_pass_5 1 rfl ?_
    refine V_bipush (v := 40) dX6_pass_6 (by decide) ?_
    refine V_icmp_le (tgt := 13) dX6_pass_8 (by decide) (fun c2 => ?_) (fun c2 => ?_)
    · have eU : U_pass S b = (z_happ (U_beats b.toNatClampNeg S) - z_happ S, U_beats b.toNatClampNeg S) := by unfold U_pass; rw [if_neg c1, if_pos c2]
      have hB : SmallN b 40 := sm_of (i1_0 c1) (fun c => absurd c (Int32.not_lt.mpr c2)) rfl (by decide)
      have hB2 := hB.2
      refine V_aload_n dX6_pass_13 0 rfl ?_
      refine gf_sheet_happ hS dX6_pass_14 flX6_47 ?_
      refine V_istore_n (lv' := [(2, .int (z_happ S)), (0, .ref s), (1, .int b)]) dX6_pass_17 rfl (by decide) rfl ?_
      refine V_iconst (v := 0) dX6_pass_18 (by decide) ?_
      refine V_istore_n (lv' := [(3, .int 0), (2, .int (z_happ S)), (0, .ref s), (1, .int b)]) dX6_pass_19 rfl (by decide) rfl ?_
      refine V.loc [2, 3, 1, 0] rfl ?_
      have L20 : ∀ (f i : Nat) (Q : SH) (h0 : AH), i + f = b.toNatClampNeg → (∃ o, IsSh X h0 s Q o) → SI Q → Outs h h0 s 12 → U_beats f Q = U_beats b.toNatClampNeg S → V X mX6_pass (zF X mX6_pass (zM (some (.int (U_pass S b).1)) (fun h' => (∃ od', IsSh X h' s (U_pass S b).2 od') ∧ Outs h h' s 12))) 0 0 20 [(0, .ref s), (1, .int b), (2, .int (z_happ S)), (3, .int (nI i))] [] h0 := by
        intro f
        induction f with
        | zero =>
          intro i Q h0 hi hQ hIQ hO eQ
          obtain ⟨o, hQ⟩ := hQ
          have ei : i = b.toNatClampNeg := by omega
          subst ei
          have eQ : Q = U_beats b.toNatClampNeg S := eQ
          refine V_iload_n dX6_pass_20 3 rfl ?_
          refine V_iload_n dX6_pass_21 1 rfl ?_
          refine V_icmp_ge (tgt := 35) dX6_pass_22 (by decide) (fun _ => ?_) (fun c9 => absurd (sm_le hB) c9)
          refine V_aload_n dX6_pass_35 0 rfl ?_
          refine gf_sheet_happ hQ dX6_pass_36 flX6_47 ?_
          refine V_iload_n dX6_pass_39 2 rfl ?_
          refine V_isub dX6_pass_40 ?_
          exact V_iret dX6_pass_41 rfl ⟨Nat.le_of_ble_eq_true rfl, Nat.le_of_ble_eq_true rfl⟩ ⟨by rw [eU, eQ], ⟨o, by rw [eU]; rw [eQ] at hQ; exact hQ⟩, hO⟩
        | succ f ih =>
          intro i Q h0 hi hQ hIQ hO eQ
          obtain ⟨o, hQ⟩ := hQ
          refine V_iload_n dX6_pass_20 3 rfl ?_
          refine V_iload_n dX6_pass_21 1 rfl ?_
          refine V_icmp_ge (tgt := 35) dX6_pass_22 (by decide) (fun c9 => absurd c9 (sm_ge hB (by omega) (by decide))) (fun _ => ?_)
          refine V_aload_n dX6_pass_25 0 rfl ?_
          refine V_cVmv (As := []) (rest := []) dX6_pass_26 cvX6_134 (C_passBeat hxs hQ hIQ) hQ.1 rfl ⟨Nat.le_of_ble_eq_true rfl, Nat.le_of_ble_eq_true rfl, Nat.le_of_ble_eq_true rfl, Nat.le_of_ble_eq_true rfl⟩ (Nat.le_of_ble_eq_true rfl) rfl (fun h1 q1 => ?_)
          obtain ⟨hQ1, hO9⟩ := q1
          refine V_iinc (v := nI (i + 1)) (lv' := [(3, .int (nI (i + 1))), (0, .ref s), (1, .int b), (2, .int (z_happ S))]) dX6_pass_29 3 rfl (iinc1 i) (by decide) rfl ?_
          refine V_goto (tgt := 20) dX6_pass_32 (by decide) ?_
          refine V.loc [1, 2, 3, 0] rfl ?_
          exact ih (i + 1) _ h1 (by omega) hQ1 (SI_passBeat hIQ) (hO.tr hO9) eQ
      exact L20 b.toNatClampNeg 0 S h (by omega) ⟨od, hS⟩ hI Outs.rf rfl
    · have eU : U_pass S b = (-1, S) := by unfold U_pass; rw [if_neg c1, if_neg c2]
      refine V_iconst (v := (-1)) dX6_pass_11 (by decide) ?_
      exact V_iret dX6_pass_12 rfl ⟨Nat.le_of_ble_eq_true rfl, Nat.le_of_ble_eq_true rfl⟩ ⟨by rw [eU], ⟨od, by rw [eU]; exact hS⟩, Outs.rf⟩
