set_option maxRecDepth 20000 in
set_option maxHeartbeats 2000000 in
theorem C_passBeat {X : KX} (hxs : X.1.stackTraces = false) {h : AH} {s : Nat} {S : SH} {od : List Int32} (hS : IsSh X h s S od) (hI : SI S) : Ct X mX6_passBeat [.ref s] h (zM none (fun h' => (∃ od', IsSh X h' s (U_passBeat S) od') ∧ Outs h h' s 12)) := by
  refine Ct.of (by decide) rfl (Nat.le_of_ble_eq_true rfl) rfl hxs ?_
  refine V_aload_n dX6_passBeat_0 0 rfl ?_
  refine V_dup dX6_passBeat_1 rfl ?_
  refine gf_sheet_beat hS dX6_passBeat_2 flX6_32 ?_
  refine V_iconst (v := 1) dX6_passBeat_5 (by decide) ?_
  refine V_iadd dX6_passBeat_6 ?_
  refine pf_sheet_beat hS dX6_passBeat_7 flX6_32 (fun h1 hT1 hO1 => ?_)
  have hS1 : IsSh X h1 s (zs_beat S (z_beat S + 1)) od := by
    dsimp only [IsSh, zs_beat, z_ids, z_kinds, z_players, z_beats, z_sizes, z_lower, z_higher, z_root, z_count, z_owed, z_mends, z_perf, z_nid, z_beat, z_act, z_lim, z_hend, z_hbt, z_happ, z_clash, z_imp, z_paid]
    exact hT1
  refine V_aload_n dX6_passBeat_10 0 rfl ?_
  refine V_cVmv (As := []) (rest := []) dX6_passBeat_11 cvX6_137 (C_closeMouths hxs hS1) hS1.1 rfl ⟨Nat.le_of_ble_eq_true rfl, Nat.le_of_ble_eq_true rfl, Nat.le_of_ble_eq_true rfl, Nat.le_of_ble_eq_true rfl⟩ (Nat.le_of_ble_eq_true rfl) rfl (fun h2 qh2 => ?_)
  obtain ⟨hS2, hO2⟩ := qh2
  have hI2 : SI (U_closeMouths (zs_beat S (z_beat S + 1))) := SI_closeMouths (SI_zbeat hI)
  generalize e2 : U_closeMouths (zs_beat S (z_beat S + 1)) = S2 at hS2 hI2
  have hO2 := hO1.tr hO2
  refine V_aload_n dX6_passBeat_14 0 rfl ?_
  refine gf_sheet_cues hS2 dX6_passBeat_15 flX6_12 ?_
  refine V_aload_n dX6_passBeat_18 0 rfl ?_
  refine gf_sheet_beat hS2 dX6_passBeat_19 flX6_32 ?_
  refine V_cVmi (As := [.int (z_beat S2)]) (rest := []) dX6_passBeat_22 cvX6_140 (C_list hxs hS2 (z_beat S2)) hS2.2.1.1 rfl ⟨Nat.le_of_ble_eq_true rfl, Nat.le_of_ble_eq_true rfl, Nat.le_of_ble_eq_true rfl, Nat.le_of_ble_eq_true rfl⟩ (Nat.le_of_ble_eq_true rfl) rfl (fun h3 q3 => ?_)
  obtain ⟨o, hS3, hag, hO3⟩ := q3
  have hO3 := hO2.tr hO3
  have hok := Lst_ok S2 (z_beat S2)
  generalize e3 : Lst S2 (z_beat S2) = dl at hag hok ⊢
  obtain ⟨hD, hin⟩ := hok
  have hD2 := hD.2
  refine V_istore_n (lv' := [(1, .int dl.1), (0, .ref s)]) dX6_passBeat_25 rfl (by decide) rfl ?_
  refine V_aload_n dX6_passBeat_26 1 rfl ?_
  refine V_iload_n dX6_passBeat_27 0 rfl ?_
  refine V_cVmv (As := [.int dl.1]) (rest := []) dX6_passBeat_28 cvX6_143 (C_beginHushes hxs hS3 dl.1 hD) hS3.1 rfl ⟨Nat.le_of_ble_eq_true rfl, Nat.le_of_ble_eq_true rfl, Nat.le_of_ble_eq_true rfl, Nat.le_of_ble_eq_true rfl⟩ (Nat.le_of_ble_eq_true rfl) rfl (fun h4 qh4 => ?_)
  obtain ⟨hS4, hO4⟩ := qh4
  rw [bh_od hag] at hS4
  have hI4 : SI (U_beginHushes S2 dl.2 dl.1) := SI_beginHushes hI2
  generalize e4 : U_beginHushes S2 dl.2 dl.1 = S4 at hS4 hI4
  have hO4 := hO3.tr hO4
  refine V_aload_n dX6_passBeat_31 1 rfl ?_
  refine V_iload_n dX6_passBeat_32 0 rfl ?_
  refine V_cVmv (As := [.int dl.1]) (rest := []) dX6_passBeat_33 cvX6_146 (C_openMouths hxs hS4 dl.1 hD) hS4.1 rfl ⟨Nat.le_of_ble_eq_true rfl, Nat.le_of_ble_eq_true rfl, Nat.le_of_ble_eq_true rfl, Nat.le_of_ble_eq_true rfl⟩ (Nat.le_of_ble_eq_true rfl) rfl (fun h5 qh5 => ?_)
  obtain ⟨hS5, hO5⟩ := qh5
  rw [om_od hag] at hS5
  have hI5 : SI (U_openMouths S4 dl.2 dl.1) := SI_openMouths hI4
  generalize e5 : U_openMouths S4 dl.2 dl.1 = S5 at hS5 hI5
  have hO5 := hO4.tr hO5
  refine V_aload_n dX6_passBeat_36 1 rfl ?_
  refine V_iload_n dX6_passBeat_37 0 rfl ?_
  refine V_cVmv (As := [.int dl.1]) (rest := []) dX6_passBeat_38 cvX6_149 (C_dropProps hxs hS5 dl.1 hD) hS5.1 rfl ⟨Nat.le_of_ble_eq_true rfl, Nat.le_of_ble_eq_true rfl, Nat.le_of_ble_eq_true rfl, Nat.le_of_ble_eq_true rfl⟩ (Nat.le_of_ble_eq_true rfl) rfl (fun h6 qh6 => ?_)
  obtain ⟨hS6, hO6⟩ := qh6
  rw [dp_od hag] at hS6
  have hI6 : SI (U_dropProps S5 dl.2 dl.1) := SI_dropProps hI5
  generalize e6 : U_dropProps S5 dl.2 dl.1 = S6 at hS6 hI6
  have hO6 := hO5.tr hO6
  have L43 : ∀ (f i : Nat) (Q : SH) (h0 : AH), i + f = dl.1.toNatClampNeg → IsSh X h0 s Q o → SI Q → (∀ h1, IsSh X h1 s (U_drops dl.2 f i Q) o → Outs h0 h1 s 12 → V X mX6_passBeat (zF X mX6_passBeat (zM none (fun h' => (∃ od', IsSh X h' s (U_passBeat S) od') ∧ Outs h h' s 12))) 0 0 76 [(0, .ref s), (1, .int dl.1)] [] h1) → V X mX6_passBeat (zF X mX6_passBeat (zM none (fun h' => (∃ od', IsSh X h' s (U_passBeat S) od') ∧ Outs h h' s 12))) 0 0 43 [(0, .ref s), (1, .int dl.1), (2, .int (nI i))] [] h0 := by
    intro f
    induction f with
    | zero =>
      intro i Q h0 hi hQ hIQ kk
      have ei : i = dl.1.toNatClampNeg := by omega
      subst ei
      refine V_iload_n dX6_passBeat_43 2 rfl ?_
      refine V_iload_n dX6_passBeat_44 1 rfl ?_
      refine V_icmp_ge (tgt := 76) dX6_passBeat_45 (by decide) (fun _ => ?_) (fun c9 => absurd (sm_le hD) c9)
      refine V.loc [0, 1] rfl ?_
      exact kk _ hQ Outs.rf
    | succ f ih =>
      intro i Q h0 hi hQ hIQ kk
      refine V_iload_n dX6_passBeat_43 2 rfl ?_
      refine V_iload_n dX6_passBeat_44 1 rfl ?_
      refine V_icmp_ge (tgt := 76) dX6_passBeat_45 (by decide) (fun c9 => absurd c9 (sm_ge hD (by omega) (by decide))) (fun _ => ?_)
      refine V_iload_n dX6_passBeat_48 2 rfl ?_
      refine V_bipush (v := 16) dX6_passBeat_49 (by decide) ?_
      refine V_icmp_ge (tgt := 76) dX6_passBeat_51 (by decide) (fun c9 => absurd c9 (nI_ge (a := i) (b := 16) (by omega) (by omega))) (fun _ => ?_)
      refine V_aload_n dX6_passBeat_54 0 rfl ?_
      refine gf_sheet_cues hQ dX6_passBeat_55 flX6_12 ?_
      refine V_aload_n dX6_passBeat_58 0 rfl ?_
      refine gf_sheet_cues hQ dX6_passBeat_59 flX6_12 ?_
      refine gf_tree_od hQ.2.1 dX6_passBeat_62 flX6_152 ?_
      refine V_iload_n dX6_passBeat_65 2 rfl ?_
      refine ld_tree_od hQ.2.1 dX6_passBeat_66 (vp_in_nI (by omega) (by omega)) ?_
      rw [hag i (by omega)]
      refine V_cVmv (As := [.int (rd dl.2 (nI i))]) (rest := []) dX6_passBeat_67 cvX6_121 (C_dropS hxs hQ (rd dl.2 (nI i)) hIQ) hQ.2.1.1 rfl ⟨Nat.le_of_ble_eq_true rfl, Nat.le_of_ble_eq_true rfl, Nat.le_of_ble_eq_true rfl, Nat.le_of_ble_eq_true rfl⟩ (Nat.le_of_ble_eq_true rfl) rfl (fun h1 q1 => ?_)
      obtain ⟨hQ1, hO9⟩ := q1
      refine V_iinc (v := nI (i + 1)) (lv' := [(2, .int (nI (i + 1))), (0, .ref s), (1, .int dl.1)]) dX6_passBeat_70 2 rfl (iinc1 i) (by decide) rfl ?_
      refine V_goto (tgt := 43) dX6_passBeat_73 (by decide) ?_
      refine V.loc [1, 2, 0] rfl ?_
      exact ih (i + 1) _ h1 (by omega) hQ1 (SI_dropS hIQ) (fun h2 a b => kk h2 a (hO9.tr b))
  refine V_iconst (v := 0) dX6_passBeat_41 (by decide) ?_
  refine V_istore_n (lv' := [(2, .int 0), (1, .int dl.1), (0, .ref s)]) dX6_passBeat_42 rfl (by decide) rfl ?_
  refine V.loc [2, 1, 0] rfl ?_
  refine L43 dl.1.toNatClampNeg 0 S6 h6 (by omega) hS6 hI6 (fun h7 hS7 hO7 => ?_)
  generalize e7 : U_drops dl.2 dl.1.toNatClampNeg 0 S6 = S7 at hS7
  have hO7 := hO6.tr hO7
  refine V_aload_n dX6_passBeat_76 0 rfl ?_
  refine V_dup dX6_passBeat_77 rfl ?_
  refine gf_sheet_happ hS7 dX6_passBeat_78 flX6_47 ?_
  refine V_iload_n dX6_passBeat_81 1 rfl ?_
  refine V_iadd dX6_passBeat_82 ?_
  refine pf_sheet_happ hS7 dX6_passBeat_83 flX6_47 (fun h8 hT8 hO8 => ?_)
  have hS8 : IsSh X h8 s (zs_happ S7 (z_happ S7 + dl.1)) o := by
    dsimp only [IsSh, zs_happ, z_ids, z_kinds, z_players, z_beats, z_sizes, z_lower, z_higher, z_root, z_count, z_owed, z_mends, z_perf, z_nid, z_beat, z_act, z_lim, z_hend, z_hbt, z_happ, z_clash, z_imp, z_paid]
    exact hT8
  generalize e8 : zs_happ S7 (z_happ S7 + dl.1) = S8 at hS8
  have hO8 := hO7.tr hO8
  have eU : U_passBeat S = if z_hend S8 < z_beat S8 then S8 else zs_hbt S8 (z_hbt S8 + 1) := by
    unfold U_passBeat U_cues U_tail U_due U_last
    rw [e2, e3, e4, e5, e6, e7, e8]
  refine V_aload_n dX6_passBeat_86 0 rfl ?_
  refine gf_sheet_beat hS8 dX6_passBeat_87 flX6_32 ?_
  refine V_aload_n dX6_passBeat_90 0 rfl ?_
  refine gf_sheet_hend hS8 dX6_passBeat_91 flX6_41 ?_
  refine V_icmp_gt (tgt := 107) dX6_passBeat_94 (by decide) (fun c1 => ?_) (fun c1 => ?_)
  · rw [if_pos c1] at eU
    exact V_vret dX6_passBeat_107 rfl ⟨Nat.le_of_ble_eq_true rfl, Nat.le_of_ble_eq_true rfl⟩ ⟨rfl, ⟨o, by rw [eU]; exact hS8⟩, hO8⟩
  · rw [if_neg c1] at eU
    refine V_aload_n dX6_passBeat_97 0 rfl ?_
    refine V_dup dX6_passBeat_98 rfl ?_
    refine gf_sheet_hbt hS8 dX6_passBeat_99 flX6_44 ?_
    refine V_iconst (v := 1) dX6_passBeat_102 (by decide) ?_
    refine V_iadd dX6_passBeat_103 ?_
    refine pf_sheet_hbt hS8 dX6_passBeat_104 flX6_44 (fun h9 hT9 hO9 => ?_)
    have hS9 : IsSh X h9 s (zs_hbt S8 (z_hbt S8 + 1)) o := by
      dsimp only [IsSh, zs_hbt, z_ids, z_kinds, z_players, z_beats, z_sizes, z_lower, z_higher, z_root, z_count, z_owed, z_mends, z_perf, z_nid, z_beat, z_act, z_lim, z_hend, z_hbt, z_happ, z_clash, z_imp, z_paid]
      exact hT9
    exact V_vret dX6_passBeat_107 rfl ⟨Nat.le_of_ble_eq_true rfl, Nat.le_of_ble_eq_true rfl⟩ ⟨rfl, ⟨o, by rw [eU]; exact hS9⟩, hO8.tr hO9⟩
