/-! ===== constructors ===== -/
theorem wAi : Cond.arrayClass .int ∈ GW := gw_tab 101 (by decide +kernel) (by decide +kernel)
theorem wAc : Cond.arrayClass .char ∈ GW := gw_tab 102 (by decide +kernel) (by decide +kernel)
theorem wOS : Cond.arrayOver (.object "SilentOpera$Sheet") ∈ GPN := gn_tab 164 (by decide +kernel) (by decide +kernel)
theorem wOC : Cond.arrayOver (.object "SilentOpera$Command") ∈ GPN := gn_tab 217 (by decide +kernel) (by decide +kernel)
theorem wObRX3 : Cond.methodLink RX3 3 Lib.objectInit ∈ GW ∧ Cond.instanceMethod Lib.objectInit ∈ GW ∧ Cond.code Lib.objectInit ⟨#[0xb1]⟩ 1 none ∈ GW := ⟨gw_tab 54 (by decide +kernel) (by decide +kernel), gw_tab 41 (by decide +kernel) (by decide +kernel), gw_tab 42 (by decide +kernel) (by decide +kernel)⟩
set_option maxRecDepth 20000 in
set_option maxHeartbeats 4000000 in
theorem c_X3_init {X : KX} (hxs : X.1.stackTraces = false) {h0 : AH} {a : Nat} (he : h0.1 = a + 1) (f_o : h0.2 a = some (.inr (6, [.null, .null, .null, .null, .null, .null, .null, .null, .int 0, .int 0]))) : Ct X mX3_init [.ref a] h0 (zM none (fun h' => IsTree X h' a (List.replicate 16 0) (List.replicate 16 0) (List.replicate 16 0) (List.replicate 16 0) (List.replicate 16 0) (List.replicate 16 (-1)) (List.replicate 16 (-1)) (List.replicate 16 0) (-1) 0 ∧ h'.1 = a + 9 ∧ ∀ q, q < a → h'.2 q = h0.2 q)) := by
  have fr : ∀ q, q < a → h0.2 q = h0.2 q := fun _ _ => rfl
  refine Ct.of (by decide) rfl (Nat.le_of_ble_eq_true rfl) rfl hxs ?_
  refine V_aload_n dX3_init_0 0 rfl ?_
  refine V_objInit dX3_init_1 wObRX3 ⟨Nat.le_of_ble_eq_true rfl, Nat.le_of_ble_eq_true rfl⟩ ?_
  refine V_aload_n dX3_init_4 0 rfl ?_
  refine V_bipush (v := 16) dX3_init_5 (by decide) ?_
  refine V_newiB (N := 16) (b := a + 1) he dX3_init_7 wAi (by decide) (by decide) (by decide) ⟨Nat.le_of_ble_eq_true rfl, Nat.le_of_ble_eq_true rfl⟩ (fun h1 he1 f_1 fk => ?_)
  have f_o := (fk _ (by omega)).trans f_o
  have fr : ∀ q, q < a → h1.2 q = h0.2 q := fun q hq => (fk q (by omega)).trans (fr q hq)
  have he : h1.1 = a + 2 := by omega
  refine V_putFB (T := TX3) (fs' := [.ref (a + 1), .null, .null, .null, .null, .null, .null, .null, .int 0, .int 0]) 0 dX3_init_9 flX3_9 iGX3 tyX3_ok nmX3 rfl (by decide) rfl rfl rfl rfl rfl f_o rfl rfl (by simp) rfl (fun h2 hz f_o fk => ?_)
  have f_1 := (fk _ (by omega)).trans f_1
  have fr : ∀ q, q < a → h2.2 q = h0.2 q := fun q hq => (fk q (by omega)).trans (fr q hq)
  have he : h2.1 = a + 2 := hz.trans he
  refine V_aload_n dX3_init_12 0 rfl ?_
  refine V_bipush (v := 16) dX3_init_13 (by decide) ?_
  refine V_newcB (N := 16) (b := a + 2) he dX3_init_15 wAc (by decide) (by decide) (by decide) ⟨Nat.le_of_ble_eq_true rfl, Nat.le_of_ble_eq_true rfl⟩ (fun h3 he1 f_2 fk => ?_)
  have f_o := (fk _ (by omega)).trans f_o
  have f_1 := (fk _ (by omega)).trans f_1
  have fr : ∀ q, q < a → h3.2 q = h0.2 q := fun q hq => (fk q (by omega)).trans (fr q hq)
  have he : h3.1 = a + 3 := by omega
  refine V_putFB (T := TX3) (fs' := [.ref (a + 1), .ref (a + 2), .null, .null, .null, .null, .null, .null, .int 0, .int 0]) 1 dX3_init_17 flX3_15 iGX3 tyX3_ok nmX3 rfl (by decide) rfl rfl rfl rfl rfl f_o rfl rfl (by simp) rfl (fun h4 hz f_o fk => ?_)
  have f_1 := (fk _ (by omega)).trans f_1
  have f_2 := (fk _ (by omega)).trans f_2
  have fr : ∀ q, q < a → h4.2 q = h0.2 q := fun q hq => (fk q (by omega)).trans (fr q hq)
  have he : h4.1 = a + 3 := hz.trans he
  refine V_aload_n dX3_init_20 0 rfl ?_
  refine V_bipush (v := 16) dX3_init_21 (by decide) ?_
  refine V_newiB (N := 16) (b := a + 3) he dX3_init_23 wAi (by decide) (by decide) (by decide) ⟨Nat.le_of_ble_eq_true rfl, Nat.le_of_ble_eq_true rfl⟩ (fun h5 he1 f_3 fk => ?_)
  have f_o := (fk _ (by omega)).trans f_o
  have f_1 := (fk _ (by omega)).trans f_1
  have f_2 := (fk _ (by omega)).trans f_2
  have fr : ∀ q, q < a → h5.2 q = h0.2 q := fun q hq => (fk q (by omega)).trans (fr q hq)
  have he : h5.1 = a + 4 := by omega
  refine V_putFB (T := TX3) (fs' := [.ref (a + 1), .ref (a + 2), .ref (a + 3), .null, .null, .null, .null, .null, .int 0, .int 0]) 2 dX3_init_25 flX3_19 iGX3 tyX3_ok nmX3 rfl (by decide) rfl rfl rfl rfl rfl f_o rfl rfl (by simp) rfl (fun h6 hz f_o fk => ?_)
  have f_1 := (fk _ (by omega)).trans f_1
  have f_2 := (fk _ (by omega)).trans f_2
  have f_3 := (fk _ (by omega)).trans f_3
  have fr : ∀ q, q < a → h6.2 q = h0.2 q := fun q hq => (fk q (by omega)).trans (fr q hq)
  have he : h6.1 = a + 4 := hz.trans he
  refine V_aload_n dX3_init_28 0 rfl ?_
  refine V_bipush (v := 16) dX3_init_29 (by decide) ?_
  refine V_newiB (N := 16) (b := a + 4) he dX3_init_31 wAi (by decide) (by decide) (by decide) ⟨Nat.le_of_ble_eq_true rfl, Nat.le_of_ble_eq_true rfl⟩ (fun h7 he1 f_4 fk => ?_)
  have f_o := (fk _ (by omega)).trans f_o
  have f_1 := (fk _ (by omega)).trans f_1
  have f_2 := (fk _ (by omega)).trans f_2
  have f_3 := (fk _ (by omega)).trans f_3
  have fr : ∀ q, q < a → h7.2 q = h0.2 q := fun q hq => (fk q (by omega)).trans (fr q hq)
  have he : h7.1 = a + 5 := by omega
  refine V_putFB (T := TX3) (fs' := [.ref (a + 1), .ref (a + 2), .ref (a + 3), .ref (a + 4), .null, .null, .null, .null, .int 0, .int 0]) 3 dX3_init_33 flX3_22 iGX3 tyX3_ok nmX3 rfl (by decide) rfl rfl rfl rfl rfl f_o rfl rfl (by simp) rfl (fun h8 hz f_o fk => ?_)
  have f_1 := (fk _ (by omega)).trans f_1
  have f_2 := (fk _ (by omega)).trans f_2
  have f_3 := (fk _ (by omega)).trans f_3
  have f_4 := (fk _ (by omega)).trans f_4
  have fr : ∀ q, q < a → h8.2 q = h0.2 q := fun q hq => (fk q (by omega)).trans (fr q hq)
  have he : h8.1 = a + 5 := hz.trans he
  refine V_aload_n dX3_init_36 0 rfl ?_
  refine V_bipush (v := 16) dX3_init_37 (by decide) ?_
  refine V_newiB (N := 16) (b := a + 5) he dX3_init_39 wAi (by decide) (by decide) (by decide) ⟨Nat.le_of_ble_eq_true rfl, Nat.le_of_ble_eq_true rfl⟩ (fun h9 he1 f_5 fk => ?_)
  have f_o := (fk _ (by omega)).trans f_o
  have f_1 := (fk _ (by omega)).trans f_1
  have f_2 := (fk _ (by omega)).trans f_2
  have f_3 := (fk _ (by omega)).trans f_3
  have f_4 := (fk _ (by omega)).trans f_4
  have fr : ∀ q, q < a → h9.2 q = h0.2 q := fun q hq => (fk q (by omega)).trans (fr q hq)
  have he : h9.1 = a + 6 := by omega
  refine V_putFB (T := TX3) (fs' := [.ref (a + 1), .ref (a + 2), .ref (a + 3), .ref (a + 4), .ref (a + 5), .null, .null, .null, .int 0, .int 0]) 4 dX3_init_41 flX3_25 iGX3 tyX3_ok nmX3 rfl (by decide) rfl rfl rfl rfl rfl f_o rfl rfl (by simp) rfl (fun h10 hz f_o fk => ?_)
  have f_1 := (fk _ (by omega)).trans f_1
  have f_2 := (fk _ (by omega)).trans f_2
  have f_3 := (fk _ (by omega)).trans f_3
  have f_4 := (fk _ (by omega)).trans f_4
  have f_5 := (fk _ (by omega)).trans f_5
  have fr : ∀ q, q < a → h10.2 q = h0.2 q := fun q hq => (fk q (by omega)).trans (fr q hq)
  have he : h10.1 = a + 6 := hz.trans he
  refine V_aload_n dX3_init_44 0 rfl ?_
  refine V_bipush (v := 16) dX3_init_45 (by decide) ?_
  refine V_newiB (N := 16) (b := a + 6) he dX3_init_47 wAi (by decide) (by decide) (by decide) ⟨Nat.le_of_ble_eq_true rfl, Nat.le_of_ble_eq_true rfl⟩ (fun h11 he1 f_6 fk => ?_)
  have f_o := (fk _ (by omega)).trans f_o
  have f_1 := (fk _ (by omega)).trans f_1
  have f_2 := (fk _ (by omega)).trans f_2
  have f_3 := (fk _ (by omega)).trans f_3
  have f_4 := (fk _ (by omega)).trans f_4
  have f_5 := (fk _ (by omega)).trans f_5
  have fr : ∀ q, q < a → h11.2 q = h0.2 q := fun q hq => (fk q (by omega)).trans (fr q hq)
  have he : h11.1 = a + 7 := by omega
  refine V_putFB (T := TX3) (fs' := [.ref (a + 1), .ref (a + 2), .ref (a + 3), .ref (a + 4), .ref (a + 5), .ref (a + 6), .null, .null, .int 0, .int 0]) 5 dX3_init_49 flX3_28 iGX3 tyX3_ok nmX3 rfl (by decide) rfl rfl rfl rfl rfl f_o rfl rfl (by simp) rfl (fun h12 hz f_o fk => ?_)
  have f_1 := (fk _ (by omega)).trans f_1
  have f_2 := (fk _ (by omega)).trans f_2
  have f_3 := (fk _ (by omega)).trans f_3
  have f_4 := (fk _ (by omega)).trans f_4
  have f_5 := (fk _ (by omega)).trans f_5
  have f_6 := (fk _ (by omega)).trans f_6
  have fr : ∀ q, q < a → h12.2 q = h0.2 q := fun q hq => (fk q (by omega)).trans (fr q hq)
  have he : h12.1 = a + 7 := hz.trans he
  refine V_aload_n dX3_init_52 0 rfl ?_
  refine V_bipush (v := 16) dX3_init_53 (by decide) ?_
  refine V_newiB (N := 16) (b := a + 7) he dX3_init_55 wAi (by decide) (by decide) (by decide) ⟨Nat.le_of_ble_eq_true rfl, Nat.le_of_ble_eq_true rfl⟩ (fun h13 he1 f_7 fk => ?_)
  have f_o := (fk _ (by omega)).trans f_o
  have f_1 := (fk _ (by omega)).trans f_1
  have f_2 := (fk _ (by omega)).trans f_2
  have f_3 := (fk _ (by omega)).trans f_3
  have f_4 := (fk _ (by omega)).trans f_4
  have f_5 := (fk _ (by omega)).trans f_5
  have f_6 := (fk _ (by omega)).trans f_6
  have fr : ∀ q, q < a → h13.2 q = h0.2 q := fun q hq => (fk q (by omega)).trans (fr q hq)
  have he : h13.1 = a + 8 := by omega
  refine V_putFB (T := TX3) (fs' := [.ref (a + 1), .ref (a + 2), .ref (a + 3), .ref (a + 4), .ref (a + 5), .ref (a + 6), .ref (a + 7), .null, .int 0, .int 0]) 6 dX3_init_57 flX3_31 iGX3 tyX3_ok nmX3 rfl (by decide) rfl rfl rfl rfl rfl f_o rfl rfl (by simp) rfl (fun h14 hz f_o fk => ?_)
  have f_1 := (fk _ (by omega)).trans f_1
  have f_2 := (fk _ (by omega)).trans f_2
  have f_3 := (fk _ (by omega)).trans f_3
  have f_4 := (fk _ (by omega)).trans f_4
  have f_5 := (fk _ (by omega)).trans f_5
  have f_6 := (fk _ (by omega)).trans f_6
  have f_7 := (fk _ (by omega)).trans f_7
  have fr : ∀ q, q < a → h14.2 q = h0.2 q := fun q hq => (fk q (by omega)).trans (fr q hq)
  have he : h14.1 = a + 8 := hz.trans he
  refine V_aload_n dX3_init_60 0 rfl ?_
  refine V_bipush (v := 16) dX3_init_61 (by decide) ?_
  refine V_newiB (N := 16) (b := a + 8) he dX3_init_63 wAi (by decide) (by decide) (by decide) ⟨Nat.le_of_ble_eq_true rfl, Nat.le_of_ble_eq_true rfl⟩ (fun h15 he1 f_8 fk => ?_)
  have f_o := (fk _ (by omega)).trans f_o
  have f_1 := (fk _ (by omega)).trans f_1
  have f_2 := (fk _ (by omega)).trans f_2
  have f_3 := (fk _ (by omega)).trans f_3
  have f_4 := (fk _ (by omega)).trans f_4
  have f_5 := (fk _ (by omega)).trans f_5
  have f_6 := (fk _ (by omega)).trans f_6
  have f_7 := (fk _ (by omega)).trans f_7
  have fr : ∀ q, q < a → h15.2 q = h0.2 q := fun q hq => (fk q (by omega)).trans (fr q hq)
  have he : h15.1 = a + 9 := by omega
  refine V_putFB (T := TX3) (fs' := [.ref (a + 1), .ref (a + 2), .ref (a + 3), .ref (a + 4), .ref (a + 5), .ref (a + 6), .ref (a + 7), .ref (a + 8), .int 0, .int 0]) 7 dX3_init_65 flX3_34 iGX3 tyX3_ok nmX3 rfl (by decide) rfl rfl rfl rfl rfl f_o rfl rfl (by simp) rfl (fun h16 hz f_o fk => ?_)
  have f_1 := (fk _ (by omega)).trans f_1
  have f_2 := (fk _ (by omega)).trans f_2
  have f_3 := (fk _ (by omega)).trans f_3
  have f_4 := (fk _ (by omega)).trans f_4
  have f_5 := (fk _ (by omega)).trans f_5
  have f_6 := (fk _ (by omega)).trans f_6
  have f_7 := (fk _ (by omega)).trans f_7
  have f_8 := (fk _ (by omega)).trans f_8
  have fr : ∀ q, q < a → h16.2 q = h0.2 q := fun q hq => (fk q (by omega)).trans (fr q hq)
  have he : h16.1 = a + 9 := hz.trans he
  refine V_aload_n dX3_init_68 0 rfl ?_
  refine V_iconst (v := (-1)) dX3_init_69 (by decide) ?_
  refine V_putB (T := TX3) (fs' := [.ref (a + 1), .ref (a + 2), .ref (a + 3), .ref (a + 4), .ref (a + 5), .ref (a + 6), .ref (a + 7), .ref (a + 8), .int (-1), .int 0]) 8 dX3_init_70 flX3_37 iGX3 tyX3_ok nmX3 rfl (by decide) rfl rfl rfl f_o rfl rfl (by simp) rfl (fun h17 hz f_o fk => ?_)
  have f_1 := (fk _ (by omega)).trans f_1
  have f_2 := (fk _ (by omega)).trans f_2
  have f_3 := (fk _ (by omega)).trans f_3
  have f_4 := (fk _ (by omega)).trans f_4
  have f_5 := (fk _ (by omega)).trans f_5
  have f_6 := (fk _ (by omega)).trans f_6
  have f_7 := (fk _ (by omega)).trans f_7
  have f_8 := (fk _ (by omega)).trans f_8
  have fr : ∀ q, q < a → h17.2 q = h0.2 q := fun q hq => (fk q (by omega)).trans (fr q hq)
  have he : h17.1 = a + 9 := hz.trans he
  refine V_aload_n dX3_init_73 0 rfl ?_
  refine V_iconst (v := 0) dX3_init_74 (by decide) ?_
  refine V_putB (T := TX3) (fs' := [.ref (a + 1), .ref (a + 2), .ref (a + 3), .ref (a + 4), .ref (a + 5), .ref (a + 6), .ref (a + 7), .ref (a + 8), .int (-1), .int 0]) 9 dX3_init_75 flX3_41 iGX3 tyX3_ok nmX3 rfl (by decide) rfl rfl rfl f_o rfl rfl (by simp) rfl (fun h18 hz f_o fk => ?_)
  have f_1 := (fk _ (by omega)).trans f_1
  have f_2 := (fk _ (by omega)).trans f_2
  have f_3 := (fk _ (by omega)).trans f_3
  have f_4 := (fk _ (by omega)).trans f_4
  have f_5 := (fk _ (by omega)).trans f_5
  have f_6 := (fk _ (by omega)).trans f_6
  have f_7 := (fk _ (by omega)).trans f_7
  have f_8 := (fk _ (by omega)).trans f_8
  have fr : ∀ q, q < a → h18.2 q = h0.2 q := fun q hq => (fk q (by omega)).trans (fr q hq)
  have he : h18.1 = a + 9 := hz.trans he
  refine V_aload_n dX3_init_78 0 rfl ?_
  refine V_get (T := TX3) 5 dX3_init_79 flX3_28 iGX3 rfl (by decide) rfl f_o rfl ?_
  refine V_iconst (v := (-1)) dX3_init_82 (by decide) ?_
  refine V_cSg (As := [.ref (a + 6), .int (-1)]) (rest := []) dX3_init_83 cvX3_44 (c_J7_fill_53178 hxs f_6 (by simp) (-1)) ⟨Nat.le_of_ble_eq_true rfl, Nat.le_of_ble_eq_true rfl, Nat.le_of_ble_eq_true rfl, Nat.le_of_ble_eq_true rfl⟩ (Nat.le_of_ble_eq_true rfl) rfl (fun h19 q9 => ?_)
  have fk : ∀ q, q ≠ a + 6 → h19.2 q = h18.2 q := fun q hq => by rw [q9]; exact hput_ne hq
  have f_o := (fk _ (by omega)).trans f_o
  have f_1 := (fk _ (by omega)).trans f_1
  have f_2 := (fk _ (by omega)).trans f_2
  have f_3 := (fk _ (by omega)).trans f_3
  have f_4 := (fk _ (by omega)).trans f_4
  have f_5 := (fk _ (by omega)).trans f_5
  have f_7 := (fk _ (by omega)).trans f_7
  have f_8 := (fk _ (by omega)).trans f_8
  have fr : ∀ q, q < a → h19.2 q = h0.2 q := fun q hq => (fk q (by omega)).trans (fr q hq)
  have f_6 : h19.2 (a + 6) = some (aL (kA X 0) (List.replicate 16 (-1))) := by rw [q9]; exact hput_at
  have he : h19.1 = a + 9 := by rw [q9]; exact he
  refine V_aload_n dX3_init_86 0 rfl ?_
  refine V_get (T := TX3) 6 dX3_init_87 flX3_31 iGX3 rfl (by decide) rfl f_o rfl ?_
  refine V_iconst (v := (-1)) dX3_init_90 (by decide) ?_
  refine V_cSg (As := [.ref (a + 7), .int (-1)]) (rest := []) dX3_init_91 cvX3_44 (c_J7_fill_53178 hxs f_7 (by simp) (-1)) ⟨Nat.le_of_ble_eq_true rfl, Nat.le_of_ble_eq_true rfl, Nat.le_of_ble_eq_true rfl, Nat.le_of_ble_eq_true rfl⟩ (Nat.le_of_ble_eq_true rfl) rfl (fun h20 q9 => ?_)
  have fk : ∀ q, q ≠ a + 7 → h20.2 q = h19.2 q := fun q hq => by rw [q9]; exact hput_ne hq
  have f_o := (fk _ (by omega)).trans f_o
  have f_1 := (fk _ (by omega)).trans f_1
  have f_2 := (fk _ (by omega)).trans f_2
  have f_3 := (fk _ (by omega)).trans f_3
  have f_4 := (fk _ (by omega)).trans f_4
  have f_5 := (fk _ (by omega)).trans f_5
  have f_6 := (fk _ (by omega)).trans f_6
  have f_8 := (fk _ (by omega)).trans f_8
  have fr : ∀ q, q < a → h20.2 q = h0.2 q := fun q hq => (fk q (by omega)).trans (fr q hq)
  have f_7 : h20.2 (a + 7) = some (aL (kA X 0) (List.replicate 16 (-1))) := by rw [q9]; exact hput_at
  have he : h20.1 = a + 9 := by rw [q9]; exact he
  exact V_vret dX3_init_94 rfl ⟨Nat.le_of_ble_eq_true rfl, Nat.le_of_ble_eq_true rfl⟩ ⟨rfl, ⟨f_o, ⟨f_1, List.length_replicate⟩, ⟨f_2, List.length_replicate⟩, ⟨f_3, List.length_replicate⟩, ⟨f_4, List.length_replicate⟩, ⟨f_5, List.length_replicate⟩, ⟨f_6, List.length_replicate⟩, ⟨f_7, List.length_replicate⟩, ⟨f_8, List.length_replicate⟩⟩, he, fr⟩
theorem wObRX6 : Cond.methodLink RX6 3 Lib.objectInit ∈ GW ∧ Cond.instanceMethod Lib.objectInit ∈ GW ∧ Cond.code Lib.objectInit ⟨#[0xb1]⟩ 1 none ∈ GW := ⟨gw_tab 48 (by decide +kernel) (by decide +kernel), gw_tab 41 (by decide +kernel) (by decide +kernel), gw_tab 42 (by decide +kernel) (by decide +kernel)⟩
theorem wNRX6_9 : Cond.classLink RX6 9 "SilentOpera$CueTree" ∈ GW ∧ Cond.instantiable "SilentOpera$CueTree" 10 ∈ GW ∧ Cond.initialized "SilentOpera$CueTree" ∈ GW := ⟨gw_tab 49 (by decide +kernel) (by decide +kernel), gw_tab 50 (by decide +kernel) (by decide +kernel), gw_tab 3 (by decide +kernel) (by decide +kernel)⟩
/-- a sheet when it is new -/
def S0 : SH := ((List.replicate 16 0), (List.replicate 16 0), (List.replicate 16 0), (List.replicate 16 0), (List.replicate 16 0), (List.replicate 16 (-1)), (List.replicate 16 (-1)), -1, 0, List.replicate 6 0, List.replicate 6 (-1), 0, 0, 0, 0, 6, -1, 0, 0, 0, 0, 0)
set_option maxRecDepth 20000 in
set_option maxHeartbeats 4000000 in
theorem c_X6_init {X : KX} (hxs : X.1.stackTraces = false) {h0 : AH} {a : Nat} (he : h0.1 = a + 1) (f_o : h0.2 a = some (.inr (8, [.null, .null, .null, .int 0, .int 0, .int 0, .int 0, .int 0, .int 0, .int 0, .int 0, .int 0, .int 0, .int 0]))) : Ct X mX6_init [.ref a] h0 (zM none (fun h' => IsSh X h' a S0 (List.replicate 16 0) ∧ h'.1 = a + 12 ∧ ∀ q, q < a → h'.2 q = h0.2 q)) := by
  have fr : ∀ q, q < a → h0.2 q = h0.2 q := fun _ _ => rfl
  refine Ct.of (by decide) rfl (Nat.le_of_ble_eq_true rfl) rfl hxs ?_
  refine V_aload_n dX6_init_0 0 rfl ?_
  refine V_objInit dX6_init_1 wObRX6 ⟨Nat.le_of_ble_eq_true rfl, Nat.le_of_ble_eq_true rfl⟩ ?_
  refine V_aload_n dX6_init_4 0 rfl ?_
  refine V_newB (ci := 6) (N := 10) (b := a + 1) (fs := [.null, .null, .null, .null, .null, .null, .null, .null, .int 0, .int 0]) he dX6_init_5 wNRX6_9 iGX3 tyX3_ok rfl (by decide) ⟨Nat.le_of_ble_eq_true rfl, Nat.le_of_ble_eq_true rfl⟩ (fun h1 he1 f_1 fk => ?_)
  have f_o := (fk _ (by omega)).trans f_o
  have fr : ∀ q, q < a → h1.2 q = h0.2 q := fun q hq => (fk q (by omega)).trans (fr q hq)
  have he : h1.1 = a + 1 + 1 := he1
  refine V_dup dX6_init_8 rfl ?_
  refine V_cI (As := []) (rest := [.ref (a + 1), .ref a]) dX6_init_9 cvX6_11 rfl rfl rfl (c_X3_init hxs he f_1) ⟨Nat.le_of_ble_eq_true rfl, Nat.le_of_ble_eq_true rfl, Nat.le_of_ble_eq_true rfl, Nat.le_of_ble_eq_true rfl⟩ (Nat.le_of_ble_eq_true rfl) rfl (fun h2 q9 => ?_)
  obtain ⟨f_t, he1, fk9⟩ := q9
  have f_o := (fk9 _ (by omega)).trans f_o
  have fr : ∀ q, q < a → h2.2 q = h0.2 q := fun q hq => (fk9 q (by omega)).trans (fr q hq)
  have he : h2.1 = a + 10 := by omega
  refine V_putFB (T := TX6) (fs' := [.ref (a + 1), .null, .null, .int 0, .int 0, .int 0, .int 0, .int 0, .int 0, .int 0, .int 0, .int 0, .int 0, .int 0]) 0 dX6_init_12 flX6_12 iGX6 tyX6_ok nmX6 rfl (by decide) rfl rfl rfl rfl rfl f_o rfl rfl (by simp) rfl (fun h3 hz f_o fk => ?_)
  have f_t := f_t.keep (fun q _ _ => fk q (by omega))
  have fr : ∀ q, q < a → h3.2 q = h0.2 q := fun q hq => (fk q (by omega)).trans (fr q hq)
  have he : h3.1 = a + 10 := hz.trans he
  refine V_aload_n dX6_init_15 0 rfl ?_
  refine V_bipush (v := 6) dX6_init_16 (by decide) ?_
  refine V_newiB (N := 6) (b := a + 10) he dX6_init_18 wAi (by decide) (by decide) (by decide) ⟨Nat.le_of_ble_eq_true rfl, Nat.le_of_ble_eq_true rfl⟩ (fun h4 he1 f_10 fk => ?_)
  have f_o := (fk _ (by omega)).trans f_o
  have f_t := f_t.keep (fun q _ _ => fk q (by omega))
  have fr : ∀ q, q < a → h4.2 q = h0.2 q := fun q hq => (fk q (by omega)).trans (fr q hq)
  have he : h4.1 = a + 11 := by omega
  refine V_putFB (T := TX6) (fs' := [.ref (a + 1), .ref (a + 10), .null, .int 0, .int 0, .int 0, .int 0, .int 0, .int 0, .int 0, .int 0, .int 0, .int 0, .int 0]) 1 dX6_init_20 flX6_18 iGX6 tyX6_ok nmX6 rfl (by decide) rfl rfl rfl rfl rfl f_o rfl rfl (by simp) rfl (fun h5 hz f_o fk => ?_)
  have f_t := f_t.keep (fun q _ _ => fk q (by omega))
  have f_10 := (fk _ (by omega)).trans f_10
  have fr : ∀ q, q < a → h5.2 q = h0.2 q := fun q hq => (fk q (by omega)).trans (fr q hq)
  have he : h5.1 = a + 11 := hz.trans he
  refine V_aload_n dX6_init_23 0 rfl ?_
  refine V_bipush (v := 6) dX6_init_24 (by decide) ?_
  refine V_newiB (N := 6) (b := a + 11) he dX6_init_26 wAi (by decide) (by decide) (by decide) ⟨Nat.le_of_ble_eq_true rfl, Nat.le_of_ble_eq_true rfl⟩ (fun h6 he1 f_11 fk => ?_)
  have f_o := (fk _ (by omega)).trans f_o
  have f_t := f_t.keep (fun q _ _ => fk q (by omega))
  have f_10 := (fk _ (by omega)).trans f_10
  have fr : ∀ q, q < a → h6.2 q = h0.2 q := fun q hq => (fk q (by omega)).trans (fr q hq)
  have he : h6.1 = a + 12 := by omega
  refine V_putFB (T := TX6) (fs' := [.ref (a + 1), .ref (a + 10), .ref (a + 11), .int 0, .int 0, .int 0, .int 0, .int 0, .int 0, .int 0, .int 0, .int 0, .int 0, .int 0]) 2 dX6_init_28 flX6_22 iGX6 tyX6_ok nmX6 rfl (by decide) rfl rfl rfl rfl rfl f_o rfl rfl (by simp) rfl (fun h7 hz f_o fk => ?_)
  have f_t := f_t.keep (fun q _ _ => fk q (by omega))
  have f_10 := (fk _ (by omega)).trans f_10
  have f_11 := (fk _ (by omega)).trans f_11
  have fr : ∀ q, q < a → h7.2 q = h0.2 q := fun q hq => (fk q (by omega)).trans (fr q hq)
  have he : h7.1 = a + 12 := hz.trans he
  refine V_aload_n dX6_init_31 0 rfl ?_
  refine V_iconst (v := 0) dX6_init_32 (by decide) ?_
  refine V_putB (T := TX6) (fs' := [.ref (a + 1), .ref (a + 10), .ref (a + 11), .int 0, .int 0, .int 0, .int 0, .int 0, .int 0, .int 0, .int 0, .int 0, .int 0, .int 0]) 3 dX6_init_33 flX6_25 iGX6 tyX6_ok nmX6 rfl (by decide) rfl rfl rfl f_o rfl rfl (by simp) rfl (fun h8 hz f_o fk => ?_)
  have f_t := f_t.keep (fun q _ _ => fk q (by omega))
  have f_10 := (fk _ (by omega)).trans f_10
  have f_11 := (fk _ (by omega)).trans f_11
  have fr : ∀ q, q < a → h8.2 q = h0.2 q := fun q hq => (fk q (by omega)).trans (fr q hq)
  have he : h8.1 = a + 12 := hz.trans he
  refine V_aload_n dX6_init_36 0 rfl ?_
  refine V_iconst (v := 0) dX6_init_37 (by decide) ?_
  refine V_putB (T := TX6) (fs' := [.ref (a + 1), .ref (a + 10), .ref (a + 11), .int 0, .int 0, .int 0, .int 0, .int 0, .int 0, .int 0, .int 0, .int 0, .int 0, .int 0]) 4 dX6_init_38 flX6_29 iGX6 tyX6_ok nmX6 rfl (by decide) rfl rfl rfl f_o rfl rfl (by simp) rfl (fun h9 hz f_o fk => ?_)
  have f_t := f_t.keep (fun q _ _ => fk q (by omega))
  have f_10 := (fk _ (by omega)).trans f_10
  have f_11 := (fk _ (by omega)).trans f_11
  have fr : ∀ q, q < a → h9.2 q = h0.2 q := fun q hq => (fk q (by omega)).trans (fr q hq)
  have he : h9.1 = a + 12 := hz.trans he
  refine V_aload_n dX6_init_41 0 rfl ?_
  refine V_iconst (v := 0) dX6_init_42 (by decide) ?_
  refine V_putB (T := TX6) (fs' := [.ref (a + 1), .ref (a + 10), .ref (a + 11), .int 0, .int 0, .int 0, .int 0, .int 0, .int 0, .int 0, .int 0, .int 0, .int 0, .int 0]) 5 dX6_init_43 flX6_32 iGX6 tyX6_ok nmX6 rfl (by decide) rfl rfl rfl f_o rfl rfl (by simp) rfl (fun h10 hz f_o fk => ?_)
  have f_t := f_t.keep (fun q _ _ => fk q (by omega))
  have f_10 := (fk _ (by omega)).trans f_10
  have f_11 := (fk _ (by omega)).trans f_11
  have fr : ∀ q, q < a → h10.2 q = h0.2 q := fun q hq => (fk q (by omega)).trans (fr q hq)
  have he : h10.1 = a + 12 := hz.trans he
  refine V_aload_n dX6_init_46 0 rfl ?_
  refine V_iconst (v := 0) dX6_init_47 (by decide) ?_
  refine V_putB (T := TX6) (fs' := [.ref (a + 1), .ref (a + 10), .ref (a + 11), .int 0, .int 0, .int 0, .int 0, .int 0, .int 0, .int 0, .int 0, .int 0, .int 0, .int 0]) 6 dX6_init_48 flX6_35 iGX6 tyX6_ok nmX6 rfl (by decide) rfl rfl rfl f_o rfl rfl (by simp) rfl (fun h11 hz f_o fk => ?_)
  have f_t := f_t.keep (fun q _ _ => fk q (by omega))
  have f_10 := (fk _ (by omega)).trans f_10
  have f_11 := (fk _ (by omega)).trans f_11
  have fr : ∀ q, q < a → h11.2 q = h0.2 q := fun q hq => (fk q (by omega)).trans (fr q hq)
  have he : h11.1 = a + 12 := hz.trans he
  refine V_aload_n dX6_init_51 0 rfl ?_
  refine V_bipush (v := 6) dX6_init_52 (by decide) ?_
  refine V_putB (T := TX6) (fs' := [.ref (a + 1), .ref (a + 10), .ref (a + 11), .int 0, .int 0, .int 0, .int 0, .int 6, .int 0, .int 0, .int 0, .int 0, .int 0, .int 0]) 7 dX6_init_54 flX6_38 iGX6 tyX6_ok nmX6 rfl (by decide) rfl rfl rfl f_o rfl rfl (by simp) rfl (fun h12 hz f_o fk => ?_)
  have f_t := f_t.keep (fun q _ _ => fk q (by omega))
  have f_10 := (fk _ (by omega)).trans f_10
  have f_11 := (fk _ (by omega)).trans f_11
  have fr : ∀ q, q < a → h12.2 q = h0.2 q := fun q hq => (fk q (by omega)).trans (fr q hq)
  have he : h12.1 = a + 12 := hz.trans he
  refine V_aload_n dX6_init_57 0 rfl ?_
  refine V_iconst (v := (-1)) dX6_init_58 (by decide) ?_
  refine V_putB (T := TX6) (fs' := [.ref (a + 1), .ref (a + 10), .ref (a + 11), .int 0, .int 0, .int 0, .int 0, .int 6, .int (-1), .int 0, .int 0, .int 0, .int 0, .int 0]) 8 dX6_init_59 flX6_41 iGX6 tyX6_ok nmX6 rfl (by decide) rfl rfl rfl f_o rfl rfl (by simp) rfl (fun h13 hz f_o fk => ?_)
  have f_t := f_t.keep (fun q _ _ => fk q (by omega))
  have f_10 := (fk _ (by omega)).trans f_10
  have f_11 := (fk _ (by omega)).trans f_11
  have fr : ∀ q, q < a → h13.2 q = h0.2 q := fun q hq => (fk q (by omega)).trans (fr q hq)
  have he : h13.1 = a + 12 := hz.trans he
  refine V_aload_n dX6_init_62 0 rfl ?_
  refine V_iconst (v := 0) dX6_init_63 (by decide) ?_
  refine V_putB (T := TX6) (fs' := [.ref (a + 1), .ref (a + 10), .ref (a + 11), .int 0, .int 0, .int 0, .int 0, .int 6, .int (-1), .int 0, .int 0, .int 0, .int 0, .int 0]) 9 dX6_init_64 flX6_44 iGX6 tyX6_ok nmX6 rfl (by decide) rfl rfl rfl f_o rfl rfl (by simp) rfl (fun h14 hz f_o fk => ?_)
  have f_t := f_t.keep (fun q _ _ => fk q (by omega))
  have f_10 := (fk _ (by omega)).trans f_10
  have f_11 := (fk _ (by omega)).trans f_11
  have fr : ∀ q, q < a → h14.2 q = h0.2 q := fun q hq => (fk q (by omega)).trans (fr q hq)
  have he : h14.1 = a + 12 := hz.trans he
  refine V_aload_n dX6_init_67 0 rfl ?_
  refine V_iconst (v := 0) dX6_init_68 (by decide) ?_
  refine V_putB (T := TX6) (fs' := [.ref (a + 1), .ref (a + 10), .ref (a + 11), .int 0, .int 0, .int 0, .int 0, .int 6, .int (-1), .int 0, .int 0, .int 0, .int 0, .int 0]) 10 dX6_init_69 flX6_47 iGX6 tyX6_ok nmX6 rfl (by decide) rfl rfl rfl f_o rfl rfl (by simp) rfl (fun h15 hz f_o fk => ?_)
  have f_t := f_t.keep (fun q _ _ => fk q (by omega))
  have f_10 := (fk _ (by omega)).trans f_10
  have f_11 := (fk _ (by omega)).trans f_11
  have fr : ∀ q, q < a → h15.2 q = h0.2 q := fun q hq => (fk q (by omega)).trans (fr q hq)
  have he : h15.1 = a + 12 := hz.trans he
  refine V_aload_n dX6_init_72 0 rfl ?_
  refine V_iconst (v := 0) dX6_init_73 (by decide) ?_
  refine V_putB (T := TX6) (fs' := [.ref (a + 1), .ref (a + 10), .ref (a + 11), .int 0, .int 0, .int 0, .int 0, .int 6, .int (-1), .int 0, .int 0, .int 0, .int 0, .int 0]) 11 dX6_init_74 flX6_50 iGX6 tyX6_ok nmX6 rfl (by decide) rfl rfl rfl f_o rfl rfl (by simp) rfl (fun h16 hz f_o fk => ?_)
  have f_t := f_t.keep (fun q _ _ => fk q (by omega))
  have f_10 := (fk _ (by omega)).trans f_10
  have f_11 := (fk _ (by omega)).trans f_11
  have fr : ∀ q, q < a → h16.2 q = h0.2 q := fun q hq => (fk q (by omega)).trans (fr q hq)
  have he : h16.1 = a + 12 := hz.trans he
  refine V_aload_n dX6_init_77 0 rfl ?_
  refine V_iconst (v := 0) dX6_init_78 (by decide) ?_
  refine V_putB (T := TX6) (fs' := [.ref (a + 1), .ref (a + 10), .ref (a + 11), .int 0, .int 0, .int 0, .int 0, .int 6, .int (-1), .int 0, .int 0, .int 0, .int 0, .int 0]) 12 dX6_init_79 flX6_53 iGX6 tyX6_ok nmX6 rfl (by decide) rfl rfl rfl f_o rfl rfl (by simp) rfl (fun h17 hz f_o fk => ?_)
  have f_t := f_t.keep (fun q _ _ => fk q (by omega))
  have f_10 := (fk _ (by omega)).trans f_10
  have f_11 := (fk _ (by omega)).trans f_11
  have fr : ∀ q, q < a → h17.2 q = h0.2 q := fun q hq => (fk q (by omega)).trans (fr q hq)
  have he : h17.1 = a + 12 := hz.trans he
  refine V_aload_n dX6_init_82 0 rfl ?_
  refine V_iconst (v := 0) dX6_init_83 (by decide) ?_
  refine V_putB (T := TX6) (fs' := [.ref (a + 1), .ref (a + 10), .ref (a + 11), .int 0, .int 0, .int 0, .int 0, .int 6, .int (-1), .int 0, .int 0, .int 0, .int 0, .int 0]) 13 dX6_init_84 flX6_56 iGX6 tyX6_ok nmX6 rfl (by decide) rfl rfl rfl f_o rfl rfl (by simp) rfl (fun h18 hz f_o fk => ?_)
  have f_t := f_t.keep (fun q _ _ => fk q (by omega))
  have f_10 := (fk _ (by omega)).trans f_10
  have f_11 := (fk _ (by omega)).trans f_11
  have fr : ∀ q, q < a → h18.2 q = h0.2 q := fun q hq => (fk q (by omega)).trans (fr q hq)
  have he : h18.1 = a + 12 := hz.trans he
  refine V_aload_n dX6_init_87 0 rfl ?_
  refine V_get (T := TX6) 2 dX6_init_88 flX6_22 iGX6 rfl (by decide) rfl f_o rfl ?_
  refine V_iconst (v := (-1)) dX6_init_91 (by decide) ?_
  refine V_cSg (As := [.ref (a + 11), .int (-1)]) (rest := []) dX6_init_92 cvX6_59 (c_J7_fill_53178 hxs f_11 (by simp) (-1)) ⟨Nat.le_of_ble_eq_true rfl, Nat.le_of_ble_eq_true rfl, Nat.le_of_ble_eq_true rfl, Nat.le_of_ble_eq_true rfl⟩ (Nat.le_of_ble_eq_true rfl) rfl (fun h19 q9 => ?_)
  have fk : ∀ q, q ≠ a + 11 → h19.2 q = h18.2 q := fun q hq => by rw [q9]; exact hput_ne hq
  have f_o := (fk _ (by omega)).trans f_o
  have f_t := f_t.keep (fun q _ _ => fk q (by omega))
  have f_10 := (fk _ (by omega)).trans f_10
  have fr : ∀ q, q < a → h19.2 q = h0.2 q := fun q hq => (fk q (by omega)).trans (fr q hq)
  have f_11 : h19.2 (a + 11) = some (aL (kA X 0) (List.replicate 6 (-1))) := by rw [q9]; exact hput_at
  have he : h19.1 = a + 12 := by rw [q9]; exact he
  exact V_vret dX6_init_95 rfl ⟨Nat.le_of_ble_eq_true rfl, Nat.le_of_ble_eq_true rfl⟩ ⟨rfl, ⟨f_o, f_t, ⟨f_10, List.length_replicate⟩, ⟨f_11, List.length_replicate⟩⟩, he, fr⟩
theorem wObRX1 : Cond.methodLink RX1 3 Lib.objectInit ∈ GW ∧ Cond.instanceMethod Lib.objectInit ∈ GW ∧ Cond.code Lib.objectInit ⟨#[0xb1]⟩ 1 none ∈ GW := ⟨gw_tab 222 (by decide +kernel) (by decide +kernel), gw_tab 41 (by decide +kernel) (by decide +kernel), gw_tab 42 (by decide +kernel) (by decide +kernel)⟩
set_option maxRecDepth 20000 in
set_option maxHeartbeats 4000000 in
theorem c_X1_init {X : KX} (hxs : X.1.stackTraces = false) (hg : GX X) {h0 : AH} {a : Nat} (he : h0.1 = a + 1) (f_o : h0.2 a = some (.inr (4, [.null, .null, .int 0]))) : Ct X mX1_init [.ref a] h0 (zM none (fun h' => CmdAt X h' a (10, List.replicate 3 0, 0) ∧ h'.1 = a + 2 ∧ ∀ q, q < a → h'.2 q = h0.2 q)) := by
  have fr : ∀ q, q < a → h0.2 q = h0.2 q := fun _ _ => rfl
  refine Ct.of (by decide) rfl (Nat.le_of_ble_eq_true rfl) rfl hxs ?_
  refine V_aload_n dX1_init_0 0 rfl ?_
  refine V_objInit dX1_init_1 wObRX1 ⟨Nat.le_of_ble_eq_true rfl, Nat.le_of_ble_eq_true rfl⟩ ?_
  refine V_aload_n dX1_init_4 0 rfl ?_
  refine V_iconst (v := 3) dX1_init_5 (by decide) ?_
  refine V_newiB (N := 3) (b := a + 1) he dX1_init_6 wAi (by decide) (by decide) (by decide) ⟨Nat.le_of_ble_eq_true rfl, Nat.le_of_ble_eq_true rfl⟩ (fun h1 he1 f_1 fk => ?_)
  have f_o := (fk _ (by omega)).trans f_o
  have fr : ∀ q, q < a → h1.2 q = h0.2 q := fun q hq => (fk q (by omega)).trans (fr q hq)
  have he : h1.1 = a + 2 := by omega
  refine V_putFB (T := TX1) (fs' := [.ref (a + 1), .null, .int 0]) 0 dX1_init_8 flX1_9 iGX1 tyX1_ok nmX1 rfl (by decide) rfl rfl rfl rfl rfl f_o rfl rfl (by simp) rfl (fun h2 hz f_o fk => ?_)
  have f_1 := (fk _ (by omega)).trans f_1
  have fr : ∀ q, q < a → h2.2 q = h0.2 q := fun q hq => (fk q (by omega)).trans (fr q hq)
  have he : h2.1 = a + 2 := hz.trans he
  refine V_aload_n dX1_init_11 0 rfl ?_
  refine V_gets dX1_init_12 flX1_15 (fun U hU => (hg.2.2.2.2.2.1 U hU).2.2.1) ?_
  refine V_putB (T := TX1) (fs' := [.ref (a + 1), .ref (kad X 3010), .int 0]) 1 dX1_init_15 flX1_21 iGX1 tyX1_ok nmX1 rfl (by decide) rfl rfl rfl f_o rfl rfl (by simp) rfl (fun h3 hz f_o fk => ?_)
  have f_1 := (fk _ (by omega)).trans f_1
  have fr : ∀ q, q < a → h3.2 q = h0.2 q := fun q hq => (fk q (by omega)).trans (fr q hq)
  have he : h3.1 = a + 2 := hz.trans he
  refine V_aload_n dX1_init_18 0 rfl ?_
  refine V_iconst (v := 0) dX1_init_19 (by decide) ?_
  refine V_putB (T := TX1) (fs' := [.ref (a + 1), .ref (kad X 3010), .int 0]) 2 dX1_init_20 flX1_24 iGX1 tyX1_ok nmX1 rfl (by decide) rfl rfl rfl f_o rfl rfl (by simp) rfl (fun h4 hz f_o fk => ?_)
  have f_1 := (fk _ (by omega)).trans f_1
  have fr : ∀ q, q < a → h4.2 q = h0.2 q := fun q hq => (fk q (by omega)).trans (fr q hq)
  have he : h4.1 = a + 2 := hz.trans he
  exact V_vret dX1_init_23 rfl ⟨Nat.le_of_ble_eq_true rfl, Nat.le_of_ble_eq_true rfl⟩ ⟨rfl, ⟨f_o, by decide, f_1, List.length_replicate⟩, he, fr⟩
