/-! ===== constructors, third: the reader, the opera ===== -/
theorem wObRX2 : Cond.methodLink RX2 3 Lib.objectInit ∈ GW ∧ Cond.instanceMethod Lib.objectInit ∈ GW ∧ Cond.code Lib.objectInit ⟨#[0xb1]⟩ 1 none ∈ GW := ⟨gw_tab 182 (by decide +kernel) (by decide +kernel), gw_tab 41 (by decide +kernel) (by decide +kernel), gw_tab 42 (by decide +kernel) (by decide +kernel)⟩
theorem wNRX2_9 : Cond.classLink RX2 9 "java/lang/StringBuilder" ∈ GW ∧ Cond.instantiable "java/lang/StringBuilder" 4 ∈ GW ∧ Cond.initialized "java/lang/StringBuilder" ∈ GW := ⟨gw_tab 183 (by decide +kernel) (by decide +kernel), gw_tab 184 (by decide +kernel) (by decide +kernel), gw_tab 8 (by decide +kernel) (by decide +kernel)⟩
theorem wNRX2_18 : Cond.classLink RX2 18 "SilentOpera$Command" ∈ GW ∧ Cond.instantiable "SilentOpera$Command" 3 ∈ GW ∧ Cond.initialized "SilentOpera$Command" ∈ GW := ⟨gw_tab 216 (by decide +kernel) (by decide +kernel), gw_tab 218 (by decide +kernel) (by decide +kernel), gw_tab 11 (by decide +kernel) (by decide +kernel)⟩
theorem wQRX2_18 : Cond.classLink RX2 18 "SilentOpera$Command" ∈ GW := wNRX2_18.1
theorem cnX2_31 : CallIN RX2 31 "SilentOpera" mX1_init 0 := ⟨gn_tab 219 (by decide +kernel) (by decide +kernel), gw_tab 11 (by decide +kernel) (by decide +kernel), cdX1_init, by decide +kernel, by decide +kernel, by decide +kernel, rfl, rfl, rfl, gw_tab 220 (by decide +kernel) (by decide +kernel)⟩
set_option maxRecDepth 20000 in
set_option maxHeartbeats 4000000 in
theorem c_X2_init {X : KX} (hxs : X.1.stackTraces = false) (hg : GX X) (hg2 : GP2 X) {h0 : AH} {x : Nat} (he : h0.1 = (x + 147) + 1) (f_o : h0.2 (x + 147) = some (.inr (5, [.null, .null, .int 0, .int 0]))) : Ct X mX2_init [.ref (x + 147)] h0 (zM none (fun h' => RdRaw X h' x (fun _ => (10, List.replicate 3 0, 0)) 0 0 [] ∧ h'.1 = (x + 147) + 36 ∧ ∀ q, q < (x + 147) → h'.2 q = h0.2 q)) := by
  have fr : ∀ q, q < (x + 147) → h0.2 q = h0.2 q := fun _ _ => rfl
  refine Ct.of (by decide) rfl (Nat.le_of_ble_eq_true rfl) rfl hxs ?_
  have L36 : ∀ (g i : Nat) (h9 : AH), i + g = 16 → h9.1 = (x + 147) + 4 + 2 * i → h9.2 (x + 147) = some (.inr (5, [.ref ((x + 147) + 1), .ref ((x + 147) + 3), .int 0, .int 0])) → h9.2 ((x + 147) + 1) = some (.inr (1, [.ref ((x + 147) + 1 + 1), .int 0, .int 0, .int 0])) → h9.2 ((x + 147) + 1 + 1) = some (aL (kA X 2) (List.replicate 16 0)) → h9.2 ((x + 147) + 3) = some (aQ (kA X 5) 16 (fQ ((x + 147) + 4) 2 i)) → (∀ j, j < i → CmdAt X h9 ((x + 147) + 4 + 2 * j) (10, List.replicate 3 0, 0)) → (∀ q, q < (x + 147) → h9.2 q = h0.2 q) → V X mX2_init (zF X mX2_init (zM none (fun h' => RdRaw X h' x (fun _ => (10, List.replicate 3 0, 0)) 0 0 [] ∧ h'.1 = (x + 147) + 36 ∧ ∀ q, q < (x + 147) → h'.2 q = h0.2 q))) (3 + 2 * i) (36 + 6 * i) 36 [(0, .ref (x + 147)), (1, .int (nI i))] [] h9 := by
    intro g
    induction g with
    | zero =>
      intro i h9 hi he f_o f_1 f_2 f_3 f_s fr
      refine V_iload_n dX2_init_36 1 rfl ?_
      refine V_bipush (v := 16) dX2_init_37 (by decide) ?_
      refine V_icmp_ge (tgt := 61) dX2_init_39 (by decide) (fun _ => ?_) (fun c9 => absurd (nI_le (a := 16) (b := i) (by omega) (by omega)) c9)
      have e9 : i = 16 := by omega
      subst e9
      refine V_recastQ f_3 (f' := fun j => some ((x + 147) + 4 + 2 * j)) (fun j hj => by unfold fQ; rw [if_pos hj]) (fun h8 hz8 f_8 fk => ?_)
      have hb := (ln_new ((fk _ (by omega)).trans f_1) ((fk _ (by omega)).trans f_2) (by rw [hz8, he]; omega)).2
      exact V_vret dX2_init_61 rfl ⟨by show 3 + 2 * 16 ≤ 35; omega, by show 36 + 6 * 16 ≤ 132; omega⟩ ⟨rfl, ⟨(fk _ (by omega)).trans f_o, ⟨_, _, _, hb, Or.inl rfl, ⟨Nat.zero_le _, fun i hi => absurd hi (Nat.not_lt_zero _), fun i hi => absurd hi (Nat.not_lt_zero _)⟩⟩, f_8, fun j hj => ⟨(fk _ (by omega)).trans (f_s j hj).1, (f_s j hj).2.1, (fk _ (by omega)).trans (f_s j hj).2.2.1, (f_s j hj).2.2.2⟩⟩, by rw [hz8, he], fun q hq => (fk q (by omega)).trans (fr q hq)⟩
    | succ g ih =>
      intro i h9 hi he f_o f_1 f_2 f_3 f_s fr
      have hi9 : i < 16 := by omega
      refine V_iload_n dX2_init_36 1 rfl ?_
      refine V_bipush (v := 16) dX2_init_37 (by decide) ?_
      refine V_icmp_ge (tgt := 61) dX2_init_39 (by decide) (fun c9 => absurd c9 (nI_ge (b := 16) (a := i) hi9 (by decide))) (fun _ => ?_)
      refine V_aload_n dX2_init_42 0 rfl ?_
      refine V_get (T := TX2) 1 dX2_init_43 flX2_20 iGX2 rfl (by decide) rfl f_o rfl ?_
      refine V_iload_n dX2_init_46 1 rfl ?_
      refine V_newB (ci := 4) (N := 3) (b := (x + 147) + 4 + 2 * i) (fs := [.null, .null, .int 0]) he dX2_init_47 wNRX2_18 iGX1 tyX1_ok rfl (by decide) ⟨by show 3 + 2 * i + 1 ≤ 35; omega, by show 36 + 6 * i + 3 ≤ 132; omega⟩ (fun h8 he8 f_b fk8 => ?_)
      refine V_dup dX2_init_50 rfl ?_
      refine V_cIN hg2 (As := []) (rest := [.ref ((x + 147) + 4 + 2 * i), .int (nI i), .ref ((x + 147) + 3)]) dX2_init_51 cnX2_31 (c_X1_init hxs hg he8 f_b) ⟨Nat.le_of_ble_eq_true rfl, Nat.le_of_ble_eq_true rfl, by show 3 + 2 * i + 1 + 1 ≤ 35; omega, by show 36 + 6 * i + 3 + 3 ≤ 132; omega⟩ (Nat.le_of_ble_eq_true rfl) rfl (fun h7 q7 => ?_)
      obtain ⟨f_n, he7, fk7⟩ := q7
      have fk : ∀ q, q < (x + 147) + 4 + 2 * i → h7.2 q = h9.2 q := fun q hq => (fk7 q hq).trans (fk8 q (by omega))
      have f_3 := (fk _ (by omega)).trans f_3
      refine V_aast (t := 5) (ci := 4) (f := fQ ((x + 147) + 4) 2 i) dX2_init_54 rfl f_3 f_n.1 rfl (vp_in_nI hi9 (by decide)) ?_
      rw [fQ_up (by omega)]
      refine V_iinc (v := nI (i + 1)) (lv' := [(1, .int (nI (i + 1))), (0, .ref (x + 147))]) dX2_init_55 1 rfl (iinc1 i) (by decide) rfl ?_
      refine V_goto (tgt := 36) dX2_init_58 (by decide) ?_
      refine V.loc [1, 0] rfl ?_
      refine V_recount (show 3 + 2 * i + 1 + 1 = 3 + 2 * (i + 1) by omega) (show 36 + 6 * i + 3 + 3 = 36 + 6 * (i + 1) by omega) ?_
      have fp : ∀ {e : va_E} (q : Nat), q < (x + 147) + 4 + 2 * i → q ≠ (x + 147) + 3 → (hput h7 ((x + 147) + 3) e).2 q = h9.2 q := fun q h1 h2 => (hput_ne h2).trans (fk q h1)
      refine ih (i + 1) _ (by omega) (he7.trans (by omega)) ((fp _ (by omega) (by omega)).trans f_o) ((fp _ (by omega) (by omega)).trans f_1) ((fp _ (by omega) (by omega)).trans f_2) hput_at (fun j hj => ?_) (fun q hq => (fp _ (by omega) (by omega)).trans (fr q hq))
      rcases Nat.lt_or_ge j i with g9 | g9
      · exact ⟨(fp _ (by omega) (by omega)).trans (f_s j g9).1, (f_s j g9).2.1, (fp _ (by omega) (by omega)).trans (f_s j g9).2.2.1, (f_s j g9).2.2.2⟩
      · have e9 : j = i := by omega
        subst e9
        exact ⟨(hput_ne (by omega)).trans f_n.1, f_n.2.1, (hput_ne (by omega)).trans f_n.2.2.1, f_n.2.2.2⟩
  refine V_aload_n dX2_init_0 0 rfl ?_
  refine V_objInit dX2_init_1 wObRX2 ⟨Nat.le_of_ble_eq_true rfl, Nat.le_of_ble_eq_true rfl⟩ ?_
  refine V_aload_n dX2_init_4 0 rfl ?_
  refine V_newB (ci := 1) (N := 4) (b := (x + 147) + 1) (fs := [.null, .int 0, .int 0, .int 0]) he dX2_init_5 wNRX2_9 iGJ4 tyJ4_ok rfl (by decide) ⟨Nat.le_of_ble_eq_true rfl, Nat.le_of_ble_eq_true rfl⟩ (fun h1 he1 f_b fk => ?_)
  replace f_o := (fk _ (by omega)).trans f_o
  replace fr : ∀ q, q < (x + 147) → h1.2 q = h0.2 q := fun q hq => (fk q (by omega)).trans (fr q hq)
  replace he : h1.1 = (x + 147) + 1 + 1 := he1
  clear fk he1
  refine V_dup dX2_init_8 rfl ?_
  refine V_cI (As := []) (rest := [.ref ((x + 147) + 1), .ref (x + 147)]) dX2_init_9 cvX2_11 rfl rfl rfl (c_J4_init hxs hg he f_b) ⟨Nat.le_of_ble_eq_true rfl, Nat.le_of_ble_eq_true rfl, Nat.le_of_ble_eq_true rfl, Nat.le_of_ble_eq_true rfl⟩ (Nat.le_of_ble_eq_true rfl) rfl (fun h2 q9 => ?_)
  obtain ⟨f_1, f_2, he1, fk9⟩ := q9
  replace f_o := (fk9 _ (by omega)).trans f_o
  replace fr : ∀ q, q < (x + 147) → h2.2 q = h0.2 q := fun q hq => (fk9 q (by omega)).trans (fr q hq)
  replace he : h2.1 = (x + 147) + 3 := by omega
  try clear fk
  clear fk9 he1 f_b
  refine V_putFB (T := TX2) (fs' := [.ref ((x + 147) + 1), .null, .int 0, .int 0]) 0 dX2_init_12 flX2_12 iGX2 tyX2_ok nmX2 rfl (by decide) rfl rfl rfl rfl rfl f_o rfl rfl (by simp) rfl (fun h3 hz f_p fk => ?_)
  replace f_1 := (fk _ (by omega)).trans f_1
  replace f_2 := (fk _ (by omega)).trans f_2
  replace fr : ∀ q, q < (x + 147) → h3.2 q = h0.2 q := fun q hq => (fk q (by omega)).trans (fr q hq)
  replace he : h3.1 = (x + 147) + 3 := hz.trans he
  replace f_o := f_p
  clear f_p hz fk
  refine V_aload_n dX2_init_15 0 rfl ?_
  refine V_bipush (v := 16) dX2_init_16 (by decide) ?_
  refine V_newqB hg2 (t := 5) (C := "SilentOpera$Command") (N := 16) (b := (x + 147) + 3) he dX2_init_18 wQRX2_18 wOC rfl (by decide) (by decide) (by decide) ⟨Nat.le_of_ble_eq_true rfl, Nat.le_of_ble_eq_true rfl⟩ (fun h4 he1 f_3 fk => ?_)
  replace f_o := (fk _ (by omega)).trans f_o
  replace f_1 := (fk _ (by omega)).trans f_1
  replace f_2 := (fk _ (by omega)).trans f_2
  replace fr : ∀ q, q < (x + 147) → h4.2 q = h0.2 q := fun q hq => (fk q (by omega)).trans (fr q hq)
  replace he : h4.1 = (x + 147) + 4 := by omega
  rw [fQ_0 (b := (x + 147) + 4) (w := 2)] at f_3
  clear fk he1
  refine V_putFB (T := TX2) (fs' := [.ref ((x + 147) + 1), .ref ((x + 147) + 3), .int 0, .int 0]) 1 dX2_init_21 flX2_20 iGX2 tyX2_ok nmX2 rfl (by decide) rfl rfl rfl rfl rfl f_o rfl rfl (by simp) rfl (fun h5 hz f_p fk => ?_)
  replace f_1 := (fk _ (by omega)).trans f_1
  replace f_2 := (fk _ (by omega)).trans f_2
  replace f_3 := (fk _ (by omega)).trans f_3
  replace fr : ∀ q, q < (x + 147) → h5.2 q = h0.2 q := fun q hq => (fk q (by omega)).trans (fr q hq)
  replace he : h5.1 = (x + 147) + 4 := hz.trans he
  replace f_o := f_p
  clear f_p hz fk
  refine V_aload_n dX2_init_24 0 rfl ?_
  refine V_iconst (v := 0) dX2_init_25 (by decide) ?_
  refine V_putB (T := TX2) (fs' := [.ref ((x + 147) + 1), .ref ((x + 147) + 3), .int 0, .int 0]) 2 dX2_init_26 flX2_24 iGX2 tyX2_ok nmX2 rfl (by decide) rfl rfl rfl f_o rfl rfl (by simp) rfl (fun h6 hz f_p fk => ?_)
  replace f_1 := (fk _ (by omega)).trans f_1
  replace f_2 := (fk _ (by omega)).trans f_2
  replace f_3 := (fk _ (by omega)).trans f_3
  replace fr : ∀ q, q < (x + 147) → h6.2 q = h0.2 q := fun q hq => (fk q (by omega)).trans (fr q hq)
  replace he : h6.1 = (x + 147) + 4 := hz.trans he
  replace f_o := f_p
  clear f_p hz fk
  refine V_aload_n dX2_init_29 0 rfl ?_
  refine V_iconst (v := 0) dX2_init_30 (by decide) ?_
  refine V_putB (T := TX2) (fs' := [.ref ((x + 147) + 1), .ref ((x + 147) + 3), .int 0, .int 0]) 3 dX2_init_31 flX2_28 iGX2 tyX2_ok nmX2 rfl (by decide) rfl rfl rfl f_o rfl rfl (by simp) rfl (fun h7 hz f_p fk => ?_)
  replace f_1 := (fk _ (by omega)).trans f_1
  replace f_2 := (fk _ (by omega)).trans f_2
  replace f_3 := (fk _ (by omega)).trans f_3
  replace fr : ∀ q, q < (x + 147) → h7.2 q = h0.2 q := fun q hq => (fk q (by omega)).trans (fr q hq)
  replace he : h7.1 = (x + 147) + 4 := hz.trans he
  replace f_o := f_p
  clear f_p hz fk
  refine V_iconst (v := 0) dX2_init_34 (by decide) ?_
  refine V_istore_n (lv' := [(1, .int 0), (0, .ref (x + 147))]) dX2_init_35 rfl (by decide) rfl ?_
  refine V.loc [1, 0] rfl ?_
  exact L36 16 0 _ (by decide) (he.trans (by omega)) f_o f_1 f_2 f_3 (fun j hj => absurd hj (Nat.not_lt_zero _)) fr
theorem HistRaw.keep {X : KX} {h h' : AH} {t j c : Nat} {R : Nat → SH} (p : HistRaw X h t R j c) (k : ∀ q, t ≤ q → q < t + 110 → h'.2 q = h.2 q) : HistRaw X h' t R j c := ⟨(k _ (by omega) (by omega)).trans p.1, (k _ (by omega) (by omega)).trans p.2.1, fun i hi => by
  obtain ⟨o, ho⟩ := p.2.2 i hi
  exact ⟨o, IsSheet.keep ho (fun q _ _ => k q (by omega) (by omega))⟩⟩
theorem RdRaw.keep {X : KX} {h h' : AH} {x : Nat} {cm : Nat → Nat × List Int32 × Int32} {cnt pos : Int32} {txt : List Int32} (p : RdRaw X h x cm cnt pos txt) (hz : h.1 ≤ h'.1) (k : ∀ q, q < h.1 → x + 147 ≤ q → q < x + 183 ∨ x + 185 ≤ q → h'.2 q = h.2 q) (hx : x + 183 ≤ h.1) : RdRaw X h' x cm cnt pos txt := ⟨(k _ (by omega) (by omega) (by omega)).trans p.1, p.2.1.keep hz (fun q a b => k q a (by omega) (by omega)), (k _ (by omega) (by omega) (by omega)).trans p.2.2.1, fun j hj => ⟨(k _ (by omega) (by omega) (by omega)).trans (p.2.2.2 j hj).1, (p.2.2.2 j hj).2.1, (k _ (by omega) (by omega) (by omega)).trans (p.2.2.2 j hj).2.2.1, (p.2.2.2 j hj).2.2.2⟩⟩
theorem SI_S0 : SI S0 := by
  intro i hi
  have : (List.replicate 16 (0 : Int32)).getD i 0 = 0 := by
    simp only [List.getD_eq_getElem?_getD, List.getElem?_replicate]
    split <;> rfl
  show fits .char (.int ((List.replicate 16 (0 : Int32)).getD i 0)) = true
  rw [this]
  rfl
theorem wObRX7 : Cond.methodLink RX7 3 Lib.objectInit ∈ GW ∧ Cond.instanceMethod Lib.objectInit ∈ GW ∧ Cond.code Lib.objectInit ⟨#[0xb1]⟩ 1 none ∈ GW := ⟨gw_tab 40 (by decide +kernel) (by decide +kernel), gw_tab 41 (by decide +kernel) (by decide +kernel), gw_tab 42 (by decide +kernel) (by decide +kernel)⟩
theorem wNRX7_9 : Cond.classLink RX7 9 "SilentOpera$Sheet" ∈ GW ∧ Cond.instantiable "SilentOpera$Sheet" 14 ∈ GW ∧ Cond.initialized "SilentOpera$Sheet" ∈ GW := ⟨gw_tab 43 (by decide +kernel) (by decide +kernel), gw_tab 44 (by decide +kernel) (by decide +kernel), gw_tab 2 (by decide +kernel) (by decide +kernel)⟩
theorem wNRX7_22 : Cond.classLink RX7 22 "SilentOpera$History" ∈ GW ∧ Cond.instantiable "SilentOpera$History" 3 ∈ GW ∧ Cond.initialized "SilentOpera$History" ∈ GW := ⟨gw_tab 157 (by decide +kernel) (by decide +kernel), gw_tab 158 (by decide +kernel) (by decide +kernel), gw_tab 5 (by decide +kernel) (by decide +kernel)⟩
theorem wNRX7_29 : Cond.classLink RX7 29 "SilentOpera$CommandReader" ∈ GW ∧ Cond.instantiable "SilentOpera$CommandReader" 4 ∈ GW ∧ Cond.initialized "SilentOpera$CommandReader" ∈ GW := ⟨gw_tab 177 (by decide +kernel) (by decide +kernel), gw_tab 178 (by decide +kernel) (by decide +kernel), gw_tab 6 (by decide +kernel) (by decide +kernel)⟩
theorem wNRX7_36 : Cond.classLink RX7 36 "java/lang/StringBuilder" ∈ GW ∧ Cond.instantiable "java/lang/StringBuilder" 4 ∈ GW ∧ Cond.initialized "java/lang/StringBuilder" ∈ GW := ⟨gw_tab 254 (by decide +kernel) (by decide +kernel), gw_tab 184 (by decide +kernel) (by decide +kernel), gw_tab 8 (by decide +kernel) (by decide +kernel)⟩
set_option maxRecDepth 20000 in
set_option maxHeartbeats 4000000 in
theorem c_X7_init {X : KX} (hxs : X.1.stackTraces = false) (hg : GX X) (hg2 : GP2 X) {h0 : AH} {a : Nat} (he : h0.1 = a + 1) (f_o : h0.2 a = some (.inr (9, [.null, .null, .null, .null, .null, .null, .int 0, .int 0, .int 0, .int 0]))) : Ct X mX7_init [.ref a] h0 (zM none (fun h' => OpW X h' a S0 [] S0 0 (-1) (-1) (-1) [] [] ∧ h'.1 = a + 185 ∧ ∀ q, q < a → h'.2 q = h0.2 q)) := by
  have fr : ∀ q, q < a → h0.2 q = h0.2 q := fun _ _ => rfl
  refine Ct.of (by decide) rfl (Nat.le_of_ble_eq_true rfl) rfl hxs ?_
  refine V_aload_n dX7_init_0 0 rfl ?_
  refine V_objInit dX7_init_1 wObRX7 ⟨Nat.le_of_ble_eq_true rfl, Nat.le_of_ble_eq_true rfl⟩ ?_
  refine V_aload_n dX7_init_4 0 rfl ?_
  refine V_newB (ci := 8) (N := 14) (b := a + 1) (fs := [.null, .null, .null, .int 0, .int 0, .int 0, .int 0, .int 0, .int 0, .int 0, .int 0, .int 0, .int 0, .int 0]) he dX7_init_5 wNRX7_9 iGX6 tyX6_ok rfl (by decide) ⟨Nat.le_of_ble_eq_true rfl, Nat.le_of_ble_eq_true rfl⟩ (fun h1 he1 f_b fk => ?_)
  replace f_o := (fk _ (by omega)).trans f_o
  replace fr : ∀ q, q < a → h1.2 q = h0.2 q := fun q hq => (fk q (by omega)).trans (fr q hq)
  replace he : h1.1 = a + 1 + 1 := he1
  clear fk he1
  refine V_dup dX7_init_8 rfl ?_
  refine V_cI (As := []) (rest := [.ref (a + 1), .ref a]) dX7_init_9 cvX7_11 rfl rfl rfl (c_X6_init hxs he f_b) ⟨Nat.le_of_ble_eq_true rfl, Nat.le_of_ble_eq_true rfl, Nat.le_of_ble_eq_true rfl, Nat.le_of_ble_eq_true rfl⟩ (Nat.le_of_ble_eq_true rfl) rfl (fun h2 q9 => ?_)
  obtain ⟨f_s1, he1, fk9⟩ := q9
  have fk : ∀ q, q < a + 1 → h2.2 q = h1.2 q := fk9
  replace f_o := (fk _ (by omega)).trans f_o
  replace fr : ∀ q, q < a → h2.2 q = h0.2 q := fun q hq => (fk q (by omega)).trans (fr q hq)
  replace he : h2.1 = a + 13 := by omega
  try clear fk
  clear fk9 he1 f_b
  refine V_putFB (T := TX7) (fs' := [.ref (a + 1), .null, .null, .null, .null, .null, .int 0, .int 0, .int 0, .int 0]) 0 dX7_init_12 flX7_12 iGX7 tyX7_ok nmX7 rfl (by decide) rfl rfl rfl rfl rfl f_o rfl rfl (by simp) rfl (fun h3 hz f_p fk => ?_)
  replace f_s1 := IsSheet.keep f_s1 (fun q _ _ => fk q (by omega))
  replace fr : ∀ q, q < a → h3.2 q = h0.2 q := fun q hq => (fk q (by omega)).trans (fr q hq)
  replace he : h3.1 = a + 13 := hz.trans he
  replace f_o := f_p
  clear f_p hz fk
  refine V_aload_n dX7_init_15 0 rfl ?_
  refine V_newB (ci := 8) (N := 14) (b := a + 13) (fs := [.null, .null, .null, .int 0, .int 0, .int 0, .int 0, .int 0, .int 0, .int 0, .int 0, .int 0, .int 0, .int 0]) he dX7_init_16 wNRX7_9 iGX6 tyX6_ok rfl (by decide) ⟨Nat.le_of_ble_eq_true rfl, Nat.le_of_ble_eq_true rfl⟩ (fun h4 he1 f_b fk => ?_)
  replace f_o := (fk _ (by omega)).trans f_o
  replace f_s1 := IsSheet.keep f_s1 (fun q _ _ => fk q (by omega))
  replace fr : ∀ q, q < a → h4.2 q = h0.2 q := fun q hq => (fk q (by omega)).trans (fr q hq)
  replace he : h4.1 = a + 13 + 1 := he1
  clear fk he1
  refine V_dup dX7_init_19 rfl ?_
  refine V_cI (As := []) (rest := [.ref (a + 13), .ref a]) dX7_init_20 cvX7_11 rfl rfl rfl (c_X6_init hxs he f_b) ⟨Nat.le_of_ble_eq_true rfl, Nat.le_of_ble_eq_true rfl, Nat.le_of_ble_eq_true rfl, Nat.le_of_ble_eq_true rfl⟩ (Nat.le_of_ble_eq_true rfl) rfl (fun h5 q9 => ?_)
  obtain ⟨f_s2, he1, fk9⟩ := q9
  have fk : ∀ q, q < a + 13 → h5.2 q = h4.2 q := fk9
  replace f_o := (fk _ (by omega)).trans f_o
  replace f_s1 := IsSheet.keep f_s1 (fun q _ _ => fk q (by omega))
  replace fr : ∀ q, q < a → h5.2 q = h0.2 q := fun q hq => (fk q (by omega)).trans (fr q hq)
  replace he : h5.1 = a + 25 := by omega
  try clear fk
  clear fk9 he1 f_b
  refine V_putFB (T := TX7) (fs' := [.ref (a + 1), .ref (a + 13), .null, .null, .null, .null, .int 0, .int 0, .int 0, .int 0]) 1 dX7_init_23 flX7_16 iGX7 tyX7_ok nmX7 rfl (by decide) rfl rfl rfl rfl rfl f_o rfl rfl (by simp) rfl (fun h6 hz f_p fk => ?_)
  replace f_s1 := IsSheet.keep f_s1 (fun q _ _ => fk q (by omega))
  replace f_s2 := IsSheet.keep f_s2 (fun q _ _ => fk q (by omega))
  replace fr : ∀ q, q < a → h6.2 q = h0.2 q := fun q hq => (fk q (by omega)).trans (fr q hq)
  replace he : h6.1 = a + 25 := hz.trans he
  replace f_o := f_p
  clear f_p hz fk
  refine V_aload_n dX7_init_26 0 rfl ?_
  refine V_newB (ci := 8) (N := 14) (b := a + 25) (fs := [.null, .null, .null, .int 0, .int 0, .int 0, .int 0, .int 0, .int 0, .int 0, .int 0, .int 0, .int 0, .int 0]) he dX7_init_27 wNRX7_9 iGX6 tyX6_ok rfl (by decide) ⟨Nat.le_of_ble_eq_true rfl, Nat.le_of_ble_eq_true rfl⟩ (fun h7 he1 f_b fk => ?_)
  replace f_o := (fk _ (by omega)).trans f_o
  replace f_s1 := IsSheet.keep f_s1 (fun q _ _ => fk q (by omega))
  replace f_s2 := IsSheet.keep f_s2 (fun q _ _ => fk q (by omega))
  replace fr : ∀ q, q < a → h7.2 q = h0.2 q := fun q hq => (fk q (by omega)).trans (fr q hq)
  replace he : h7.1 = a + 25 + 1 := he1
  clear fk he1
  refine V_dup dX7_init_30 rfl ?_
  refine V_cI (As := []) (rest := [.ref (a + 25), .ref a]) dX7_init_31 cvX7_11 rfl rfl rfl (c_X6_init hxs he f_b) ⟨Nat.le_of_ble_eq_true rfl, Nat.le_of_ble_eq_true rfl, Nat.le_of_ble_eq_true rfl, Nat.le_of_ble_eq_true rfl⟩ (Nat.le_of_ble_eq_true rfl) rfl (fun h8 q9 => ?_)
  obtain ⟨f_s3, he1, fk9⟩ := q9
  have fk : ∀ q, q < a + 25 → h8.2 q = h7.2 q := fk9
  replace f_o := (fk _ (by omega)).trans f_o
  replace f_s1 := IsSheet.keep f_s1 (fun q _ _ => fk q (by omega))
  replace f_s2 := IsSheet.keep f_s2 (fun q _ _ => fk q (by omega))
  replace fr : ∀ q, q < a → h8.2 q = h0.2 q := fun q hq => (fk q (by omega)).trans (fr q hq)
  replace he : h8.1 = a + 37 := by omega
  try clear fk
  clear fk9 he1 f_b
  refine V_putFB (T := TX7) (fs' := [.ref (a + 1), .ref (a + 13), .ref (a + 25), .null, .null, .null, .int 0, .int 0, .int 0, .int 0]) 2 dX7_init_34 flX7_19 iGX7 tyX7_ok nmX7 rfl (by decide) rfl rfl rfl rfl rfl f_o rfl rfl (by simp) rfl (fun h9 hz f_p fk => ?_)
  replace f_s1 := IsSheet.keep f_s1 (fun q _ _ => fk q (by omega))
  replace f_s2 := IsSheet.keep f_s2 (fun q _ _ => fk q (by omega))
  replace f_s3 := IsSheet.keep f_s3 (fun q _ _ => fk q (by omega))
  replace fr : ∀ q, q < a → h9.2 q = h0.2 q := fun q hq => (fk q (by omega)).trans (fr q hq)
  replace he : h9.1 = a + 37 := hz.trans he
  replace f_o := f_p
  clear f_p hz fk
  refine V_aload_n dX7_init_37 0 rfl ?_
  refine V_newB (ci := 7) (N := 3) (b := a + 37) (fs := [.null, .int 0, .int 0]) he dX7_init_38 wNRX7_22 iGX5 tyX5_ok rfl (by decide) ⟨Nat.le_of_ble_eq_true rfl, Nat.le_of_ble_eq_true rfl⟩ (fun h10 he1 f_b fk => ?_)
  replace f_o := (fk _ (by omega)).trans f_o
  replace f_s1 := IsSheet.keep f_s1 (fun q _ _ => fk q (by omega))
  replace f_s2 := IsSheet.keep f_s2 (fun q _ _ => fk q (by omega))
  replace f_s3 := IsSheet.keep f_s3 (fun q _ _ => fk q (by omega))
  replace fr : ∀ q, q < a → h10.2 q = h0.2 q := fun q hq => (fk q (by omega)).trans (fr q hq)
  replace he : h10.1 = a + 37 + 1 := he1
  clear fk he1
  refine V_dup dX7_init_41 rfl ?_
  refine V_cI (As := []) (rest := [.ref (a + 37), .ref a]) dX7_init_42 cvX7_24 rfl rfl rfl (c_X5_init hxs hg2 he f_b) ⟨Nat.le_of_ble_eq_true rfl, Nat.le_of_ble_eq_true rfl, Nat.le_of_ble_eq_true rfl, Nat.le_of_ble_eq_true rfl⟩ (Nat.le_of_ble_eq_true rfl) rfl (fun h11 q9 => ?_)
  obtain ⟨f_h, he1, fk9⟩ := q9
  have fk : ∀ q, q < a + 37 → h11.2 q = h10.2 q := fk9
  replace f_o := (fk _ (by omega)).trans f_o
  replace f_s1 := IsSheet.keep f_s1 (fun q _ _ => fk q (by omega))
  replace f_s2 := IsSheet.keep f_s2 (fun q _ _ => fk q (by omega))
  replace f_s3 := IsSheet.keep f_s3 (fun q _ _ => fk q (by omega))
  replace fr : ∀ q, q < a → h11.2 q = h0.2 q := fun q hq => (fk q (by omega)).trans (fr q hq)
  replace he : h11.1 = a + 147 := by omega
  try clear fk
  clear fk9 he1 f_b
  refine V_putFB (T := TX7) (fs' := [.ref (a + 1), .ref (a + 13), .ref (a + 25), .ref (a + 37), .null, .null, .int 0, .int 0, .int 0, .int 0]) 3 dX7_init_45 flX7_25 iGX7 tyX7_ok nmX7 rfl (by decide) rfl rfl rfl rfl rfl f_o rfl rfl (by simp) rfl (fun h12 hz f_p fk => ?_)
  replace f_s1 := IsSheet.keep f_s1 (fun q _ _ => fk q (by omega))
  replace f_s2 := IsSheet.keep f_s2 (fun q _ _ => fk q (by omega))
  replace f_s3 := IsSheet.keep f_s3 (fun q _ _ => fk q (by omega))
  replace f_h := f_h.keep (fun q _ _ => fk q (by omega))
  replace fr : ∀ q, q < a → h12.2 q = h0.2 q := fun q hq => (fk q (by omega)).trans (fr q hq)
  replace he : h12.1 = a + 147 := hz.trans he
  replace f_o := f_p
  clear f_p hz fk
  refine V_aload_n dX7_init_48 0 rfl ?_
  refine V_newB (ci := 5) (N := 4) (b := a + 147) (fs := [.null, .null, .int 0, .int 0]) he dX7_init_49 wNRX7_29 iGX2 tyX2_ok rfl (by decide) ⟨Nat.le_of_ble_eq_true rfl, Nat.le_of_ble_eq_true rfl⟩ (fun h13 he1 f_b fk => ?_)
  replace f_o := (fk _ (by omega)).trans f_o
  replace f_s1 := IsSheet.keep f_s1 (fun q _ _ => fk q (by omega))
  replace f_s2 := IsSheet.keep f_s2 (fun q _ _ => fk q (by omega))
  replace f_s3 := IsSheet.keep f_s3 (fun q _ _ => fk q (by omega))
  replace f_h := f_h.keep (fun q _ _ => fk q (by omega))
  replace fr : ∀ q, q < a → h13.2 q = h0.2 q := fun q hq => (fk q (by omega)).trans (fr q hq)
  replace he : h13.1 = a + 147 + 1 := he1
  clear fk he1
  refine V_dup dX7_init_52 rfl ?_
  refine V_cI (As := []) (rest := [.ref (a + 147), .ref a]) dX7_init_53 cvX7_31 rfl rfl rfl (c_X2_init hxs hg hg2 he f_b) ⟨Nat.le_of_ble_eq_true rfl, Nat.le_of_ble_eq_true rfl, Nat.le_of_ble_eq_true rfl, Nat.le_of_ble_eq_true rfl⟩ (Nat.le_of_ble_eq_true rfl) rfl (fun h14 q9 => ?_)
  obtain ⟨f_r, he1, fk9⟩ := q9
  have fk : ∀ q, q < a + 147 → h14.2 q = h13.2 q := fk9
  replace f_o := (fk _ (by omega)).trans f_o
  replace f_s1 := IsSheet.keep f_s1 (fun q _ _ => fk q (by omega))
  replace f_s2 := IsSheet.keep f_s2 (fun q _ _ => fk q (by omega))
  replace f_s3 := IsSheet.keep f_s3 (fun q _ _ => fk q (by omega))
  replace f_h := f_h.keep (fun q _ _ => fk q (by omega))
  replace fr : ∀ q, q < a → h14.2 q = h0.2 q := fun q hq => (fk q (by omega)).trans (fr q hq)
  replace he : h14.1 = a + 183 := by omega
  try clear fk
  clear fk9 he1 f_b
  refine V_putFB (T := TX7) (fs' := [.ref (a + 1), .ref (a + 13), .ref (a + 25), .ref (a + 37), .ref (a + 147), .null, .int 0, .int 0, .int 0, .int 0]) 4 dX7_init_56 flX7_32 iGX7 tyX7_ok nmX7 rfl (by decide) rfl rfl rfl rfl rfl f_o rfl rfl (by simp) rfl (fun h15 hz f_p fk => ?_)
  replace f_s1 := IsSheet.keep f_s1 (fun q _ _ => fk q (by omega))
  replace f_s2 := IsSheet.keep f_s2 (fun q _ _ => fk q (by omega))
  replace f_s3 := IsSheet.keep f_s3 (fun q _ _ => fk q (by omega))
  replace f_h := f_h.keep (fun q _ _ => fk q (by omega))
  replace f_r := f_r.keep (by omega) (fun q _ _ _ => fk q (by omega)) (by omega)
  replace fr : ∀ q, q < a → h15.2 q = h0.2 q := fun q hq => (fk q (by omega)).trans (fr q hq)
  replace he : h15.1 = a + 183 := hz.trans he
  replace f_o := f_p
  clear f_p hz fk
  refine V_aload_n dX7_init_59 0 rfl ?_
  refine V_newB (ci := 1) (N := 4) (b := a + 183) (fs := [.null, .int 0, .int 0, .int 0]) he dX7_init_60 wNRX7_36 iGJ4 tyJ4_ok rfl (by decide) ⟨Nat.le_of_ble_eq_true rfl, Nat.le_of_ble_eq_true rfl⟩ (fun h16 he1 f_b fk => ?_)
  replace f_o := (fk _ (by omega)).trans f_o
  replace f_s1 := IsSheet.keep f_s1 (fun q _ _ => fk q (by omega))
  replace f_s2 := IsSheet.keep f_s2 (fun q _ _ => fk q (by omega))
  replace f_s3 := IsSheet.keep f_s3 (fun q _ _ => fk q (by omega))
  replace f_h := f_h.keep (fun q _ _ => fk q (by omega))
  replace f_r := f_r.keep (by omega) (fun q _ _ _ => fk q (by omega)) (by omega)
  replace fr : ∀ q, q < a → h16.2 q = h0.2 q := fun q hq => (fk q (by omega)).trans (fr q hq)
  replace he : h16.1 = a + 183 + 1 := he1
  clear fk he1
  refine V_dup dX7_init_63 rfl ?_
  refine V_cI (As := []) (rest := [.ref (a + 183), .ref a]) dX7_init_64 cvX7_38 rfl rfl rfl (c_J4_init hxs hg he f_b) ⟨Nat.le_of_ble_eq_true rfl, Nat.le_of_ble_eq_true rfl, Nat.le_of_ble_eq_true rfl, Nat.le_of_ble_eq_true rfl⟩ (Nat.le_of_ble_eq_true rfl) rfl (fun h17 q9 => ?_)
  obtain ⟨f_l1, f_l2, he1, fk9⟩ := q9
  have fk : ∀ q, q < a + 183 → h17.2 q = h16.2 q := fk9
  replace f_o := (fk _ (by omega)).trans f_o
  replace f_s1 := IsSheet.keep f_s1 (fun q _ _ => fk q (by omega))
  replace f_s2 := IsSheet.keep f_s2 (fun q _ _ => fk q (by omega))
  replace f_s3 := IsSheet.keep f_s3 (fun q _ _ => fk q (by omega))
  replace f_h := f_h.keep (fun q _ _ => fk q (by omega))
  replace f_r := f_r.keep (by omega) (fun q _ _ _ => fk q (by omega)) (by omega)
  replace fr : ∀ q, q < a → h17.2 q = h0.2 q := fun q hq => (fk q (by omega)).trans (fr q hq)
  replace he : h17.1 = a + 185 := by omega
  try clear fk
  clear fk9 he1 f_b
  refine V_putFB (T := TX7) (fs' := [.ref (a + 1), .ref (a + 13), .ref (a + 25), .ref (a + 37), .ref (a + 147), .ref (a + 183), .int 0, .int 0, .int 0, .int 0]) 5 dX7_init_67 flX7_39 iGX7 tyX7_ok nmX7 rfl (by decide) rfl rfl rfl rfl rfl f_o rfl rfl (by simp) rfl (fun h18 hz f_p fk => ?_)
  replace f_s1 := IsSheet.keep f_s1 (fun q _ _ => fk q (by omega))
  replace f_s2 := IsSheet.keep f_s2 (fun q _ _ => fk q (by omega))
  replace f_s3 := IsSheet.keep f_s3 (fun q _ _ => fk q (by omega))
  replace f_h := f_h.keep (fun q _ _ => fk q (by omega))
  replace f_r := f_r.keep (by omega) (fun q _ _ _ => fk q (by omega)) (by omega)
  replace f_l1 := (fk _ (by omega)).trans f_l1
  replace f_l2 := (fk _ (by omega)).trans f_l2
  replace fr : ∀ q, q < a → h18.2 q = h0.2 q := fun q hq => (fk q (by omega)).trans (fr q hq)
  replace he : h18.1 = a + 185 := hz.trans he
  replace f_o := f_p
  clear f_p hz fk
  refine V_aload_n dX7_init_70 0 rfl ?_
  refine V_iconst (v := 0) dX7_init_71 (by decide) ?_
  refine V_putB (T := TX7) (fs' := [.ref (a + 1), .ref (a + 13), .ref (a + 25), .ref (a + 37), .ref (a + 147), .ref (a + 183), .int 0, .int 0, .int 0, .int 0]) 6 dX7_init_72 flX7_43 iGX7 tyX7_ok nmX7 rfl (by decide) rfl rfl rfl f_o rfl rfl (by simp) rfl (fun h19 hz f_p fk => ?_)
  replace f_s1 := IsSheet.keep f_s1 (fun q _ _ => fk q (by omega))
  replace f_s2 := IsSheet.keep f_s2 (fun q _ _ => fk q (by omega))
  replace f_s3 := IsSheet.keep f_s3 (fun q _ _ => fk q (by omega))
  replace f_h := f_h.keep (fun q _ _ => fk q (by omega))
  replace f_r := f_r.keep (by omega) (fun q _ _ _ => fk q (by omega)) (by omega)
  replace f_l1 := (fk _ (by omega)).trans f_l1
  replace f_l2 := (fk _ (by omega)).trans f_l2
  replace fr : ∀ q, q < a → h19.2 q = h0.2 q := fun q hq => (fk q (by omega)).trans (fr q hq)
  replace he : h19.1 = a + 185 := hz.trans he
  replace f_o := f_p
  clear f_p hz fk
  refine V_aload_n dX7_init_75 0 rfl ?_
  refine V_iconst (v := (-1)) dX7_init_76 (by decide) ?_
  refine V_putB (T := TX7) (fs' := [.ref (a + 1), .ref (a + 13), .ref (a + 25), .ref (a + 37), .ref (a + 147), .ref (a + 183), .int 0, .int (-1), .int 0, .int 0]) 7 dX7_init_77 flX7_47 iGX7 tyX7_ok nmX7 rfl (by decide) rfl rfl rfl f_o rfl rfl (by simp) rfl (fun h20 hz f_p fk => ?_)
  replace f_s1 := IsSheet.keep f_s1 (fun q _ _ => fk q (by omega))
  replace f_s2 := IsSheet.keep f_s2 (fun q _ _ => fk q (by omega))
  replace f_s3 := IsSheet.keep f_s3 (fun q _ _ => fk q (by omega))
  replace f_h := f_h.keep (fun q _ _ => fk q (by omega))
  replace f_r := f_r.keep (by omega) (fun q _ _ _ => fk q (by omega)) (by omega)
  replace f_l1 := (fk _ (by omega)).trans f_l1
  replace f_l2 := (fk _ (by omega)).trans f_l2
  replace fr : ∀ q, q < a → h20.2 q = h0.2 q := fun q hq => (fk q (by omega)).trans (fr q hq)
  replace he : h20.1 = a + 185 := hz.trans he
  replace f_o := f_p
  clear f_p hz fk
  refine V_aload_n dX7_init_80 0 rfl ?_
  refine V_iconst (v := (-1)) dX7_init_81 (by decide) ?_
  refine V_putB (T := TX7) (fs' := [.ref (a + 1), .ref (a + 13), .ref (a + 25), .ref (a + 37), .ref (a + 147), .ref (a + 183), .int 0, .int (-1), .int (-1), .int 0]) 8 dX7_init_82 flX7_51 iGX7 tyX7_ok nmX7 rfl (by decide) rfl rfl rfl f_o rfl rfl (by simp) rfl (fun h21 hz f_p fk => ?_)
  replace f_s1 := IsSheet.keep f_s1 (fun q _ _ => fk q (by omega))
  replace f_s2 := IsSheet.keep f_s2 (fun q _ _ => fk q (by omega))
  replace f_s3 := IsSheet.keep f_s3 (fun q _ _ => fk q (by omega))
  replace f_h := f_h.keep (fun q _ _ => fk q (by omega))
  replace f_r := f_r.keep (by omega) (fun q _ _ _ => fk q (by omega)) (by omega)
  replace f_l1 := (fk _ (by omega)).trans f_l1
  replace f_l2 := (fk _ (by omega)).trans f_l2
  replace fr : ∀ q, q < a → h21.2 q = h0.2 q := fun q hq => (fk q (by omega)).trans (fr q hq)
  replace he : h21.1 = a + 185 := hz.trans he
  replace f_o := f_p
  clear f_p hz fk
  refine V_aload_n dX7_init_85 0 rfl ?_
  refine V_iconst (v := (-1)) dX7_init_86 (by decide) ?_
  refine V_putB (T := TX7) (fs' := [.ref (a + 1), .ref (a + 13), .ref (a + 25), .ref (a + 37), .ref (a + 147), .ref (a + 183), .int 0, .int (-1), .int (-1), .int (-1)]) 9 dX7_init_87 flX7_54 iGX7 tyX7_ok nmX7 rfl (by decide) rfl rfl rfl f_o rfl rfl (by simp) rfl (fun h22 hz f_p fk => ?_)
  replace f_s1 := IsSheet.keep f_s1 (fun q _ _ => fk q (by omega))
  replace f_s2 := IsSheet.keep f_s2 (fun q _ _ => fk q (by omega))
  replace f_s3 := IsSheet.keep f_s3 (fun q _ _ => fk q (by omega))
  replace f_h := f_h.keep (fun q _ _ => fk q (by omega))
  replace f_r := f_r.keep (by omega) (fun q _ _ _ => fk q (by omega)) (by omega)
  replace f_l1 := (fk _ (by omega)).trans f_l1
  replace f_l2 := (fk _ (by omega)).trans f_l2
  replace fr : ∀ q, q < a → h22.2 q = h0.2 q := fun q hq => (fk q (by omega)).trans (fr q hq)
  replace he : h22.1 = a + 185 := hz.trans he
  replace f_o := f_p
  clear f_p hz fk
  have hl := (ln_new f_l1 f_l2 (by omega)).1
  exact V_vret dX7_init_90 rfl ⟨Nat.le_of_ble_eq_true rfl, Nat.le_of_ble_eq_true rfl⟩ ⟨rfl, ⟨S0, f_o, by omega, SI_S0, SI_S0, ⟨_, f_s1⟩, ⟨_, _, f_s2⟩, ⟨_, f_s3⟩, ⟨_, 0, by decide, by decide, f_h, fun _ _ => SI_S0, rfl, fun i S e => (by simp at e)⟩, ⟨_, _, _, f_r⟩, hl⟩, he, fr⟩
