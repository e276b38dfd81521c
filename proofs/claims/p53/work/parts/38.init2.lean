/-! ===== constructors, second ===== -/
section VRC
variable {X : KX} {M : MI} {F : FT} {k n pc : Nat} {lv : List (Nat × Value)} {st : List Value} {h : AH} {Z : ZT}
theorem V_recastQ {a N : Nat} {cA : ClassId} {f f' : Nat → Option Nat} (ha : h.2 a = some (aQ cA N f)) (hf : ∀ j, j < N → f j = f' j) (kk : ∀ h1 : AH, h1.1 = h.1 → h1.2 a = some (aQ cA N f') → (∀ q, q ≠ a → h1.2 q = h.2 q) → V X M F k n pc lv st h1) : V X M F k n pc lv st h := fun p e s m args below meth c H locs ls hF hR hS hL =>
  kk (hput h a (aQ cA N f')) rfl hput_at (fun q hq => hput_ne hq) p e s m args below meth c H locs ls hF (hR.put ha (show H[a]? = some (vp_cell cA (N, .inr (.inr (.inr (.inr f'))))) by
    rw [hR.cell ha, vp_cell_q, vp_cell_q]
    exact congrArg some (arrV_congr rfl fun j hj => by rw [hf j hj])) rfl (fun _ _ => rfl)) hS hL
theorem V_recount {k' n' : Nat} (h1 : k = k') (h2 : n = n') (kk : V X M F k' n' pc lv st h) : V X M F k n pc lv st h := by
  rw [h1, h2]
  exact kk
end VRC
def fQ (b w i : Nat) : Nat → Option Nat := fun q => if q < i then some (b + w * q) else none
theorem fQ_up {b w i : Nat} (hi : i < 2 ^ 31) : va_up (fQ b w i) (nI i).toNatClampNeg (some (b + w * i)) = fQ b w (i + 1) := by
  rw [nI_clamp hi]
  funext q
  unfold va_up fQ
  by_cases e : q = i
  · subst e
    rw [if_pos rfl, if_pos (by omega)]
  · rw [if_neg e]
    by_cases g : q < i
    · rw [if_pos g, if_pos (by omega)]
    · rw [if_neg g, if_neg (by omega)]
theorem fQ_0 {b w : Nat} : (fun _ => none : Nat → Option Nat) = fQ b w 0 := by
  funext q
  unfold fQ
  rw [if_neg (by omega)]
theorem wObRX5 : Cond.methodLink RX5 3 Lib.objectInit ∈ GW ∧ Cond.instanceMethod Lib.objectInit ∈ GW ∧ Cond.code Lib.objectInit ⟨#[0xb1]⟩ 1 none ∈ GW := ⟨gw_tab 162 (by decide +kernel) (by decide +kernel), gw_tab 41 (by decide +kernel) (by decide +kernel), gw_tab 42 (by decide +kernel) (by decide +kernel)⟩
theorem wNRX5_9 : Cond.classLink RX5 9 "SilentOpera$Sheet" ∈ GW ∧ Cond.instantiable "SilentOpera$Sheet" 14 ∈ GW ∧ Cond.initialized "SilentOpera$Sheet" ∈ GW := ⟨gw_tab 163 (by decide +kernel) (by decide +kernel), gw_tab 44 (by decide +kernel) (by decide +kernel), gw_tab 2 (by decide +kernel) (by decide +kernel)⟩
theorem wQRX5_9 : Cond.classLink RX5 9 "SilentOpera$Sheet" ∈ GW := gw_tab 163 (by decide +kernel) (by decide +kernel)
set_option maxRecDepth 20000 in
set_option maxHeartbeats 4000000 in
theorem c_X5_init {X : KX} (hxs : X.1.stackTraces = false) (hg2 : GP2 X) {h0 : AH} {a : Nat} (he : h0.1 = a + 1) (f_o : h0.2 a = some (.inr (7, [.null, .int 0, .int 0]))) : Ct X mX5_init [.ref a] h0 (zM none (fun h' => HistRaw X h' a (fun _ => S0) 0 0 ∧ h'.1 = a + 110 ∧ ∀ q, q < a → h'.2 q = h0.2 q)) := by
  have fr : ∀ q, q < a → h0.2 q = h0.2 q := fun _ _ => rfl
  refine Ct.of (by decide) rfl (Nat.le_of_ble_eq_true rfl) rfl hxs ?_
  have L25 : ∀ (g i : Nat) (h9 : AH), i + g = 9 → h9.1 = a + 2 + 12 * i → h9.2 a = some (.inr (7, [.ref (a + 1), .int 0, .int 0])) → h9.2 (a + 1) = some (aQ (kA X 4) 9 (fQ (a + 2) 12 i)) → (∀ j, j < i → ∃ o, IsSh X h9 (a + 2 + 12 * j) S0 o) → (∀ q, q < a → h9.2 q = h0.2 q) → V X mX5_init (zF X mX5_init (zM none (fun h' => HistRaw X h' a (fun _ => S0) 0 0 ∧ h'.1 = a + 110 ∧ ∀ q, q < a → h'.2 q = h0.2 q))) (1 + 12 * i) (9 + 164 * i) 25 [(0, .ref a), (1, .int (nI i))] [] h9 := by
    intro g
    induction g with
    | zero =>
      intro i h9 hi he f_o f_1 f_s fr
      refine V_iload_n dX5_init_25 1 rfl ?_
      refine V_bipush (v := 8) dX5_init_26 (by decide) ?_
      refine V_icmp_gt (tgt := 50) dX5_init_28 (by decide) (fun _ => ?_) (fun c9 => absurd (nI_lt (a := 8) (b := i) (by omega) (by omega)) c9)
      have e9 : i = 9 := by omega
      subst e9
      refine V_recastQ f_1 (f' := fun j => some (a + 2 + 12 * j)) (fun j hj => by unfold fQ; rw [if_pos hj]) (fun h8 hz8 f_8 fk => ?_)
      exact V_vret dX5_init_50 rfl ⟨by show 1 + 12 * 9 ≤ 109; omega, by show 9 + 164 * 9 ≤ 1485; omega⟩ ⟨rfl, ⟨(fk _ (by omega)).trans f_o, f_8, fun j hj => by
        obtain ⟨o, ho⟩ := f_s j hj
        exact ⟨o, IsSheet.keep ho (fun q _ _ => fk q (by omega))⟩⟩, by rw [hz8, he], fun q hq => (fk q (by omega)).trans (fr q hq)⟩
    | succ g ih =>
      intro i h9 hi he f_o f_1 f_s fr
      have hi9 : i < 9 := by omega
      refine V_iload_n dX5_init_25 1 rfl ?_
      refine V_bipush (v := 8) dX5_init_26 (by decide) ?_
      refine V_icmp_gt (tgt := 50) dX5_init_28 (by decide) (fun c9 => absurd c9 (nI_nlt (a := 8) (b := i) (by omega) (by omega))) (fun _ => ?_)
      refine V_aload_n dX5_init_31 0 rfl ?_
      refine V_get (T := TX5) 0 dX5_init_32 flX5_11 iGX5 rfl (by decide) rfl f_o rfl ?_
      refine V_iload_n dX5_init_35 1 rfl ?_
      refine V_newB (ci := 8) (N := 14) (b := a + 2 + 12 * i) (fs := [.null, .null, .null, .int 0, .int 0, .int 0, .int 0, .int 0, .int 0, .int 0, .int 0, .int 0, .int 0, .int 0]) he dX5_init_36 wNRX5_9 iGX6 tyX6_ok rfl (by decide) ⟨by show 1 + 12 * i + 1 ≤ 109; omega, by show 9 + 164 * i + 14 ≤ 1485; omega⟩ (fun h8 he8 f_b fk8 => ?_)
      refine V_dup dX5_init_39 rfl ?_
      refine V_cI (As := []) (rest := [.ref (a + 2 + 12 * i), .int (nI i), .ref (a + 1)]) dX5_init_40 cvX5_24 rfl rfl rfl (c_X6_init hxs he8 f_b) ⟨Nat.le_of_ble_eq_true rfl, Nat.le_of_ble_eq_true rfl, by show 1 + 12 * i + 1 + 11 ≤ 109; omega, by show 9 + 164 * i + 14 + 150 ≤ 1485; omega⟩ (Nat.le_of_ble_eq_true rfl) rfl (fun h7 q7 => ?_)
      obtain ⟨f_n, he7, fk7⟩ := q7
      have fk : ∀ q, q < a + 2 + 12 * i → h7.2 q = h9.2 q := fun q hq => (fk7 q hq).trans (fk8 q (by omega))
      have f_1 := (fk _ (by omega)).trans f_1
      refine V_aast (t := 4) (ci := 8) (f := fQ (a + 2) 12 i) dX5_init_43 rfl f_1 f_n.1 rfl (vp_in_nI hi9 (by decide)) ?_
      rw [fQ_up (by omega)]
      refine V_iinc (v := nI (i + 1)) (lv' := [(1, .int (nI (i + 1))), (0, .ref a)]) dX5_init_44 1 rfl (iinc1 i) (by decide) rfl ?_
      refine V_goto (tgt := 25) dX5_init_47 (by decide) ?_
      refine V.loc [1, 0] rfl ?_
      refine V_recount (show 1 + 12 * i + 1 + 11 = 1 + 12 * (i + 1) by omega) (show 9 + 164 * i + 14 + 150 = 9 + 164 * (i + 1) by omega) ?_
      refine ih (i + 1) _ (by omega) (he7.trans (by omega)) ((hput_ne (by omega)).trans ((fk _ (by omega)).trans f_o)) hput_at (fun j hj => ?_) (fun q hq => (hput_ne (by omega)).trans ((fk q (by omega)).trans (fr q hq)))
      rcases Nat.lt_or_ge j i with g9 | g9
      · obtain ⟨o, ho⟩ := f_s j g9
        exact ⟨o, IsSheet.keep ho (fun q _ _ => (hput_ne (by omega)).trans (fk q (by omega)))⟩
      · have e9 : j = i := by omega
        subst e9
        exact ⟨_, IsSheet.keep f_n (fun q _ _ => hput_ne (by omega))⟩
  refine V_aload_n dX5_init_0 0 rfl ?_
  refine V_objInit dX5_init_1 wObRX5 ⟨Nat.le_of_ble_eq_true rfl, Nat.le_of_ble_eq_true rfl⟩ ?_
  refine V_aload_n dX5_init_4 0 rfl ?_
  refine V_bipush (v := 9) dX5_init_5 (by decide) ?_
  refine V_newqB hg2 (t := 4) (C := "SilentOpera$Sheet") (N := 9) (b := a + 1) he dX5_init_7 wQRX5_9 wOS rfl (by decide) (by decide) (by decide) ⟨Nat.le_of_ble_eq_true rfl, Nat.le_of_ble_eq_true rfl⟩ (fun h1 he1 f_1 fk => ?_)
  have f_o := (fk _ (by omega)).trans f_o
  have fr : ∀ q, q < a → h1.2 q = h0.2 q := fun q hq => (fk q (by omega)).trans (fr q hq)
  have he : h1.1 = a + 2 := by omega
  rw [fQ_0 (b := a + 2) (w := 12)] at f_1
  refine V_putFB (T := TX5) (fs' := [.ref (a + 1), .int 0, .int 0]) 0 dX5_init_10 flX5_11 iGX5 tyX5_ok nmX5 rfl (by decide) rfl rfl rfl rfl rfl f_o rfl rfl (by simp) rfl (fun h2 hz f_o fk => ?_)
  have f_1 := (fk _ (by omega)).trans f_1
  have fr : ∀ q, q < a → h2.2 q = h0.2 q := fun q hq => (fk q (by omega)).trans (fr q hq)
  have he : h2.1 = a + 2 := hz.trans he
  refine V_aload_n dX5_init_13 0 rfl ?_
  refine V_iconst (v := 0) dX5_init_14 (by decide) ?_
  refine V_putB (T := TX5) (fs' := [.ref (a + 1), .int 0, .int 0]) 1 dX5_init_15 flX5_17 iGX5 tyX5_ok nmX5 rfl (by decide) rfl rfl rfl f_o rfl rfl (by simp) rfl (fun h3 hz f_o fk => ?_)
  have f_1 := (fk _ (by omega)).trans f_1
  have fr : ∀ q, q < a → h3.2 q = h0.2 q := fun q hq => (fk q (by omega)).trans (fr q hq)
  have he : h3.1 = a + 2 := hz.trans he
  refine V_aload_n dX5_init_18 0 rfl ?_
  refine V_iconst (v := 0) dX5_init_19 (by decide) ?_
  refine V_putB (T := TX5) (fs' := [.ref (a + 1), .int 0, .int 0]) 2 dX5_init_20 flX5_21 iGX5 tyX5_ok nmX5 rfl (by decide) rfl rfl rfl f_o rfl rfl (by simp) rfl (fun h4 hz f_o fk => ?_)
  have f_1 := (fk _ (by omega)).trans f_1
  have fr : ∀ q, q < a → h4.2 q = h0.2 q := fun q hq => (fk q (by omega)).trans (fr q hq)
  have he : h4.1 = a + 2 := hz.trans he
  refine V_iconst (v := 0) dX5_init_23 (by decide) ?_
  refine V_istore_n (lv' := [(1, .int 0), (0, .ref a)]) dX5_init_24 rfl (by decide) rfl ?_
  refine V.loc [1, 0] rfl ?_
  exact L25 9 0 _ (by decide) (he.trans (by omega)) f_o f_1 (fun j hj => absurd hj (Nat.not_lt_zero _)) fr
theorem wObRJ5 : Cond.methodLink RJ5 3 Lib.objectInit ∈ GW ∧ Cond.instanceMethod Lib.objectInit ∈ GW ∧ Cond.code Lib.objectInit ⟨#[0xb1]⟩ 1 none ∈ GW := ⟨gw_tab 191 (by decide +kernel) (by decide +kernel), gw_tab 41 (by decide +kernel) (by decide +kernel), gw_tab 42 (by decide +kernel) (by decide +kernel)⟩
set_option maxRecDepth 20000 in
set_option maxHeartbeats 4000000 in
theorem c_J5_init {X : KX} (hxs : X.1.stackTraces = false) (hg : GX X) {h0 : AH} {a : Nat} (he : h0.1 = a + 1) (f_o : h0.2 a = some (.inr (1, [.null, .int 0, .int 0, .int 0]))) : Ct X mJ5_init_d00df [.ref a, .int 16] h0 (zM none (fun h' => h'.2 a = some (.inr (1, [.ref (a + 1), .int 0, .int 0, .int 0])) ∧ h'.2 (a + 1) = some (aL (kA X 2) (List.replicate 16 0)) ∧ h'.1 = a + 2 ∧ ∀ q, q < a → h'.2 q = h0.2 q)) := by
  have fr : ∀ q, q < a → h0.2 q = h0.2 q := fun _ _ => rfl
  refine Ct.of (by decide) rfl (Nat.le_of_ble_eq_true rfl) rfl hxs ?_
  refine V_aload_n dJ5_init_d00df_0 0 rfl ?_
  refine V_objInit dJ5_init_d00df_1 wObRJ5 ⟨Nat.le_of_ble_eq_true rfl, Nat.le_of_ble_eq_true rfl⟩ ?_
  refine V_gets dJ5_init_d00df_4 flJ5_18 hg.2.2.1 ?_
  refine V_if_eq (tgt := 25) dJ5_init_d00df_7 (by decide) (fun c9 => absurd c9 (by decide)) (fun _ => ?_)
  refine V_aload_n dJ5_init_d00df_10 0 rfl ?_
  refine V_iload_n dJ5_init_d00df_11 1 rfl ?_
  refine V_newbB (N := 16) (b := a + 1) he dJ5_init_d00df_12 wAb (by decide) (by decide) (by decide) ⟨Nat.le_of_ble_eq_true rfl, Nat.le_of_ble_eq_true rfl⟩ (fun h1 he1 f_1 fk => ?_)
  have f_o := (fk _ (by omega)).trans f_o
  have fr : ∀ q, q < a → h1.2 q = h0.2 q := fun q hq => (fk q (by omega)).trans (fr q hq)
  have he : h1.1 = a + 2 := by omega
  refine V_putB (T := TJ4) (fs' := [.ref (a + 1), .int 0, .int 0, .int 0]) 0 dJ5_init_d00df_14 flJ5_15 iGJ4 tyJ4_ok nmJ4 rfl (by decide) rfl rfl rfl f_o rfl rfl (by simp) rfl (fun h2 hz f_o fk => ?_)
  have f_1 := (fk _ (by omega)).trans f_1
  have fr : ∀ q, q < a → h2.2 q = h0.2 q := fun q hq => (fk q (by omega)).trans (fr q hq)
  have he : h2.1 = a + 2 := hz.trans he
  refine V_aload_n dJ5_init_d00df_17 0 rfl ?_
  refine V_iconst (v := 0) dJ5_init_d00df_18 (by decide) ?_
  refine V_putB (T := TJ4) (fs' := [.ref (a + 1), .int 0, .int 0, .int 0]) 1 dJ5_init_d00df_19 flJ5_22 iGJ4 tyJ4_ok nmJ4 rfl (by decide) rfl rfl rfl f_o rfl rfl (by simp) rfl (fun h3 hz f_o fk => ?_)
  have f_1 := (fk _ (by omega)).trans f_1
  have fr : ∀ q, q < a → h3.2 q = h0.2 q := fun q hq => (fk q (by omega)).trans (fr q hq)
  have he : h3.1 = a + 2 := hz.trans he
  refine V_goto (tgt := 38) dJ5_init_d00df_22 (by decide) ?_
  exact V_vret dJ5_init_d00df_38 rfl ⟨Nat.le_of_ble_eq_true rfl, Nat.le_of_ble_eq_true rfl⟩ ⟨rfl, f_o, f_1, he, fr⟩
set_option maxRecDepth 20000 in
set_option maxHeartbeats 4000000 in
theorem c_J4_init {X : KX} (hxs : X.1.stackTraces = false) (hg : GX X) {h0 : AH} {a : Nat} (he : h0.1 = a + 1) (f_o : h0.2 a = some (.inr (1, [.null, .int 0, .int 0, .int 0]))) : Ct X mJ4_init_da8c8 [.ref a] h0 (zM none (fun h' => h'.2 a = some (.inr (1, [.ref (a + 1), .int 0, .int 0, .int 0])) ∧ h'.2 (a + 1) = some (aL (kA X 2) (List.replicate 16 0)) ∧ h'.1 = a + 2 ∧ ∀ q, q < a → h'.2 q = h0.2 q)) := by
  have fr : ∀ q, q < a → h0.2 q = h0.2 q := fun _ _ => rfl
  refine Ct.of (by decide) rfl (Nat.le_of_ble_eq_true rfl) rfl hxs ?_
  refine V_aload_n dJ4_init_da8c8_0 0 rfl ?_
  refine V_bipush (v := 16) dJ4_init_da8c8_1 (by decide) ?_
  refine V_cI (As := [.int 16]) (rest := []) dJ4_init_da8c8_3 cvJ4_1 rfl rfl rfl (c_J5_init hxs hg he f_o) ⟨Nat.le_of_ble_eq_true rfl, Nat.le_of_ble_eq_true rfl, Nat.le_of_ble_eq_true rfl, Nat.le_of_ble_eq_true rfl⟩ (Nat.le_of_ble_eq_true rfl) rfl (fun h1 q1 => ?_)
  exact V_vret dJ4_init_da8c8_6 rfl ⟨Nat.le_of_ble_eq_true rfl, Nat.le_of_ble_eq_true rfl⟩ ⟨rfl, q1⟩
theorem ln_new {X : KX} {h : AH} {a : Nat} (h1 : h.2 a = some (.inr (1, [.ref (a + 1), .int 0, .int 0, .int 0]))) (h2 : h.2 (a + 1) = some (aL (kA X 2) (List.replicate 16 0))) (h3 : a + 2 ≤ h.1) : LnAt X h a [] ∧ SbV X h a (a + 1) (List.replicate 16 0) 0 0 := by
  have hb : SbV X h a (a + 1) (List.replicate 16 0) 0 0 := ⟨h1, h2, by omega, by omega, by omega, by simp, fun i => by
    have : (List.replicate 16 (0 : Int32)).getD i 0 = 0 := by
      simp only [List.getD_eq_getElem?_getD, List.getElem?_replicate]
      split <;> rfl
    rw [this]
    rfl⟩
  exact ⟨⟨_, 0, hb, List.length_replicate, ⟨Nat.zero_le _, fun i hi => absurd hi (Nat.not_lt_zero _), fun i hi => absurd hi (Nat.not_lt_zero _)⟩⟩, hb⟩
