/-! ===== the sheet: beats that pass ===== -/
def T_X6_closeMouths_L2 (beat : Int32) : Nat → Nat → List Int32 → List Int32
  | 0, i, mends0 => mends0
  | f + 1, i, mends0 => (if beat ≤ (rd mends0 (nI i)) then T_X6_closeMouths_L2 beat f (i + 1) mends0 else T_X6_closeMouths_L2 beat f (i + 1) (wr mends0 (nI i) (-1)))
def T_X6_closeMouths (mends : List Int32) (beat : Int32) : List Int32 := T_X6_closeMouths_L2 beat 6 0 mends
set_option maxRecDepth 20000 in
set_option maxHeartbeats 2000000 in
theorem w_X6_closeMouths {X : KX} (hxs : X.1.stackTraces = false) {h : AH} {s : Nat} {ids kinds players beats sizes lower higher od owed mends : List Int32} {root count perf nid beat act lim hend hbt happ clash imp paid : Int32} (hT : IsSheet X h s ids kinds players beats sizes lower higher od root count owed mends perf nid beat act lim hend hbt happ clash imp paid)  {Z : ZT} {K : List Int32 → Prop} (hK : ∀ (r : List Int32) (h' : AH), IsSheet X h' s ids kinds players beats sizes lower higher od root count owed r perf nid beat act lim hend hbt happ clash imp paid → Outs h h' s 12 → K r → Z (.inl none) h') (hz : K (T_X6_closeMouths mends beat)) : Ct X mX6_closeMouths [.ref s] h Z := by
  refine Ct.of (by decide) rfl (Nat.le_of_ble_eq_true rfl) rfl hxs ?_
  have L2 : ∀ (f i : Nat), ∀ (mends0 : List Int32), i + f = 6 → ∀ {h0 : AH}, IsSheet X h0 s ids kinds players beats sizes lower higher od root count owed mends0 perf nid beat act lim hend hbt happ clash imp paid → Outs h h0 s 12 → K (T_X6_closeMouths_L2 beat  f i mends0) → V X mX6_closeMouths (zF X mX6_closeMouths Z) 0 0 2 [(0, .ref s), (1, .int (nI i))] [] h0 := by
    intro f
    induction f with
    | zero =>
      intro i mends0 hi h0 hT0 hO0 hz
      obtain rfl : i = 6 := by omega
      rw [T_X6_closeMouths_L2] at hz
      try dsimp only [tb] at hz
      refine V_iload_n dX6_closeMouths_2 1 rfl ?_
      refine V_bipush (v := 6) dX6_closeMouths_3 (by decide) ?_
      refine V_icmp_ge (tgt := 34) dX6_closeMouths_5 (by decide) (fun _ => ?_) (fun c9 => absurd (by decide) c9)
      exact V_vret dX6_closeMouths_34 rfl ⟨Nat.le_of_ble_eq_true rfl, Nat.le_of_ble_eq_true rfl⟩ (hK mends0 _ hT0 hO0 hz)
    | succ f ih =>
      intro i mends0 hi h0 hT0 hO0 hz
      rw [T_X6_closeMouths_L2] at hz
      try dsimp only [tb] at hz
      refine V_iload_n dX6_closeMouths_2 1 rfl ?_
      refine V_bipush (v := 6) dX6_closeMouths_3 (by decide) ?_
      refine V_icmp_ge (tgt := 34) dX6_closeMouths_5 (by decide) (fun c9 => absurd c9 (nI_ge (a := i) (b := 6) (by omega) (by omega))) (fun _ => ?_)
      refine V_aload_n dX6_closeMouths_8 0 rfl ?_
      refine gf_sheet_mends hT0 dX6_closeMouths_9 flX6_22 ?_
      refine V_iload_n dX6_closeMouths_12 1 rfl ?_
      refine ld_sheet_mends hT0 dX6_closeMouths_13 (vp_in_nI (by omega) (by omega)) ?_
      refine V_aload_n dX6_closeMouths_14 0 rfl ?_
      refine gf_sheet_beat hT0 dX6_closeMouths_15 flX6_32 ?_
      refine V_icmp_ge (tgt := 28) dX6_closeMouths_18 (by decide) (fun c1 => ?_) (fun c1 => ?_)
      · rw [if_pos c1] at hz
        refine V_iinc (v := nI (i + 1)) (lv' := [(1, .int (nI (i + 1))), (0, .ref s)]) dX6_closeMouths_28 1 rfl (iinc1 i) (by decide) rfl ?_
        refine V_goto (tgt := 2) dX6_closeMouths_31 (by decide) ?_
        refine V.loc [1, 0] rfl ?_
        exact ih (i + 1) mends0 (by omega) hT0 hO0 hz
      · rw [if_neg c1] at hz
        refine V_aload_n dX6_closeMouths_21 0 rfl ?_
        refine gf_sheet_mends hT0 dX6_closeMouths_22 flX6_22 ?_
        refine V_iload_n dX6_closeMouths_25 1 rfl ?_
        refine V_iconst (v := (-1)) dX6_closeMouths_26 (by decide) ?_
        refine st_sheet_mends hT0 dX6_closeMouths_27 (vp_in_nI (by omega) (by omega)) (fun h2 hT2 hO2 => ?_)
        have hO2 := Outs.tr hO0 hO2
        refine V_iinc (v := nI (i + 1)) (lv' := [(1, .int (nI (i + 1))), (0, .ref s)]) dX6_closeMouths_28 1 rfl (iinc1 i) (by decide) rfl ?_
        refine V_goto (tgt := 2) dX6_closeMouths_31 (by decide) ?_
        refine V.loc [1, 0] rfl ?_
        exact ih (i + 1) (wr mends0 (nI i) (-1)) (by omega) hT2 hO2 hz
  unfold T_X6_closeMouths at hz
  try dsimp only [tb] at hz
  refine V_iconst (v := 0) dX6_closeMouths_0 (by decide) ?_
  refine V_istore_n (lv' := [(1, .int 0), (0, .ref s)]) dX6_closeMouths_1 rfl (by decide) rfl ?_
  refine V.loc [1, 0] rfl ?_
  exact L2 6 0 mends (by omega) hT Outs.rf hz
theorem c_X6_closeMouths {X : KX} (hxs : X.1.stackTraces = false) {h : AH} {s : Nat} {ids kinds players beats sizes lower higher od owed mends : List Int32} {root count perf nid beat act lim hend hbt happ clash imp paid : Int32} (hT : IsSheet X h s ids kinds players beats sizes lower higher od root count owed mends perf nid beat act lim hend hbt happ clash imp paid)  : Ct X mX6_closeMouths [.ref s] h (zM none (fun h' => IsSheet X h' s ids kinds players beats sizes lower higher od root count owed (T_X6_closeMouths mends beat) perf nid beat act lim hend hbt happ clash imp paid ∧ Outs h h' s 12)) := w_X6_closeMouths hxs hT   (K := fun r => r = T_X6_closeMouths mends beat) (fun r h' a b e => by subst e; exact ⟨rfl, a, b⟩) rfl
def T_X6_beginHushes_L2 (kinds : List Int32) (beats : List Int32) (sizes : List Int32) (od : List Int32) : Nat → Nat → Int32 → Int32
  | 0, i, hend0 => hend0
  | f + 1, i, hend0 => (if (T_X3_isKind kinds (rd od (nI i)) 104) = 0 then T_X6_beginHushes_L2 kinds beats sizes od f (i + 1) hend0 else T_X6_beginHushes_L2 kinds beats sizes od f (i + 1) (imax hend0 (T_X3_lastBeat beats sizes (rd od (nI i)))))
def T_X6_beginHushes (kinds : List Int32) (beats : List Int32) (sizes : List Int32) (od : List Int32) (hend : Int32) (due : Int32) : Int32 := T_X6_beginHushes_L2 kinds beats sizes od due.toNatClampNeg 0 hend
set_option maxRecDepth 20000 in
set_option maxHeartbeats 2000000 in
theorem w_X6_beginHushes {X : KX} (hxs : X.1.stackTraces = false) {h : AH} {s : Nat} {ids kinds players beats sizes lower higher od owed mends : List Int32} {root count perf nid beat act lim hend hbt happ clash imp paid : Int32} (hT : IsSheet X h s ids kinds players beats sizes lower higher od root count owed mends perf nid beat act lim hend hbt happ clash imp paid) (due : Int32) (hD : SmallN due 16) {Z : ZT} {K : Int32 → Prop} (hK : ∀ (r : Int32) (h' : AH), IsSheet X h' s ids kinds players beats sizes lower higher od root count owed mends perf nid beat act lim r hbt happ clash imp paid → Outs h h' s 12 → K r → Z (.inl none) h') (hz : K (T_X6_beginHushes kinds beats sizes od hend due)) : Ct X mX6_beginHushes [.ref s, .int due] h Z := by
  refine Ct.of (by decide) rfl (Nat.le_of_ble_eq_true rfl) rfl hxs ?_
  have hD2 := hD.2
  have L2 : ∀ (f i : Nat), ∀ (hend0 : Int32), i + f = due.toNatClampNeg → ∀ {h0 : AH}, IsSheet X h0 s ids kinds players beats sizes lower higher od root count owed mends perf nid beat act lim hend0 hbt happ clash imp paid → Outs h h0 s 12 → K (T_X6_beginHushes_L2 kinds beats sizes od  f i hend0) → V X mX6_beginHushes (zF X mX6_beginHushes Z) 0 0 2 [(0, .ref s), (1, .int due), (2, .int (nI i))] [] h0 := by
    intro f
    induction f with
    | zero =>
      intro i hend0 hi h0 hT0 hO0 hz
      have ei : i = due.toNatClampNeg := by omega
      subst ei
      rw [T_X6_beginHushes_L2] at hz
      try dsimp only [tb] at hz
      refine V_iload_n dX6_beginHushes_2 2 rfl ?_
      refine V_iload_n dX6_beginHushes_3 1 rfl ?_
      refine V_icmp_ge (tgt := 61) dX6_beginHushes_4 (by decide) (fun _ => ?_) (fun c9 => absurd (sm_le hD) c9)
      exact V_vret dX6_beginHushes_61 rfl ⟨Nat.le_of_ble_eq_true rfl, Nat.le_of_ble_eq_true rfl⟩ (hK hend0 _ hT0 hO0 hz)
    | succ f ih =>
      intro i hend0 hi h0 hT0 hO0 hz
      rw [T_X6_beginHushes_L2] at hz
      try dsimp only [tb] at hz
      refine V_iload_n dX6_beginHushes_2 2 rfl ?_
      refine V_iload_n dX6_beginHushes_3 1 rfl ?_
      refine V_icmp_ge (tgt := 61) dX6_beginHushes_4 (by decide) (fun c9 => absurd c9 (sm_ge hD (by omega) (by decide))) (fun _ => ?_)
      refine V_iload_n dX6_beginHushes_7 2 rfl ?_
      refine V_bipush (v := 16) dX6_beginHushes_8 (by decide) ?_
      refine V_icmp_ge (tgt := 61) dX6_beginHushes_10 (by decide) (fun c9 => absurd c9 (nI_ge (a := i) (b := 16) (by omega) (by omega))) (fun _ => ?_)
      refine V_aload_n dX6_beginHushes_13 0 rfl ?_
      refine gf_sheet_cues hT0 dX6_beginHushes_14 flX6_12 ?_
      refine gf_tree_od hT0.2.1 dX6_beginHushes_17 flX6_152 ?_
      refine V_iload_n dX6_beginHushes_20 2 rfl ?_
      refine ld_tree_od hT0.2.1 dX6_beginHushes_21 (vp_in_nI (by omega) (by omega)) ?_
      refine V_istore_n (lv' := [(3, .int (rd od (nI i))), (0, .ref s), (1, .int due), (2, .int (nI i))]) dX6_beginHushes_22 rfl (by decide) rfl ?_
      refine V_aload_n dX6_beginHushes_23 1 rfl ?_
      refine gf_sheet_cues hT0 dX6_beginHushes_24 flX6_12 ?_
      refine V_iload_n dX6_beginHushes_27 0 rfl ?_
      refine V_bipush (v := 104) dX6_beginHushes_28 (by decide) ?_
      refine V_cVi (As := [.int (rd od (nI i)), .int 104]) (rest := []) dX6_beginHushes_30 cvX6_155 (c_X3_isKind hxs hT0.2.1 (rd od (nI i)) 104 ) hT0.2.1.1 rfl ⟨Nat.le_of_ble_eq_true rfl, Nat.le_of_ble_eq_true rfl, Nat.le_of_ble_eq_true rfl, Nat.le_of_ble_eq_true rfl⟩ (Nat.le_of_ble_eq_true rfl) rfl ?_
      refine V_if_eq (tgt := 55) dX6_beginHushes_33 (by decide) (fun c2 => ?_) (fun c2 => ?_)
      · rw [if_pos c2] at hz
        refine V_iinc (v := nI (i + 1)) (lv' := [(2, .int (nI (i + 1))), (3, .int (rd od (nI i))), (0, .ref s), (1, .int due)]) dX6_beginHushes_55 3 rfl (iinc1 i) (by decide) rfl ?_
        refine V_goto (tgt := 2) dX6_beginHushes_58 (by decide) ?_
        refine V.loc [2, 3, 0] rfl ?_
        exact ih (i + 1) hend0 (by omega) hT0 hO0 hz
      · rw [if_neg c2] at hz
        refine V_aload_n dX6_beginHushes_36 1 rfl ?_
        refine V_aload_n dX6_beginHushes_37 1 rfl ?_
        refine gf_sheet_hend hT0 dX6_beginHushes_38 flX6_41 ?_
        refine V_aload_n dX6_beginHushes_41 1 rfl ?_
        refine gf_sheet_cues hT0 dX6_beginHushes_42 flX6_12 ?_
        refine V_iload_n dX6_beginHushes_45 0 rfl ?_
        refine V_cVi (As := [.int (rd od (nI i))]) (rest := [.int hend0, .ref s]) dX6_beginHushes_46 cvX6_159 (c_X3_lastBeat hxs hT0.2.1 (rd od (nI i)) (by first | assumption | exact isSlot_in (by assumption) | exact hasPerf_in (by assumption) | exact isKind_in (by assumption) | exact in16c (by assumption) (by assumption) | exact in6c (by assumption) (by assumption) | exact Or.resolve_left (by assumption) (by assumption))) hT0.2.1.1 rfl ⟨Nat.le_of_ble_eq_true rfl, Nat.le_of_ble_eq_true rfl, Nat.le_of_ble_eq_true rfl, Nat.le_of_ble_eq_true rfl⟩ (Nat.le_of_ble_eq_true rfl) rfl ?_
        refine V_mmax dX6_beginHushes_49 mlX6_162 wMax ⟨Nat.le_of_ble_eq_true rfl, Nat.le_of_ble_eq_true rfl, Nat.le_of_ble_eq_true rfl, Nat.le_of_ble_eq_true rfl⟩ ?_
        refine pf_sheet_hend hT0 dX6_beginHushes_52 flX6_41 (fun h4 hT4 hO4 => ?_)
        have hO4 := Outs.tr hO0 hO4
        refine V_iinc (v := nI (i + 1)) (lv' := [(2, .int (nI (i + 1))), (3, .int (rd od (nI i))), (0, .ref s), (1, .int due)]) dX6_beginHushes_55 3 rfl (iinc1 i) (by decide) rfl ?_
        refine V_goto (tgt := 2) dX6_beginHushes_58 (by decide) ?_
        refine V.loc [2, 3, 0] rfl ?_
        exact ih (i + 1) (imax hend0 (T_X3_lastBeat beats sizes (rd od (nI i)))) (by omega) hT4 hO4 hz
  unfold T_X6_beginHushes at hz
  try dsimp only [tb] at hz
  refine V_iconst (v := 0) dX6_beginHushes_0 (by decide) ?_
  refine V_istore_n (lv' := [(2, .int 0), (0, .ref s), (1, .int due)]) dX6_beginHushes_1 rfl (by decide) rfl ?_
  refine V.loc [1, 2, 0] rfl ?_
  exact L2 due.toNatClampNeg 0 hend (by omega) hT Outs.rf hz
theorem c_X6_beginHushes {X : KX} (hxs : X.1.stackTraces = false) {h : AH} {s : Nat} {ids kinds players beats sizes lower higher od owed mends : List Int32} {root count perf nid beat act lim hend hbt happ clash imp paid : Int32} (hT : IsSheet X h s ids kinds players beats sizes lower higher od root count owed mends perf nid beat act lim hend hbt happ clash imp paid) (due : Int32) (hD : SmallN due 16) : Ct X mX6_beginHushes [.ref s, .int due] h (zM none (fun h' => IsSheet X h' s ids kinds players beats sizes lower higher od root count owed mends perf nid beat act lim (T_X6_beginHushes kinds beats sizes od hend due) hbt happ clash imp paid ∧ Outs h h' s 12)) := w_X6_beginHushes hxs hT due hD (K := fun r => r = T_X6_beginHushes kinds beats sizes od hend due) (fun r h' a b e => by subst e; exact ⟨rfl, a, b⟩) rfl
def T_X6_openMouth (mends : List Int32) (perf : Int32) (clash : Int32) (performer : Int32) (lastBeat : Int32) : List Int32 × Int32 := (if (T_X6_hasPerformer perf performer) = 0 then (mends, clash) else (if (rd mends performer) = (-1) then ((wr mends performer (imax (rd mends performer) lastBeat)), clash) else ((wr mends performer (imax (rd mends performer) lastBeat)), (clash + 1))))
set_option maxRecDepth 20000 in
set_option maxHeartbeats 2000000 in
theorem w_X6_openMouth {X : KX} (hxs : X.1.stackTraces = false) {h : AH} {s : Nat} {ids kinds players beats sizes lower higher od owed mends : List Int32} {root count perf nid beat act lim hend hbt happ clash imp paid : Int32} (hT : IsSheet X h s ids kinds players beats sizes lower higher od root count owed mends perf nid beat act lim hend hbt happ clash imp paid) (performer : Int32) (lastBeat : Int32) {Z : ZT} {K : List Int32 × Int32 → Prop} (hK : ∀ (r : List Int32 × Int32) (h' : AH), IsSheet X h' s ids kinds players beats sizes lower higher od root count owed (r.1) perf nid beat act lim hend hbt happ (r.2) imp paid → Outs h h' s 12 → K r → Z (.inl none) h') (hz : K (T_X6_openMouth mends perf clash performer lastBeat)) : Ct X mX6_openMouth [.ref s, .int performer, .int lastBeat] h Z := by
  refine Ct.of (by decide) rfl (Nat.le_of_ble_eq_true rfl) rfl hxs ?_
  unfold T_X6_openMouth at hz
  try dsimp only [tb] at hz
  refine V_aload_n dX6_openMouth_0 0 rfl ?_
  refine V_iload_n dX6_openMouth_1 1 rfl ?_
  refine V_cVi (As := [.int performer]) (rest := []) dX6_openMouth_2 cvX6_75 (c_X6_hasPerformer hxs hT performer ) hT.1 rfl ⟨Nat.le_of_ble_eq_true rfl, Nat.le_of_ble_eq_true rfl, Nat.le_of_ble_eq_true rfl, Nat.le_of_ble_eq_true rfl⟩ (Nat.le_of_ble_eq_true rfl) rfl ?_
  refine V_if_ne (tgt := 9) dX6_openMouth_5 (by decide) (fun c2 => ?_) (fun c2 => ?_)
  · rw [if_neg c2] at hz
    refine V_aload_n dX6_openMouth_9 0 rfl ?_
    refine gf_sheet_mends hT dX6_openMouth_10 flX6_22 ?_
    refine V_iload_n dX6_openMouth_13 1 rfl ?_
    refine ld_sheet_mends hT dX6_openMouth_14 (by first | assumption | exact isSlot_in (by assumption) | exact hasPerf_in (by assumption) | exact isKind_in (by assumption) | exact in16c (by assumption) (by assumption) | exact in6c (by assumption) (by assumption) | exact Or.resolve_left (by assumption) (by assumption)) ?_
    refine V_iconst (v := (-1)) dX6_openMouth_15 (by decide) ?_
    refine V_icmp_eq (tgt := 29) dX6_openMouth_16 (by decide) (fun c3 => ?_) (fun c3 => ?_)
    · rw [if_pos c3] at hz
      refine V_aload_n dX6_openMouth_29 0 rfl ?_
      refine gf_sheet_mends hT dX6_openMouth_30 flX6_22 ?_
      refine V_iload_n dX6_openMouth_33 1 rfl ?_
      refine V_aload_n dX6_openMouth_34 0 rfl ?_
      refine gf_sheet_mends hT dX6_openMouth_35 flX6_22 ?_
      refine V_iload_n dX6_openMouth_38 1 rfl ?_
      refine ld_sheet_mends hT dX6_openMouth_39 (by first | assumption | exact isSlot_in (by assumption) | exact hasPerf_in (by assumption) | exact isKind_in (by assumption) | exact in16c (by assumption) (by assumption) | exact in6c (by assumption) (by assumption) | exact Or.resolve_left (by assumption) (by assumption)) ?_
      refine V_iload_n dX6_openMouth_40 2 rfl ?_
      refine V_mmax dX6_openMouth_41 mlX6_162 wMax ⟨Nat.le_of_ble_eq_true rfl, Nat.le_of_ble_eq_true rfl, Nat.le_of_ble_eq_true rfl, Nat.le_of_ble_eq_true rfl⟩ ?_
      refine st_sheet_mends hT dX6_openMouth_44 (by first | assumption | exact isSlot_in (by assumption) | exact hasPerf_in (by assumption) | exact isKind_in (by assumption) | exact in16c (by assumption) (by assumption) | exact in6c (by assumption) (by assumption) | exact Or.resolve_left (by assumption) (by assumption)) (fun h4 hT4 hO4 => ?_)
      exact V_vret dX6_openMouth_45 rfl ⟨Nat.le_of_ble_eq_true rfl, Nat.le_of_ble_eq_true rfl⟩ (hK ((wr mends performer (imax (rd mends performer) lastBeat)), clash) _ hT4 hO4 hz)
    · rw [if_neg c3] at hz
      refine V_aload_n dX6_openMouth_19 0 rfl ?_
      refine V_dup dX6_openMouth_20 rfl ?_
      refine gf_sheet_clash hT dX6_openMouth_21 flX6_50 ?_
      refine V_iconst (v := 1) dX6_openMouth_24 (by decide) ?_
      refine V_iadd dX6_openMouth_25 ?_
      refine pf_sheet_clash hT dX6_openMouth_26 flX6_50 (fun h5 hT5 hO5 => ?_)
      refine V_aload_n dX6_openMouth_29 0 rfl ?_
      refine gf_sheet_mends hT5 dX6_openMouth_30 flX6_22 ?_
      refine V_iload_n dX6_openMouth_33 1 rfl ?_
      refine V_aload_n dX6_openMouth_34 0 rfl ?_
      refine gf_sheet_mends hT5 dX6_openMouth_35 flX6_22 ?_
      refine V_iload_n dX6_openMouth_38 1 rfl ?_
      refine ld_sheet_mends hT5 dX6_openMouth_39 (by first | assumption | exact isSlot_in (by assumption) | exact hasPerf_in (by assumption) | exact isKind_in (by assumption) | exact in16c (by assumption) (by assumption) | exact in6c (by assumption) (by assumption) | exact Or.resolve_left (by assumption) (by assumption)) ?_
      refine V_iload_n dX6_openMouth_40 2 rfl ?_
      refine V_mmax dX6_openMouth_41 mlX6_162 wMax ⟨Nat.le_of_ble_eq_true rfl, Nat.le_of_ble_eq_true rfl, Nat.le_of_ble_eq_true rfl, Nat.le_of_ble_eq_true rfl⟩ ?_
      refine st_sheet_mends hT5 dX6_openMouth_44 (by first | assumption | exact isSlot_in (by assumption) | exact hasPerf_in (by assumption) | exact isKind_in (by assumption) | exact in16c (by assumption) (by assumption) | exact in6c (by assumption) (by assumption) | exact Or.resolve_left (by assumption) (by assumption)) (fun h6 hT6 hO6 => ?_)
      have hO6 := Outs.tr hO5 hO6
      exact V_vret dX6_openMouth_45 rfl ⟨Nat.le_of_ble_eq_true rfl, Nat.le_of_ble_eq_true rfl⟩ (hK ((wr mends performer (imax (rd mends performer) lastBeat)), (clash + 1)) _ hT6 hO6 hz)
  · rw [if_pos c2] at hz
    exact V_vret dX6_openMouth_8 rfl ⟨Nat.le_of_ble_eq_true rfl, Nat.le_of_ble_eq_true rfl⟩ (hK (mends, clash) _ hT Outs.rf hz)
theorem c_X6_openMouth {X : KX} (hxs : X.1.stackTraces = false) {h : AH} {s : Nat} {ids kinds players beats sizes lower higher od owed mends : List Int32} {root count perf nid beat act lim hend hbt happ clash imp paid : Int32} (hT : IsSheet X h s ids kinds players beats sizes lower higher od root count owed mends perf nid beat act lim hend hbt happ clash imp paid) (performer : Int32) (lastBeat : Int32) : Ct X mX6_openMouth [.ref s, .int performer, .int lastBeat] h (zM none (fun h' => IsSheet X h' s ids kinds players beats sizes lower higher od root count owed (T_X6_openMouth mends perf clash performer lastBeat).1 perf nid beat act lim hend hbt happ (T_X6_openMouth mends perf clash performer lastBeat).2 imp paid ∧ Outs h h' s 12)) := w_X6_openMouth hxs hT performer lastBeat  (K := fun r => r = T_X6_openMouth mends perf clash performer lastBeat) (fun r h' a b e => by subst e; exact ⟨rfl, a, b⟩) rfl
def T_X6_openMouths_L2 (kinds : List Int32) (players : List Int32) (beats : List Int32) (sizes : List Int32) (od : List Int32) (perf : Int32) : Nat → Nat → List Int32 → Int32 → List Int32 × Int32
  | 0, i, mends0, clash0 => (mends0, clash0)
  | f + 1, i, mends0, clash0 => (if (T_X3_isKind kinds (rd od (nI i)) 109) = 0 then T_X6_openMouths_L2 kinds players beats sizes od perf f (i + 1) mends0 clash0 else T_X6_openMouths_L2 kinds players beats sizes od perf f (i + 1) ((T_X6_openMouth mends0 perf clash0 (rd players (rd od (nI i))) (T_X3_lastBeat beats sizes (rd od (nI i)))).1) ((T_X6_openMouth mends0 perf clash0 (rd players (rd od (nI i))) (T_X3_lastBeat beats sizes (rd od (nI i)))).2))
def T_X6_openMouths (kinds : List Int32) (players : List Int32) (beats : List Int32) (sizes : List Int32) (od : List Int32) (mends : List Int32) (perf : Int32) (clash : Int32) (due : Int32) : List Int32 × Int32 := T_X6_openMouths_L2 kinds players beats sizes od perf due.toNatClampNeg 0 mends clash
set_option maxRecDepth 20000 in
set_option maxHeartbeats 2000000 in
theorem w_X6_openMouths {X : KX} (hxs : X.1.stackTraces = false) {h : AH} {s : Nat} {ids kinds players beats sizes lower higher od owed mends : List Int32} {root count perf nid beat act lim hend hbt happ clash imp paid : Int32} (hT : IsSheet X h s ids kinds players beats sizes lower higher od root count owed mends perf nid beat act lim hend hbt happ clash imp paid) (due : Int32) (hD : SmallN due 16) {Z : ZT} {K : List Int32 × Int32 → Prop} (hK : ∀ (r : List Int32 × Int32) (h' : AH), IsSheet X h' s ids kinds players beats sizes lower higher od root count owed (r.1) perf nid beat act lim hend hbt happ (r.2) imp paid → Outs h h' s 12 → K r → Z (.inl none) h') (hz : K (T_X6_openMouths kinds players beats sizes od mends perf clash due)) : Ct X mX6_openMouths [.ref s, .int due] h Z := by
  refine Ct.of (by decide) rfl (Nat.le_of_ble_eq_true rfl) rfl hxs ?_
  have hD2 := hD.2
  have L2 : ∀ (f i : Nat), ∀ (mends0 : List Int32), ∀ (clash0 : Int32), i + f = due.toNatClampNeg → ∀ {h0 : AH}, IsSheet X h0 s ids kinds players beats sizes lower higher od root count owed mends0 perf nid beat act lim hend hbt happ clash0 imp paid → Outs h h0 s 12 → K (T_X6_openMouths_L2 kinds players beats sizes od perf  f i mends0 clash0) → V X mX6_openMouths (zF X mX6_openMouths Z) 0 0 2 [(0, .ref s), (1, .int due), (2, .int (nI i))] [] h0 := by
    intro f
    induction f with
    | zero =>
      intro i mends0 clash0 hi h0 hT0 hO0 hz
      have ei : i = due.toNatClampNeg := by omega
      subst ei
      rw [T_X6_openMouths_L2] at hz
      try dsimp only [tb] at hz
      refine V_iload_n dX6_openMouths_2 2 rfl ?_
      refine V_iload_n dX6_openMouths_3 1 rfl ?_
      refine V_icmp_ge (tgt := 63) dX6_openMouths_4 (by decide) (fun _ => ?_) (fun c9 => absurd (sm_le hD) c9)
      exact V_vret dX6_openMouths_63 rfl ⟨Nat.le_of_ble_eq_true rfl, Nat.le_of_ble_eq_true rfl⟩ (hK (mends0, clash0) _ hT0 hO0 hz)
    | succ f ih =>
      intro i mends0 clash0 hi h0 hT0 hO0 hz
      rw [T_X6_openMouths_L2] at hz
      try dsimp only [tb] at hz
      refine V_iload_n dX6_openMouths_2 2 rfl ?_
      refine V_iload_n dX6_openMouths_3 1 rfl ?_
      refine V_icmp_ge (tgt := 63) dX6_openMouths_4 (by decide) (fun c9 => absurd c9 (sm_ge hD (by omega) (by decide))) (fun _ => ?_)
      refine V_iload_n dX6_openMouths_7 2 rfl ?_
      refine V_bipush (v := 16) dX6_openMouths_8 (by decide) ?_
      refine V_icmp_ge (tgt := 63) dX6_openMouths_10 (by decide) (fun c9 => absurd c9 (nI_ge (a := i) (b := 16) (by omega) (by omega))) (fun _ => ?_)
      refine V_aload_n dX6_openMouths_13 0 rfl ?_
      refine gf_sheet_cues hT0 dX6_openMouths_14 flX6_12 ?_
      refine gf_tree_od hT0.2.1 dX6_openMouths_17 flX6_152 ?_
      refine V_iload_n dX6_openMouths_20 2 rfl ?_
      refine ld_tree_od hT0.2.1 dX6_openMouths_21 (vp_in_nI (by omega) (by omega)) ?_
      refine V_istore_n (lv' := [(3, .int (rd od (nI i))), (0, .ref s), (1, .int due), (2, .int (nI i))]) dX6_openMouths_22 rfl (by decide) rfl ?_
      refine V_aload_n dX6_openMouths_23 1 rfl ?_
      refine gf_sheet_cues hT0 dX6_openMouths_24 flX6_12 ?_
      refine V_iload_n dX6_openMouths_27 0 rfl ?_
      refine V_bipush (v := 109) dX6_openMouths_28 (by decide) ?_
      refine V_cVi (As := [.int (rd od (nI i)), .int 109]) (rest := []) dX6_openMouths_30 cvX6_155 (c_X3_isKind hxs hT0.2.1 (rd od (nI i)) 109 ) hT0.2.1.1 rfl ⟨Nat.le_of_ble_eq_true rfl, Nat.le_of_ble_eq_true rfl, Nat.le_of_ble_eq_true rfl, Nat.le_of_ble_eq_true rfl⟩ (Nat.le_of_ble_eq_true rfl) rfl ?_
      refine V_if_eq (tgt := 57) dX6_openMouths_33 (by decide) (fun c2 => ?_) (fun c2 => ?_)
      · rw [if_pos c2] at hz
        refine V_iinc (v := nI (i + 1)) (lv' := [(2, .int (nI (i + 1))), (3, .int (rd od (nI i))), (0, .ref s), (1, .int due)]) dX6_openMouths_57 3 rfl (iinc1 i) (by decide) rfl ?_
        refine V_goto (tgt := 2) dX6_openMouths_60 (by decide) ?_
        refine V.loc [2, 3, 0] rfl ?_
        exact ih (i + 1) mends0 clash0 (by omega) hT0 hO0 hz
      · rw [if_neg c2] at hz
        refine V_aload_n dX6_openMouths_36 1 rfl ?_
        refine V_aload_n dX6_openMouths_37 1 rfl ?_
        refine gf_sheet_cues hT0 dX6_openMouths_38 flX6_12 ?_
        refine gf_tree_players hT0.2.1 dX6_openMouths_41 flX6_168 ?_
        refine V_iload_n dX6_openMouths_44 0 rfl ?_
        refine ld_tree_players hT0.2.1 dX6_openMouths_45 (by first | assumption | exact isSlot_in (by assumption) | exact hasPerf_in (by assumption) | exact isKind_in (by assumption) | exact in16c (by assumption) (by assumption) | exact in6c (by assumption) (by assumption) | exact Or.resolve_left (by assumption) (by assumption)) ?_
        refine V_aload_n dX6_openMouths_46 1 rfl ?_
        refine gf_sheet_cues hT0 dX6_openMouths_47 flX6_12 ?_
        refine V_iload_n dX6_openMouths_50 0 rfl ?_
        refine V_cVi (As := [.int (rd od (nI i))]) (rest := [.int (rd players (rd od (nI i))), .ref s]) dX6_openMouths_51 cvX6_159 (c_X3_lastBeat hxs hT0.2.1 (rd od (nI i)) (by first | assumption | exact isSlot_in (by assumption) | exact hasPerf_in (by assumption) | exact isKind_in (by assumption) | exact in16c (by assumption) (by assumption) | exact in6c (by assumption) (by assumption) | exact Or.resolve_left (by assumption) (by assumption))) hT0.2.1.1 rfl ⟨Nat.le_of_ble_eq_true rfl, Nat.le_of_ble_eq_true rfl, Nat.le_of_ble_eq_true rfl, Nat.le_of_ble_eq_true rfl⟩ (Nat.le_of_ble_eq_true rfl) rfl ?_
        refine V_cVmv (As := [.int (rd players (rd od (nI i))), .int (T_X3_lastBeat beats sizes (rd od (nI i)))]) (rest := []) dX6_openMouths_54 cvX6_171 (c_X6_openMouth hxs hT0 (rd players (rd od (nI i))) (T_X3_lastBeat beats sizes (rd od (nI i))) ) hT0.1 rfl ⟨Nat.le_of_ble_eq_true rfl, Nat.le_of_ble_eq_true rfl, Nat.le_of_ble_eq_true rfl, Nat.le_of_ble_eq_true rfl⟩ (Nat.le_of_ble_eq_true rfl) rfl (fun h9 q9 => ?_)
        obtain ⟨hT9, hO9⟩ := q9
        have hT4 := hT9
        have hO4 := Outs.tr hO0 hO9
        refine V_iinc (v := nI (i + 1)) (lv' := [(2, .int (nI (i + 1))), (3, .int (rd od (nI i))), (0, .ref s), (1, .int due)]) dX6_openMouths_57 3 rfl (iinc1 i) (by decide) rfl ?_
        refine V_goto (tgt := 2) dX6_openMouths_60 (by decide) ?_
        refine V.loc [2, 3, 0] rfl ?_
        exact ih (i + 1) ((T_X6_openMouth mends0 perf clash0 (rd players (rd od (nI i))) (T_X3_lastBeat beats sizes (rd od (nI i)))).1) ((T_X6_openMouth mends0 perf clash0 (rd players (rd od (nI i))) (T_X3_lastBeat beats sizes (rd od (nI i)))).2) (by omega) hT4 hO4 hz
  unfold T_X6_openMouths at hz
  try dsimp only [tb] at hz
  refine V_iconst (v := 0) dX6_openMouths_0 (by decide) ?_
  refine V_istore_n (lv' := [(2, .int 0), (0, .ref s), (1, .int due)]) dX6_openMouths_1 rfl (by decide) rfl ?_
  refine V.loc [1, 2, 0] rfl ?_
  exact L2 due.toNatClampNeg 0 mends clash (by omega) hT Outs.rf hz
theorem c_X6_openMouths {X : KX} (hxs : X.1.stackTraces = false) {h : AH} {s : Nat} {ids kinds players beats sizes lower higher od owed mends : List Int32} {root count perf nid beat act lim hend hbt happ clash imp paid : Int32} (hT : IsSheet X h s ids kinds players beats sizes lower higher od root count owed mends perf nid beat act lim hend hbt happ clash imp paid) (due : Int32) (hD : SmallN due 16) : Ct X mX6_openMouths [.ref s, .int due] h (zM none (fun h' => IsSheet X h' s ids kinds players beats sizes lower higher od root count owed (T_X6_openMouths kinds players beats sizes od mends perf clash due).1 perf nid beat act lim hend hbt happ (T_X6_openMouths kinds players beats sizes od mends perf clash due).2 imp paid ∧ Outs h h' s 12)) := w_X6_openMouths hxs hT due hD (K := fun r => r = T_X6_openMouths kinds players beats sizes od mends perf clash due) (fun r h' a b e => by subst e; exact ⟨rfl, a, b⟩) rfl
def T_X6_dropProps_L37 (kinds : List Int32) (players : List Int32) (sizes : List Int32) (od : List Int32) (perf : Int32) : Nat → Nat → List Int32 → Int32 → List Int32 × Int32
  | 0, i, owed0, imp0 => (owed0, imp0)
  | f + 1, i, owed0, imp0 => (if (T_X3_isKind kinds (rd od (nI i)) 112) = 0 then T_X6_dropProps_L37 kinds players sizes od perf f (i + 1) owed0 imp0 else T_X6_dropProps_L37 kinds players sizes od perf f (i + 1) ((T_X6_impose owed0 perf imp0 (rd players (rd od (nI i))) (rd sizes (rd od (nI i)))).1) ((T_X6_impose owed0 perf imp0 (rd players (rd od (nI i))) (rd sizes (rd od (nI i)))).2))
def T_X6_dropProps (kinds : List Int32) (players : List Int32) (beats : List Int32) (sizes : List Int32) (od : List Int32) (owed : List Int32) (perf : Int32) (beat : Int32) (lim : Int32) (hend : Int32) (imp : Int32) (due : Int32) : List Int32 × Int32 := (if hend < beat then (if (T_X6_isTooLoud lim (T_X3_noiseOn kinds beats sizes beat) 0) = 0 then (owed, imp) else T_X6_dropProps_L37 kinds players sizes od perf due.toNatClampNeg 0 owed imp) else (if (T_X6_isTooLoud lim (T_X3_noiseOn kinds beats sizes beat) 1) = 0 then (owed, imp) else T_X6_dropProps_L37 kinds players sizes od perf due.toNatClampNeg 0 owed imp))
set_option maxRecDepth 20000 in
set_option maxHeartbeats 2000000 in
theorem w_X6_dropProps {X : KX} (hxs : X.1.stackTraces = false) {h : AH} {s : Nat} {ids kinds players beats sizes lower higher od owed mends : List Int32} {root count perf nid beat act lim hend hbt happ clash imp paid : Int32} (hT : IsSheet X h s ids kinds players beats sizes lower higher od root count owed mends perf nid beat act lim hend hbt happ clash imp paid) (due : Int32) (hD : SmallN due 16) {Z : ZT} {K : List Int32 × Int32 → Prop} (hK : ∀ (r : List Int32 × Int32) (h' : AH), IsSheet X h' s ids kinds players beats sizes lower higher od root count (r.1) mends perf nid beat act lim hend hbt happ clash (r.2) paid → Outs h h' s 12 → K r → Z (.inl none) h') (hz : K (T_X6_dropProps kinds players beats sizes od owed perf beat lim hend imp due)) : Ct X mX6_dropProps [.ref s, .int due] h Z := by
  refine Ct.of (by decide) rfl (Nat.le_of_ble_eq_true rfl) rfl hxs ?_
  have hD2 := hD.2
  have L37 : ∀ (f i : Nat), ∀ (owed0 : List Int32), ∀ (imp0 : Int32), i + f = due.toNatClampNeg → ∀ {h0 : AH}, IsSheet X h0 s ids kinds players beats sizes lower higher od root count owed0 mends perf nid beat act lim hend hbt happ clash imp0 paid → Outs h h0 s 12 → K (T_X6_dropProps_L37 kinds players sizes od perf  f i owed0 imp0) → V X mX6_dropProps (zF X mX6_dropProps Z) 0 0 37 [(0, .ref s), (1, .int due), (2, .int (nI i))] [] h0 := by
    intro f
    induction f with
    | zero =>
      intro i owed0 imp0 hi h0 hT0 hO0 hz
      have ei : i = due.toNatClampNeg := by omega
      subst ei
      rw [T_X6_dropProps_L37] at hz
      try dsimp only [tb] at hz
      refine V_iload_n dX6_dropProps_37 2 rfl ?_
      refine V_iload_n dX6_dropProps_38 1 rfl ?_
      refine V_icmp_ge (tgt := 99) dX6_dropProps_39 (by decide) (fun _ => ?_) (fun c9 => absurd (sm_le hD) c9)
      exact V_vret dX6_dropProps_99 rfl ⟨Nat.le_of_ble_eq_true rfl, Nat.le_of_ble_eq_true rfl⟩ (hK (owed0, imp0) _ hT0 hO0 hz)
    | succ f ih =>
      intro i owed0 imp0 hi h0 hT0 hO0 hz
      rw [T_X6_dropProps_L37] at hz
      try dsimp only [tb] at hz
      refine V_iload_n dX6_dropProps_37 2 rfl ?_
      refine V_iload_n dX6_dropProps_38 1 rfl ?_
      refine V_icmp_ge (tgt := 99) dX6_dropProps_39 (by decide) (fun c9 => absurd c9 (sm_ge hD (by omega) (by decide))) (fun _ => ?_)
      refine V_iload_n dX6_dropProps_42 2 rfl ?_
      refine V_bipush (v := 16) dX6_dropProps_43 (by decide) ?_
      refine V_icmp_ge (tgt := 99) dX6_dropProps_45 (by decide) (fun c9 => absurd c9 (nI_ge (a := i) (b := 16) (by omega) (by omega))) (fun _ => ?_)
      refine V_aload_n dX6_dropProps_48 0 rfl ?_
      refine gf_sheet_cues hT0 dX6_dropProps_49 flX6_12 ?_
      refine gf_tree_od hT0.2.1 dX6_dropProps_52 flX6_152 ?_
      refine V_iload_n dX6_dropProps_55 2 rfl ?_
      refine ld_tree_od hT0.2.1 dX6_dropProps_56 (vp_in_nI (by omega) (by omega)) ?_
      refine V_istore_n (lv' := [(3, .int (rd od (nI i))), (0, .ref s), (1, .int due), (2, .int (nI i))]) dX6_dropProps_57 rfl (by decide) rfl ?_
      refine V_aload_n dX6_dropProps_58 1 rfl ?_
      refine gf_sheet_cues hT0 dX6_dropProps_59 flX6_12 ?_
      refine V_iload_n dX6_dropProps_62 0 rfl ?_
      refine V_bipush (v := 112) dX6_dropProps_63 (by decide) ?_
      refine V_cVi (As := [.int (rd od (nI i)), .int 112]) (rest := []) dX6_dropProps_65 cvX6_155 (c_X3_isKind hxs hT0.2.1 (rd od (nI i)) 112 ) hT0.2.1.1 rfl ⟨Nat.le_of_ble_eq_true rfl, Nat.le_of_ble_eq_true rfl, Nat.le_of_ble_eq_true rfl, Nat.le_of_ble_eq_true rfl⟩ (Nat.le_of_ble_eq_true rfl) rfl ?_
      refine V_if_eq (tgt := 93) dX6_dropProps_68 (by decide) (fun c6 => ?_) (fun c6 => ?_)
      · rw [if_pos c6] at hz
        refine V_iinc (v := nI (i + 1)) (lv' := [(2, .int (nI (i + 1))), (3, .int (rd od (nI i))), (0, .ref s), (1, .int due)]) dX6_dropProps_93 3 rfl (iinc1 i) (by decide) rfl ?_
        refine V_goto (tgt := 37) dX6_dropProps_96 (by decide) ?_
        refine V.loc [2, 3, 0] rfl ?_
        exact ih (i + 1) owed0 imp0 (by omega) hT0 hO0 hz
      · rw [if_neg c6] at hz
        refine V_aload_n dX6_dropProps_71 1 rfl ?_
        refine V_aload_n dX6_dropProps_72 1 rfl ?_
        refine gf_sheet_cues hT0 dX6_dropProps_73 flX6_12 ?_
        refine gf_tree_players hT0.2.1 dX6_dropProps_76 flX6_168 ?_
        refine V_iload_n dX6_dropProps_79 0 rfl ?_
        refine ld_tree_players hT0.2.1 dX6_dropProps_80 (by first | assumption | exact isSlot_in (by assumption) | exact hasPerf_in (by assumption) | exact isKind_in (by assumption) | exact in16c (by assumption) (by assumption) | exact in6c (by assumption) (by assumption) | exact Or.resolve_left (by assumption) (by assumption)) ?_
        refine V_aload_n dX6_dropProps_81 1 rfl ?_
        refine gf_sheet_cues hT0 dX6_dropProps_82 flX6_12 ?_
        refine gf_tree_sizes hT0.2.1 dX6_dropProps_85 flX6_181 ?_
        refine V_iload_n dX6_dropProps_88 0 rfl ?_
        refine ld_tree_sizes hT0.2.1 dX6_dropProps_89 (by first | assumption | exact isSlot_in (by assumption) | exact hasPerf_in (by assumption) | exact isKind_in (by assumption) | exact in16c (by assumption) (by assumption) | exact in6c (by assumption) (by assumption) | exact Or.resolve_left (by assumption) (by assumption)) ?_
        refine V_cVmv (As := [.int (rd players (rd od (nI i))), .int (rd sizes (rd od (nI i)))]) (rest := []) dX6_dropProps_90 cvX6_93 (c_X6_impose hxs hT0 (rd players (rd od (nI i))) (rd sizes (rd od (nI i))) ) hT0.1 rfl ⟨Nat.le_of_ble_eq_true rfl, Nat.le_of_ble_eq_true rfl, Nat.le_of_ble_eq_true rfl, Nat.le_of_ble_eq_true rfl⟩ (Nat.le_of_ble_eq_true rfl) rfl (fun h9 q9 => ?_)
        obtain ⟨hT9, hO9⟩ := q9
        have hT7 := hT9
        have hO7 := Outs.tr hO0 hO9
        refine V_iinc (v := nI (i + 1)) (lv' := [(2, .int (nI (i + 1))), (3, .int (rd od (nI i))), (0, .ref s), (1, .int due)]) dX6_dropProps_93 3 rfl (iinc1 i) (by decide) rfl ?_
        refine V_goto (tgt := 37) dX6_dropProps_96 (by decide) ?_
        refine V.loc [2, 3, 0] rfl ?_
        exact ih (i + 1) ((T_X6_impose owed0 perf imp0 (rd players (rd od (nI i))) (rd sizes (rd od (nI i)))).1) ((T_X6_impose owed0 perf imp0 (rd players (rd od (nI i))) (rd sizes (rd od (nI i)))).2) (by omega) hT7 hO7 hz
  unfold T_X6_dropProps at hz
  try dsimp only [tb] at hz
  refine V_aload_n dX6_dropProps_0 0 rfl ?_
  refine V_aload_n dX6_dropProps_1 0 rfl ?_
  refine gf_sheet_cues hT dX6_dropProps_2 flX6_12 ?_
  refine V_aload_n dX6_dropProps_5 0 rfl ?_
  refine gf_sheet_beat hT dX6_dropProps_6 flX6_32 ?_
  refine V_cVi (As := [.int beat]) (rest := [.ref s]) dX6_dropProps_9 cvX6_174 (c_X3_noiseOn hxs hT.2.1 beat ) hT.2.1.1 rfl ⟨Nat.le_of_ble_eq_true rfl, Nat.le_of_ble_eq_true rfl, Nat.le_of_ble_eq_true rfl, Nat.le_of_ble_eq_true rfl⟩ (Nat.le_of_ble_eq_true rfl) rfl ?_
  refine V_aload_n dX6_dropProps_12 0 rfl ?_
  refine gf_sheet_beat hT dX6_dropProps_13 flX6_32 ?_
  refine V_aload_n dX6_dropProps_16 0 rfl ?_
  refine gf_sheet_hend hT dX6_dropProps_17 flX6_41 ?_
  refine V_icmp_gt (tgt := 27) dX6_dropProps_20 (by decide) (fun c2 => ?_) (fun c2 => ?_)
  · rw [if_pos c2] at hz
    refine V_iconst (v := 0) dX6_dropProps_27 (by decide) ?_
    refine V_cVi (As := [.int (T_X3_noiseOn kinds beats sizes beat), .int 0]) (rest := []) dX6_dropProps_28 cvX6_177 (c_X6_isTooLoud hxs hT (T_X3_noiseOn kinds beats sizes beat) 0 ) hT.1 rfl ⟨Nat.le_of_ble_eq_true rfl, Nat.le_of_ble_eq_true rfl, Nat.le_of_ble_eq_true rfl, Nat.le_of_ble_eq_true rfl⟩ (Nat.le_of_ble_eq_true rfl) rfl ?_
    refine V_if_ne (tgt := 35) dX6_dropProps_31 (by decide) (fun c4 => ?_) (fun c4 => ?_)
    · rw [if_neg c4] at hz
      refine V_iconst (v := 0) dX6_dropProps_35 (by decide) ?_
      refine V_istore_n (lv' := [(2, .int 0), (0, .ref s), (1, .int due)]) dX6_dropProps_36 rfl (by decide) rfl ?_
      refine V.loc [1, 2, 0] rfl ?_
      exact L37 due.toNatClampNeg 0 owed imp (by omega) hT Outs.rf hz
    · rw [if_pos c4] at hz
      exact V_vret dX6_dropProps_34 rfl ⟨Nat.le_of_ble_eq_true rfl, Nat.le_of_ble_eq_true rfl⟩ (hK (owed, imp) _ hT Outs.rf hz)
  · rw [if_neg c2] at hz
    refine V_iconst (v := 1) dX6_dropProps_23 (by decide) ?_
    refine V_goto (tgt := 28) dX6_dropProps_24 (by decide) ?_
    refine V_cVi (As := [.int (T_X3_noiseOn kinds beats sizes beat), .int 1]) (rest := []) dX6_dropProps_28 cvX6_177 (c_X6_isTooLoud hxs hT (T_X3_noiseOn kinds beats sizes beat) 1 ) hT.1 rfl ⟨Nat.le_of_ble_eq_true rfl, Nat.le_of_ble_eq_true rfl, Nat.le_of_ble_eq_true rfl, Nat.le_of_ble_eq_true rfl⟩ (Nat.le_of_ble_eq_true rfl) rfl ?_
    refine V_if_ne (tgt := 35) dX6_dropProps_31 (by decide) (fun c10 => ?_) (fun c10 => ?_)
    · rw [if_neg c10] at hz
      refine V_iconst (v := 0) dX6_dropProps_35 (by decide) ?_
      refine V_istore_n (lv' := [(2, .int 0), (0, .ref s), (1, .int due)]) dX6_dropProps_36 rfl (by decide) rfl ?_
      refine V.loc [1, 2, 0] rfl ?_
      exact L37 due.toNatClampNeg 0 owed imp (by omega) hT Outs.rf hz
    · rw [if_pos c10] at hz
      exact V_vret dX6_dropProps_34 rfl ⟨Nat.le_of_ble_eq_true rfl, Nat.le_of_ble_eq_true rfl⟩ (hK (owed, imp) _ hT Outs.rf hz)
theorem c_X6_dropProps {X : KX} (hxs : X.1.stackTraces = false) {h : AH} {s : Nat} {ids kinds players beats sizes lower higher od owed mends : List Int32} {root count perf nid beat act lim hend hbt happ clash imp paid : Int32} (hT : IsSheet X h s ids kinds players beats sizes lower higher od root count owed mends perf nid beat act lim hend hbt happ clash imp paid) (due : Int32) (hD : SmallN due 16) : Ct X mX6_dropProps [.ref s, .int due] h (zM none (fun h' => IsSheet X h' s ids kinds players beats sizes lower higher od root count (T_X6_dropProps kinds players beats sizes od owed perf beat lim hend imp due).1 mends perf nid beat act lim hend hbt happ clash (T_X6_dropProps kinds players beats sizes od owed perf beat lim hend imp due).2 paid ∧ Outs h h' s 12)) := w_X6_dropProps hxs hT due hD (K := fun r => r = T_X6_dropProps kinds players beats sizes od owed perf beat lim hend imp due) (fun r h' a b e => by subst e; exact ⟨rfl, a, b⟩) rfl
def T_X6_foreseen_L13 (kinds : List Int32) (players : List Int32) (beats : List Int32) (sizes : List Int32) (beat : Int32) (lim : Int32) (hend : Int32) (performer : Int32) (nb : Int32) : Nat → Nat → Int32 → Int32
  | 0, i, x4 => x4
  | f + 1, i, x4 => (if (rd kinds (nI i)) = 112 then (if (rd players (nI i)) = performer then (if (beat + nb) < (rd beats (nI i)) then T_X6_foreseen_L13 kinds players beats sizes beat lim hend performer nb f (i + 1) x4 else (if (T_X6_isTooLoud lim (T_X3_noiseOn kinds beats sizes (rd beats (nI i))) (T_X6_isSilent kinds beats sizes beat hend (rd beats (nI i)))) = 0 then T_X6_foreseen_L13 kinds players beats sizes beat lim hend performer nb f (i + 1) x4 else T_X6_foreseen_L13 kinds players beats sizes beat lim hend performer nb f (i + 1) (x4 + (rd sizes (nI i))))) else T_X6_foreseen_L13 kinds players beats sizes beat lim hend performer nb f (i + 1) x4) else T_X6_foreseen_L13 kinds players beats sizes beat lim hend performer nb f (i + 1) x4)
def T_X6_foreseen (kinds : List Int32) (players : List Int32) (beats : List Int32) (sizes : List Int32) (beat : Int32) (lim : Int32) (hend : Int32) (performer : Int32) (nb : Int32) : Int32 := T_X6_foreseen_L13 kinds players beats sizes beat lim hend performer nb 16 0 0
set_option maxRecDepth 20000 in
set_option maxHeartbeats 2000000 in
theorem w_X6_foreseen {X : KX} (hxs : X.1.stackTraces = false) {h : AH} {s : Nat} {ids kinds players beats sizes lower higher od owed mends : List Int32} {root count perf nid beat act lim hend hbt happ clash imp paid : Int32} (hT : IsSheet X h s ids kinds players beats sizes lower higher od root count owed mends perf nid beat act lim hend hbt happ clash imp paid) (performer : Int32) (nb : Int32) {Z : ZT} {K : Int32 → Prop} (hK : ∀ r : Int32, K r → Z (.inl (some (.int r))) h) (hz : K (T_X6_foreseen kinds players beats sizes beat lim hend performer nb)) : Ct X mX6_foreseen [.ref s, .int performer, .int nb] h Z := by
  refine Ct.of (by decide) rfl (Nat.le_of_ble_eq_true rfl) rfl hxs ?_
  have L13 : ∀ (f i : Nat), ∀ (x4 : Int32), i + f = 16 → K (T_X6_foreseen_L13 kinds players beats sizes beat lim hend performer nb  f i x4) → V X mX6_foreseen (zF X mX6_foreseen Z) 0 0 13 [(0, .ref s), (1, .int performer), (2, .int nb), (3, .int (beat + nb)), (4, .int x4), (5, .int (nI i))] [] h := by
    intro f
    induction f with
    | zero =>
      intro i x4 hi hz
      obtain rfl : i = 16 := by omega
      rw [T_X6_foreseen_L13] at hz
      try dsimp only [tb] at hz
      refine V_iload dX6_foreseen_13 5 rfl ?_
      refine V_bipush (v := 16) dX6_foreseen_15 (by decide) ?_
      refine V_icmp_ge (tgt := 110) dX6_foreseen_17 (by decide) (fun _ => ?_) (fun c9 => absurd (by decide) c9)
      refine V_iload dX6_foreseen_110 4 rfl ?_
      exact V_iret dX6_foreseen_112 rfl ⟨Nat.le_of_ble_eq_true rfl, Nat.le_of_ble_eq_true rfl⟩ (hK x4 hz)
    | succ f ih =>
      intro i x4 hi hz
      rw [T_X6_foreseen_L13] at hz
      try dsimp only [tb] at hz
      refine V_iload dX6_foreseen_13 5 rfl ?_
      refine V_bipush (v := 16) dX6_foreseen_15 (by decide) ?_
      refine V_icmp_ge (tgt := 110) dX6_foreseen_17 (by decide) (fun c9 => absurd c9 (nI_ge (a := i) (b := 16) (by omega) (by omega))) (fun _ => ?_)
      refine V_aload_n dX6_foreseen_20 0 rfl ?_
      refine gf_sheet_cues hT dX6_foreseen_21 flX6_12 ?_
      refine gf_tree_beats hT.2.1 dX6_foreseen_24 flX6_128 ?_
      refine V_iload dX6_foreseen_27 5 rfl ?_
      refine ld_tree_beats hT.2.1 dX6_foreseen_29 (vp_in_nI (by omega) (by omega)) ?_
      refine V_istore (lv' := [(6, .int (rd beats (nI i))), (0, .ref s), (1, .int performer), (2, .int nb), (3, .int (beat + nb)), (4, .int x4), (5, .int (nI i))]) dX6_foreseen_30 (by decide) rfl ?_
      refine V_aload_n dX6_foreseen_32 1 rfl ?_
      refine gf_sheet_cues hT dX6_foreseen_33 flX6_12 ?_
      refine gf_tree_kinds hT.2.1 dX6_foreseen_36 flX6_187 ?_
      refine V_iload dX6_foreseen_39 6 rfl ?_
      refine ld_tree_kinds hT.2.1 dX6_foreseen_41 (vp_in_nI (by omega) (by omega)) ?_
      refine V_bipush (v := 112) dX6_foreseen_42 (by decide) ?_
      refine V_icmp_ne (tgt := 104) dX6_foreseen_44 (by decide) (fun c1 => ?_) (fun c1 => ?_)
      · rw [if_neg c1] at hz
        refine V_iinc (v := nI (i + 1)) (lv' := [(5, .int (nI (i + 1))), (6, .int (rd beats (nI i))), (0, .ref s), (1, .int performer), (2, .int nb), (3, .int (beat + nb)), (4, .int x4)]) dX6_foreseen_104 6 rfl (iinc1 i) (by decide) rfl ?_
        refine V_goto (tgt := 13) dX6_foreseen_107 (by decide) ?_
        refine V.loc [2, 3, 4, 5, 6, 0] rfl ?_
        exact ih (i + 1) x4 (by omega)  hz
      · rw [if_pos c1] at hz
        refine V_aload_n dX6_foreseen_47 1 rfl ?_
        refine gf_sheet_cues hT dX6_foreseen_48 flX6_12 ?_
        refine gf_tree_players hT.2.1 dX6_foreseen_51 flX6_168 ?_
        refine V_iload dX6_foreseen_54 6 rfl ?_
        refine ld_tree_players hT.2.1 dX6_foreseen_56 (vp_in_nI (by omega) (by omega)) ?_
        refine V_iload_n dX6_foreseen_57 2 rfl ?_
        refine V_icmp_ne (tgt := 104) dX6_foreseen_58 (by decide) (fun c2 => ?_) (fun c2 => ?_)
        · rw [if_neg c2] at hz
          refine V_iinc (v := nI (i + 1)) (lv' := [(5, .int (nI (i + 1))), (6, .int (rd beats (nI i))), (0, .ref s), (1, .int performer), (2, .int nb), (3, .int (beat + nb)), (4, .int x4)]) dX6_foreseen_104 6 rfl (iinc1 i) (by decide) rfl ?_
          refine V_goto (tgt := 13) dX6_foreseen_107 (by decide) ?_
          refine V.loc [2, 3, 4, 5, 6, 0] rfl ?_
          exact ih (i + 1) x4 (by omega)  hz
        · rw [if_pos c2] at hz
          refine V_iload dX6_foreseen_61 0 rfl ?_
          refine V_iload_n dX6_foreseen_63 4 rfl ?_
          refine V_icmp_gt (tgt := 104) dX6_foreseen_64 (by decide) (fun c3 => ?_) (fun c3 => ?_)
          · rw [if_pos c3] at hz
            refine V_iinc (v := nI (i + 1)) (lv' := [(5, .int (nI (i + 1))), (6, .int (rd beats (nI i))), (0, .ref s), (1, .int performer), (2, .int nb), (3, .int (beat + nb)), (4, .int x4)]) dX6_foreseen_104 6 rfl (iinc1 i) (by decide) rfl ?_
            refine V_goto (tgt := 13) dX6_foreseen_107 (by decide) ?_
            refine V.loc [2, 3, 4, 5, 6, 0] rfl ?_
            exact ih (i + 1) x4 (by omega)  hz
          · rw [if_neg c3] at hz
            refine V_aload_n dX6_foreseen_67 1 rfl ?_
            refine V_aload_n dX6_foreseen_68 1 rfl ?_
            refine gf_sheet_cues hT dX6_foreseen_69 flX6_12 ?_
            refine V_iload dX6_foreseen_72 0 rfl ?_
            refine V_cVi (As := [.int (rd beats (nI i))]) (rest := [.ref s]) dX6_foreseen_74 cvX6_174 (c_X3_noiseOn hxs hT.2.1 (rd beats (nI i)) ) hT.2.1.1 rfl ⟨Nat.le_of_ble_eq_true rfl, Nat.le_of_ble_eq_true rfl, Nat.le_of_ble_eq_true rfl, Nat.le_of_ble_eq_true rfl⟩ (Nat.le_of_ble_eq_true rfl) rfl ?_
            refine V_aload_n dX6_foreseen_77 1 rfl ?_
            refine V_iload dX6_foreseen_78 0 rfl ?_
            refine V_cVi (As := [.int (rd beats (nI i))]) (rest := [.int (T_X3_noiseOn kinds beats sizes (rd beats (nI i))), .ref s]) dX6_foreseen_80 cvX6_90 (c_X6_isSilent hxs hT (rd beats (nI i)) ) hT.1 rfl ⟨Nat.le_of_ble_eq_true rfl, Nat.le_of_ble_eq_true rfl, Nat.le_of_ble_eq_true rfl, Nat.le_of_ble_eq_true rfl⟩ (Nat.le_of_ble_eq_true rfl) rfl ?_
            refine V_cVi (As := [.int (T_X3_noiseOn kinds beats sizes (rd beats (nI i))), .int (T_X6_isSilent kinds beats sizes beat hend (rd beats (nI i)))]) (rest := []) dX6_foreseen_83 cvX6_177 (c_X6_isTooLoud hxs hT (T_X3_noiseOn kinds beats sizes (rd beats (nI i))) (T_X6_isSilent kinds beats sizes beat hend (rd beats (nI i))) ) hT.1 rfl ⟨Nat.le_of_ble_eq_true rfl, Nat.le_of_ble_eq_true rfl, Nat.le_of_ble_eq_true rfl, Nat.le_of_ble_eq_true rfl⟩ (Nat.le_of_ble_eq_true rfl) rfl ?_
            refine V_if_eq (tgt := 104) dX6_foreseen_86 (by decide) (fun c7 => ?_) (fun c7 => ?_)
            · rw [if_pos c7] at hz
              refine V_iinc (v := nI (i + 1)) (lv' := [(5, .int (nI (i + 1))), (6, .int (rd beats (nI i))), (0, .ref s), (1, .int performer), (2, .int nb), (3, .int (beat + nb)), (4, .int x4)]) dX6_foreseen_104 6 rfl (iinc1 i) (by decide) rfl ?_
              refine V_goto (tgt := 13) dX6_foreseen_107 (by decide) ?_
              refine V.loc [2, 3, 4, 5, 6, 0] rfl ?_
              exact ih (i + 1) x4 (by omega)  hz
            · rw [if_neg c7] at hz
              refine V_iload dX6_foreseen_89 5 rfl ?_
              refine V_aload_n dX6_foreseen_91 1 rfl ?_
              refine gf_sheet_cues hT dX6_foreseen_92 flX6_12 ?_
              refine gf_tree_sizes hT.2.1 dX6_foreseen_95 flX6_181 ?_
              refine V_iload dX6_foreseen_98 6 rfl ?_
              refine ld_tree_sizes hT.2.1 dX6_foreseen_100 (vp_in_nI (by omega) (by omega)) ?_
              refine V_iadd dX6_foreseen_101 ?_
              refine V_istore (lv' := [(4, .int (x4 + (rd sizes (nI i)))), (6, .int (rd beats (nI i))), (0, .ref s), (1, .int performer), (2, .int nb), (3, .int (beat + nb)), (5, .int (nI i))]) dX6_foreseen_102 (by decide) rfl ?_
              refine V_iinc (v := nI (i + 1)) (lv' := [(5, .int (nI (i + 1))), (4, .int (x4 + (rd sizes (nI i)))), (6, .int (rd beats (nI i))), (0, .ref s), (1, .int performer), (2, .int nb), (3, .int (beat + nb))]) dX6_foreseen_104 6 rfl (iinc1 i) (by decide) rfl ?_
              refine V_goto (tgt := 13) dX6_foreseen_107 (by decide) ?_
              refine V.loc [3, 4, 5, 6, 1, 0] rfl ?_
              exact ih (i + 1) (x4 + (rd sizes (nI i))) (by omega)  hz
  unfold T_X6_foreseen at hz
  try dsimp only [tb] at hz
  refine V_aload_n dX6_foreseen_0 0 rfl ?_
  refine gf_sheet_beat hT dX6_foreseen_1 flX6_32 ?_
  refine V_iload_n dX6_foreseen_4 2 rfl ?_
  refine V_iadd dX6_foreseen_5 ?_
  refine V_istore_n (lv' := [(3, .int (beat + nb)), (0, .ref s), (1, .int performer), (2, .int nb)]) dX6_foreseen_6 rfl (by decide) rfl ?_
  refine V_iconst (v := 0) dX6_foreseen_7 (by decide) ?_
  refine V_istore (lv' := [(4, .int 0), (3, .int (beat + nb)), (0, .ref s), (1, .int performer), (2, .int nb)]) dX6_foreseen_8 (by decide) rfl ?_
  refine V_iconst (v := 0) dX6_foreseen_10 (by decide) ?_
  refine V_istore (lv' := [(5, .int 0), (4, .int 0), (3, .int (beat + nb)), (0, .ref s), (1, .int performer), (2, .int nb)]) dX6_foreseen_11 (by decide) rfl ?_
  refine V.loc [3, 4, 5, 2, 1, 0] rfl ?_
  exact L13 16 0 0 (by omega)  hz
theorem c_X6_foreseen {X : KX} (hxs : X.1.stackTraces = false) {h : AH} {s : Nat} {ids kinds players beats sizes lower higher od owed mends : List Int32} {root count perf nid beat act lim hend hbt happ clash imp paid : Int32} (hT : IsSheet X h s ids kinds players beats sizes lower higher od root count owed mends perf nid beat act lim hend hbt happ clash imp paid) (performer : Int32) (nb : Int32) : Ct X mX6_foreseen [.ref s, .int performer, .int nb] h (zR (some (.int (T_X6_foreseen kinds players beats sizes beat lim hend performer nb))) h) := w_X6_foreseen hxs hT performer nb  (K := fun r => r = T_X6_foreseen kinds players beats sizes beat lim hend performer nb) (fun r e => by subst e; exact ⟨rfl, rfl⟩) rfl
theorem IsTree.lod {X : KX} {h : AH} {t : Nat} {ids kinds players beats sizes lower higher od : List Int32} {root count : Int32} (p : IsTree X h t ids kinds players beats sizes lower higher od root count) : od.length = 16 := by obtain ⟨-, -, -, -, -, -, -, -, -, e⟩ := p; exact e
