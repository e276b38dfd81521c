def T_X6_putCue (ids : List Int32) (kinds : List Int32) (players : List Int32) (beats : List Int32) (sizes : List Int32) (lower : List Int32) (higher : List Int32) (root : Int32) (count : Int32) (nid : Int32) (kind : Int32) (performer : Int32) (cueBeat : Int32) (size : Int32) : Int32 × List Int32 × List Int32 × List Int32 × List Int32 × List Int32 × List Int32 × List Int32 × Int32 × Int32 × Int32 := (tb (T_X3_put ids kinds players beats sizes lower higher root count nid kind performer cueBeat size) fun r2 => (nid, r2.1, r2.2.1, r2.2.2.1, r2.2.2.2.1, r2.2.2.2.2.1, r2.2.2.2.2.2.1, r2.2.2.2.2.2.2.1, r2.2.2.2.2.2.2.2.1, r2.2.2.2.2.2.2.2.2, (nid + 1)))
set_option maxRecDepth 20000 in
set_option maxHeartbeats 2000000 in
theorem w_X6_putCue {X : KX} (hxs : X.1.stackTraces = false) {h : AH} {s : Nat} {ids kinds players beats sizes lower higher od owed mends : List Int32} {root count perf nid beat act lim hend hbt happ clash imp paid : Int32} (hT : IsSheet X h s ids kinds players beats sizes lower higher od root count owed mends perf nid beat act lim hend hbt happ clash imp paid) (kind : Int32) (performer : Int32) (cueBeat : Int32) (size : Int32) (hk : vp_nar .char kind = kind) {Z : ZT} {K : Int32 × List Int32 × List Int32 × List Int32 × List Int32 × List Int32 × List Int32 × List Int32 × Int32 × Int32 × Int32 → Prop} (hK : ∀ (r : Int32 × List Int32 × List Int32 × List Int32 × List Int32 × List Int32 × List Int32 × List Int32 × Int32 × Int32 × Int32) (h' : AH), IsSheet X h' s (r.2.1) (r.2.2.1) (r.2.2.2.1) (r.2.2.2.2.1) (r.2.2.2.2.2.1) (r.2.2.2.2.2.2.1) (r.2.2.2.2.2.2.2.1) od (r.2.2.2.2.2.2.2.2.1) (r.2.2.2.2.2.2.2.2.2.1) owed mends perf (r.2.2.2.2.2.2.2.2.2.2) beat act lim hend hbt happ clash imp paid → Outs h h' s 12 → K r → Z (.inl (some (.int r.1))) h') (hz : K (T_X6_putCue ids kinds players beats sizes lower higher root count nid kind performer cueBeat size)) : Ct X mX6_putCue [.ref s, .int kind, .int performer, .int cueBeat, .int size] h Z := by
  refine Ct.of (by decide) rfl (Nat.le_of_ble_eq_true rfl) rfl hxs ?_
  unfold T_X6_putCue at hz
  try dsimp only [tb] at hz
  refine V_aload_n dX6_putCue_0 0 rfl ?_
  refine gf_sheet_nid hT dX6_putCue_1 flX6_29 ?_
  refine V_istore (lv' := [(5, .int nid), (0, .ref s), (1, .int kind), (2, .int performer), (3, .int cueBeat), (4, .int size)]) dX6_putCue_4 (by decide) rfl ?_
  refine V_aload_n dX6_putCue_6 1 rfl ?_
  refine gf_sheet_cues hT dX6_putCue_7 flX6_12 ?_
  refine V_iload dX6_putCue_10 0 rfl ?_
  refine V_iload_n dX6_putCue_12 2 rfl ?_
  refine V_iload_n dX6_putCue_13 3 rfl ?_
  refine V_iload_n dX6_putCue_14 4 rfl ?_
  refine V_iload dX6_putCue_15 5 rfl ?_
  refine V_cVmv (As := [.int nid, .int kind, .int performer, .int cueBeat, .int size]) (rest := []) dX6_putCue_17 cvX6_111 (c_X3_put hxs hT.2.1 nid kind performer cueBeat size hk) hT.2.1.1 rfl ⟨Nat.le_of_ble_eq_true rfl, Nat.le_of_ble_eq_true rfl, Nat.le_of_ble_eq_true rfl, Nat.le_of_ble_eq_true rfl⟩ (Nat.le_of_ble_eq_true rfl) rfl (fun h9 q9 => ?_)
  obtain ⟨hT9, hO9⟩ := q9
  have hT1 := IsSheet.tree hT hT9 hO9
  have hO1 := (hO9.up (b := s) (v := 12) (by omega) (by omega))
  generalize T_X3_put ids kinds players beats sizes lower higher root count nid kind performer cueBeat size = r2 at hT9 hT1 hz ⊢
  refine V_aload_n dX6_putCue_20 1 rfl ?_
  refine V_dup dX6_putCue_21 rfl ?_
  refine gf_sheet_nid hT1 dX6_putCue_22 flX6_29 ?_
  refine V_iconst (v := 1) dX6_putCue_25 (by decide) ?_
  refine V_iadd dX6_putCue_26 ?_
  refine pf_sheet_nid hT1 dX6_putCue_27 flX6_29 (fun h3 hT3 hO3 => ?_)
  have hO3 := Outs.tr hO1 hO3
  refine V_iload dX6_putCue_30 0 rfl ?_
  exact V_iret dX6_putCue_32 rfl ⟨Nat.le_of_ble_eq_true rfl, Nat.le_of_ble_eq_true rfl⟩ (hK (nid, r2.1, r2.2.1, r2.2.2.1, r2.2.2.2.1, r2.2.2.2.2.1, r2.2.2.2.2.2.1, r2.2.2.2.2.2.2.1, r2.2.2.2.2.2.2.2.1, r2.2.2.2.2.2.2.2.2, (nid + 1)) _ hT3 hO3 hz)
theorem c_X6_putCue {X : KX} (hxs : X.1.stackTraces = false) {h : AH} {s : Nat} {ids kinds players beats sizes lower higher od owed mends : List Int32} {root count perf nid beat act lim hend hbt happ clash imp paid : Int32} (hT : IsSheet X h s ids kinds players beats sizes lower higher od root count owed mends perf nid beat act lim hend hbt happ clash imp paid) (kind : Int32) (performer : Int32) (cueBeat : Int32) (size : Int32) (hk : vp_nar .char kind = kind) : Ct X mX6_putCue [.ref s, .int kind, .int performer, .int cueBeat, .int size] h (zM (some (.int (T_X6_putCue ids kinds players beats sizes lower higher root count nid kind performer cueBeat size).1)) (fun h' => IsSheet X h' s (T_X6_putCue ids kinds players beats sizes lower higher root count nid kind performer cueBeat size).2.1 (T_X6_putCue ids kinds players beats sizes lower higher root count nid kind performer cueBeat size).2.2.1 (T_X6_putCue ids kinds players beats sizes lower higher root count nid kind performer cueBeat size).2.2.2.1 (T_X6_putCue ids kinds players beats sizes lower higher root count nid kind performer cueBeat size).2.2.2.2.1 (T_X6_putCue ids kinds players beats sizes lower higher root count nid kind performer cueBeat size).2.2.2.2.2.1 (T_X6_putCue ids kinds players beats sizes lower higher root count nid kind performer cueBeat size).2.2.2.2.2.2.1 (T_X6_putCue ids kinds players beats sizes lower higher root count nid kind performer cueBeat size).2.2.2.2.2.2.2.1 od (T_X6_putCue ids kinds players beats sizes lower higher root count nid kind performer cueBeat size).2.2.2.2.2.2.2.2.1 (T_X6_putCue ids kinds players beats sizes lower higher root count nid kind performer cueBeat size).2.2.2.2.2.2.2.2.2.1 owed mends perf (T_X6_putCue ids kinds players beats sizes lower higher root count nid kind performer cueBeat size).2.2.2.2.2.2.2.2.2.2 beat act lim hend hbt happ clash imp paid ∧ Outs h h' s 12)) := w_X6_putCue hxs hT kind performer cueBeat size hk (K := fun r => r = T_X6_putCue ids kinds players beats sizes lower higher root count nid kind performer cueBeat size) (fun r h' a b e => by subst e; exact ⟨rfl, a, b⟩) rfl
def T_X6_putPlayed (ids : List Int32) (kinds : List Int32) (players : List Int32) (beats : List Int32) (sizes : List Int32) (lower : List Int32) (higher : List Int32) (root : Int32) (count : Int32) (perf : Int32) (nid : Int32) (beat : Int32) (kind : Int32) (performer : Int32) (cueBeat : Int32) (size : Int32) : Int32 × List Int32 × List Int32 × List Int32 × List Int32 × List Int32 × List Int32 × List Int32 × Int32 × Int32 × Int32 := (if (T_X6_hasPerformer perf performer) = 0 then ((-1), ids, kinds, players, beats, sizes, lower, higher, root, count, nid) else (if (T_X6_isCueBeat beat cueBeat) = 0 then ((-2), ids, kinds, players, beats, sizes, lower, higher, root, count, nid) else (if (T_X6_isSize size) = 0 then ((-2), ids, kinds, players, beats, sizes, lower, higher, root, count, nid) else (if (T_X3_isFull count) = 0 then (tb (T_X6_putCue ids kinds players beats sizes lower higher root count nid kind performer cueBeat size) fun r10 => (r10.1, r10.2.1, r10.2.2.1, r10.2.2.2.1, r10.2.2.2.2.1, r10.2.2.2.2.2.1, r10.2.2.2.2.2.2.1, r10.2.2.2.2.2.2.2.1, r10.2.2.2.2.2.2.2.2.1, r10.2.2.2.2.2.2.2.2.2.1, r10.2.2.2.2.2.2.2.2.2.2)) else ((-3), ids, kinds, players, beats, sizes, lower, higher, root, count, nid)))))
set_option maxRecDepth 20000 in
set_option maxHeartbeats 2000000 in
theorem w_X6_putPlayed {X : KX} (hxs : X.1.stackTraces = false) {h : AH} {s : Nat} {ids kinds players beats sizes lower higher od owed mends : List Int32} {root count perf nid beat act lim hend hbt happ clash imp paid : Int32} (hT : IsSheet X h s ids kinds players beats sizes lower higher od root count owed mends perf nid beat act lim hend hbt happ clash imp paid) (kind : Int32) (performer : Int32) (cueBeat : Int32) (size : Int32) (hk : vp_nar .char kind = kind) {Z : ZT} {K : Int32 × List Int32 × List Int32 × List Int32 × List Int32 × List Int32 × List Int32 × List Int32 × Int32 × Int32 × Int32 → Prop} (hK : ∀ (r : Int32 × List Int32 × List Int32 × List Int32 × List Int32 × List Int32 × List Int32 × List Int32 × Int32 × Int32 × Int32) (h' : AH), IsSheet X h' s (r.2.1) (r.2.2.1) (r.2.2.2.1) (r.2.2.2.2.1) (r.2.2.2.2.2.1) (r.2.2.2.2.2.2.1) (r.2.2.2.2.2.2.2.1) od (r.2.2.2.2.2.2.2.2.1) (r.2.2.2.2.2.2.2.2.2.1) owed mends perf (r.2.2.2.2.2.2.2.2.2.2) beat act lim hend hbt happ clash imp paid → Outs h h' s 12 → K r → Z (.inl (some (.int r.1))) h') (hz : K (T_X6_putPlayed ids kinds players beats sizes lower higher root count perf nid beat kind performer cueBeat size)) : Ct X mX6_putPlayed [.ref s, .int kind, .int performer, .int cueBeat, .int size] h Z := by
  refine Ct.of (by decide) rfl (Nat.le_of_ble_eq_true rfl) rfl hxs ?_
  unfold T_X6_putPlayed at hz
  try dsimp only [tb] at hz
  refine V_aload_n dX6_putPlayed_0 0 rfl ?_
  refine V_iload_n dX6_putPlayed_1 2 rfl ?_
  refine V_cVi (As := [.int performer]) (rest := []) dX6_putPlayed_2 cvX6_75 (c_X6_hasPerformer hxs hT performer ) hT.1 rfl ⟨Nat.le_of_ble_eq_true rfl, Nat.le_of_ble_eq_true rfl, Nat.le_of_ble_eq_true rfl, Nat.le_of_ble_eq_true rfl⟩ (Nat.le_of_ble_eq_true rfl) rfl ?_
  refine V_if_ne (tgt := 10) dX6_putPlayed_5 (by decide) (fun c2 => ?_) (fun c2 => ?_)
  · rw [if_neg c2] at hz
    refine V_aload_n dX6_putPlayed_10 0 rfl ?_
    refine V_iload_n dX6_putPlayed_11 3 rfl ?_
    refine V_cVi (As := [.int cueBeat]) (rest := []) dX6_putPlayed_12 cvX6_97 (c_X6_isCueBeat hxs hT cueBeat ) hT.1 rfl ⟨Nat.le_of_ble_eq_true rfl, Nat.le_of_ble_eq_true rfl, Nat.le_of_ble_eq_true rfl, Nat.le_of_ble_eq_true rfl⟩ (Nat.le_of_ble_eq_true rfl) rfl ?_
    refine V_if_eq (tgt := 26) dX6_putPlayed_15 (by decide) (fun c4 => ?_) (fun c4 => ?_)
    · rw [if_pos c4] at hz
      refine V_bipush (v := (-2)) dX6_putPlayed_26 (by decide) ?_
      exact V_iret dX6_putPlayed_28 rfl ⟨Nat.le_of_ble_eq_true rfl, Nat.le_of_ble_eq_true rfl⟩ (hK ((-2), ids, kinds, players, beats, sizes, lower, higher, root, count, nid) _ hT Outs.rf hz)
    · rw [if_neg c4] at hz
      refine V_iload dX6_putPlayed_18 4 rfl ?_
      refine V_cSi (As := [.int size]) (rest := []) dX6_putPlayed_20 cvX6_100 (c_X6_isSize hxs size ) ⟨Nat.le_of_ble_eq_true rfl, Nat.le_of_ble_eq_true rfl, Nat.le_of_ble_eq_true rfl, Nat.le_of_ble_eq_true rfl⟩ (Nat.le_of_ble_eq_true rfl) rfl ?_
      refine V_if_ne (tgt := 29) dX6_putPlayed_23 (by decide) (fun c6 => ?_) (fun c6 => ?_)
      · rw [if_neg c6] at hz
        refine V_aload_n dX6_putPlayed_29 0 rfl ?_
        refine gf_sheet_cues hT dX6_putPlayed_30 flX6_12 ?_
        refine V_cVi (As := []) (rest := []) dX6_putPlayed_33 cvX6_103 (c_X3_isFull hxs hT.2.1  ) hT.2.1.1 rfl ⟨Nat.le_of_ble_eq_true rfl, Nat.le_of_ble_eq_true rfl, Nat.le_of_ble_eq_true rfl, Nat.le_of_ble_eq_true rfl⟩ (Nat.le_of_ble_eq_true rfl) rfl ?_
        refine V_if_eq (tgt := 42) dX6_putPlayed_36 (by decide) (fun c8 => ?_) (fun c8 => ?_)
        · rw [if_pos c8] at hz
          refine V_aload_n dX6_putPlayed_42 0 rfl ?_
          refine V_iload_n dX6_putPlayed_43 1 rfl ?_
          refine V_iload_n dX6_putPlayed_44 2 rfl ?_
          refine V_iload_n dX6_putPlayed_45 3 rfl ?_
          refine V_iload dX6_putPlayed_46 4 rfl ?_
          refine V_cVmi (As := [.int kind, .int performer, .int cueBeat, .int size]) (rest := []) dX6_putPlayed_48 cvX6_107 (c_X6_putCue hxs hT kind performer cueBeat size hk) hT.1 rfl ⟨Nat.le_of_ble_eq_true rfl, Nat.le_of_ble_eq_true rfl, Nat.le_of_ble_eq_true rfl, Nat.le_of_ble_eq_true rfl⟩ (Nat.le_of_ble_eq_true rfl) rfl (fun h9 q9 => ?_)
          obtain ⟨hT9, hO9⟩ := q9
          have hO9 := hO9
          generalize T_X6_putCue ids kinds players beats sizes lower higher root count nid kind performer cueBeat size = r10 at hT9 hz ⊢
          exact V_iret dX6_putPlayed_51 rfl ⟨Nat.le_of_ble_eq_true rfl, Nat.le_of_ble_eq_true rfl⟩ (hK (r10.1, r10.2.1, r10.2.2.1, r10.2.2.2.1, r10.2.2.2.2.1, r10.2.2.2.2.2.1, r10.2.2.2.2.2.2.1, r10.2.2.2.2.2.2.2.1, r10.2.2.2.2.2.2.2.2.1, r10.2.2.2.2.2.2.2.2.2.1, r10.2.2.2.2.2.2.2.2.2.2) _ hT9 hO9 hz)
        · rw [if_neg c8] at hz
          refine V_bipush (v := (-3)) dX6_putPlayed_39 (by decide) ?_
          exact V_iret dX6_putPlayed_41 rfl ⟨Nat.le_of_ble_eq_true rfl, Nat.le_of_ble_eq_true rfl⟩ (hK ((-3), ids, kinds, players, beats, sizes, lower, higher, root, count, nid) _ hT Outs.rf hz)
      · rw [if_pos c6] at hz
        refine V_bipush (v := (-2)) dX6_putPlayed_26 (by decide) ?_
        exact V_iret dX6_putPlayed_28 rfl ⟨Nat.le_of_ble_eq_true rfl, Nat.le_of_ble_eq_true rfl⟩ (hK ((-2), ids, kinds, players, beats, sizes, lower, higher, root, count, nid) _ hT Outs.rf hz)
  · rw [if_pos c2] at hz
    refine V_iconst (v := (-1)) dX6_putPlayed_8 (by decide) ?_
    exact V_iret dX6_putPlayed_9 rfl ⟨Nat.le_of_ble_eq_true rfl, Nat.le_of_ble_eq_true rfl⟩ (hK ((-1), ids, kinds, players, beats, sizes, lower, higher, root, count, nid) _ hT Outs.rf hz)
theorem c_X6_putPlayed {X : KX} (hxs : X.1.stackTraces = false) {h : AH} {s : Nat} {ids kinds players beats sizes lower higher od owed mends : List Int32} {root count perf nid beat act lim hend hbt happ clash imp paid : Int32} (hT : IsSheet X h s ids kinds players beats sizes lower higher od root count owed mends perf nid beat act lim hend hbt happ clash imp paid) (kind : Int32) (performer : Int32) (cueBeat : Int32) (size : Int32) (hk : vp_nar .char kind = kind) : Ct X mX6_putPlayed [.ref s, .int kind, .int performer, .int cueBeat, .int size] h (zM (some (.int (T_X6_putPlayed ids kinds players beats sizes lower higher root count perf nid beat kind performer cueBeat size).1)) (fun h' => IsSheet X h' s (T_X6_putPlayed ids kinds players beats sizes lower higher root count perf nid beat kind performer cueBeat size).2.1 (T_X6_putPlayed ids kinds players beats sizes lower higher root count perf nid beat kind performer cueBeat size).2.2.1 (T_X6_putPlayed ids kinds players beats sizes lower higher root count perf nid beat kind performer cueBeat size).2.2.2.1 (T_X6_putPlayed ids kinds players beats sizes lower higher root count perf nid beat kind performer cueBeat size).2.2.2.2.1 (T_X6_putPlayed ids kinds players beats sizes lower higher root count perf nid beat kind performer cueBeat size).2.2.2.2.2.1 (T_X6_putPlayed ids kinds players beats sizes lower higher root count perf nid beat kind performer cueBeat size).2.2.2.2.2.2.1 (T_X6_putPlayed ids kinds players beats sizes lower higher root count perf nid beat kind performer cueBeat size).2.2.2.2.2.2.2.1 od (T_X6_putPlayed ids kinds players beats sizes lower higher root count perf nid beat kind performer cueBeat size).2.2.2.2.2.2.2.2.1 (T_X6_putPlayed ids kinds players beats sizes lower higher root count perf nid beat kind performer cueBeat size).2.2.2.2.2.2.2.2.2.1 owed mends perf (T_X6_putPlayed ids kinds players beats sizes lower higher root count perf nid beat kind performer cueBeat size).2.2.2.2.2.2.2.2.2.2 beat act lim hend hbt happ clash imp paid ∧ Outs h h' s 12)) := w_X6_putPlayed hxs hT kind performer cueBeat size hk (K := fun r => r = T_X6_putPlayed ids kinds players beats sizes lower higher root count perf nid beat kind performer cueBeat size) (fun r h' a b e => by subst e; exact ⟨rfl, a, b⟩) rfl
def T_X6_putHush (ids : List Int32) (kinds : List Int32) (players : List Int32) (beats : List Int32) (sizes : List Int32) (lower : List Int32) (higher : List Int32) (root : Int32) (count : Int32) (nid : Int32) (beat : Int32) (cueBeat : Int32) (length : Int32) : Int32 × List Int32 × List Int32 × List Int32 × List Int32 × List Int32 × List Int32 × List Int32 × Int32 × Int32 × Int32 := (if (T_X6_isCueBeat beat cueBeat) = 0 then ((-1), ids, kinds, players, beats, sizes, lower, higher, root, count, nid) else (if (T_X6_isSize length) = 0 then ((-1), ids, kinds, players, beats, sizes, lower, higher, root, count, nid) else (if (T_X3_isFull count) = 0 then (tb (T_X6_putCue ids kinds players beats sizes lower higher root count nid 104 (-1) cueBeat length) fun r8 => (r8.1, r8.2.1, r8.2.2.1, r8.2.2.2.1, r8.2.2.2.2.1, r8.2.2.2.2.2.1, r8.2.2.2.2.2.2.1, r8.2.2.2.2.2.2.2.1, r8.2.2.2.2.2.2.2.2.1, r8.2.2.2.2.2.2.2.2.2.1, r8.2.2.2.2.2.2.2.2.2.2)) else ((-2), ids, kinds, players, beats, sizes, lower, higher, root, count, nid))))
set_option maxRecDepth 20000 in
set_option maxHeartbeats 2000000 in
theorem w_X6_putHush {X : KX} (hxs : X.1.stackTraces = false) {h : AH} {s : Nat} {ids kinds players beats sizes lower higher od owed mends : List Int32} {root count perf nid beat act lim hend hbt happ clash imp paid : Int32} (hT : IsSheet X h s ids kinds players beats sizes lower higher od root count owed mends perf nid beat act lim hend hbt happ clash imp paid) (cueBeat : Int32) (length : Int32) {Z : ZT} {K : Int32 × List Int32 × List Int32 × List Int32 × List Int32 × List Int32 × List Int32 × List Int32 × Int32 × Int32 × Int32 → Prop} (hK : ∀ (r : Int32 × List Int32 × List Int32 × List Int32 × List Int32 × List Int32 × List Int32 × List Int32 × Int32 × Int32 × Int32) (h' : AH), IsSheet X h' s (r.2.1) (r.2.2.1) (r.2.2.2.1) (r.2.2.2.2.1) (r.2.2.2.2.2.1) (r.2.2.2.2.2.2.1) (r.2.2.2.2.2.2.2.1) od (r.2.2.2.2.2.2.2.2.1) (r.2.2.2.2.2.2.2.2.2.1) owed mends perf (r.2.2.2.2.2.2.2.2.2.2) beat act lim hend hbt happ clash imp paid → Outs h h' s 12 → K r → Z (.inl (some (.int r.1))) h') (hz : K (T_X6_putHush ids kinds players beats sizes lower higher root count nid beat cueBeat length)) : Ct X mX6_putHush [.ref s, .int cueBeat, .int length] h Z := by
  refine Ct.of (by decide) rfl (Nat.le_of_ble_eq_true rfl) rfl hxs ?_
  unfold T_X6_putHush at hz
  try dsimp only [tb] at hz
  refine V_aload_n dX6_putHush_0 0 rfl ?_
  refine V_iload_n dX6_putHush_1 1 rfl ?_
  refine V_cVi (As := [.int cueBeat]) (rest := []) dX6_putHush_2 cvX6_97 (c_X6_isCueBeat hxs hT cueBeat ) hT.1 rfl ⟨Nat.le_of_ble_eq_true rfl, Nat.le_of_ble_eq_true rfl, Nat.le_of_ble_eq_true rfl, Nat.le_of_ble_eq_true rfl⟩ (Nat.le_of_ble_eq_true rfl) rfl ?_
  refine V_if_eq (tgt := 15) dX6_putHush_5 (by decide) (fun c2 => ?_) (fun c2 => ?_)
  · rw [if_pos c2] at hz
    refine V_iconst (v := (-1)) dX6_putHush_15 (by decide) ?_
    exact V_iret dX6_putHush_16 rfl ⟨Nat.le_of_ble_eq_true rfl, Nat.le_of_ble_eq_true rfl⟩ (hK ((-1), ids, kinds, players, beats, sizes, lower, higher, root, count, nid) _ hT Outs.rf hz)
  · rw [if_neg c2] at hz
    refine V_iload_n dX6_putHush_8 2 rfl ?_
    refine V_cSi (As := [.int length]) (rest := []) dX6_putHush_9 cvX6_100 (c_X6_isSize hxs length ) ⟨Nat.le_of_ble_eq_true rfl, Nat.le_of_ble_eq_true rfl, Nat.le_of_ble_eq_true rfl, Nat.le_of_ble_eq_true rfl⟩ (Nat.le_of_ble_eq_true rfl) rfl ?_
    refine V_if_ne (tgt := 17) dX6_putHush_12 (by decide) (fun c4 => ?_) (fun c4 => ?_)
    · rw [if_neg c4] at hz
      refine V_aload_n dX6_putHush_17 0 rfl ?_
      refine gf_sheet_cues hT dX6_putHush_18 flX6_12 ?_
      refine V_cVi (As := []) (rest := []) dX6_putHush_21 cvX6_103 (c_X3_isFull hxs hT.2.1  ) hT.2.1.1 rfl ⟨Nat.le_of_ble_eq_true rfl, Nat.le_of_ble_eq_true rfl, Nat.le_of_ble_eq_true rfl, Nat.le_of_ble_eq_true rfl⟩ (Nat.le_of_ble_eq_true rfl) rfl ?_
      refine V_if_eq (tgt := 30) dX6_putHush_24 (by decide) (fun c6 => ?_) (fun c6 => ?_)
      · rw [if_pos c6] at hz
        refine V_aload_n dX6_putHush_30 0 rfl ?_
        refine V_bipush (v := 104) dX6_putHush_31 (by decide) ?_
        refine V_iconst (v := (-1)) dX6_putHush_33 (by decide) ?_
        refine V_iload_n dX6_putHush_34 1 rfl ?_
        refine V_iload_n dX6_putHush_35 2 rfl ?_
        refine V_cVmi (As := [.int 104, .int (-1), .int cueBeat, .int length]) (rest := []) dX6_putHush_36 cvX6_107 (c_X6_putCue hxs hT 104 (-1) cueBeat length (by decide)) hT.1 rfl ⟨Nat.le_of_ble_eq_true rfl, Nat.le_of_ble_eq_true rfl, Nat.le_of_ble_eq_true rfl, Nat.le_of_ble_eq_true rfl⟩ (Nat.le_of_ble_eq_true rfl) rfl (fun h9 q9 => ?_)
        obtain ⟨hT9, hO9⟩ := q9
        have hO7 := hO9
        generalize T_X6_putCue ids kinds players beats sizes lower higher root count nid 104 (-1) cueBeat length = r8 at hT9 hz ⊢
        exact V_iret dX6_putHush_39 rfl ⟨Nat.le_of_ble_eq_true rfl, Nat.le_of_ble_eq_true rfl⟩ (hK (r8.1, r8.2.1, r8.2.2.1, r8.2.2.2.1, r8.2.2.2.2.1, r8.2.2.2.2.2.1, r8.2.2.2.2.2.2.1, r8.2.2.2.2.2.2.2.1, r8.2.2.2.2.2.2.2.2.1, r8.2.2.2.2.2.2.2.2.2.1, r8.2.2.2.2.2.2.2.2.2.2) _ hT9 hO7 hz)
      · rw [if_neg c6] at hz
        refine V_bipush (v := (-2)) dX6_putHush_27 (by decide) ?_
        exact V_iret dX6_putHush_29 rfl ⟨Nat.le_of_ble_eq_true rfl, Nat.le_of_ble_eq_true rfl⟩ (hK ((-2), ids, kinds, players, beats, sizes, lower, higher, root, count, nid) _ hT Outs.rf hz)
    · rw [if_pos c4] at hz
      refine V_iconst (v := (-1)) dX6_putHush_15 (by decide) ?_
      exact V_iret dX6_putHush_16 rfl ⟨Nat.le_of_ble_eq_true rfl, Nat.le_of_ble_eq_true rfl⟩ (hK ((-1), ids, kinds, players, beats, sizes, lower, higher, root, count, nid) _ hT Outs.rf hz)
theorem c_X6_putHush {X : KX} (hxs : X.1.stackTraces = false) {h : AH} {s : Nat} {ids kinds players beats sizes lower higher od owed mends : List Int32} {root count perf nid beat act lim hend hbt happ clash imp paid : Int32} (hT : IsSheet X h s ids kinds players beats sizes lower higher od root count owed mends perf nid beat act lim hend hbt happ clash imp paid) (cueBeat : Int32) (length : Int32) : Ct X mX6_putHush [.ref s, .int cueBeat, .int length] h (zM (some (.int (T_X6_putHush ids kinds players beats sizes lower higher root count nid beat cueBeat length).1)) (fun h' => IsSheet X h' s (T_X6_putHush ids kinds players beats sizes lower higher root count nid beat cueBeat length).2.1 (T_X6_putHush ids kinds players beats sizes lower higher root count nid beat cueBeat length).2.2.1 (T_X6_putHush ids kinds players beats sizes lower higher root count nid beat cueBeat length).2.2.2.1 (T_X6_putHush ids kinds players beats sizes lower higher root count nid beat cueBeat length).2.2.2.2.1 (T_X6_putHush ids kinds players beats sizes lower higher root count nid beat cueBeat length).2.2.2.2.2.1 (T_X6_putHush ids kinds players beats sizes lower higher root count nid beat cueBeat length).2.2.2.2.2.2.1 (T_X6_putHush ids kinds players beats sizes lower higher root count nid beat cueBeat length).2.2.2.2.2.2.2.1 od (T_X6_putHush ids kinds players beats sizes lower higher root count nid beat cueBeat length).2.2.2.2.2.2.2.2.1 (T_X6_putHush ids kinds players beats sizes lower higher root count nid beat cueBeat length).2.2.2.2.2.2.2.2.2.1 owed mends perf (T_X6_putHush ids kinds players beats sizes lower higher root count nid beat cueBeat length).2.2.2.2.2.2.2.2.2.2 beat act lim hend hbt happ clash imp paid ∧ Outs h h' s 12)) := w_X6_putHush hxs hT cueBeat length  (K := fun r => r = T_X6_putHush ids kinds players beats sizes lower higher root count nid beat cueBeat length) (fun r h' a b e => by subst e; exact ⟨rfl, a, b⟩) rfl
def T_X6_cancel (ids : List Int32) (kinds : List Int32) (lower : List Int32) (higher : List Int32) (root : Int32) (count : Int32) (cue : Int32) : Int32 × List Int32 × List Int32 × List Int32 × Int32 × Int32 := (if (T_X3_isSlot (T_X3_slotOf ids kinds cue)) = 0 then ((-1), kinds, lower, higher, root, count) else (tb (T_X3_drop kinds lower higher root count (T_X3_slotOf ids kinds cue)) fun r5 => (r5.2.2.2.2, r5.1, r5.2.1, r5.2.2.1, r5.2.2.2.1, r5.2.2.2.2)))
set_option maxRecDepth 20000 in
set_option maxHeartbeats 2000000 in
theorem w_X6_cancel {X : KX} (hxs : X.1.stackTraces = false) {h : AH} {s : Nat} {ids kinds players beats sizes lower higher od owed mends : List Int32} {root count perf nid beat act lim hend hbt happ clash imp paid : Int32} (hT : IsSheet X h s ids kinds players beats sizes lower higher od root count owed mends perf nid beat act lim hend hbt happ clash imp paid) (cue : Int32) {Z : ZT} {K : Int32 × List Int32 × List Int32 × List Int32 × Int32 × Int32 → Prop} (hK : ∀ (r : Int32 × List Int32 × List Int32 × List Int32 × Int32 × Int32) (h' : AH), IsSheet X h' s ids (r.2.1) players beats sizes (r.2.2.1) (r.2.2.2.1) od (r.2.2.2.2.1) (r.2.2.2.2.2) owed mends perf nid beat act lim hend hbt happ clash imp paid → Outs h h' s 12 → K r → Z (.inl (some (.int r.1))) h') (hz : K (T_X6_cancel ids kinds lower higher root count cue)) : Ct X mX6_cancel [.ref s, .int cue] h Z := by
  refine Ct.of (by decide) rfl (Nat.le_of_ble_eq_true rfl) rfl hxs ?_
  unfold T_X6_cancel at hz
  try dsimp only [tb] at hz
  refine V_aload_n dX6_cancel_0 0 rfl ?_
  refine gf_sheet_cues hT dX6_cancel_1 flX6_12 ?_
  refine V_iload_n dX6_cancel_4 1 rfl ?_
  refine V_cVi (As := [.int cue]) (rest := []) dX6_cancel_5 cvX6_115 (c_X3_slotOf hxs hT.2.1 cue ) hT.2.1.1 rfl ⟨Nat.le_of_ble_eq_true rfl, Nat.le_of_ble_eq_true rfl, Nat.le_of_ble_eq_true rfl, Nat.le_of_ble_eq_true rfl⟩ (Nat.le_of_ble_eq_true rfl) rfl ?_
  refine V_istore_n (lv' := [(2, .int (T_X3_slotOf ids kinds cue)), (0, .ref s), (1, .int cue)]) dX6_cancel_8 rfl (by decide) rfl ?_
  refine V_iload_n dX6_cancel_9 0 rfl ?_
  refine V_cSi (As := [.int (T_X3_slotOf ids kinds cue)]) (rest := []) dX6_cancel_10 cvX6_118 (c_X3_isSlot hxs (T_X3_slotOf ids kinds cue) ) ⟨Nat.le_of_ble_eq_true rfl, Nat.le_of_ble_eq_true rfl, Nat.le_of_ble_eq_true rfl, Nat.le_of_ble_eq_true rfl⟩ (Nat.le_of_ble_eq_true rfl) rfl ?_
  refine V_if_ne (tgt := 18) dX6_cancel_13 (by decide) (fun c3 => ?_) (fun c3 => ?_)
  · rw [if_neg c3] at hz
    refine V_aload_n dX6_cancel_18 1 rfl ?_
    refine gf_sheet_cues hT dX6_cancel_19 flX6_12 ?_
    refine V_iload_n dX6_cancel_22 0 rfl ?_
    refine V_cVmv (As := [.int (T_X3_slotOf ids kinds cue)]) (rest := []) dX6_cancel_23 cvX6_121 (c_X3_drop hxs hT.2.1 (T_X3_slotOf ids kinds cue) ) hT.2.1.1 rfl ⟨Nat.le_of_ble_eq_true rfl, Nat.le_of_ble_eq_true rfl, Nat.le_of_ble_eq_true rfl, Nat.le_of_ble_eq_true rfl⟩ (Nat.le_of_ble_eq_true rfl) rfl (fun h9 q9 => ?_)
    obtain ⟨hT9, hO9⟩ := q9
    have hT4 := IsSheet.tree hT hT9 hO9
    have hO4 := (hO9.up (b := s) (v := 12) (by omega) (by omega))
    generalize T_X3_drop kinds lower higher root count (T_X3_slotOf ids kinds cue) = r5 at hT9 hT4 hz ⊢
    refine V_aload_n dX6_cancel_26 1 rfl ?_
    refine gf_sheet_cues hT4 dX6_cancel_27 flX6_12 ?_
    refine gf_tree_count hT4.2.1 dX6_cancel_30 flX6_125 ?_
    exact V_iret dX6_cancel_33 rfl ⟨Nat.le_of_ble_eq_true rfl, Nat.le_of_ble_eq_true rfl⟩ (hK (r5.2.2.2.2, r5.1, r5.2.1, r5.2.2.1, r5.2.2.2.1, r5.2.2.2.2) _ hT4 hO4 hz)
  · rw [if_pos c3] at hz
    refine V_iconst (v := (-1)) dX6_cancel_16 (by decide) ?_
    exact V_iret dX6_cancel_17 rfl ⟨Nat.le_of_ble_eq_true rfl, Nat.le_of_ble_eq_true rfl⟩ (hK ((-1), kinds, lower, higher, root, count) _ hT Outs.rf hz)
theorem c_X6_cancel {X : KX} (hxs : X.1.stackTraces = false) {h : AH} {s : Nat} {ids kinds players beats sizes lower higher od owed mends : List Int32} {root count perf nid beat act lim hend hbt happ clash imp paid : Int32} (hT : IsSheet X h s ids kinds players beats sizes lower higher od root count owed mends perf nid beat act lim hend hbt happ clash imp paid) (cue : Int32) : Ct X mX6_cancel [.ref s, .int cue] h (zM (some (.int (T_X6_cancel ids kinds lower higher root count cue).1)) (fun h' => IsSheet X h' s ids (T_X6_cancel ids kinds lower higher root count cue).2.1 players beats sizes (T_X6_cancel ids kinds lower higher root count cue).2.2.1 (T_X6_cancel ids kinds lower higher root count cue).2.2.2.1 od (T_X6_cancel ids kinds lower higher root count cue).2.2.2.2.1 (T_X6_cancel ids kinds lower higher root count cue).2.2.2.2.2 owed mends perf nid beat act lim hend hbt happ clash imp paid ∧ Outs h h' s 12)) := w_X6_cancel hxs hT cue  (K := fun r => r = T_X6_cancel ids kinds lower higher root count cue) (fun r h' a b e => by subst e; exact ⟨rfl, a, b⟩) rfl
def T_X6_move (ids : List Int32) (kinds : List Int32) (beats : List Int32) (lower : List Int32) (higher : List Int32) (root : Int32) (beat : Int32) (cue : Int32) (cueBeat : Int32) : Int32 × List Int32 × List Int32 × List Int32 × Int32 := (if (T_X3_isSlot (T_X3_slotOf ids kinds cue)) = 0 then ((-1), beats, lower, higher, root) else (if (T_X6_isCueBeat beat cueBeat) = 0 then ((-2), beats, lower, higher, root) else (tb (T_X3_shift ids beats lower higher root (T_X3_slotOf ids kinds cue) cueBeat) fun r7 => ((rd beats (T_X3_slotOf ids kinds cue)), r7.1, r7.2.1, r7.2.2.1, r7.2.2.2))))
set_option maxRecDepth 20000 in
set_option maxHeartbeats 2000000 in
theorem w_X6_move {X : KX} (hxs : X.1.stackTraces = false) {h : AH} {s : Nat} {ids kinds players beats sizes lower higher od owed mends : List Int32} {root count perf nid beat act lim hend hbt happ clash imp paid : Int32} (hT : IsSheet X h s ids kinds players beats sizes lower higher od root count owed mends perf nid beat act lim hend hbt happ clash imp paid) (cue : Int32) (cueBeat : Int32) {Z : ZT} {K : Int32 × List Int32 × List Int32 × List Int32 × Int32 → Prop} (hK : ∀ (r : Int32 × List Int32 × List Int32 × List Int32 × Int32) (h' : AH), IsSheet X h' s ids kinds players (r.2.1) sizes (r.2.2.1) (r.2.2.2.1) od (r.2.2.2.2) count owed mends perf nid beat act lim hend hbt happ clash imp paid → Outs h h' s 12 → K r → Z (.inl (some (.int r.1))) h') (hz : K (T_X6_move ids kinds beats lower higher root beat cue cueBeat)) : Ct X mX6_move [.ref s, .int cue, .int cueBeat] h Z := by
  refine Ct.of (by decide) rfl (Nat.le_of_ble_eq_true rfl) rfl hxs ?_
  unfold T_X6_move at hz
  try dsimp only [tb] at hz
  refine V_aload_n dX6_move_0 0 rfl ?_
  refine gf_sheet_cues hT dX6_move_1 flX6_12 ?_
  refine V_iload_n dX6_move_4 1 rfl ?_
  refine V_cVi (As := [.int cue]) (rest := []) dX6_move_5 cvX6_115 (c_X3_slotOf hxs hT.2.1 cue ) hT.2.1.1 rfl ⟨Nat.le_of_ble_eq_true rfl, Nat.le_of_ble_eq_true rfl, Nat.le_of_ble_eq_true rfl, Nat.le_of_ble_eq_true rfl⟩ (Nat.le_of_ble_eq_true rfl) rfl ?_
  refine V_istore_n (lv' := [(3, .int (T_X3_slotOf ids kinds cue)), (0, .ref s), (1, .int cue), (2, .int cueBeat)]) dX6_move_8 rfl (by decide) rfl ?_
  refine V_iload_n dX6_move_9 0 rfl ?_
  refine V_cSi (As := [.int (T_X3_slotOf ids kinds cue)]) (rest := []) dX6_move_10 cvX6_118 (c_X3_isSlot hxs (T_X3_slotOf ids kinds cue) ) ⟨Nat.le_of_ble_eq_true rfl, Nat.le_of_ble_eq_true rfl, Nat.le_of_ble_eq_true rfl, Nat.le_of_ble_eq_true rfl⟩ (Nat.le_of_ble_eq_true rfl) rfl ?_
  refine V_if_ne (tgt := 18) dX6_move_13 (by decide) (fun c3 => ?_) (fun c3 => ?_)
  · rw [if_neg c3] at hz
    refine V_aload_n dX6_move_18 1 rfl ?_
    refine V_iload_n dX6_move_19 3 rfl ?_
    refine V_cVi (As := [.int cueBeat]) (rest := []) dX6_move_20 cvX6_97 (c_X6_isCueBeat hxs hT cueBeat ) hT.1 rfl ⟨Nat.le_of_ble_eq_true rfl, Nat.le_of_ble_eq_true rfl, Nat.le_of_ble_eq_true rfl, Nat.le_of_ble_eq_true rfl⟩ (Nat.le_of_ble_eq_true rfl) rfl ?_
    refine V_if_ne (tgt := 29) dX6_move_23 (by decide) (fun c5 => ?_) (fun c5 => ?_)
    · rw [if_neg c5] at hz
      refine V_aload_n dX6_move_29 1 rfl ?_
      refine gf_sheet_cues hT dX6_move_30 flX6_12 ?_
      refine gf_tree_beats hT.2.1 dX6_move_33 flX6_128 ?_
      refine V_iload_n dX6_move_36 0 rfl ?_
      refine ld_tree_beats hT.2.1 dX6_move_37 (by first | assumption | exact isSlot_in (by assumption) | exact hasPerf_in (by assumption) | exact isKind_in (by assumption) | exact in16c (by assumption) (by assumption) | exact in6c (by assumption) (by assumption) | exact Or.resolve_left (by assumption) (by assumption)) ?_
      refine V_istore (lv' := [(4, .int (rd beats (T_X3_slotOf ids kinds cue))), (3, .int (T_X3_slotOf ids kinds cue)), (0, .ref s), (1, .int cue), (2, .int cueBeat)]) dX6_move_38 (by decide) rfl ?_
      refine V_aload_n dX6_move_40 2 rfl ?_
      refine gf_sheet_cues hT dX6_move_41 flX6_12 ?_
      refine V_iload_n dX6_move_44 1 rfl ?_
      refine V_iload_n dX6_move_45 4 rfl ?_
      refine V_cVmv (As := [.int (T_X3_slotOf ids kinds cue), .int cueBeat]) (rest := []) dX6_move_46 cvX6_131 (c_X3_shift hxs hT.2.1 (T_X3_slotOf ids kinds cue) cueBeat ) hT.2.1.1 rfl ⟨Nat.le_of_ble_eq_true rfl, Nat.le_of_ble_eq_true rfl, Nat.le_of_ble_eq_true rfl, Nat.le_of_ble_eq_true rfl⟩ (Nat.le_of_ble_eq_true rfl) rfl (fun h9 q9 => ?_)
      obtain ⟨hT9, hO9⟩ := q9
      have hT6 := IsSheet.tree hT hT9 hO9
      have hO6 := (hO9.up (b := s) (v := 12) (by omega) (by omega))
      generalize T_X3_shift ids beats lower higher root (T_X3_slotOf ids kinds cue) cueBeat = r7 at hT9 hT6 hz ⊢
      refine V_iload dX6_move_49 0 rfl ?_
      exact V_iret dX6_move_51 rfl ⟨Nat.le_of_ble_eq_true rfl, Nat.le_of_ble_eq_true rfl⟩ (hK ((rd beats (T_X3_slotOf ids kinds cue)), r7.1, r7.2.1, r7.2.2.1, r7.2.2.2) _ hT6 hO6 hz)
    · rw [if_pos c5] at hz
      refine V_bipush (v := (-2)) dX6_move_26 (by decide) ?_
      exact V_iret dX6_move_28 rfl ⟨Nat.le_of_ble_eq_true rfl, Nat.le_of_ble_eq_true rfl⟩ (hK ((-2), beats, lower, higher, root) _ hT Outs.rf hz)
  · rw [if_pos c3] at hz
    refine V_iconst (v := (-1)) dX6_move_16 (by decide) ?_
    exact V_iret dX6_move_17 rfl ⟨Nat.le_of_ble_eq_true rfl, Nat.le_of_ble_eq_true rfl⟩ (hK ((-1), beats, lower, higher, root) _ hT Outs.rf hz)
theorem c_X6_move {X : KX} (hxs : X.1.stackTraces = false) {h : AH} {s : Nat} {ids kinds players beats sizes lower higher od owed mends : List Int32} {root count perf nid beat act lim hend hbt happ clash imp paid : Int32} (hT : IsSheet X h s ids kinds players beats sizes lower higher od root count owed mends perf nid beat act lim hend hbt happ clash imp paid) (cue : Int32) (cueBeat : Int32) : Ct X mX6_move [.ref s, .int cue, .int cueBeat] h (zM (some (.int (T_X6_move ids kinds beats lower higher root beat cue cueBeat).1)) (fun h' => IsSheet X h' s ids kinds players (T_X6_move ids kinds beats lower higher root beat cue cueBeat).2.1 sizes (T_X6_move ids kinds beats lower higher root beat cue cueBeat).2.2.1 (T_X6_move ids kinds beats lower higher root beat cue cueBeat).2.2.2.1 od (T_X6_move ids kinds beats lower higher root beat cue cueBeat).2.2.2.2 count owed mends perf nid beat act lim hend hbt happ clash imp paid ∧ Outs h h' s 12)) := w_X6_move hxs hT cue cueBeat  (K := fun r => r = T_X6_move ids kinds beats lower higher root beat cue cueBeat) (fun r h' a b e => by subst e; exact ⟨rfl, a, b⟩) rfl
def T_X6_limitNoise (lim : Int32) (newLimit : Int32) : Int32 × Int32 := (if newLimit < 0 then ((-1), lim) else (if newLimit ≤ 30 then (lim, newLimit) else ((-1), lim)))
set_option maxRecDepth 20000 in
set_option maxHeartbeats 2000000 in
theorem w_X6_limitNoise {X : KX} (hxs : X.1.stackTraces = false) {h : AH} {s : Nat} {ids kinds players beats sizes lower higher od owed mends : List Int32} {root count perf nid beat act lim hend hbt happ clash imp paid : Int32} (hT : IsSheet X h s ids kinds players beats sizes lower higher od root count owed mends perf nid beat act lim hend hbt happ clash imp paid) (newLimit : Int32) {Z : ZT} {K : Int32 × Int32 → Prop} (hK : ∀ (r : Int32 × Int32) (h' : AH), IsSheet X h' s ids kinds players beats sizes lower higher od root count owed mends perf nid beat act (r.2) hend hbt happ clash imp paid → Outs h h' s 12 → K r → Z (.inl (some (.int r.1))) h') (hz : K (T_X6_limitNoise lim newLimit)) : Ct X mX6_limitNoise [.ref s, .int newLimit] h Z := by
  refine Ct.of (by decide) rfl (Nat.le_of_ble_eq_true rfl) rfl hxs ?_
  unfold T_X6_limitNoise at hz
  try dsimp only [tb] at hz
  refine V_iload_n dX6_limitNoise_0 1 rfl ?_
  refine V_if_lt (tgt := 10) dX6_limitNoise_1 (by decide) (fun c1 => ?_) (fun c1 => ?_)
  · rw [if_pos c1] at hz
    refine V_iconst (v := (-1)) dX6_limitNoise_10 (by decide) ?_
    exact V_iret dX6_limitNoise_11 rfl ⟨Nat.le_of_ble_eq_true rfl, Nat.le_of_ble_eq_true rfl⟩ (hK ((-1), lim) _ hT Outs.rf hz)
  · rw [if_neg c1] at hz
    refine V_iload_n dX6_limitNoise_4 1 rfl ?_
    refine V_bipush (v := 30) dX6_limitNoise_5 (by decide) ?_
    refine V_icmp_le (tgt := 12) dX6_limitNoise_7 (by decide) (fun c2 => ?_) (fun c2 => ?_)
    · rw [if_pos c2] at hz
      refine V_aload_n dX6_limitNoise_12 0 rfl ?_
      refine gf_sheet_lim hT dX6_limitNoise_13 flX6_38 ?_
      refine V_istore_n (lv' := [(2, .int lim), (0, .ref s), (1, .int newLimit)]) dX6_limitNoise_16 rfl (by decide) rfl ?_
      refine V_aload_n dX6_limitNoise_17 1 rfl ?_
      refine V_iload_n dX6_limitNoise_18 2 rfl ?_
      refine pf_sheet_lim hT dX6_limitNoise_19 flX6_38 (fun h3 hT3 hO3 => ?_)
      refine V_iload_n dX6_limitNoise_22 0 rfl ?_
      exact V_iret dX6_limitNoise_23 rfl ⟨Nat.le_of_ble_eq_true rfl, Nat.le_of_ble_eq_true rfl⟩ (hK (lim, newLimit) _ hT3 hO3 hz)
    · rw [if_neg c2] at hz
      refine V_iconst (v := (-1)) dX6_limitNoise_10 (by decide) ?_
      exact V_iret dX6_limitNoise_11 rfl ⟨Nat.le_of_ble_eq_true rfl, Nat.le_of_ble_eq_true rfl⟩ (hK ((-1), lim) _ hT Outs.rf hz)
theorem c_X6_limitNoise {X : KX} (hxs : X.1.stackTraces = false) {h : AH} {s : Nat} {ids kinds players beats sizes lower higher od owed mends : List Int32} {root count perf nid beat act lim hend hbt happ clash imp paid : Int32} (hT : IsSheet X h s ids kinds players beats sizes lower higher od root count owed mends perf nid beat act lim hend hbt happ clash imp paid) (newLimit : Int32) : Ct X mX6_limitNoise [.ref s, .int newLimit] h (zM (some (.int (T_X6_limitNoise lim newLimit).1)) (fun h' => IsSheet X h' s ids kinds players beats sizes lower higher od root count owed mends perf nid beat act (T_X6_limitNoise lim newLimit).2 hend hbt happ clash imp paid ∧ Outs h h' s 12)) := w_X6_limitNoise hxs hT newLimit  (K := fun r => r = T_X6_limitNoise lim newLimit) (fun r h' a b e => by subst e; exact ⟨rfl, a, b⟩) rfl
def T_X6_openAct (mends : List Int32) (act : Int32) (hend : Int32) : Int32 × List Int32 × Int32 × Int32 := (if act < 3 then ((act + 1), (List.replicate 6 (-1)), (act + 1), (-1)) else ((-1), mends, act, hend))
set_option maxRecDepth 20000 in
set_option maxHeartbeats 2000000 in
theorem w_X6_openAct {X : KX} (hxs : X.1.stackTraces = false) {h : AH} {s : Nat} {ids kinds players beats sizes lower higher od owed mends : List Int32} {root count perf nid beat act lim hend hbt happ clash imp paid : Int32} (hT : IsSheet X h s ids kinds players beats sizes lower higher od root count owed mends perf nid beat act lim hend hbt happ clash imp paid)  {Z : ZT} {K : Int32 × List Int32 × Int32 × Int32 → Prop} (hK : ∀ (r : Int32 × List Int32 × Int32 × Int32) (h' : AH), IsSheet X h' s ids kinds players beats sizes lower higher od root count owed (r.2.1) perf nid beat (r.2.2.1) lim (r.2.2.2) hbt happ clash imp paid → Outs h h' s 12 → K r → Z (.inl (some (.int r.1))) h') (hz : K (T_X6_openAct mends act hend)) : Ct X mX6_openAct [.ref s] h Z := by
  refine Ct.of (by decide) rfl (Nat.le_of_ble_eq_true rfl) rfl hxs ?_
  unfold T_X6_openAct at hz
  try dsimp only [tb] at hz
  refine V_aload_n dX6_openAct_0 0 rfl ?_
  refine gf_sheet_act hT dX6_openAct_1 flX6_35 ?_
  refine V_iconst (v := 3) dX6_openAct_4 (by decide) ?_
  refine V_icmp_lt (tgt := 10) dX6_openAct_5 (by decide) (fun c1 => ?_) (fun c1 => ?_)
  · rw [if_pos c1] at hz
    refine V_aload_n dX6_openAct_10 0 rfl ?_
    refine V_dup dX6_openAct_11 rfl ?_
    refine gf_sheet_act hT dX6_openAct_12 flX6_35 ?_
    refine V_iconst (v := 1) dX6_openAct_15 (by decide) ?_
    refine V_iadd dX6_openAct_16 ?_
    refine pf_sheet_act hT dX6_openAct_17 flX6_35 (fun h2 hT2 hO2 => ?_)
    refine V_aload_n dX6_openAct_20 0 rfl ?_
    refine V_iconst (v := (-1)) dX6_openAct_21 (by decide) ?_
    refine pf_sheet_hend hT2 dX6_openAct_22 flX6_41 (fun h3 hT3 hO3 => ?_)
    have hO3 := Outs.tr hO2 hO3
    refine V_aload_n dX6_openAct_25 0 rfl ?_
    refine gf_sheet_mends hT3 dX6_openAct_26 flX6_22 ?_
    refine V_iconst (v := (-1)) dX6_openAct_29 (by decide) ?_
    refine V_cSmv (As := [.ref (s + 11), .int (-1)]) (rest := []) dX6_openAct_30 cvX6_59 (c_J7_fill_53178 hxs hT3.2.2.2.1 (by rw [hT3.2.2.2.2]; decide) (-1)) ⟨Nat.le_of_ble_eq_true rfl, Nat.le_of_ble_eq_true rfl, Nat.le_of_ble_eq_true rfl, Nat.le_of_ble_eq_true rfl⟩ (Nat.le_of_ble_eq_true rfl) rfl (fun h9 q9 => ?_)
    rw [hT3.2.2.2.2] at q9
    have hT4 := IsSheet.w_mends (L := (List.replicate 6 (-1))) hT3 (by simp)
    rw [← q9] at hT4
    have hO4a : Outs h3 h9 s 12 := by rw [q9]; exact Outs.put (by omega) (by omega)
    have hO4 := Outs.tr hO3 hO4a
    refine V_aload_n dX6_openAct_33 0 rfl ?_
    refine gf_sheet_act hT4 dX6_openAct_34 flX6_35 ?_
    exact V_iret dX6_openAct_37 rfl ⟨Nat.le_of_ble_eq_true rfl, Nat.le_of_ble_eq_true rfl⟩ (hK ((act + 1), (List.replicate 6 (-1)), (act + 1), (-1)) _ hT4 hO4 hz)
  · rw [if_neg c1] at hz
    refine V_iconst (v := (-1)) dX6_openAct_8 (by decide) ?_
    exact V_iret dX6_openAct_9 rfl ⟨Nat.le_of_ble_eq_true rfl, Nat.le_of_ble_eq_true rfl⟩ (hK ((-1), mends, act, hend) _ hT Outs.rf hz)
theorem c_X6_openAct {X : KX} (hxs : X.1.stackTraces = false) {h : AH} {s : Nat} {ids kinds players beats sizes lower higher od owed mends : List Int32} {root count perf nid beat act lim hend hbt happ clash imp paid : Int32} (hT : IsSheet X h s ids kinds players beats sizes lower higher od root count owed mends perf nid beat act lim hend hbt happ clash imp paid)  : Ct X mX6_openAct [.ref s] h (zM (some (.int (T_X6_openAct mends act hend).1)) (fun h' => IsSheet X h' s ids kinds players beats sizes lower higher od root count owed (T_X6_openAct mends act hend).2.1 perf nid beat (T_X6_openAct mends act hend).2.2.1 lim (T_X6_openAct mends act hend).2.2.2 hbt happ clash imp paid ∧ Outs h h' s 12)) := w_X6_openAct hxs hT   (K := fun r => r = T_X6_openAct mends act hend) (fun r h' a b e => by subst e; exact ⟨rfl, a, b⟩) rfl
