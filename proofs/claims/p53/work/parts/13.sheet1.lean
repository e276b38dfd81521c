/-! ===== the sheet ===== -/
def T_X6_hasPerformer (perf : Int32) (performer : Int32) : Int32 := (if performer < 0 then 0 else (if perf ≤ performer then 0 else (if 6 ≤ performer then 0 else 1)))
set_option maxRecDepth 20000 in
set_option maxHeartbeats 2000000 in
theorem w_X6_hasPerformer {X : KX} (hxs : X.1.stackTraces = false) {h : AH} {s : Nat} {ids kinds players beats sizes lower higher od owed mends : List Int32} {root count perf nid beat act lim hend hbt happ clash imp paid : Int32} (hT : IsSheet X h s ids kinds players beats sizes lower higher od root count owed mends perf nid beat act lim hend hbt happ clash imp paid) (performer : Int32) {Z : ZT} {K : Int32 → Prop} (hK : ∀ r : Int32, K r → Z (.inl (some (.int r))) h) (hz : K (T_X6_hasPerformer perf performer)) : Ct X mX6_hasPerformer [.ref s, .int performer] h Z := by
  refine Ct.of (by decide) rfl (Nat.le_of_ble_eq_true rfl) rfl hxs ?_
  unfold T_X6_hasPerformer at hz
  try dsimp only [tb] at hz
  refine V_iload_n dX6_hasPerformer_0 1 rfl ?_
  refine V_if_lt (tgt := 22) dX6_hasPerformer_1 (by decide) (fun c1 => ?_) (fun c1 => ?_)
  · rw [if_pos c1] at hz
    refine V_iconst (v := 0) dX6_hasPerformer_22 (by decide) ?_
    exact V_zret dX6_hasPerformer_23 rfl bN0 ⟨Nat.le_of_ble_eq_true rfl, Nat.le_of_ble_eq_true rfl⟩ (hK 0 hz)
  · rw [if_neg c1] at hz
    refine V_iload_n dX6_hasPerformer_4 1 rfl ?_
    refine V_aload_n dX6_hasPerformer_5 0 rfl ?_
    refine gf_sheet_perf hT dX6_hasPerformer_6 flX6_25 ?_
    refine V_icmp_ge (tgt := 22) dX6_hasPerformer_9 (by decide) (fun c2 => ?_) (fun c2 => ?_)
    · rw [if_pos c2] at hz
      refine V_iconst (v := 0) dX6_hasPerformer_22 (by decide) ?_
      exact V_zret dX6_hasPerformer_23 rfl bN0 ⟨Nat.le_of_ble_eq_true rfl, Nat.le_of_ble_eq_true rfl⟩ (hK 0 hz)
    · rw [if_neg c2] at hz
      refine V_iload_n dX6_hasPerformer_12 1 rfl ?_
      refine V_bipush (v := 6) dX6_hasPerformer_13 (by decide) ?_
      refine V_icmp_ge (tgt := 22) dX6_hasPerformer_15 (by decide) (fun c3 => ?_) (fun c3 => ?_)
      · rw [if_pos c3] at hz
        refine V_iconst (v := 0) dX6_hasPerformer_22 (by decide) ?_
        exact V_zret dX6_hasPerformer_23 rfl bN0 ⟨Nat.le_of_ble_eq_true rfl, Nat.le_of_ble_eq_true rfl⟩ (hK 0 hz)
      · rw [if_neg c3] at hz
        refine V_iconst (v := 1) dX6_hasPerformer_18 (by decide) ?_
        refine V_goto (tgt := 23) dX6_hasPerformer_19 (by decide) ?_
        exact V_zret dX6_hasPerformer_23 rfl bN1 ⟨Nat.le_of_ble_eq_true rfl, Nat.le_of_ble_eq_true rfl⟩ (hK 1 hz)
theorem c_X6_hasPerformer {X : KX} (hxs : X.1.stackTraces = false) {h : AH} {s : Nat} {ids kinds players beats sizes lower higher od owed mends : List Int32} {root count perf nid beat act lim hend hbt happ clash imp paid : Int32} (hT : IsSheet X h s ids kinds players beats sizes lower higher od root count owed mends perf nid beat act lim hend hbt happ clash imp paid) (performer : Int32) : Ct X mX6_hasPerformer [.ref s, .int performer] h (zR (some (.int (T_X6_hasPerformer perf performer))) h) := w_X6_hasPerformer hxs hT performer  (K := fun r => r = T_X6_hasPerformer perf performer) (fun r e => by subst e; exact ⟨rfl, rfl⟩) rfl
theorem hasPerf_in {perf x : Int32} (hc : ¬ T_X6_hasPerformer perf x = 0) : vp_in x 6 := by
  unfold T_X6_hasPerformer at hc
  by_cases h1 : x < 0
  · simp [h1] at hc
  · by_cases h2 : (6 : Int32) ≤ x
    · simp [h1, h2] at hc
    · exact hasInt (b := 6) h1 h2 (by decide)
def T_X6_isOpen (mends : List Int32) (perf : Int32) (performer : Int32) : Int32 := (if (T_X6_hasPerformer perf performer) = 0 then 0 else (if (rd mends performer) = (-1) then 0 else 1))
set_option maxRecDepth 20000 in
set_option maxHeartbeats 2000000 in
theorem w_X6_isOpen {X : KX} (hxs : X.1.stackTraces = false) {h : AH} {s : Nat} {ids kinds players beats sizes lower higher od owed mends : List Int32} {root count perf nid beat act lim hend hbt happ clash imp paid : Int32} (hT : IsSheet X h s ids kinds players beats sizes lower higher od root count owed mends perf nid beat act lim hend hbt happ clash imp paid) (performer : Int32) {Z : ZT} {K : Int32 → Prop} (hK : ∀ r : Int32, K r → Z (.inl (some (.int r))) h) (hz : K (T_X6_isOpen mends perf performer)) : Ct X mX6_isOpen [.ref s, .int performer] h Z := by
  refine Ct.of (by decide) rfl (Nat.le_of_ble_eq_true rfl) rfl hxs ?_
  unfold T_X6_isOpen at hz
  try dsimp only [tb] at hz
  refine V_aload_n dX6_isOpen_0 0 rfl ?_
  refine V_iload_n dX6_isOpen_1 1 rfl ?_
  refine V_cVi (As := [.int performer]) (rest := []) dX6_isOpen_2 cvX6_75 (c_X6_hasPerformer hxs hT performer ) hT.1 rfl ⟨Nat.le_of_ble_eq_true rfl, Nat.le_of_ble_eq_true rfl, Nat.le_of_ble_eq_true rfl, Nat.le_of_ble_eq_true rfl⟩ (Nat.le_of_ble_eq_true rfl) rfl ?_
  refine V_if_eq (tgt := 22) dX6_isOpen_5 (by decide) (fun c2 => ?_) (fun c2 => ?_)
  · rw [if_pos c2] at hz
    refine V_iconst (v := 0) dX6_isOpen_22 (by decide) ?_
    exact V_zret dX6_isOpen_23 rfl bN0 ⟨Nat.le_of_ble_eq_true rfl, Nat.le_of_ble_eq_true rfl⟩ (hK 0 hz)
  · rw [if_neg c2] at hz
    refine V_aload_n dX6_isOpen_8 0 rfl ?_
    refine gf_sheet_mends hT dX6_isOpen_9 flX6_22 ?_
    refine V_iload_n dX6_isOpen_12 1 rfl ?_
    refine ld_sheet_mends hT dX6_isOpen_13 (by first | assumption | exact isSlot_in (by assumption) | exact hasPerf_in (by assumption) | exact Or.resolve_left (by assumption) (by assumption)) ?_
    refine V_iconst (v := (-1)) dX6_isOpen_14 (by decide) ?_
    refine V_icmp_eq (tgt := 22) dX6_isOpen_15 (by decide) (fun c3 => ?_) (fun c3 => ?_)
    · rw [if_pos c3] at hz
      refine V_iconst (v := 0) dX6_isOpen_22 (by decide) ?_
      exact V_zret dX6_isOpen_23 rfl bN0 ⟨Nat.le_of_ble_eq_true rfl, Nat.le_of_ble_eq_true rfl⟩ (hK 0 hz)
    · rw [if_neg c3] at hz
      refine V_iconst (v := 1) dX6_isOpen_18 (by decide) ?_
      refine V_goto (tgt := 23) dX6_isOpen_19 (by decide) ?_
      exact V_zret dX6_isOpen_23 rfl bN1 ⟨Nat.le_of_ble_eq_true rfl, Nat.le_of_ble_eq_true rfl⟩ (hK 1 hz)
theorem c_X6_isOpen {X : KX} (hxs : X.1.stackTraces = false) {h : AH} {s : Nat} {ids kinds players beats sizes lower higher od owed mends : List Int32} {root count perf nid beat act lim hend hbt happ clash imp paid : Int32} (hT : IsSheet X h s ids kinds players beats sizes lower higher od root count owed mends perf nid beat act lim hend hbt happ clash imp paid) (performer : Int32) : Ct X mX6_isOpen [.ref s, .int performer] h (zR (some (.int (T_X6_isOpen mends perf performer))) h) := w_X6_isOpen hxs hT performer  (K := fun r => r = T_X6_isOpen mends perf performer) (fun r e => by subst e; exact ⟨rfl, rfl⟩) rfl
def T_X6_isCueBeat (beat : Int32) (candidate : Int32) : Int32 := (if candidate ≤ beat then 0 else (if 199 < candidate then 0 else 1))
set_option maxRecDepth 20000 in
set_option maxHeartbeats 2000000 in
theorem w_X6_isCueBeat {X : KX} (hxs : X.1.stackTraces = false) {h : AH} {s : Nat} {ids kinds players beats sizes lower higher od owed mends : List Int32} {root count perf nid beat act lim hend hbt happ clash imp paid : Int32} (hT : IsSheet X h s ids kinds players beats sizes lower higher od root count owed mends perf nid beat act lim hend hbt happ clash imp paid) (candidate : Int32) {Z : ZT} {K : Int32 → Prop} (hK : ∀ r : Int32, K r → Z (.inl (some (.int r))) h) (hz : K (T_X6_isCueBeat beat candidate)) : Ct X mX6_isCueBeat [.ref s, .int candidate] h Z := by
  refine Ct.of (by decide) rfl (Nat.le_of_ble_eq_true rfl) rfl hxs ?_
  unfold T_X6_isCueBeat at hz
  try dsimp only [tb] at hz
  refine V_iload_n dX6_isCueBeat_0 1 rfl ?_
  refine V_aload_n dX6_isCueBeat_1 0 rfl ?_
  refine gf_sheet_beat hT dX6_isCueBeat_2 flX6_32 ?_
  refine V_icmp_le (tgt := 19) dX6_isCueBeat_5 (by decide) (fun c1 => ?_) (fun c1 => ?_)
  · rw [if_pos c1] at hz
    refine V_iconst (v := 0) dX6_isCueBeat_19 (by decide) ?_
    exact V_zret dX6_isCueBeat_20 rfl bN0 ⟨Nat.le_of_ble_eq_true rfl, Nat.le_of_ble_eq_true rfl⟩ (hK 0 hz)
  · rw [if_neg c1] at hz
    refine V_iload_n dX6_isCueBeat_8 1 rfl ?_
    refine V_sipush (v := 199) dX6_isCueBeat_9 (by decide) ?_
    refine V_icmp_gt (tgt := 19) dX6_isCueBeat_12 (by decide) (fun c2 => ?_) (fun c2 => ?_)
    · rw [if_pos c2] at hz
      refine V_iconst (v := 0) dX6_isCueBeat_19 (by decide) ?_
      exact V_zret dX6_isCueBeat_20 rfl bN0 ⟨Nat.le_of_ble_eq_true rfl, Nat.le_of_ble_eq_true rfl⟩ (hK 0 hz)
    · rw [if_neg c2] at hz
      refine V_iconst (v := 1) dX6_isCueBeat_15 (by decide) ?_
      refine V_goto (tgt := 20) dX6_isCueBeat_16 (by decide) ?_
      exact V_zret dX6_isCueBeat_20 rfl bN1 ⟨Nat.le_of_ble_eq_true rfl, Nat.le_of_ble_eq_true rfl⟩ (hK 1 hz)
theorem c_X6_isCueBeat {X : KX} (hxs : X.1.stackTraces = false) {h : AH} {s : Nat} {ids kinds players beats sizes lower higher od owed mends : List Int32} {root count perf nid beat act lim hend hbt happ clash imp paid : Int32} (hT : IsSheet X h s ids kinds players beats sizes lower higher od root count owed mends perf nid beat act lim hend hbt happ clash imp paid) (candidate : Int32) : Ct X mX6_isCueBeat [.ref s, .int candidate] h (zR (some (.int (T_X6_isCueBeat beat candidate))) h) := w_X6_isCueBeat hxs hT candidate  (K := fun r => r = T_X6_isCueBeat beat candidate) (fun r e => by subst e; exact ⟨rfl, rfl⟩) rfl
def T_X6_isSize (size : Int32) : Int32 := (if size < 1 then 0 else (if 9 < size then 0 else 1))
set_option maxRecDepth 20000 in
set_option maxHeartbeats 2000000 in
theorem w_X6_isSize {X : KX} (hxs : X.1.stackTraces = false) {h : AH} (size : Int32) {Z : ZT} {K : Int32 → Prop} (hK : ∀ r : Int32, K r → Z (.inl (some (.int r))) h) (hz : K (T_X6_isSize size)) : Ct X mX6_isSize [.int size] h Z := by
  refine Ct.of (by decide) rfl (Nat.le_of_ble_eq_true rfl) rfl hxs ?_
  unfold T_X6_isSize at hz
  try dsimp only [tb] at hz
  refine V_iload_n dX6_isSize_0 0 rfl ?_
  refine V_iconst (v := 1) dX6_isSize_1 (by decide) ?_
  refine V_icmp_lt (tgt := 15) dX6_isSize_2 (by decide) (fun c1 => ?_) (fun c1 => ?_)
  · rw [if_pos c1] at hz
    refine V_iconst (v := 0) dX6_isSize_15 (by decide) ?_
    exact V_zret dX6_isSize_16 rfl bN0 ⟨Nat.le_of_ble_eq_true rfl, Nat.le_of_ble_eq_true rfl⟩ (hK 0 hz)
  · rw [if_neg c1] at hz
    refine V_iload_n dX6_isSize_5 0 rfl ?_
    refine V_bipush (v := 9) dX6_isSize_6 (by decide) ?_
    refine V_icmp_gt (tgt := 15) dX6_isSize_8 (by decide) (fun c2 => ?_) (fun c2 => ?_)
    · rw [if_pos c2] at hz
      refine V_iconst (v := 0) dX6_isSize_15 (by decide) ?_
      exact V_zret dX6_isSize_16 rfl bN0 ⟨Nat.le_of_ble_eq_true rfl, Nat.le_of_ble_eq_true rfl⟩ (hK 0 hz)
    · rw [if_neg c2] at hz
      refine V_iconst (v := 1) dX6_isSize_11 (by decide) ?_
      refine V_goto (tgt := 16) dX6_isSize_12 (by decide) ?_
      exact V_zret dX6_isSize_16 rfl bN1 ⟨Nat.le_of_ble_eq_true rfl, Nat.le_of_ble_eq_true rfl⟩ (hK 1 hz)
theorem c_X6_isSize {X : KX} (hxs : X.1.stackTraces = false) {h : AH} (size : Int32) : Ct X mX6_isSize [.int size] h (zR (some (.int (T_X6_isSize size))) h) := w_X6_isSize hxs size  (K := fun r => r = T_X6_isSize size) (fun r e => by subst e; exact ⟨rfl, rfl⟩) rfl
def T_X6_owedTotal_L4 (owed : List Int32) : Nat → Nat → Int32 → Int32
  | 0, i, x1 => x1
  | f + 1, i, x1 => T_X6_owedTotal_L4 owed f (i + 1) (x1 + (rd owed (nI i)))
def T_X6_owedTotal (owed : List Int32) : Int32 := T_X6_owedTotal_L4 owed 6 0 0
set_option maxRecDepth 20000 in
set_option maxHeartbeats 2000000 in
theorem w_X6_owedTotal {X : KX} (hxs : X.1.stackTraces = false) {h : AH} {s : Nat} {ids kinds players beats sizes lower higher od owed mends : List Int32} {root count perf nid beat act lim hend hbt happ clash imp paid : Int32} (hT : IsSheet X h s ids kinds players beats sizes lower higher od root count owed mends perf nid beat act lim hend hbt happ clash imp paid)  {Z : ZT} {K : Int32 → Prop} (hK : ∀ r : Int32, K r → Z (.inl (some (.int r))) h) (hz : K (T_X6_owedTotal owed)) : Ct X mX6_owedTotal [.ref s] h Z := by
  refine Ct.of (by decide) rfl (Nat.le_of_ble_eq_true rfl) rfl hxs ?_
  have L4 : ∀ (f i : Nat), ∀ (x1 : Int32), i + f = 6 → K (T_X6_owedTotal_L4 owed f i x1) → V X mX6_owedTotal (zF X mX6_owedTotal Z) 0 0 4 [(0, .ref s), (1, .int x1), (2, .int (nI i))] [] h := by
    intro f
    induction f with
    | zero =>
      intro i x1 hi hz
      obtain rfl : i = 6 := by omega
      rw [T_X6_owedTotal_L4] at hz
      try dsimp only [tb] at hz
      refine V_iload_n dX6_owedTotal_4 2 rfl ?_
      refine V_bipush (v := 6) dX6_owedTotal_5 (by decide) ?_
      refine V_icmp_ge (tgt := 25) dX6_owedTotal_7 (by decide) (fun _ => ?_) (fun c9 => absurd (by decide) c9)
      refine V_iload_n dX6_owedTotal_25 1 rfl ?_
      exact V_iret dX6_owedTotal_26 rfl ⟨Nat.le_of_ble_eq_true rfl, Nat.le_of_ble_eq_true rfl⟩ (hK x1 hz)
    | succ f ih =>
      intro i x1 hi hz
      rw [T_X6_owedTotal_L4] at hz
      try dsimp only [tb] at hz
      refine V_iload_n dX6_owedTotal_4 2 rfl ?_
      refine V_bipush (v := 6) dX6_owedTotal_5 (by decide) ?_
      refine V_icmp_ge (tgt := 25) dX6_owedTotal_7 (by decide) (fun c9 => absurd c9 (nI_ge (a := i) (b := 6) (by omega) (by omega))) (fun _ => ?_)
      refine V_iload_n dX6_owedTotal_10 1 rfl ?_
      refine V_aload_n dX6_owedTotal_11 0 rfl ?_
      refine gf_sheet_owed hT dX6_owedTotal_12 flX6_18 ?_
      refine V_iload_n dX6_owedTotal_15 2 rfl ?_
      refine ld_sheet_owed hT dX6_owedTotal_16 (vp_in_nI (by omega) (by omega)) ?_
      refine V_iadd dX6_owedTotal_17 ?_
      refine V_istore_n (lv' := [(1, .int (x1 + (rd owed (nI i)))), (0, .ref s), (2, .int (nI i))]) dX6_owedTotal_18 rfl (by decide) rfl ?_
      refine V_iinc (v := nI (i + 1)) (lv' := [(2, .int (nI (i + 1))), (1, .int (x1 + (rd owed (nI i)))), (0, .ref s)]) dX6_owedTotal_19 2 rfl (iinc1 i) (by decide) rfl ?_
      refine V_goto (tgt := 4) dX6_owedTotal_22 (by decide) ?_
      refine V.loc [2, 1, 0] rfl ?_
      exact ih (i + 1) (x1 + (rd owed (nI i))) (by omega)  hz
  unfold T_X6_owedTotal at hz
  try dsimp only [tb] at hz
  refine V_iconst (v := 0) dX6_owedTotal_0 (by decide) ?_
  refine V_istore_n (lv' := [(1, .int 0), (0, .ref s)]) dX6_owedTotal_1 rfl (by decide) rfl ?_
  refine V_iconst (v := 0) dX6_owedTotal_2 (by decide) ?_
  refine V_istore_n (lv' := [(2, .int 0), (1, .int 0), (0, .ref s)]) dX6_owedTotal_3 rfl (by decide) rfl ?_
  refine V.loc [2, 1, 0] rfl ?_
  exact L4 6 0 0 (by omega)  hz
theorem c_X6_owedTotal {X : KX} (hxs : X.1.stackTraces = false) {h : AH} {s : Nat} {ids kinds players beats sizes lower higher od owed mends : List Int32} {root count perf nid beat act lim hend hbt happ clash imp paid : Int32} (hT : IsSheet X h s ids kinds players beats sizes lower higher od root count owed mends perf nid beat act lim hend hbt happ clash imp paid)  : Ct X mX6_owedTotal [.ref s] h (zR (some (.int (T_X6_owedTotal owed))) h) := w_X6_owedTotal hxs hT   (K := fun r => r = T_X6_owedTotal owed) (fun r e => by subst e; exact ⟨rfl, rfl⟩) rfl
def T_X6_comesBefore (kinds : List Int32) (players : List Int32) (owed : List Int32) (one : Int32) (other : Int32) : Int32 := (if (rd owed one) = (rd owed other) then (if ((T_X3_countOf kinds players one) - (T_X3_countOf kinds players other)) = 0 then (if other ≤ one then 0 else 1) else (if ((T_X3_countOf kinds players one) - (T_X3_countOf kinds players other)) ≤ 0 then 0 else 1)) else (if (rd owed one) ≤ (rd owed other) then 0 else 1))
set_option maxRecDepth 20000 in
set_option maxHeartbeats 2000000 in
theorem w_X6_comesBefore {X : KX} (hxs : X.1.stackTraces = false) {h : AH} {s : Nat} {ids kinds players beats sizes lower higher od owed mends : List Int32} {root count perf nid beat act lim hend hbt happ clash imp paid : Int32} (hT : IsSheet X h s ids kinds players beats sizes lower higher od root count owed mends perf nid beat act lim hend hbt happ clash imp paid) (one : Int32) (other : Int32) (h1i : vp_in one 6) (h2i : vp_in other 6) {Z : ZT} {K : Int32 → Prop} (hK : ∀ r : Int32, K r → Z (.inl (some (.int r))) h) (hz : K (T_X6_comesBefore kinds players owed one other)) : Ct X mX6_comesBefore [.ref s, .int one, .int other] h Z := by
  refine Ct.of (by decide) rfl (Nat.le_of_ble_eq_true rfl) rfl hxs ?_
  unfold T_X6_comesBefore at hz
  try dsimp only [tb] at hz
  refine V_aload_n dX6_comesBefore_0 0 rfl ?_
  refine gf_sheet_owed hT dX6_comesBefore_1 flX6_18 ?_
  refine V_iload_n dX6_comesBefore_4 1 rfl ?_
  refine ld_sheet_owed hT dX6_comesBefore_5 (by first | assumption | exact isSlot_in (by assumption) | exact hasPerf_in (by assumption) | exact Or.resolve_left (by assumption) (by assumption)) ?_
  refine V_aload_n dX6_comesBefore_6 0 rfl ?_
  refine gf_sheet_owed hT dX6_comesBefore_7 flX6_18 ?_
  refine V_iload_n dX6_comesBefore_10 2 rfl ?_
  refine ld_sheet_owed hT dX6_comesBefore_11 (by first | assumption | exact isSlot_in (by assumption) | exact hasPerf_in (by assumption) | exact Or.resolve_left (by assumption) (by assumption)) ?_
  refine V_icmp_eq (tgt := 36) dX6_comesBefore_12 (by decide) (fun c1 => ?_) (fun c1 => ?_)
  · rw [if_pos c1] at hz
    refine V_aload_n dX6_comesBefore_36 0 rfl ?_
    refine gf_sheet_cues hT dX6_comesBefore_37 flX6_12 ?_
    refine V_iload_n dX6_comesBefore_40 1 rfl ?_
    refine V_cVi (As := [.int one]) (rest := []) dX6_comesBefore_41 cvX6_87 (c_X3_countOf hxs hT.2.1 one ) hT.2.1.1 rfl ⟨Nat.le_of_ble_eq_true rfl, Nat.le_of_ble_eq_true rfl, Nat.le_of_ble_eq_true rfl, Nat.le_of_ble_eq_true rfl⟩ (Nat.le_of_ble_eq_true rfl) rfl ?_
    refine V_aload_n dX6_comesBefore_44 0 rfl ?_
    refine gf_sheet_cues hT dX6_comesBefore_45 flX6_12 ?_
    refine V_iload_n dX6_comesBefore_48 2 rfl ?_
    refine V_cVi (As := [.int other]) (rest := [.int (T_X3_countOf kinds players one)]) dX6_comesBefore_49 cvX6_87 (c_X3_countOf hxs hT.2.1 other ) hT.2.1.1 rfl ⟨Nat.le_of_ble_eq_true rfl, Nat.le_of_ble_eq_true rfl, Nat.le_of_ble_eq_true rfl, Nat.le_of_ble_eq_true rfl⟩ (Nat.le_of_ble_eq_true rfl) rfl ?_
    refine V_isub dX6_comesBefore_52 ?_
    refine V_istore_n (lv' := [(3, .int ((T_X3_countOf kinds players one) - (T_X3_countOf kinds players other))), (0, .ref s), (1, .int one), (2, .int other)]) dX6_comesBefore_53 rfl (by decide) rfl ?_
    refine V_iload_n dX6_comesBefore_54 0 rfl ?_
    refine V_if_eq (tgt := 70) dX6_comesBefore_55 (by decide) (fun c4 => ?_) (fun c4 => ?_)
    · rw [if_pos c4] at hz
      refine V_iload_n dX6_comesBefore_70 2 rfl ?_
      refine V_iload_n dX6_comesBefore_71 3 rfl ?_
      refine V_icmp_ge (tgt := 79) dX6_comesBefore_72 (by decide) (fun c5 => ?_) (fun c5 => ?_)
      · rw [if_pos c5] at hz
        refine V_iconst (v := 0) dX6_comesBefore_79 (by decide) ?_
        exact V_zret dX6_comesBefore_80 rfl bN0 ⟨Nat.le_of_ble_eq_true rfl, Nat.le_of_ble_eq_true rfl⟩ (hK 0 hz)
      · rw [if_neg c5] at hz
        refine V_iconst (v := 1) dX6_comesBefore_75 (by decide) ?_
        refine V_goto (tgt := 80) dX6_comesBefore_76 (by decide) ?_
        exact V_zret dX6_comesBefore_80 rfl bN1 ⟨Nat.le_of_ble_eq_true rfl, Nat.le_of_ble_eq_true rfl⟩ (hK 1 hz)
    · rw [if_neg c4] at hz
      refine V_iload_n dX6_comesBefore_58 0 rfl ?_
      refine V_if_le (tgt := 66) dX6_comesBefore_59 (by decide) (fun c6 => ?_) (fun c6 => ?_)
      · rw [if_pos c6] at hz
        refine V_iconst (v := 0) dX6_comesBefore_66 (by decide) ?_
        refine V_goto (tgt := 80) dX6_comesBefore_67 (by decide) ?_
        exact V_zret dX6_comesBefore_80 rfl bN0 ⟨Nat.le_of_ble_eq_true rfl, Nat.le_of_ble_eq_true rfl⟩ (hK 0 hz)
      · rw [if_neg c6] at hz
        refine V_iconst (v := 1) dX6_comesBefore_62 (by decide) ?_
        refine V_goto (tgt := 80) dX6_comesBefore_63 (by decide) ?_
        exact V_zret dX6_comesBefore_80 rfl bN1 ⟨Nat.le_of_ble_eq_true rfl, Nat.le_of_ble_eq_true rfl⟩ (hK 1 hz)
  · rw [if_neg c1] at hz
    refine V_aload_n dX6_comesBefore_15 0 rfl ?_
    refine gf_sheet_owed hT dX6_comesBefore_16 flX6_18 ?_
    refine V_iload_n dX6_comesBefore_19 1 rfl ?_
    refine ld_sheet_owed hT dX6_comesBefore_20 (by first | assumption | exact isSlot_in (by assumption) | exact hasPerf_in (by assumption) | exact Or.resolve_left (by assumption) (by assumption)) ?_
    refine V_aload_n dX6_comesBefore_21 0 rfl ?_
    refine gf_sheet_owed hT dX6_comesBefore_22 flX6_18 ?_
    refine V_iload_n dX6_comesBefore_25 2 rfl ?_
    refine ld_sheet_owed hT dX6_comesBefore_26 (by first | assumption | exact isSlot_in (by assumption) | exact hasPerf_in (by assumption) | exact Or.resolve_left (by assumption) (by assumption)) ?_
    refine V_icmp_le (tgt := 34) dX6_comesBefore_27 (by decide) (fun c7 => ?_) (fun c7 => ?_)
    · rw [if_pos c7] at hz
      refine V_iconst (v := 0) dX6_comesBefore_34 (by decide) ?_
      exact V_zret dX6_comesBefore_35 rfl bN0 ⟨Nat.le_of_ble_eq_true rfl, Nat.le_of_ble_eq_true rfl⟩ (hK 0 hz)
    · rw [if_neg c7] at hz
      refine V_iconst (v := 1) dX6_comesBefore_30 (by decide) ?_
      refine V_goto (tgt := 35) dX6_comesBefore_31 (by decide) ?_
      exact V_zret dX6_comesBefore_35 rfl bN1 ⟨Nat.le_of_ble_eq_true rfl, Nat.le_of_ble_eq_true rfl⟩ (hK 1 hz)
theorem c_X6_comesBefore {X : KX} (hxs : X.1.stackTraces = false) {h : AH} {s : Nat} {ids kinds players beats sizes lower higher od owed mends : List Int32} {root count perf nid beat act lim hend hbt happ clash imp paid : Int32} (hT : IsSheet X h s ids kinds players beats sizes lower higher od root count owed mends perf nid beat act lim hend hbt happ clash imp paid) (one : Int32) (other : Int32) (h1i : vp_in one 6) (h2i : vp_in other 6) : Ct X mX6_comesBefore [.ref s, .int one, .int other] h (zR (some (.int (T_X6_comesBefore kinds players owed one other))) h) := w_X6_comesBefore hxs hT one other h1i h2i (K := fun r => r = T_X6_comesBefore kinds players owed one other) (fun r e => by subst e; exact ⟨rfl, rfl⟩) rfl
def T_X6_rankOf_L4 (kinds : List Int32) (players : List Int32) (owed : List Int32) (performer : Int32) : Nat → Nat → Int32 → Int32
  | 0, i, x2 => x2
  | f + 1, i, x2 => (if (T_X6_comesBefore kinds players owed (nI i) performer) = 0 then T_X6_rankOf_L4 kinds players owed performer f (i + 1) x2 else T_X6_rankOf_L4 kinds players owed performer f (i + 1) (x2 + 1))
def T_X6_rankOf (kinds : List Int32) (players : List Int32) (owed : List Int32) (perf : Int32) (performer : Int32) : Int32 := T_X6_rankOf_L4 kinds players owed performer perf.toNatClampNeg 0 0
set_option maxRecDepth 20000 in
set_option maxHeartbeats 2000000 in
theorem w_X6_rankOf {X : KX} (hxs : X.1.stackTraces = false) {h : AH} {s : Nat} {ids kinds players beats sizes lower higher od owed mends : List Int32} {root count perf nid beat act lim hend hbt happ clash imp paid : Int32} (hT : IsSheet X h s ids kinds players beats sizes lower higher od root count owed mends perf nid beat act lim hend hbt happ clash imp paid) (performer : Int32) (hP : SmallN perf 6) (hpi : vp_in performer 6) {Z : ZT} {K : Int32 → Prop} (hK : ∀ r : Int32, K r → Z (.inl (some (.int r))) h) (hz : K (T_X6_rankOf kinds players owed perf performer)) : Ct X mX6_rankOf [.ref s, .int performer] h Z := by
  refine Ct.of (by decide) rfl (Nat.le_of_ble_eq_true rfl) rfl hxs ?_
  have hP2 := hP.2
  have L4 : ∀ (f i : Nat), ∀ (x2 : Int32), i + f = perf.toNatClampNeg → K (T_X6_rankOf_L4 kinds players owed performer f i x2) → V X mX6_rankOf (zF X mX6_rankOf Z) 0 0 4 [(0, .ref s), (1, .int performer), (2, .int x2), (3, .int (nI i))] [] h := by
    intro f
    induction f with
    | zero =>
      intro i x2 hi hz
      have ei : i = perf.toNatClampNeg := by omega
      subst ei
      rw [T_X6_rankOf_L4] at hz
      try dsimp only [tb] at hz
      refine V_iload_n dX6_rankOf_4 3 rfl ?_
      refine V_aload_n dX6_rankOf_5 0 rfl ?_
      refine gf_sheet_perf hT dX6_rankOf_6 flX6_25 ?_
      refine V_icmp_ge (tgt := 30) dX6_rankOf_9 (by decide) (fun _ => ?_) (fun c9 => absurd (sm_le hP) c9)
      refine V_iload_n dX6_rankOf_30 2 rfl ?_
      exact V_iret dX6_rankOf_31 rfl ⟨Nat.le_of_ble_eq_true rfl, Nat.le_of_ble_eq_true rfl⟩ (hK x2 hz)
    | succ f ih =>
      intro i x2 hi hz
      rw [T_X6_rankOf_L4] at hz
      try dsimp only [tb] at hz
      refine V_iload_n dX6_rankOf_4 3 rfl ?_
      refine V_aload_n dX6_rankOf_5 0 rfl ?_
      refine gf_sheet_perf hT dX6_rankOf_6 flX6_25 ?_
      refine V_icmp_ge (tgt := 30) dX6_rankOf_9 (by decide) (fun c9 => absurd c9 (sm_ge hP (by omega) (by decide))) (fun _ => ?_)
      refine V_aload_n dX6_rankOf_12 0 rfl ?_
      refine V_iload_n dX6_rankOf_13 3 rfl ?_
      refine V_iload_n dX6_rankOf_14 1 rfl ?_
      refine V_cVi (As := [.int (nI i), .int performer]) (rest := []) dX6_rankOf_15 cvX6_83 (c_X6_comesBefore hxs hT (nI i) performer (vp_in_nI (by omega) (by omega)) (by first | assumption | exact isSlot_in (by assumption) | exact hasPerf_in (by assumption) | exact Or.resolve_left (by assumption) (by assumption))) hT.1 rfl ⟨Nat.le_of_ble_eq_true rfl, Nat.le_of_ble_eq_true rfl, Nat.le_of_ble_eq_true rfl, Nat.le_of_ble_eq_true rfl⟩ (Nat.le_of_ble_eq_true rfl) rfl ?_
      refine V_if_eq (tgt := 24) dX6_rankOf_18 (by decide) (fun c2 => ?_) (fun c2 => ?_)
      · rw [if_pos c2] at hz
        refine V_iinc (v := nI (i + 1)) (lv' := [(3, .int (nI (i + 1))), (0, .ref s), (1, .int performer), (2, .int x2)]) dX6_rankOf_24 3 rfl (iinc1 i) (by decide) rfl ?_
        refine V_goto (tgt := 4) dX6_rankOf_27 (by decide) ?_
        refine V.loc [1, 2, 3, 0] rfl ?_
        exact ih (i + 1) x2 (by omega)  hz
      · rw [if_neg c2] at hz
        refine V_iinc (v := x2 + 1) (lv' := [(2, .int (x2 + 1)), (0, .ref s), (1, .int performer), (3, .int (nI i))]) dX6_rankOf_21 2 rfl rfl (by decide) rfl ?_
        refine V_iinc (v := nI (i + 1)) (lv' := [(3, .int (nI (i + 1))), (2, .int (x2 + 1)), (0, .ref s), (1, .int performer)]) dX6_rankOf_24 3 rfl (iinc1 i) (by decide) rfl ?_
        refine V_goto (tgt := 4) dX6_rankOf_27 (by decide) ?_
        refine V.loc [2, 3, 1, 0] rfl ?_
        exact ih (i + 1) (x2 + 1) (by omega)  hz
  unfold T_X6_rankOf at hz
  try dsimp only [tb] at hz
  refine V_iconst (v := 0) dX6_rankOf_0 (by decide) ?_
  refine V_istore_n (lv' := [(2, .int 0), (0, .ref s), (1, .int performer)]) dX6_rankOf_1 rfl (by decide) rfl ?_
  refine V_iconst (v := 0) dX6_rankOf_2 (by decide) ?_
  refine V_istore_n (lv' := [(3, .int 0), (2, .int 0), (0, .ref s), (1, .int performer)]) dX6_rankOf_3 rfl (by decide) rfl ?_
  refine V.loc [2, 3, 1, 0] rfl ?_
  exact L4 perf.toNatClampNeg 0 0 (by omega)  hz
theorem c_X6_rankOf {X : KX} (hxs : X.1.stackTraces = false) {h : AH} {s : Nat} {ids kinds players beats sizes lower higher od owed mends : List Int32} {root count perf nid beat act lim hend hbt happ clash imp paid : Int32} (hT : IsSheet X h s ids kinds players beats sizes lower higher od root count owed mends perf nid beat act lim hend hbt happ clash imp paid) (performer : Int32) (hP : SmallN perf 6) (hpi : vp_in performer 6) : Ct X mX6_rankOf [.ref s, .int performer] h (zR (some (.int (T_X6_rankOf kinds players owed perf performer))) h) := w_X6_rankOf hxs hT performer hP hpi (K := fun r => r = T_X6_rankOf kinds players owed perf performer) (fun r e => by subst e; exact ⟨rfl, rfl⟩) rfl
def T_X6_ranked_L2 (kinds : List Int32) (players : List Int32) (owed : List Int32) (perf : Int32) (rank : Int32) : Nat → Nat → Int32
  | 0, i => (-1)
  | f + 1, i => (if (T_X6_rankOf kinds players owed perf (nI i)) = rank then nI i else T_X6_ranked_L2 kinds players owed perf rank f (i + 1))
def T_X6_ranked (kinds : List Int32) (players : List Int32) (owed : List Int32) (perf : Int32) (rank : Int32) : Int32 := T_X6_ranked_L2 kinds players owed perf rank perf.toNatClampNeg 0
set_option maxRecDepth 20000 in
set_option maxHeartbeats 2000000 in
theorem w_X6_ranked {X : KX} (hxs : X.1.stackTraces = false) {h : AH} {s : Nat} {ids kinds players beats sizes lower higher od owed mends : List Int32} {root count perf nid beat act lim hend hbt happ clash imp paid : Int32} (hT : IsSheet X h s ids kinds players beats sizes lower higher od root count owed mends perf nid beat act lim hend hbt happ clash imp paid) (rank : Int32) (hP : SmallN perf 6) {Z : ZT} {K : Int32 → Prop} (hK : ∀ r : Int32, K r → Z (.inl (some (.int r))) h) (hz : K (T_X6_ranked kinds players owed perf rank)) : Ct X mX6_ranked [.ref s, .int rank] h Z := by
  refine Ct.of (by decide) rfl (Nat.le_of_ble_eq_true rfl) rfl hxs ?_
  have hP2 := hP.2
  have L2 : ∀ (f i : Nat), i + f = perf.toNatClampNeg → K (T_X6_ranked_L2 kinds players owed perf rank f i ) → V X mX6_ranked (zF X mX6_ranked Z) 0 0 2 [(0, .ref s), (1, .int rank), (2, .int (nI i))] [] h := by
    intro f
    induction f with
    | zero =>
      intro i hi hz
      have ei : i = perf.toNatClampNeg := by omega
      subst ei
      rw [T_X6_ranked_L2] at hz
      try dsimp only [tb] at hz
      refine V_iload_n dX6_ranked_2 2 rfl ?_
      refine V_aload_n dX6_ranked_3 0 rfl ?_
      refine gf_sheet_perf hT dX6_ranked_4 flX6_25 ?_
      refine V_icmp_ge (tgt := 27) dX6_ranked_7 (by decide) (fun _ => ?_) (fun c9 => absurd (sm_le hP) c9)
      refine V_iconst (v := (-1)) dX6_ranked_27 (by decide) ?_
      exact V_iret dX6_ranked_28 rfl ⟨Nat.le_of_ble_eq_true rfl, Nat.le_of_ble_eq_true rfl⟩ (hK (-1) hz)
    | succ f ih =>
      intro i hi hz
      rw [T_X6_ranked_L2] at hz
      try dsimp only [tb] at hz
      refine V_iload_n dX6_ranked_2 2 rfl ?_
      refine V_aload_n dX6_ranked_3 0 rfl ?_
      refine gf_sheet_perf hT dX6_ranked_4 flX6_25 ?_
      refine V_icmp_ge (tgt := 27) dX6_ranked_7 (by decide) (fun c9 => absurd c9 (sm_ge hP (by omega) (by decide))) (fun _ => ?_)
      refine V_aload_n dX6_ranked_10 0 rfl ?_
      refine V_iload_n dX6_ranked_11 2 rfl ?_
      refine V_cVi (As := [.int (nI i)]) (rest := []) dX6_ranked_12 cvX6_79 (c_X6_rankOf hxs hT (nI i) hP (vp_in_nI (by omega) (by omega))) hT.1 rfl ⟨Nat.le_of_ble_eq_true rfl, Nat.le_of_ble_eq_true rfl, Nat.le_of_ble_eq_true rfl, Nat.le_of_ble_eq_true rfl⟩ (Nat.le_of_ble_eq_true rfl) rfl ?_
      refine V_iload_n dX6_ranked_15 1 rfl ?_
      refine V_icmp_ne (tgt := 21) dX6_ranked_16 (by decide) (fun c2 => ?_) (fun c2 => ?_)
      · rw [if_neg c2] at hz
        refine V_iinc (v := nI (i + 1)) (lv' := [(2, .int (nI (i + 1))), (0, .ref s), (1, .int rank)]) dX6_ranked_21 2 rfl (iinc1 i) (by decide) rfl ?_
        refine V_goto (tgt := 2) dX6_ranked_24 (by decide) ?_
        refine V.loc [1, 2, 0] rfl ?_
        exact ih (i + 1) (by omega)  hz
      · rw [if_pos c2] at hz
        refine V_iload_n dX6_ranked_19 2 rfl ?_
        exact V_iret dX6_ranked_20 rfl ⟨Nat.le_of_ble_eq_true rfl, Nat.le_of_ble_eq_true rfl⟩ (hK (nI i) hz)
  unfold T_X6_ranked at hz
  try dsimp only [tb] at hz
  refine V_iconst (v := 0) dX6_ranked_0 (by decide) ?_
  refine V_istore_n (lv' := [(2, .int 0), (0, .ref s), (1, .int rank)]) dX6_ranked_1 rfl (by decide) rfl ?_
  refine V.loc [1, 2, 0] rfl ?_
  exact L2 perf.toNatClampNeg 0 (by omega)  hz
theorem c_X6_ranked {X : KX} (hxs : X.1.stackTraces = false) {h : AH} {s : Nat} {ids kinds players beats sizes lower higher od owed mends : List Int32} {root count perf nid beat act lim hend hbt happ clash imp paid : Int32} (hT : IsSheet X h s ids kinds players beats sizes lower higher od root count owed mends perf nid beat act lim hend hbt happ clash imp paid) (rank : Int32) (hP : SmallN perf 6) : Ct X mX6_ranked [.ref s, .int rank] h (zR (some (.int (T_X6_ranked kinds players owed perf rank))) h) := w_X6_ranked hxs hT rank hP (K := fun r => r = T_X6_ranked kinds players owed perf rank) (fun r e => by subst e; exact ⟨rfl, rfl⟩) rfl
def T_X6_join (perf : Int32) : Int32 × Int32 := (if perf < 6 then (((perf + 1) - 1), (perf + 1)) else ((-1), perf))
set_option maxRecDepth 20000 in
set_option maxHeartbeats 2000000 in
theorem w_X6_join {X : KX} (hxs : X.1.stackTraces = false) {h : AH} {s : Nat} {ids kinds players beats sizes lower higher od owed mends : List Int32} {root count perf nid beat act lim hend hbt happ clash imp paid : Int32} (hT : IsSheet X h s ids kinds players beats sizes lower higher od root count owed mends perf nid beat act lim hend hbt happ clash imp paid)  {Z : ZT} {K : Int32 × Int32 → Prop} (hK : ∀ (r : Int32 × Int32) (h' : AH), IsSheet X h' s ids kinds players beats sizes lower higher od root count owed mends (r.2) nid beat act lim hend hbt happ clash imp paid → Outs h h' s 12 → K r → Z (.inl (some (.int r.1))) h') (hz : K (T_X6_join perf)) : Ct X mX6_join [.ref s] h Z := by
  refine Ct.of (by decide) rfl (Nat.le_of_ble_eq_true rfl) rfl hxs ?_
  unfold T_X6_join at hz
  try dsimp only [tb] at hz
  refine V_aload_n dX6_join_0 0 rfl ?_
  refine gf_sheet_perf hT dX6_join_1 flX6_25 ?_
  refine V_bipush (v := 6) dX6_join_4 (by decide) ?_
  refine V_icmp_lt (tgt := 11) dX6_join_6 (by decide) (fun c1 => ?_) (fun c1 => ?_)
  · rw [if_pos c1] at hz
    refine V_aload_n dX6_join_11 0 rfl ?_
    refine V_dup dX6_join_12 rfl ?_
    refine gf_sheet_perf hT dX6_join_13 flX6_25 ?_
    refine V_iconst (v := 1) dX6_join_16 (by decide) ?_
    refine V_iadd dX6_join_17 ?_
    refine pf_sheet_perf hT dX6_join_18 flX6_25 (fun h2 hT2 hO2 => ?_)
    refine V_aload_n dX6_join_21 0 rfl ?_
    refine gf_sheet_perf hT2 dX6_join_22 flX6_25 ?_
    refine V_iconst (v := 1) dX6_join_25 (by decide) ?_
    refine V_isub dX6_join_26 ?_
    exact V_iret dX6_join_27 rfl ⟨Nat.le_of_ble_eq_true rfl, Nat.le_of_ble_eq_true rfl⟩ (hK (((perf + 1) - 1), (perf + 1)) _ hT2 hO2 hz)
  · rw [if_neg c1] at hz
    refine V_iconst (v := (-1)) dX6_join_9 (by decide) ?_
    exact V_iret dX6_join_10 rfl ⟨Nat.le_of_ble_eq_true rfl, Nat.le_of_ble_eq_true rfl⟩ (hK ((-1), perf) _ hT Outs.rf hz)
theorem c_X6_join {X : KX} (hxs : X.1.stackTraces = false) {h : AH} {s : Nat} {ids kinds players beats sizes lower higher od owed mends : List Int32} {root count perf nid beat act lim hend hbt happ clash imp paid : Int32} (hT : IsSheet X h s ids kinds players beats sizes lower higher od root count owed mends perf nid beat act lim hend hbt happ clash imp paid)  : Ct X mX6_join [.ref s] h (zM (some (.int (T_X6_join perf).1)) (fun h' => IsSheet X h' s ids kinds players beats sizes lower higher od root count owed mends (T_X6_join perf).2 nid beat act lim hend hbt happ clash imp paid ∧ Outs h h' s 12)) := w_X6_join hxs hT   (K := fun r => r = T_X6_join perf) (fun r h' a b e => by subst e; exact ⟨rfl, a, b⟩) rfl
def T_X6_pay (owed : List Int32) (perf : Int32) (paid : Int32) (performer : Int32) (coins : Int32) : Int32 × List Int32 × Int32 := (if (T_X6_hasPerformer perf performer) = 0 then ((-1), owed, paid) else (if coins < 1 then ((-2), owed, paid) else (if coins ≤ 99 then (if coins ≤ (rd owed performer) then ((rd (wr owed performer ((rd owed performer) - coins)) performer), (wr owed performer ((rd owed performer) - coins)), (paid + coins)) else ((-3), owed, paid)) else ((-2), owed, paid))))
set_option maxRecDepth 20000 in
set_option maxHeartbeats 2000000 in
theorem w_X6_pay {X : KX} (hxs : X.1.stackTraces = false) {h : AH} {s : Nat} {ids kinds players beats sizes lower higher od owed mends : List Int32} {root count perf nid beat act lim hend hbt happ clash imp paid : Int32} (hT : IsSheet X h s ids kinds players beats sizes lower higher od root count owed mends perf nid beat act lim hend hbt happ clash imp paid) (performer : Int32) (coins : Int32) {Z : ZT} {K : Int32 × List Int32 × Int32 → Prop} (hK : ∀ (r : Int32 × List Int32 × Int32) (h' : AH), IsSheet X h' s ids kinds players beats sizes lower higher od root count (r.2.1) mends perf nid beat act lim hend hbt happ clash imp (r.2.2) → Outs h h' s 12 → K r → Z (.inl (some (.int r.1))) h') (hz : K (T_X6_pay owed perf paid performer coins)) : Ct X mX6_pay [.ref s, .int performer, .int coins] h Z := by
  refine Ct.of (by decide) rfl (Nat.le_of_ble_eq_true rfl) rfl hxs ?_
  unfold T_X6_pay at hz
  try dsimp only [tb] at hz
  refine V_aload_n dX6_pay_0 0 rfl ?_
  refine V_iload_n dX6_pay_1 1 rfl ?_
  refine V_cVi (As := [.int performer]) (rest := []) dX6_pay_2 cvX6_75 (c_X6_hasPerformer hxs hT performer ) hT.1 rfl ⟨Nat.le_of_ble_eq_true rfl, Nat.le_of_ble_eq_true rfl, Nat.le_of_ble_eq_true rfl, Nat.le_of_ble_eq_true rfl⟩ (Nat.le_of_ble_eq_true rfl) rfl ?_
  refine V_if_ne (tgt := 10) dX6_pay_5 (by decide) (fun c2 => ?_) (fun c2 => ?_)
  · rw [if_neg c2] at hz
    refine V_iload_n dX6_pay_10 2 rfl ?_
    refine V_iconst (v := 1) dX6_pay_11 (by decide) ?_
    refine V_icmp_lt (tgt := 21) dX6_pay_12 (by decide) (fun c3 => ?_) (fun c3 => ?_)
    · rw [if_pos c3] at hz
      refine V_bipush (v := (-2)) dX6_pay_21 (by decide) ?_
      exact V_iret dX6_pay_23 rfl ⟨Nat.le_of_ble_eq_true rfl, Nat.le_of_ble_eq_true rfl⟩ (hK ((-2), owed, paid) _ hT Outs.rf hz)
    · rw [if_neg c3] at hz
      refine V_iload_n dX6_pay_15 2 rfl ?_
      refine V_bipush (v := 99) dX6_pay_16 (by decide) ?_
      refine V_icmp_le (tgt := 24) dX6_pay_18 (by decide) (fun c4 => ?_) (fun c4 => ?_)
      · rw [if_pos c4] at hz
        refine V_iload_n dX6_pay_24 2 rfl ?_
        refine V_aload_n dX6_pay_25 0 rfl ?_
        refine gf_sheet_owed hT dX6_pay_26 flX6_18 ?_
        refine V_iload_n dX6_pay_29 1 rfl ?_
        refine ld_sheet_owed hT dX6_pay_30 (by first | assumption | exact isSlot_in (by assumption) | exact hasPerf_in (by assumption) | exact Or.resolve_left (by assumption) (by assumption)) ?_
        refine V_icmp_le (tgt := 37) dX6_pay_31 (by decide) (fun c5 => ?_) (fun c5 => ?_)
        · rw [if_pos c5] at hz
          refine V_aload_n dX6_pay_37 0 rfl ?_
          refine gf_sheet_owed hT dX6_pay_38 flX6_18 ?_
          refine V_iload_n dX6_pay_41 1 rfl ?_
          refine V_dup2_11 dX6_pay_42 rfl rfl ?_
          refine ld_sheet_owed hT dX6_pay_43 (by first | assumption | exact isSlot_in (by assumption) | exact hasPerf_in (by assumption) | exact Or.resolve_left (by assumption) (by assumption)) ?_
          refine V_iload_n dX6_pay_44 2 rfl ?_
          refine V_isub dX6_pay_45 ?_
          refine st_sheet_owed hT dX6_pay_46 (by first | assumption | exact isSlot_in (by assumption) | exact hasPerf_in (by assumption) | exact Or.resolve_left (by assumption) (by assumption)) (fun h6 hT6 hO6 => ?_)
          refine V_aload_n dX6_pay_47 0 rfl ?_
          refine V_dup dX6_pay_48 rfl ?_
          refine gf_sheet_paid hT6 dX6_pay_49 flX6_56 ?_
          refine V_iload_n dX6_pay_52 2 rfl ?_
          refine V_iadd dX6_pay_53 ?_
          refine pf_sheet_paid hT6 dX6_pay_54 flX6_56 (fun h7 hT7 hO7 => ?_)
          have hO7 := Outs.tr hO6 hO7
          refine V_aload_n dX6_pay_57 0 rfl ?_
          refine gf_sheet_owed hT7 dX6_pay_58 flX6_18 ?_
          refine V_iload_n dX6_pay_61 1 rfl ?_
          refine ld_sheet_owed hT7 dX6_pay_62 (by first | assumption | exact isSlot_in (by assumption) | exact hasPerf_in (by assumption) | exact Or.resolve_left (by assumption) (by assumption)) ?_
          exact V_iret dX6_pay_63 rfl ⟨Nat.le_of_ble_eq_true rfl, Nat.le_of_ble_eq_true rfl⟩ (hK ((rd (wr owed performer ((rd owed performer) - coins)) performer), (wr owed performer ((rd owed performer) - coins)), (paid + coins)) _ hT7 hO7 hz)
        · rw [if_neg c5] at hz
          refine V_bipush (v := (-3)) dX6_pay_34 (by decide) ?_
          exact V_iret dX6_pay_36 rfl ⟨Nat.le_of_ble_eq_true rfl, Nat.le_of_ble_eq_true rfl⟩ (hK ((-3), owed, paid) _ hT Outs.rf hz)
      · rw [if_neg c4] at hz
        refine V_bipush (v := (-2)) dX6_pay_21 (by decide) ?_
        exact V_iret dX6_pay_23 rfl ⟨Nat.le_of_ble_eq_true rfl, Nat.le_of_ble_eq_true rfl⟩ (hK ((-2), owed, paid) _ hT Outs.rf hz)
  · rw [if_pos c2] at hz
    refine V_iconst (v := (-1)) dX6_pay_8 (by decide) ?_
    exact V_iret dX6_pay_9 rfl ⟨Nat.le_of_ble_eq_true rfl, Nat.le_of_ble_eq_true rfl⟩ (hK ((-1), owed, paid) _ hT Outs.rf hz)
theorem c_X6_pay {X : KX} (hxs : X.1.stackTraces = false) {h : AH} {s : Nat} {ids kinds players beats sizes lower higher od owed mends : List Int32} {root count perf nid beat act lim hend hbt happ clash imp paid : Int32} (hT : IsSheet X h s ids kinds players beats sizes lower higher od root count owed mends perf nid beat act lim hend hbt happ clash imp paid) (performer : Int32) (coins : Int32) : Ct X mX6_pay [.ref s, .int performer, .int coins] h (zM (some (.int (T_X6_pay owed perf paid performer coins).1)) (fun h' => IsSheet X h' s ids kinds players beats sizes lower higher od root count (T_X6_pay owed perf paid performer coins).2.1 mends perf nid beat act lim hend hbt happ clash imp (T_X6_pay owed perf paid performer coins).2.2 ∧ Outs h h' s 12)) := w_X6_pay hxs hT performer coins  (K := fun r => r = T_X6_pay owed perf paid performer coins) (fun r h' a b e => by subst e; exact ⟨rfl, a, b⟩) rfl
def T_X6_impose (owed : List Int32) (perf : Int32) (imp : Int32) (performer : Int32) (fine : Int32) : List Int32 × Int32 := (if (T_X6_hasPerformer perf performer) = 0 then (owed, imp) else ((wr owed performer ((rd owed performer) + fine)), (imp + fine)))
set_option maxRecDepth 20000 in
set_option maxHeartbeats 2000000 in
theorem w_X6_impose {X : KX} (hxs : X.1.stackTraces = false) {h : AH} {s : Nat} {ids kinds players beats sizes lower higher od owed mends : List Int32} {root count perf nid beat act lim hend hbt happ clash imp paid : Int32} (hT : IsSheet X h s ids kinds players beats sizes lower higher od root count owed mends perf nid beat act lim hend hbt happ clash imp paid) (performer : Int32) (fine : Int32) {Z : ZT} {K : List Int32 × Int32 → Prop} (hK : ∀ (r : List Int32 × Int32) (h' : AH), IsSheet X h' s ids kinds players beats sizes lower higher od root count (r.1) mends perf nid beat act lim hend hbt happ clash (r.2) paid → Outs h h' s 12 → K r → Z (.inl none) h') (hz : K (T_X6_impose owed perf imp performer fine)) : Ct X mX6_impose [.ref s, .int performer, .int fine] h Z := by
  refine Ct.of (by decide) rfl (Nat.le_of_ble_eq_true rfl) rfl hxs ?_
  unfold T_X6_impose at hz
  try dsimp only [tb] at hz
  refine V_aload_n dX6_impose_0 0 rfl ?_
  refine V_iload_n dX6_impose_1 1 rfl ?_
  refine V_cVi (As := [.int performer]) (rest := []) dX6_impose_2 cvX6_75 (c_X6_hasPerformer hxs hT performer ) hT.1 rfl ⟨Nat.le_of_ble_eq_true rfl, Nat.le_of_ble_eq_true rfl, Nat.le_of_ble_eq_true rfl, Nat.le_of_ble_eq_true rfl⟩ (Nat.le_of_ble_eq_true rfl) rfl ?_
  refine V_if_eq (tgt := 28) dX6_impose_5 (by decide) (fun c2 => ?_) (fun c2 => ?_)
  · rw [if_pos c2] at hz
    exact V_vret dX6_impose_28 rfl ⟨Nat.le_of_ble_eq_true rfl, Nat.le_of_ble_eq_true rfl⟩ (hK (owed, imp) _ hT Outs.rf hz)
  · rw [if_neg c2] at hz
    refine V_aload_n dX6_impose_8 0 rfl ?_
    refine gf_sheet_owed hT dX6_impose_9 flX6_18 ?_
    refine V_iload_n dX6_impose_12 1 rfl ?_
    refine V_dup2_11 dX6_impose_13 rfl rfl ?_
    refine ld_sheet_owed hT dX6_impose_14 (by first | assumption | exact isSlot_in (by assumption) | exact hasPerf_in (by assumption) | exact Or.resolve_left (by assumption) (by assumption)) ?_
    refine V_iload_n dX6_impose_15 2 rfl ?_
    refine V_iadd dX6_impose_16 ?_
    refine st_sheet_owed hT dX6_impose_17 (by first | assumption | exact isSlot_in (by assumption) | exact hasPerf_in (by assumption) | exact Or.resolve_left (by assumption) (by assumption)) (fun h3 hT3 hO3 => ?_)
    refine V_aload_n dX6_impose_18 0 rfl ?_
    refine V_dup dX6_impose_19 rfl ?_
    refine gf_sheet_imp hT3 dX6_impose_20 flX6_53 ?_
    refine V_iload_n dX6_impose_23 2 rfl ?_
    refine V_iadd dX6_impose_24 ?_
    refine pf_sheet_imp hT3 dX6_impose_25 flX6_53 (fun h4 hT4 hO4 => ?_)
    have hO4 := Outs.tr hO3 hO4
    exact V_vret dX6_impose_28 rfl ⟨Nat.le_of_ble_eq_true rfl, Nat.le_of_ble_eq_true rfl⟩ (hK ((wr owed performer ((rd owed performer) + fine)), (imp + fine)) _ hT4 hO4 hz)
theorem c_X6_impose {X : KX} (hxs : X.1.stackTraces = false) {h : AH} {s : Nat} {ids kinds players beats sizes lower higher od owed mends : List Int32} {root count perf nid beat act lim hend hbt happ clash imp paid : Int32} (hT : IsSheet X h s ids kinds players beats sizes lower higher od root count owed mends perf nid beat act lim hend hbt happ clash imp paid) (performer : Int32) (fine : Int32) : Ct X mX6_impose [.ref s, .int performer, .int fine] h (zM none (fun h' => IsSheet X h' s ids kinds players beats sizes lower higher od root count (T_X6_impose owed perf imp performer fine).1 mends perf nid beat act lim hend hbt happ clash (T_X6_impose owed perf imp performer fine).2 paid ∧ Outs h h' s 12)) := w_X6_impose hxs hT performer fine  (K := fun r => r = T_X6_impose owed perf imp performer fine) (fun r h' a b e => by subst e; exact ⟨rfl, a, b⟩) rfl
def T_X6_isSilent (kinds : List Int32) (beats : List Int32) (sizes : List Int32) (beat : Int32) (hend : Int32) (candidate : Int32) : Int32 := (if candidate < beat then 0 else (if candidate ≤ hend then 1 else (if (T_X3_isHushDue kinds beats sizes candidate) = 0 then 0 else 1)))
set_option maxRecDepth 20000 in
set_option maxHeartbeats 2000000 in
theorem w_X6_isSilent {X : KX} (hxs : X.1.stackTraces = false) {h : AH} {s : Nat} {ids kinds players beats sizes lower higher od owed mends : List Int32} {root count perf nid beat act lim hend hbt happ clash imp paid : Int32} (hT : IsSheet X h s ids kinds players beats sizes lower higher od root count owed mends perf nid beat act lim hend hbt happ clash imp paid) (candidate : Int32) {Z : ZT} {K : Int32 → Prop} (hK : ∀ r : Int32, K r → Z (.inl (some (.int r))) h) (hz : K (T_X6_isSilent kinds beats sizes beat hend candidate)) : Ct X mX6_isSilent [.ref s, .int candidate] h Z := by
  refine Ct.of (by decide) rfl (Nat.le_of_ble_eq_true rfl) rfl hxs ?_
  unfold T_X6_isSilent at hz
  try dsimp only [tb] at hz
  refine V_iload_n dX6_isSilent_0 1 rfl ?_
  refine V_aload_n dX6_isSilent_1 0 rfl ?_
  refine gf_sheet_beat hT dX6_isSilent_2 flX6_32 ?_
  refine V_icmp_lt (tgt := 31) dX6_isSilent_5 (by decide) (fun c1 => ?_) (fun c1 => ?_)
  · rw [if_pos c1] at hz
    refine V_iconst (v := 0) dX6_isSilent_31 (by decide) ?_
    exact V_zret dX6_isSilent_32 rfl bN0 ⟨Nat.le_of_ble_eq_true rfl, Nat.le_of_ble_eq_true rfl⟩ (hK 0 hz)
  · rw [if_neg c1] at hz
    refine V_iload_n dX6_isSilent_8 1 rfl ?_
    refine V_aload_n dX6_isSilent_9 0 rfl ?_
    refine gf_sheet_hend hT dX6_isSilent_10 flX6_41 ?_
    refine V_icmp_le (tgt := 27) dX6_isSilent_13 (by decide) (fun c2 => ?_) (fun c2 => ?_)
    · rw [if_pos c2] at hz
      refine V_iconst (v := 1) dX6_isSilent_27 (by decide) ?_
      refine V_goto (tgt := 32) dX6_isSilent_28 (by decide) ?_
      exact V_zret dX6_isSilent_32 rfl bN1 ⟨Nat.le_of_ble_eq_true rfl, Nat.le_of_ble_eq_true rfl⟩ (hK 1 hz)
    · rw [if_neg c2] at hz
      refine V_aload_n dX6_isSilent_16 0 rfl ?_
      refine gf_sheet_cues hT dX6_isSilent_17 flX6_12 ?_
      refine V_iload_n dX6_isSilent_20 1 rfl ?_
      refine V_cVi (As := [.int candidate]) (rest := []) dX6_isSilent_21 cvX6_184 (c_X3_isHushDue hxs hT.2.1 candidate ) hT.2.1.1 rfl ⟨Nat.le_of_ble_eq_true rfl, Nat.le_of_ble_eq_true rfl, Nat.le_of_ble_eq_true rfl, Nat.le_of_ble_eq_true rfl⟩ (Nat.le_of_ble_eq_true rfl) rfl ?_
      refine V_if_eq (tgt := 31) dX6_isSilent_24 (by decide) (fun c4 => ?_) (fun c4 => ?_)
      · rw [if_pos c4] at hz
        refine V_iconst (v := 0) dX6_isSilent_31 (by decide) ?_
        exact V_zret dX6_isSilent_32 rfl bN0 ⟨Nat.le_of_ble_eq_true rfl, Nat.le_of_ble_eq_true rfl⟩ (hK 0 hz)
      · rw [if_neg c4] at hz
        refine V_iconst (v := 1) dX6_isSilent_27 (by decide) ?_
        refine V_goto (tgt := 32) dX6_isSilent_28 (by decide) ?_
        exact V_zret dX6_isSilent_32 rfl bN1 ⟨Nat.le_of_ble_eq_true rfl, Nat.le_of_ble_eq_true rfl⟩ (hK 1 hz)
theorem c_X6_isSilent {X : KX} (hxs : X.1.stackTraces = false) {h : AH} {s : Nat} {ids kinds players beats sizes lower higher od owed mends : List Int32} {root count perf nid beat act lim hend hbt happ clash imp paid : Int32} (hT : IsSheet X h s ids kinds players beats sizes lower higher od root count owed mends perf nid beat act lim hend hbt happ clash imp paid) (candidate : Int32) : Ct X mX6_isSilent [.ref s, .int candidate] h (zR (some (.int (T_X6_isSilent kinds beats sizes beat hend candidate))) h) := w_X6_isSilent hxs hT candidate  (K := fun r => r = T_X6_isSilent kinds beats sizes beat hend candidate) (fun r e => by subst e; exact ⟨rfl, rfl⟩) rfl
def T_X6_isTooLoud (lim : Int32) (noise : Int32) (hushed : Int32) : Int32 := (if hushed = 0 then (if noise ≤ lim then 0 else 1) else (if noise ≤ 0 then 0 else 1))
set_option maxRecDepth 20000 in
set_option maxHeartbeats 2000000 in
theorem w_X6_isTooLoud {X : KX} (hxs : X.1.stackTraces = false) {h : AH} {s : Nat} {ids kinds players beats sizes lower higher od owed mends : List Int32} {root count perf nid beat act lim hend hbt happ clash imp paid : Int32} (hT : IsSheet X h s ids kinds players beats sizes lower higher od root count owed mends perf nid beat act lim hend hbt happ clash imp paid) (noise : Int32) (hushed : Int32) {Z : ZT} {K : Int32 → Prop} (hK : ∀ r : Int32, K r → Z (.inl (some (.int r))) h) (hz : K (T_X6_isTooLoud lim noise hushed)) : Ct X mX6_isTooLoud [.ref s, .int noise, .int hushed] h Z := by
  refine Ct.of (by decide) rfl (Nat.le_of_ble_eq_true rfl) rfl hxs ?_
  unfold T_X6_isTooLoud at hz
  try dsimp only [tb] at hz
  refine V_iload_n dX6_isTooLoud_0 1 rfl ?_
  refine V_iload_n dX6_isTooLoud_1 2 rfl ?_
  refine V_if_eq (tgt := 9) dX6_isTooLoud_2 (by decide) (fun c1 => ?_) (fun c1 => ?_)
  · rw [if_pos c1] at hz
    refine V_aload_n dX6_isTooLoud_9 0 rfl ?_
    refine gf_sheet_lim hT dX6_isTooLoud_10 flX6_38 ?_
    refine V_icmp_le (tgt := 20) dX6_isTooLoud_13 (by decide) (fun c2 => ?_) (fun c2 => ?_)
    · rw [if_pos c2] at hz
      refine V_iconst (v := 0) dX6_isTooLoud_20 (by decide) ?_
      exact V_zret dX6_isTooLoud_21 rfl bN0 ⟨Nat.le_of_ble_eq_true rfl, Nat.le_of_ble_eq_true rfl⟩ (hK 0 hz)
    · rw [if_neg c2] at hz
      refine V_iconst (v := 1) dX6_isTooLoud_16 (by decide) ?_
      refine V_goto (tgt := 21) dX6_isTooLoud_17 (by decide) ?_
      exact V_zret dX6_isTooLoud_21 rfl bN1 ⟨Nat.le_of_ble_eq_true rfl, Nat.le_of_ble_eq_true rfl⟩ (hK 1 hz)
  · rw [if_neg c1] at hz
    refine V_iconst (v := 0) dX6_isTooLoud_5 (by decide) ?_
    refine V_goto (tgt := 13) dX6_isTooLoud_6 (by decide) ?_
    refine V_icmp_le (tgt := 20) dX6_isTooLoud_13 (by decide) (fun c3 => ?_) (fun c3 => ?_)
    · rw [if_pos c3] at hz
      refine V_iconst (v := 0) dX6_isTooLoud_20 (by decide) ?_
      exact V_zret dX6_isTooLoud_21 rfl bN0 ⟨Nat.le_of_ble_eq_true rfl, Nat.le_of_ble_eq_true rfl⟩ (hK 0 hz)
    · rw [if_neg c3] at hz
      refine V_iconst (v := 1) dX6_isTooLoud_16 (by decide) ?_
      refine V_goto (tgt := 21) dX6_isTooLoud_17 (by decide) ?_
      exact V_zret dX6_isTooLoud_21 rfl bN1 ⟨Nat.le_of_ble_eq_true rfl, Nat.le_of_ble_eq_true rfl⟩ (hK 1 hz)
theorem c_X6_isTooLoud {X : KX} (hxs : X.1.stackTraces = false) {h : AH} {s : Nat} {ids kinds players beats sizes lower higher od owed mends : List Int32} {root count perf nid beat act lim hend hbt happ clash imp paid : Int32} (hT : IsSheet X h s ids kinds players beats sizes lower higher od root count owed mends perf nid beat act lim hend hbt happ clash imp paid) (noise : Int32) (hushed : Int32) : Ct X mX6_isTooLoud [.ref s, .int noise, .int hushed] h (zR (some (.int (T_X6_isTooLoud lim noise hushed))) h) := w_X6_isTooLoud hxs hT noise hushed  (K := fun r => r = T_X6_isTooLoud lim noise hushed) (fun r e => by subst e; exact ⟨rfl, rfl⟩) rfl
def T_X6_hiss (kinds : List Int32) (beats : List Int32) (sizes : List Int32) (owed : List Int32) (perf : Int32) (beat : Int32) (hend : Int32) (imp : Int32) (performer : Int32) (loudness : Int32) : Int32 × List Int32 × Int32 := (if (T_X6_hasPerformer perf performer) = 0 then ((-1), owed, imp) else (if loudness < 1 then ((-2), owed, imp) else (if loudness ≤ 3 then (if (T_X6_isSilent kinds beats sizes beat hend beat) = 0 then (0, (T_X6_impose owed perf imp performer 0).1, (T_X6_impose owed perf imp performer 0).2) else ((2 * loudness), (T_X6_impose owed perf imp performer (2 * loudness)).1, (T_X6_impose owed perf imp performer (2 * loudness)).2)) else ((-2), owed, imp))))
set_option maxRecDepth 20000 in
set_option maxHeartbeats 2000000 in
theorem w_X6_hiss {X : KX} (hxs : X.1.stackTraces = false) {h : AH} {s : Nat} {ids kinds players beats sizes lower higher od owed mends : List Int32} {root count perf nid beat act lim hend hbt happ clash imp paid : Int32} (hT : IsSheet X h s ids kinds players beats sizes lower higher od root count owed mends perf nid beat act lim hend hbt happ clash imp paid) (performer : Int32) (loudness : Int32) {Z : ZT} {K : Int32 × List Int32 × Int32 → Prop} (hK : ∀ (r : Int32 × List Int32 × Int32) (h' : AH), IsSheet X h' s ids kinds players beats sizes lower higher od root count (r.2.1) mends perf nid beat act lim hend hbt happ clash (r.2.2) paid → Outs h h' s 12 → K r → Z (.inl (some (.int r.1))) h') (hz : K (T_X6_hiss kinds beats sizes owed perf beat hend imp performer loudness)) : Ct X mX6_hiss [.ref s, .int performer, .int loudness] h Z := by
  refine Ct.of (by decide) rfl (Nat.le_of_ble_eq_true rfl) rfl hxs ?_
  unfold T_X6_hiss at hz
  try dsimp only [tb] at hz
  refine V_aload_n dX6_hiss_0 0 rfl ?_
  refine V_iload_n dX6_hiss_1 1 rfl ?_
  refine V_cVi (As := [.int performer]) (rest := []) dX6_hiss_2 cvX6_75 (c_X6_hasPerformer hxs hT performer ) hT.1 rfl ⟨Nat.le_of_ble_eq_true rfl, Nat.le_of_ble_eq_true rfl, Nat.le_of_ble_eq_true rfl, Nat.le_of_ble_eq_true rfl⟩ (Nat.le_of_ble_eq_true rfl) rfl ?_
  refine V_if_ne (tgt := 10) dX6_hiss_5 (by decide) (fun c2 => ?_) (fun c2 => ?_)
  · rw [if_neg c2] at hz
    refine V_iload_n dX6_hiss_10 2 rfl ?_
    refine V_iconst (v := 1) dX6_hiss_11 (by decide) ?_
    refine V_icmp_lt (tgt := 20) dX6_hiss_12 (by decide) (fun c3 => ?_) (fun c3 => ?_)
    · rw [if_pos c3] at hz
      refine V_bipush (v := (-2)) dX6_hiss_20 (by decide) ?_
      exact V_iret dX6_hiss_22 rfl ⟨Nat.le_of_ble_eq_true rfl, Nat.le_of_ble_eq_true rfl⟩ (hK ((-2), owed, imp) _ hT Outs.rf hz)
    · rw [if_neg c3] at hz
      refine V_iload_n dX6_hiss_15 2 rfl ?_
      refine V_iconst (v := 3) dX6_hiss_16 (by decide) ?_
      refine V_icmp_le (tgt := 23) dX6_hiss_17 (by decide) (fun c4 => ?_) (fun c4 => ?_)
      · rw [if_pos c4] at hz
        refine V_aload_n dX6_hiss_23 0 rfl ?_
        refine V_aload_n dX6_hiss_24 0 rfl ?_
        refine gf_sheet_beat hT dX6_hiss_25 flX6_32 ?_
        refine V_cVi (As := [.int beat]) (rest := []) dX6_hiss_28 cvX6_90 (c_X6_isSilent hxs hT beat ) hT.1 rfl ⟨Nat.le_of_ble_eq_true rfl, Nat.le_of_ble_eq_true rfl, Nat.le_of_ble_eq_true rfl, Nat.le_of_ble_eq_true rfl⟩ (Nat.le_of_ble_eq_true rfl) rfl ?_
        refine V_if_eq (tgt := 40) dX6_hiss_31 (by decide) (fun c6 => ?_) (fun c6 => ?_)
        · rw [if_pos c6] at hz
          refine V_iconst (v := 0) dX6_hiss_40 (by decide) ?_
          refine V_istore_n (lv' := [(3, .int 0), (0, .ref s), (1, .int performer), (2, .int loudness)]) dX6_hiss_41 rfl (by decide) rfl ?_
          refine V_aload_n dX6_hiss_42 1 rfl ?_
          refine V_iload_n dX6_hiss_43 2 rfl ?_
          refine V_iload_n dX6_hiss_44 0 rfl ?_
          refine V_cVmv (As := [.int performer, .int 0]) (rest := []) dX6_hiss_45 cvX6_93 (c_X6_impose hxs hT performer 0 ) hT.1 rfl ⟨Nat.le_of_ble_eq_true rfl, Nat.le_of_ble_eq_true rfl, Nat.le_of_ble_eq_true rfl, Nat.le_of_ble_eq_true rfl⟩ (Nat.le_of_ble_eq_true rfl) rfl (fun h9 q9 => ?_)
          obtain ⟨hT9, hO9⟩ := q9
          have hT7 := hT9
          have hO7 := hO9
          refine V_iload_n dX6_hiss_48 0 rfl ?_
          exact V_iret dX6_hiss_49 rfl ⟨Nat.le_of_ble_eq_true rfl, Nat.le_of_ble_eq_true rfl⟩ (hK (0, (T_X6_impose owed perf imp performer 0).1, (T_X6_impose owed perf imp performer 0).2) _ hT7 hO7 hz)
        · rw [if_neg c6] at hz
          refine V_iconst (v := 2) dX6_hiss_34 (by decide) ?_
          refine V_iload_n dX6_hiss_35 2 rfl ?_
          refine V_imul dX6_hiss_36 ?_
          refine V_goto (tgt := 41) dX6_hiss_37 (by decide) ?_
          refine V_istore_n (lv' := [(3, .int (2 * loudness)), (0, .ref s), (1, .int performer), (2, .int loudness)]) dX6_hiss_41 rfl (by decide) rfl ?_
          refine V_aload_n dX6_hiss_42 1 rfl ?_
          refine V_iload_n dX6_hiss_43 2 rfl ?_
          refine V_iload_n dX6_hiss_44 0 rfl ?_
          refine V_cVmv (As := [.int performer, .int (2 * loudness)]) (rest := []) dX6_hiss_45 cvX6_93 (c_X6_impose hxs hT performer (2 * loudness) ) hT.1 rfl ⟨Nat.le_of_ble_eq_true rfl, Nat.le_of_ble_eq_true rfl, Nat.le_of_ble_eq_true rfl, Nat.le_of_ble_eq_true rfl⟩ (Nat.le_of_ble_eq_true rfl) rfl (fun h9 q9 => ?_)
          obtain ⟨hT9, hO9⟩ := q9
          have hT9 := hT9
          have hO9 := hO9
          refine V_iload_n dX6_hiss_48 0 rfl ?_
          exact V_iret dX6_hiss_49 rfl ⟨Nat.le_of_ble_eq_true rfl, Nat.le_of_ble_eq_true rfl⟩ (hK ((2 * loudness), (T_X6_impose owed perf imp performer (2 * loudness)).1, (T_X6_impose owed perf imp performer (2 * loudness)).2) _ hT9 hO9 hz)
      · rw [if_neg c4] at hz
        refine V_bipush (v := (-2)) dX6_hiss_20 (by decide) ?_
        exact V_iret dX6_hiss_22 rfl ⟨Nat.le_of_ble_eq_true rfl, Nat.le_of_ble_eq_true rfl⟩ (hK ((-2), owed, imp) _ hT Outs.rf hz)
  · rw [if_pos c2] at hz
    refine V_iconst (v := (-1)) dX6_hiss_8 (by decide) ?_
    exact V_iret dX6_hiss_9 rfl ⟨Nat.le_of_ble_eq_true rfl, Nat.le_of_ble_eq_true rfl⟩ (hK ((-1), owed, imp) _ hT Outs.rf hz)
theorem c_X6_hiss {X : KX} (hxs : X.1.stackTraces = false) {h : AH} {s : Nat} {ids kinds players beats sizes lower higher od owed mends : List Int32} {root count perf nid beat act lim hend hbt happ clash imp paid : Int32} (hT : IsSheet X h s ids kinds players beats sizes lower higher od root count owed mends perf nid beat act lim hend hbt happ clash imp paid) (performer : Int32) (loudness : Int32) : Ct X mX6_hiss [.ref s, .int performer, .int loudness] h (zM (some (.int (T_X6_hiss kinds beats sizes owed perf beat hend imp performer loudness).1)) (fun h' => IsSheet X h' s ids kinds players beats sizes lower higher od root count (T_X6_hiss kinds beats sizes owed perf beat hend imp performer loudness).2.1 mends perf nid beat act lim hend hbt happ clash (T_X6_hiss kinds beats sizes owed perf beat hend imp performer loudness).2.2 paid ∧ Outs h h' s 12)) := w_X6_hiss hxs hT performer loudness  (K := fun r => r = T_X6_hiss kinds beats sizes owed perf beat hend imp performer loudness) (fun r h' a b e => by subst e; exact ⟨rfl, a, b⟩) rfl
def T_X6_putCue (ids : List Int32) (kinds : List Int32) (players : List Int32) (beats : List Int32) (sizes : List Int32) (lower : List Int32) (higher : List Int32) (root : Int32) (count : Int32) (nid : Int32) (kind : Int32) (performer : Int32) (cueBeat : Int32) (size : Int32) : Int32 × List Int32 × List Int32 × List Int32 × List Int32 × List Int32 × List Int32 × List Int32 × Int32 × Int32 × Int32 := (nid, (T_X3_put ids kinds players beats sizes lower higher root count nid kind performer cueBeat size).1, (T_X3_put ids kinds players beats sizes lower higher root count nid kind performer cueBeat size).2.1, (T_X3_put ids kinds players beats sizes lower higher root count nid kind performer cueBeat size).2.2.1, (T_X3_put ids kinds players beats sizes lower higher root count nid kind performer cueBeat size).2.2.2.1, (T_X3_put ids kinds players beats sizes lower higher root count nid kind performer cueBeat size).2.2.2.2.1, (T_X3_put ids kinds players beats sizes lower higher root count nid kind performer cueBeat size).2.2.2.2.2.1, (T_X3_put ids kinds players beats sizes lower higher root count nid kind performer cueBeat size).2.2.2.2.2.2.1, (T_X3_put ids kinds players beats sizes lower higher root count nid kind performer cueBeat size).2.2.2.2.2.2.2.1, (T_X3_put ids kinds players beats sizes lower higher root count nid kind performer cueBeat size).2.2.2.2.2.2.2.2, (nid + 1))
set_option maxRecDepth 20000 in
set_option maxHeartbeats 2000000 in
theorem w_X6_putCue {X : KX} (hxs : X.1.stackTraces = false) {h : AH} {s : Nat} {ids kinds players beats sizes lower higher od owed mends : List Int32} {root count perf nid beat act lim hend hbt happ clash imp paid : Int32} (hT : IsSheet X h s ids kinds players beats sizes lower higher od root count owed mends perf nid beat act lim hend hbt happ clash imp paid) (kind : Int32) (performer : Int32) (cueBeat : Int32) (size : Int32) (hk : vp_nar .char kind = kind) {Z : ZT} {K : Int32 × List Int32 × List Int32 × List Int32 × List Int32 × List Int32 × List Int32 × List Int32 × Int32 × Int32 × Int32 → Prop} (hK : ∀ (r : Int32 × List Int32 × List Int32 × List Int32 × List Int32 × List Int32 × List Int32 × List Int32 × Int32 × Int32 × Int32) (h' : AH), IsSheet X h' s (r.2.1) (r.2.2.1) (r.2.2.2.1) (r.2.2.2.2.1) (r.2.2.2.2.2.1) (r.2.2.2.2.2.2.1) (r.2.2.2.2.2.2.2.1) od (r.2.2.2.2.2.2.2.2.1) (r.2.2.2.2.2.2.2.2.2.1) owed mends perf (r.2.2.2.2.2.2.2.2.2.2) beat act lim hend hbt happ clash imp paid → Outs h h' s 12 → K r → Z (.inl (some (.int r.1))) h') (hz : K (T_X6_putCue ids kinds players beats sizes lower higher root count nid kind performer cueBeat size)) : Ct X mX6_putCue [.ref s, .int kind, .int performer, .int cueBeat, .int size] h Z := by
  refine Ct.of (by decide) rfl (Nat.le_of_ble_eq_true rfl) rfl hxs ?_
  unfold T_X6_putCue at hz
  try dsimp only [tb] at hz
  refine V_aload_n dX6_putCue_0 0 rfl ?_
  refine gf_sheet_nid hT dX6_putCue_1 flX6_29 ?_
  refine V_istore (lv' := [(5, .int nid), (0, .ref s), (1, .int kind), (2, .int performer), (3, .int cueBeat), (4, .int size)]) dX6_putCue_4 (by decide) rfl ?_
  refine V_aload_n dX6_putCue_6 1 rfl ?_
  refine gf_sheet_cues hT dX6_putCue_7 flX6_12 ?_
  refine V_iload dX6_putCue_10 0 rfl ?_
  refine V_iload_n dX6_putCue_12 2 rfl ?_
  refine V_iload_n dX6_putCue_13 3 rfl ?_
  refine V_iload_n dX6_putCue_14 4 rfl ?_
  refine V_iload dX6_putCue_15 5 rfl ?_
  refine V_cVmv (As := [.int nid, .int kind, .int performer, .int cueBeat, .int size]) (rest := []) dX6_putCue_17 cvX6_111 (c_X3_put hxs hT.2.1 nid kind performer cueBeat size hk) hT.2.1.1 rfl ⟨Nat.le_of_ble_eq_true rfl, Nat.le_of_ble_eq_true rfl, Nat.le_of_ble_eq_true rfl, Nat.le_of_ble_eq_true rfl⟩ (Nat.le_of_ble_eq_true rfl) rfl (fun h9 q9 => ?_)
  obtain ⟨hT9, hO9⟩ := q9
  have hT1 := IsSheet.tree hT hT9 hO9
  have hO1 := (hO9.up (b := s) (v := 12) (by omega) (by omega))
  refine V_aload_n dX6_putCue_20 1 rfl ?_
  refine V_dup dX6_putCue_21 rfl ?_
  refine gf_sheet_nid hT1 dX6_putCue_22 flX6_29 ?_
  refine V_iconst (v := 1) dX6_putCue_25 (by decide) ?_
  refine V_iadd dX6_putCue_26 ?_
  refine pf_sheet_nid hT1 dX6_putCue_27 flX6_29 (fun h3 hT3 hO3 => ?_)
  have hO3 := Outs.tr hO1 hO3
  refine V_iload dX6_putCue_30 0 rfl ?_
  exact V_iret dX6_putCue_32 rfl ⟨Nat.le_of_ble_eq_true rfl, Nat.le_of_ble_eq_true rfl⟩ (hK (nid, (T_X3_put ids kinds players beats sizes lower higher root count nid kind performer cueBeat size).1, (T_X3_put ids kinds players beats sizes lower higher root count nid kind performer cueBeat size).2.1, (T_X3_put ids kinds players beats sizes lower higher root count nid kind performer cueBeat size).2.2.1, (T_X3_put ids kinds players beats sizes lower higher root count nid kind performer cueBeat size).2.2.2.1, (T_X3_put ids kinds players beats sizes lower higher root count nid kind performer cueBeat size).2.2.2.2.1, (T_X3_put ids kinds players beats sizes lower higher root count nid kind performer cueBeat size).2.2.2.2.2.1, (T_X3_put ids kinds players beats sizes lower higher root count nid kind performer cueBeat size).2.2.2.2.2.2.1, (T_X3_put ids kinds players beats sizes lower higher root count nid kind performer cueBeat size).2.2.2.2.2.2.2.1, (T_X3_put ids kinds players beats sizes lower higher root count nid kind performer cueBeat size).2.2.2.2.2.2.2.2, (nid + 1)) _ hT3 hO3 hz)
theorem c_X6_putCue {X : KX} (hxs : X.1.stackTraces = false) {h : AH} {s : Nat} {ids kinds players beats sizes lower higher od owed mends : List Int32} {root count perf nid beat act lim hend hbt happ clash imp paid : Int32} (hT : IsSheet X h s ids kinds players beats sizes lower higher od root count owed mends perf nid beat act lim hend hbt happ clash imp paid) (kind : Int32) (performer : Int32) (cueBeat : Int32) (size : Int32) (hk : vp_nar .char kind = kind) : Ct X mX6_putCue [.ref s, .int kind, .int performer, .int cueBeat, .int size] h (zM (some (.int (T_X6_putCue ids kinds players beats sizes lower higher root count nid kind performer cueBeat size).1)) (fun h' => IsSheet X h' s (T_X6_putCue ids kinds players beats sizes lower higher root count nid kind performer cueBeat size).2.1 (T_X6_putCue ids kinds players beats sizes lower higher root count nid kind performer cueBeat size).2.2.1 (T_X6_putCue ids kinds players beats sizes lower higher root count nid kind performer cueBeat size).2.2.2.1 (T_X6_putCue ids kinds players beats sizes lower higher root count nid kind performer cueBeat size).2.2.2.2.1 (T_X6_putCue ids kinds players beats sizes lower higher root count nid kind performer cueBeat size).2.2.2.2.2.1 (T_X6_putCue ids kinds players beats sizes lower higher root count nid kind performer cueBeat size).2.2.2.2.2.2.1 (T_X6_putCue ids kinds players beats sizes lower higher root count nid kind performer cueBeat size).2.2.2.2.2.2.2.1 od (T_X6_putCue ids kinds players beats sizes lower higher root count nid kind performer cueBeat size).2.2.2.2.2.2.2.2.1 (T_X6_putCue ids kinds players beats sizes lower higher root count nid kind performer cueBeat size).2.2.2.2.2.2.2.2.2.1 owed mends perf (T_X6_putCue ids kinds players beats sizes lower higher root count nid kind performer cueBeat size).2.2.2.2.2.2.2.2.2.2 beat act lim hend hbt happ clash imp paid ∧ Outs h h' s 12)) := w_X6_putCue hxs hT kind performer cueBeat size hk (K := fun r => r = T_X6_putCue ids kinds players beats sizes lower higher root count nid kind performer cueBeat size) (fun r h' a b e => by subst e; exact ⟨rfl, a, b⟩) rfl
def T_X6_putPlayed (ids : List Int32) (kinds : List Int32) (players : List Int32) (beats : List Int32) (sizes : List Int32) (lower : List Int32) (higher : List Int32) (root : Int32) (count : Int32) (perf : Int32) (nid : Int32) (beat : Int32) (kind : Int32) (performer : Int32) (cueBeat : Int32) (size : Int32) : Int32 × List Int32 × List Int32 × List Int32 × List Int32 × List Int32 × List Int32 × List Int32 × Int32 × Int32 × Int32 := (if (T_X6_hasPerformer perf performer) = 0 then ((-1), ids, kinds, players, beats, sizes, lower, higher, root, count, nid) else (if (T_X6_isCueBeat beat cueBeat) = 0 then ((-2), ids, kinds, players, beats, sizes, lower, higher, root, count, nid) else (if (T_X6_isSize size) = 0 then ((-2), ids, kinds, players, beats, sizes, lower, higher, root, count, nid) else (if (T_X3_isFull count) = 0 then ((T_X6_putCue ids kinds players beats sizes lower higher root count nid kind performer cueBeat size).1, (T_X6_putCue ids kinds players beats sizes lower higher root count nid kind performer cueBeat size).2.1, (T_X6_putCue ids kinds players beats sizes lower higher root count nid kind performer cueBeat size).2.2.1, (T_X6_putCue ids kinds players beats sizes lower higher root count nid kind performer cueBeat size).2.2.2.1, (T_X6_putCue ids kinds players beats sizes lower higher root count nid kind performer cueBeat size).2.2.2.2.1, (T_X6_putCue ids kinds players beats sizes lower higher root count nid kind performer cueBeat size).2.2.2.2.2.1, (T_X6_putCue ids kinds players beats sizes lower higher root count nid kind performer cueBeat size).2.2.2.2.2.2.1, (T_X6_putCue ids kinds players beats sizes lower higher root count nid kind performer cueBeat size).2.2.2.2.2.2.2.1, (T_X6_putCue ids kinds players beats sizes lower higher root count nid kind performer cueBeat size).2.2.2.2.2.2.2.2.1, (T_X6_putCue ids kinds players beats sizes lower higher root count nid kind performer cueBeat size).2.2.2.2.2.2.2.2.2.1, (T_X6_putCue ids kinds players beats sizes lower higher root count nid kind performer cueBeat size).2.2.2.2.2.2.2.2.2.2) else ((-3), ids, kinds, players, beats, sizes, lower, higher, root, count, nid)))))
set_option maxRecDepth 20000 in
set_option maxHeartbeats 2000000 in
theorem w_X6_putPlayed {X : KX} (hxs : X.1.stackTraces = false) {h : AH} {s : Nat} {ids kinds players beats sizes lower higher od owed mends : List Int32} {root count perf nid beat act lim hend hbt happ clash imp paid : Int32} (hT : IsSheet X h s ids kinds players beats sizes lower higher od root count owed mends perf nid beat act lim hend hbt happ clash imp paid) (kind : Int32) (performer : Int32) (cueBeat : Int32) (size : Int32) (hk : vp_nar .char kind = kind) {Z : ZT} {K : Int32 × List Int32 × List Int32 × List Int32 × List Int32 × List Int32 × List Int32 × List Int32 × Int32 × Int32 × Int32 → Prop} (hK : ∀ (r : Int32 × List Int32 × List Int32 × List Int32 × List Int32 × List Int32 × List Int32 × List Int32 × Int32 × Int32 × Int32) (h' : AH), IsSheet X h' s (r.2.1) (r.2.2.1) (r.2.2.2.1) (r.2.2.2.2.1) (r.2.2.2.2.2.1) (r.2.2.2.2.2.2.1) (r.2.2.2.2.2.2.2.1) od (r.2.2.2.2.2.2.2.2.1) (r.2.2.2.2.2.2.2.2.2.1) owed mends perf (r.2.2.2.2.2.2.2.2.2.2) beat act lim hend hbt happ clash imp paid → Outs h h' s 12 → K r → Z (.inl (some (.int r.1))) h') (hz : K (T_X6_putPlayed ids kinds players beats sizes lower higher root count perf nid beat kind performer cueBeat size)) : Ct X mX6_putPlayed [.ref s, .int kind, .int performer, .int cueBeat, .int size] h Z := by
  refine Ct.of (by decide) rfl (Nat.le_of_ble_eq_true rfl) rfl hxs ?_
  unfold T_X6_putPlayed at hz
  try dsimp only [tb] at hz
  refine V_aload_n dX6_putPlayed_0 0 rfl ?_
  refine V_iload_n dX6_putPlayed_1 2 rfl ?_
  refine V_cVi (As := [.int performer]) (rest := []) dX6_putPlayed_2 cvX6_75 (c_X6_hasPerformer hxs hT performer ) hT.1 rfl ⟨Nat.le_of_ble_eq_true rfl, Nat.le_of_ble_eq_true rfl, Nat.le_of_ble_eq_true rfl, Nat.le_of_ble_eq_true rfl⟩ (Nat.le_of_ble_eq_true rfl) rfl ?_
  refine V_if_ne (tgt := 10) dX6_putPlayed_5 (by decide) (fun c2 => ?_) (fun c2 => ?_)
  · rw [if_neg c2] at hz
    refine V_aload_n dX6_putPlayed_10 0 rfl ?_
    refine V_iload_n dX6_putPlayed_11 3 rfl ?_
    refine V_cVi (As := [.int cueBeat]) (rest := []) dX6_putPlayed_12 cvX6_97 (c_X6_isCueBeat hxs hT cueBeat ) hT.1 rfl ⟨Nat.le_of_ble_eq_true rfl, Nat.le_of_ble_eq_true rfl, Nat.le_of_ble_eq_true rfl, Nat.le_of_ble_eq_true rfl⟩ (Nat.le_of_ble_eq_true rfl) rfl ?_
    refine V_if_eq (tgt := 26) dX6_putPlayed_15 (by decide) (fun c4 => ?_) (fun c4 => ?_)
    · rw [if_pos c4] at hz
      refine V_bipush (v := (-2)) dX6_putPlayed_26 (by decide) ?_
      exact V_iret dX6_putPlayed_28 rfl ⟨Nat.le_of_ble_eq_true rfl, Nat.le_of_ble_eq_true rfl⟩ (hK ((-2), ids, kinds, players, beats, sizes, lower, higher, root, count, nid) _ hT Outs.rf hz)
    · rw [if_neg c4] at hz
      refine V_iload dX6_putPlayed_18 4 rfl ?_
      refine V_cSi (As := [.int size]) (rest := []) dX6_putPlayed_20 cvX6_100 (c_X6_isSize hxs size ) ⟨Nat.le_of_ble_eq_true rfl, Nat.le_of_ble_eq_true rfl, Nat.le_of_ble_eq_true rfl, Nat.le_of_ble_eq_true rfl⟩ (Nat.le_of_ble_eq_true rfl) rfl ?_
      refine V_if_ne (tgt := 29) dX6_putPlayed_23 (by decide) (fun c6 => ?_) (fun c6 => ?_)
      · rw [if_neg c6] at hz
        refine V_aload_n dX6_putPlayed_29 0 rfl ?_
        refine gf_sheet_cues hT dX6_putPlayed_30 flX6_12 ?_
        refine V_cVi (As := []) (rest := []) dX6_putPlayed_33 cvX6_103 (c_X3_isFull hxs hT.2.1  ) hT.2.1.1 rfl ⟨Nat.le_of_ble_eq_true rfl, Nat.le_of_ble_eq_true rfl, Nat.le_of_ble_eq_true rfl, Nat.le_of_ble_eq_true rfl⟩ (Nat.le_of_ble_eq_true rfl) rfl ?_
        refine V_if_eq (tgt := 42) dX6_putPlayed_36 (by decide) (fun c8 => ?_) (fun c8 => ?_)
        · rw [if_pos c8] at hz
          refine V_aload_n dX6_putPlayed_42 0 rfl ?_
          refine V_iload_n dX6_putPlayed_43 1 rfl ?_
          refine V_iload_n dX6_putPlayed_44 2 rfl ?_
          refine V_iload_n dX6_putPlayed_45 3 rfl ?_
          refine V_iload dX6_putPlayed_46 4 rfl ?_
          refine V_cVmi (As := [.int kind, .int performer, .int cueBeat, .int size]) (rest := []) dX6_putPlayed_48 cvX6_107 (c_X6_putCue hxs hT kind performer cueBeat size hk) hT.1 rfl ⟨Nat.le_of_ble_eq_true rfl, Nat.le_of_ble_eq_true rfl, Nat.le_of_ble_eq_true rfl, Nat.le_of_ble_eq_true rfl⟩ (Nat.le_of_ble_eq_true rfl) rfl (fun h9 q9 => ?_)
          obtain ⟨hT9, hO9⟩ := q9
          have hT9 := hT9
          have hO9 := hO9
          exact V_iret dX6_putPlayed_51 rfl ⟨Nat.le_of_ble_eq_true rfl, Nat.le_of_ble_eq_true rfl⟩ (hK ((T_X6_putCue ids kinds players beats sizes lower higher root count nid kind performer cueBeat size).1, (T_X6_putCue ids kinds players beats sizes lower higher root count nid kind performer cueBeat size).2.1, (T_X6_putCue ids kinds players beats sizes lower higher root count nid kind performer cueBeat size).2.2.1, (T_X6_putCue ids kinds players beats sizes lower higher root count nid kind performer cueBeat size).2.2.2.1, (T_X6_putCue ids kinds players beats sizes lower higher root count nid kind performer cueBeat size).2.2.2.2.1, (T_X6_putCue ids kinds players beats sizes lower higher root count nid kind performer cueBeat size).2.2.2.2.2.1, (T_X6_putCue ids kinds players beats sizes lower higher root count nid kind performer cueBeat size).2.2.2.2.2.2.1, (T_X6_putCue ids kinds players beats sizes lower higher root count nid kind performer cueBeat size).2.2.2.2.2.2.2.1, (T_X6_putCue ids kinds players beats sizes lower higher root count nid kind performer cueBeat size).2.2.2.2.2.2.2.2.1, (T_X6_putCue ids kinds players beats sizes lower higher root count nid kind performer cueBeat size).2.2.2.2.2.2.2.2.2.1, (T_X6_putCue ids kinds players beats sizes lower higher root count nid kind performer cueBeat size).2.2.2.2.2.2.2.2.2.2) _ hT9 hO9 hz)
        · rw [if_neg c8] at hz
          refine V_bipush (v := (-3)) dX6_putPlayed_39 (by decide) ?_
          exact V_iret dX6_putPlayed_41 rfl ⟨Nat.le_of_ble_eq_true rfl, Nat.le_of_ble_eq_true rfl⟩ (hK ((-3), ids, kinds, players, beats, sizes, lower, higher, root, count, nid) _ hT Outs.rf hz)
      · rw [if_pos c6] at hz
        refine V_bipush (v := (-2)) dX6_putPlayed_26 (by decide) ?_
        exact V_iret dX6_putPlayed_28 rfl ⟨Nat.le_of_ble_eq_true rfl, Nat.le_of_ble_eq_true rfl⟩ (hK ((-2), ids, kinds, players, beats, sizes, lower, higher, root, count, nid) _ hT Outs.rf hz)
  · rw [if_pos c2] at hz
    refine V_iconst (v := (-1)) dX6_putPlayed_8 (by decide) ?_
    exact V_iret dX6_putPlayed_9 rfl ⟨Nat.le_of_ble_eq_true rfl, Nat.le_of_ble_eq_true rfl⟩ (hK ((-1), ids, kinds, players, beats, sizes, lower, higher, root, count, nid) _ hT Outs.rf hz)
theorem c_X6_putPlayed {X : KX} (hxs : X.1.stackTraces = false) {h : AH} {s : Nat} {ids kinds players beats sizes lower higher od owed mends : List Int32} {root count perf nid beat act lim hend hbt happ clash imp paid : Int32} (hT : IsSheet X h s ids kinds players beats sizes lower higher od root count owed mends perf nid beat act lim hend hbt happ clash imp paid) (kind : Int32) (performer : Int32) (cueBeat : Int32) (size : Int32) (hk : vp_nar .char kind = kind) : Ct X mX6_putPlayed [.ref s, .int kind, .int performer, .int cueBeat, .int size] h (zM (some (.int (T_X6_putPlayed ids kinds players beats sizes lower higher root count perf nid beat kind performer cueBeat size).1)) (fun h' => IsSheet X h' s (T_X6_putPlayed ids kinds players beats sizes lower higher root count perf nid beat kind performer cueBeat size).2.1 (T_X6_putPlayed ids kinds players beats sizes lower higher root count perf nid beat kind performer cueBeat size).2.2.1 (T_X6_putPlayed ids kinds players beats sizes lower higher root count perf nid beat kind performer cueBeat size).2.2.2.1 (T_X6_putPlayed ids kinds players beats sizes lower higher root count perf nid beat kind performer cueBeat size).2.2.2.2.1 (T_X6_putPlayed ids kinds players beats sizes lower higher root count perf nid beat kind performer cueBeat size).2.2.2.2.2.1 (T_X6_putPlayed ids kinds players beats sizes lower higher root count perf nid beat kind performer cueBeat size).2.2.2.2.2.2.1 (T_X6_putPlayed ids kinds players beats sizes lower higher root count perf nid beat kind performer cueBeat size).2.2.2.2.2.2.2.1 od (T_X6_putPlayed ids kinds players beats sizes lower higher root count perf nid beat kind performer cueBeat size).2.2.2.2.2.2.2.2.1 (T_X6_putPlayed ids kinds players beats sizes lower higher root count perf nid beat kind performer cueBeat size).2.2.2.2.2.2.2.2.2.1 owed mends perf (T_X6_putPlayed ids kinds players beats sizes lower higher root count perf nid beat kind performer cueBeat size).2.2.2.2.2.2.2.2.2.2 beat act lim hend hbt happ clash imp paid ∧ Outs h h' s 12)) := w_X6_putPlayed hxs hT kind performer cueBeat size hk (K := fun r => r = T_X6_putPlayed ids kinds players beats sizes lower higher root count perf nid beat kind performer cueBeat size) (fun r h' a b e => by subst e; exact ⟨rfl, a, b⟩) rfl
def T_X6_putHush (ids : List Int32) (kinds : List Int32) (players : List Int32) (beats : List Int32) (sizes : List Int32) (lower : List Int32) (higher : List Int32) (root : Int32) (count : Int32) (nid : Int32) (beat : Int32) (cueBeat : Int32) (length : Int32) : Int32 × List Int32 × List Int32 × List Int32 × List Int32 × List Int32 × List Int32 × List Int32 × Int32 × Int32 × Int32 := (if (T_X6_isCueBeat beat cueBeat) = 0 then ((-1), ids, kinds, players, beats, sizes, lower, higher, root, count, nid) else (if (T_X6_isSize length) = 0 then ((-1), ids, kinds, players, beats, sizes, lower, higher, root, count, nid) else (if (T_X3_isFull count) = 0 then ((T_X6_putCue ids kinds players beats sizes lower higher root count nid 104 (-1) cueBeat length).1, (T_X6_putCue ids kinds players beats sizes lower higher root count nid 104 (-1) cueBeat length).2.1, (T_X6_putCue ids kinds players beats sizes lower higher root count nid 104 (-1) cueBeat length).2.2.1, (T_X6_putCue ids kinds players beats sizes lower higher root count nid 104 (-1) cueBeat length).2.2.2.1, (T_X6_putCue ids kinds players beats sizes lower higher root count nid 104 (-1) cueBeat length).2.2.2.2.1, (T_X6_putCue ids kinds players beats sizes lower higher root count nid 104 (-1) cueBeat length).2.2.2.2.2.1, (T_X6_putCue ids kinds players beats sizes lower higher root count nid 104 (-1) cueBeat length).2.2.2.2.2.2.1, (T_X6_putCue ids kinds players beats sizes lower higher root count nid 104 (-1) cueBeat length).2.2.2.2.2.2.2.1, (T_X6_putCue ids kinds players beats sizes lower higher root count nid 104 (-1) cueBeat length).2.2.2.2.2.2.2.2.1, (T_X6_putCue ids kinds players beats sizes lower higher root count nid 104 (-1) cueBeat length).2.2.2.2.2.2.2.2.2.1, (T_X6_putCue ids kinds players beats sizes lower higher root count nid 104 (-1) cueBeat length).2.2.2.2.2.2.2.2.2.2) else ((-2), ids, kinds, players, beats, sizes, lower, higher, root, count, nid))))
set_option maxRecDepth 20000 in
set_option maxHeartbeats 2000000 in
theorem w_X6_putHush {X : KX} (hxs : X.1.stackTraces = false) {h : AH} {s : Nat} {ids kinds players beats sizes lower higher od owed mends : List Int32} {root count perf nid beat act lim hend hbt happ clash imp paid : Int32} (hT : IsSheet X h s ids kinds players beats sizes lower higher od root count owed mends perf nid beat act lim hend hbt happ clash imp paid) (cueBeat : Int32) (length : Int32) {Z : ZT} {K : Int32 × List Int32 × List Int32 × List Int32 × List Int32 × List Int32 × List Int32 × List Int32 × Int32 × Int32 × Int32 → Prop} (hK : ∀ (r : Int32 × List Int32 × List Int32 × List Int32 × List Int32 × List Int32 × List Int32 × List Int32 × Int32 × Int32 × Int32) (h' : AH), IsSheet X h' s (r.2.1) (r.2.2.1) (r.2.2.2.1) (r.2.2.2.2.1) (r.2.2.2.2.2.1) (r.2.2.2.2.2.2.1) (r.2.2.2.2.2.2.2.1) od (r.2.2.2.2.2.2.2.2.1) (r.2.2.2.2.2.2.2.2.2.1) owed mends perf (r.2.2.2.2.2.2.2.2.2.2) beat act lim hend hbt happ clash imp paid → Outs h h' s 12 → K r → Z (.inl (some (.int r.1))) h') (hz : K (T_X6_putHush ids kinds players beats sizes lower higher root count nid beat cueBeat length)) : Ct X mX6_putHush [.ref s, .int cueBeat, .int length] h Z := by
  refine Ct.of (by decide) rfl (Nat.le_of_ble_eq_true rfl) rfl hxs ?_
  unfold T_X6_putHush at hz
  try dsimp only [tb] at hz
  refine V_aload_n dX6_putHush_0 0 rfl ?_
  refine V_iload_n dX6_putHush_1 1 rfl ?_
  refine V_cVi (As := [.int cueBeat]) (rest := []) dX6_putHush_2 cvX6_97 (c_X6_isCueBeat hxs hT cueBeat ) hT.1 rfl ⟨Nat.le_of_ble_eq_true rfl, Nat.le_of_ble_eq_true rfl, Nat.le_of_ble_eq_true rfl, Nat.le_of_ble_eq_true rfl⟩ (Nat.le_of_ble_eq_true rfl) rfl ?_
  refine V_if_eq (tgt := 15) dX6_putHush_5 (by decide) (fun c2 => ?_) (fun c2 => ?_)
  · rw [if_pos c2] at hz
    refine V_iconst (v := (-1)) dX6_putHush_15 (by decide) ?_
    exact V_iret dX6_putHush_16 rfl ⟨Nat.le_of_ble_eq_true rfl, Nat.le_of_ble_eq_true rfl⟩ (hK ((-1), ids, kinds, players, beats, sizes, lower, higher, root, count, nid) _ hT Outs.rf hz)
  · rw [if_neg c2] at hz
    refine V_iload_n dX6_putHush_8 2 rfl ?_
    refine V_cSi (As := [.int length]) (rest := []) dX6_putHush_9 cvX6_100 (c_X6_isSize hxs length ) ⟨Nat.le_of_ble_eq_true rfl, Nat.le_of_ble_eq_true rfl, Nat.le_of_ble_eq_true rfl, Nat.le_of_ble_eq_true rfl⟩ (Nat.le_of_ble_eq_true rfl) rfl ?_
    refine V_if_ne (tgt := 17) dX6_putHush_12 (by decide) (fun c4 => ?_) (fun c4 => ?_)
    · rw [if_neg c4] at hz
      refine V_aload_n dX6_putHush_17 0 rfl ?_
      refine gf_sheet_cues hT dX6_putHush_18 flX6_12 ?_
      refine V_cVi (As := []) (rest := []) dX6_putHush_21 cvX6_103 (c_X3_isFull hxs hT.2.1  ) hT.2.1.1 rfl ⟨Nat.le_of_ble_eq_true rfl, Nat.le_of_ble_eq_true rfl, Nat.le_of_ble_eq_true rfl, Nat.le_of_ble_eq_true rfl⟩ (Nat.le_of_ble_eq_true rfl) rfl ?_
      refine V_if_eq (tgt := 30) dX6_putHush_24 (by decide) (fun c6 => ?_) (fun c6 => ?_)
      · rw [if_pos c6] at hz
        refine V_aload_n dX6_putHush_30 0 rfl ?_
        refine V_bipush (v := 104) dX6_putHush_31 (by decide) ?_
        refine V_iconst (v := (-1)) dX6_putHush_33 (by decide) ?_
        refine V_iload_n dX6_putHush_34 1 rfl ?_
        refine V_iload_n dX6_putHush_35 2 rfl ?_
        refine V_cVmi (As := [.int 104, .int (-1), .int cueBeat, .int length]) (rest := []) dX6_putHush_36 cvX6_107 (c_X6_putCue hxs hT 104 (-1) cueBeat length (by decide)) hT.1 rfl ⟨Nat.le_of_ble_eq_true rfl, Nat.le_of_ble_eq_true rfl, Nat.le_of_ble_eq_true rfl, Nat.le_of_ble_eq_true rfl⟩ (Nat.le_of_ble_eq_true rfl) rfl (fun h9 q9 => ?_)
        obtain ⟨hT9, hO9⟩ := q9
        have hT7 := hT9
        have hO7 := hO9
        exact V_iret dX6_putHush_39 rfl ⟨Nat.le_of_ble_eq_true rfl, Nat.le_of_ble_eq_true rfl⟩ (hK ((T_X6_putCue ids kinds players beats sizes lower higher root count nid 104 (-1) cueBeat length).1, (T_X6_putCue ids kinds players beats sizes lower higher root count nid 104 (-1) cueBeat length).2.1, (T_X6_putCue ids kinds players beats sizes lower higher root count nid 104 (-1) cueBeat length).2.2.1, (T_X6_putCue ids kinds players beats sizes lower higher root count nid 104 (-1) cueBeat length).2.2.2.1, (T_X6_putCue ids kinds players beats sizes lower higher root count nid 104 (-1) cueBeat length).2.2.2.2.1, (T_X6_putCue ids kinds players beats sizes lower higher root count nid 104 (-1) cueBeat length).2.2.2.2.2.1, (T_X6_putCue ids kinds players beats sizes lower higher root count nid 104 (-1) cueBeat length).2.2.2.2.2.2.1, (T_X6_putCue ids kinds players beats sizes lower higher root count nid 104 (-1) cueBeat length).2.2.2.2.2.2.2.1, (T_X6_putCue ids kinds players beats sizes lower higher root count nid 104 (-1) cueBeat length).2.2.2.2.2.2.2.2.1, (T_X6_putCue ids kinds players beats sizes lower higher root count nid 104 (-1) cueBeat length).2.2.2.2.2.2.2.2.2.1, (T_X6_putCue ids kinds players beats sizes lower higher root count nid 104 (-1) cueBeat length).2.2.2.2.2.2.2.2.2.2) _ hT7 hO7 hz)
      · rw [if_neg c6] at hz
        refine V_bipush (v := (-2)) dX6_putHush_27 (by decide) ?_
        exact V_iret dX6_putHush_29 rfl ⟨Nat.le_of_ble_eq_true rfl, Nat.le_of_ble_eq_true rfl⟩ (hK ((-2), ids, kinds, players, beats, sizes, lower, higher, root, count, nid) _ hT Outs.rf hz)
    · rw [if_pos c4] at hz
      refine V_iconst (v := (-1)) dX6_putHush_15 (by decide) ?_
      exact V_iret dX6_putHush_16 rfl ⟨Nat.le_of_ble_eq_true rfl, Nat.le_of_ble_eq_true rfl⟩ (hK ((-1), ids, kinds, players, beats, sizes, lower, higher, root, count, nid) _ hT Outs.rf hz)
theorem c_X6_putHush {X : KX} (hxs : X.1.stackTraces = false) {h : AH} {s : Nat} {ids kinds players beats sizes lower higher od owed mends : List Int32} {root count perf nid beat act lim hend hbt happ clash imp paid : Int32} (hT : IsSheet X h s ids kinds players beats sizes lower higher od root count owed mends perf nid beat act lim hend hbt happ clash imp paid) (cueBeat : Int32) (length : Int32) : Ct X mX6_putHush [.ref s, .int cueBeat, .int length] h (zM (some (.int (T_X6_putHush ids kinds players beats sizes lower higher root count nid beat cueBeat length).1)) (fun h' => IsSheet X h' s (T_X6_putHush ids kinds players beats sizes lower higher root count nid beat cueBeat length).2.1 (T_X6_putHush ids kinds players beats sizes lower higher root count nid beat cueBeat length).2.2.1 (T_X6_putHush ids kinds players beats sizes lower higher root count nid beat cueBeat length).2.2.2.1 (T_X6_putHush ids kinds players beats sizes lower higher root count nid beat cueBeat length).2.2.2.2.1 (T_X6_putHush ids kinds players beats sizes lower higher root count nid beat cueBeat length).2.2.2.2.2.1 (T_X6_putHush ids kinds players beats sizes lower higher root count nid beat cueBeat length).2.2.2.2.2.2.1 (T_X6_putHush ids kinds players beats sizes lower higher root count nid beat cueBeat length).2.2.2.2.2.2.2.1 od (T_X6_putHush ids kinds players beats sizes lower higher root count nid beat cueBeat length).2.2.2.2.2.2.2.2.1 (T_X6_putHush ids kinds players beats sizes lower higher root count nid beat cueBeat length).2.2.2.2.2.2.2.2.2.1 owed mends perf (T_X6_putHush ids kinds players beats sizes lower higher root count nid beat cueBeat length).2.2.2.2.2.2.2.2.2.2 beat act lim hend hbt happ clash imp paid ∧ Outs h h' s 12)) := w_X6_putHush hxs hT cueBeat length  (K := fun r => r = T_X6_putHush ids kinds players beats sizes lower higher root count nid beat cueBeat length) (fun r h' a b e => by subst e; exact ⟨rfl, a, b⟩) rfl
def T_X6_cancel (ids : List Int32) (kinds : List Int32) (lower : List Int32) (higher : List Int32) (root : Int32) (count : Int32) (cue : Int32) : Int32 × List Int32 × List Int32 × List Int32 × Int32 × Int32 := (if (T_X3_isSlot (T_X3_slotOf ids kinds cue)) = 0 then ((-1), kinds, lower, higher, root, count) else ((T_X3_drop kinds lower higher root count (T_X3_slotOf ids kinds cue)).2.2.2.2, (T_X3_drop kinds lower higher root count (T_X3_slotOf ids kinds cue)).1, (T_X3_drop kinds lower higher root count (T_X3_slotOf ids kinds cue)).2.1, (T_X3_drop kinds lower higher root count (T_X3_slotOf ids kinds cue)).2.2.1, (T_X3_drop kinds lower higher root count (T_X3_slotOf ids kinds cue)).2.2.2.1, (T_X3_drop kinds lower higher root count (T_X3_slotOf ids kinds cue)).2.2.2.2))
set_option maxRecDepth 20000 in
set_option maxHeartbeats 2000000 in
theorem w_X6_cancel {X : KX} (hxs : X.1.stackTraces = false) {h : AH} {s : Nat} {ids kinds players beats sizes lower higher od owed mends : List Int32} {root count perf nid beat act lim hend hbt happ clash imp paid : Int32} (hT : IsSheet X h s ids kinds players beats sizes lower higher od root count owed mends perf nid beat act lim hend hbt happ clash imp paid) (cue : Int32) (hl : LT16 lower) (hr : LT16 higher) {Z : ZT} {K : Int32 × List Int32 × List Int32 × List Int32 × Int32 × Int32 → Prop} (hK : ∀ (r : Int32 × List Int32 × List Int32 × List Int32 × Int32 × Int32) (h' : AH), IsSheet X h' s ids (r.2.1) players beats sizes (r.2.2.1) (r.2.2.2.1) od (r.2.2.2.2.1) (r.2.2.2.2.2) owed mends perf nid beat act lim hend hbt happ clash imp paid → Outs h h' s 12 → K r → Z (.inl (some (.int r.1))) h') (hz : K (T_X6_cancel ids kinds lower higher root count cue)) : Ct X mX6_cancel [.ref s, .int cue] h Z := by
  refine Ct.of (by decide) rfl (Nat.le_of_ble_eq_true rfl) rfl hxs ?_
  unfold T_X6_cancel at hz
  try dsimp only [tb] at hz
  refine V_aload_n dX6_cancel_0 0 rfl ?_
  refine gf_sheet_cues hT dX6_cancel_1 flX6_12 ?_
  refine V_iload_n dX6_cancel_4 1 rfl ?_
  refine V_cVi (As := [.int cue]) (rest := []) dX6_cancel_5 cvX6_115 (c_X3_slotOf hxs hT.2.1 cue ) hT.2.1.1 rfl ⟨Nat.le_of_ble_eq_true rfl, Nat.le_of_ble_eq_true rfl, Nat.le_of_ble_eq_true rfl, Nat.le_of_ble_eq_true rfl⟩ (Nat.le_of_ble_eq_true rfl) rfl ?_
  refine V_istore_n (lv' := [(2, .int (T_X3_slotOf ids kinds cue)), (0, .ref s), (1, .int cue)]) dX6_cancel_8 rfl (by decide) rfl ?_
  refine V_iload_n dX6_cancel_9 0 rfl ?_
  refine V_cSi (As := [.int (T_X3_slotOf ids kinds cue)]) (rest := []) dX6_cancel_10 cvX6_118 (c_X3_isSlot hxs (T_X3_slotOf ids kinds cue) ) ⟨Nat.le_of_ble_eq_true rfl, Nat.le_of_ble_eq_true rfl, Nat.le_of_ble_eq_true rfl, Nat.le_of_ble_eq_true rfl⟩ (Nat.le_of_ble_eq_true rfl) rfl ?_
  refine V_if_ne (tgt := 18) dX6_cancel_13 (by decide) (fun c3 => ?_) (fun c3 => ?_)
  · rw [if_neg c3] at hz
    refine V_aload_n dX6_cancel_18 1 rfl ?_
    refine gf_sheet_cues hT dX6_cancel_19 flX6_12 ?_
    refine V_iload_n dX6_cancel_22 0 rfl ?_
    refine V_cVmv (As := [.int (T_X3_slotOf ids kinds cue)]) (rest := []) dX6_cancel_23 cvX6_121 (c_X3_drop hxs hT.2.1 (T_X3_slotOf ids kinds cue) hl hr) hT.2.1.1 rfl ⟨Nat.le_of_ble_eq_true rfl, Nat.le_of_ble_eq_true rfl, Nat.le_of_ble_eq_true rfl, Nat.le_of_ble_eq_true rfl⟩ (Nat.le_of_ble_eq_true rfl) rfl (fun h9 q9 => ?_)
    obtain ⟨hT9, hO9⟩ := q9
    have hT4 := IsSheet.tree hT hT9 hO9
    have hO4 := (hO9.up (b := s) (v := 12) (by omega) (by omega))
    refine V_aload_n dX6_cancel_26 1 rfl ?_
    refine gf_sheet_cues hT4 dX6_cancel_27 flX6_12 ?_
    refine gf_tree_count hT4.2.1 dX6_cancel_30 flX6_125 ?_
    exact V_iret dX6_cancel_33 rfl ⟨Nat.le_of_ble_eq_true rfl, Nat.le_of_ble_eq_true rfl⟩ (hK ((T_X3_drop kinds lower higher root count (T_X3_slotOf ids kinds cue)).2.2.2.2, (T_X3_drop kinds lower higher root count (T_X3_slotOf ids kinds cue)).1, (T_X3_drop kinds lower higher root count (T_X3_slotOf ids kinds cue)).2.1, (T_X3_drop kinds lower higher root count (T_X3_slotOf ids kinds cue)).2.2.1, (T_X3_drop kinds lower higher root count (T_X3_slotOf ids kinds cue)).2.2.2.1, (T_X3_drop kinds lower higher root count (T_X3_slotOf ids kinds cue)).2.2.2.2) _ hT4 hO4 hz)
  · rw [if_pos c3] at hz
    refine V_iconst (v := (-1)) dX6_cancel_16 (by decide) ?_
    exact V_iret dX6_cancel_17 rfl ⟨Nat.le_of_ble_eq_true rfl, Nat.le_of_ble_eq_true rfl⟩ (hK ((-1), kinds, lower, higher, root, count) _ hT Outs.rf hz)
theorem c_X6_cancel {X : KX} (hxs : X.1.stackTraces = false) {h : AH} {s : Nat} {ids kinds players beats sizes lower higher od owed mends : List Int32} {root count perf nid beat act lim hend hbt happ clash imp paid : Int32} (hT : IsSheet X h s ids kinds players beats sizes lower higher od root count owed mends perf nid beat act lim hend hbt happ clash imp paid) (cue : Int32) (hl : LT16 lower) (hr : LT16 higher) : Ct X mX6_cancel [.ref s, .int cue] h (zM (some (.int (T_X6_cancel ids kinds lower higher root count cue).1)) (fun h' => IsSheet X h' s ids (T_X6_cancel ids kinds lower higher root count cue).2.1 players beats sizes (T_X6_cancel ids kinds lower higher root count cue).2.2.1 (T_X6_cancel ids kinds lower higher root count cue).2.2.2.1 od (T_X6_cancel ids kinds lower higher root count cue).2.2.2.2.1 (T_X6_cancel ids kinds lower higher root count cue).2.2.2.2.2 owed mends perf nid beat act lim hend hbt happ clash imp paid ∧ Outs h h' s 12)) := w_X6_cancel hxs hT cue hl hr (K := fun r => r = T_X6_cancel ids kinds lower higher root count cue) (fun r h' a b e => by subst e; exact ⟨rfl, a, b⟩) rfl
def T_X6_move (ids : List Int32) (kinds : List Int32) (beats : List Int32) (lower : List Int32) (higher : List Int32) (root : Int32) (beat : Int32) (cue : Int32) (cueBeat : Int32) : Int32 × List Int32 × List Int32 × List Int32 × Int32 := (if (T_X3_isSlot (T_X3_slotOf ids kinds cue)) = 0 then ((-1), beats, lower, higher, root) else (if (T_X6_isCueBeat beat cueBeat) = 0 then ((-2), beats, lower, higher, root) else ((rd beats (T_X3_slotOf ids kinds cue)), (T_X3_shift ids beats lower higher root (T_X3_slotOf ids kinds cue) cueBeat).1, (T_X3_shift ids beats lower higher root (T_X3_slotOf ids kinds cue) cueBeat).2.1, (T_X3_shift ids beats lower higher root (T_X3_slotOf ids kinds cue) cueBeat).2.2.1, (T_X3_shift ids beats lower higher root (T_X3_slotOf ids kinds cue) cueBeat).2.2.2)))
set_option maxRecDepth 20000 in
set_option maxHeartbeats 2000000 in
theorem w_X6_move {X : KX} (hxs : X.1.stackTraces = false) {h : AH} {s : Nat} {ids kinds players beats sizes lower higher od owed mends : List Int32} {root count perf nid beat act lim hend hbt happ clash imp paid : Int32} (hT : IsSheet X h s ids kinds players beats sizes lower higher od root count owed mends perf nid beat act lim hend hbt happ clash imp paid) (cue : Int32) (cueBeat : Int32) (hl : LT16 lower) (hr : LT16 higher) {Z : ZT} {K : Int32 × List Int32 × List Int32 × List Int32 × Int32 → Prop} (hK : ∀ (r : Int32 × List Int32 × List Int32 × List Int32 × Int32) (h' : AH), IsSheet X h' s ids kinds players (r.2.1) sizes (r.2.2.1) (r.2.2.2.1) od (r.2.2.2.2) count owed mends perf nid beat act lim hend hbt happ clash imp paid → Outs h h' s 12 → K r → Z (.inl (some (.int r.1))) h') (hz : K (T_X6_move ids kinds beats lower higher root beat cue cueBeat)) : Ct X mX6_move [.ref s, .int cue, .int cueBeat] h Z := by
  refine Ct.of (by decide) rfl (Nat.le_of_ble_eq_true rfl) rfl hxs ?_
  unfold T_X6_move at hz
  try dsimp only [tb] at hz
  refine V_aload_n dX6_move_0 0 rfl ?_
  refine gf_sheet_cues hT dX6_move_1 flX6_12 ?_
  refine V_iload_n dX6_move_4 1 rfl ?_
  refine V_cVi (As := [.int cue]) (rest := []) dX6_move_5 cvX6_115 (c_X3_slotOf hxs hT.2.1 cue ) hT.2.1.1 rfl ⟨Nat.le_of_ble_eq_true rfl, Nat.le_of_ble_eq_true rfl, Nat.le_of_ble_eq_true rfl, Nat.le_of_ble_eq_true rfl⟩ (Nat.le_of_ble_eq_true rfl) rfl ?_
  refine V_istore_n (lv' := [(3, .int (T_X3_slotOf ids kinds cue)), (0, .ref s), (1, .int cue), (2, .int cueBeat)]) dX6_move_8 rfl (by decide) rfl ?_
  refine V_iload_n dX6_move_9 0 rfl ?_
  refine V_cSi (As := [.int (T_X3_slotOf ids kinds cue)]) (rest := []) dX6_move_10 cvX6_118 (c_X3_isSlot hxs (T_X3_slotOf ids kinds cue) ) ⟨Nat.le_of_ble_eq_true rfl, Nat.le_of_ble_eq_true rfl, Nat.le_of_ble_eq_true rfl, Nat.le_of_ble_eq_true rfl⟩ (Nat.le_of_ble_eq_true rfl) rfl ?_
  refine V_if_ne (tgt := 18) dX6_move_13 (by decide) (fun c3 => ?_) (fun c3 => ?_)
  · rw [if_neg c3] at hz
    refine V_aload_n dX6_move_18 1 rfl ?_
    refine V_iload_n dX6_move_19 3 rfl ?_
    refine V_cVi (As := [.int cueBeat]) (rest := []) dX6_move_20 cvX6_97 (c_X6_isCueBeat hxs hT cueBeat ) hT.1 rfl ⟨Nat.le_of_ble_eq_true rfl, Nat.le_of_ble_eq_true rfl, Nat.le_of_ble_eq_true rfl, Nat.le_of_ble_eq_true rfl⟩ (Nat.le_of_ble_eq_true rfl) rfl ?_
    refine V_if_ne (tgt := 29) dX6_move_23 (by decide) (fun c5 => ?_) (fun c5 => ?_)
    · rw [if_neg c5] at hz
      refine V_aload_n dX6_move_29 1 rfl ?_
      refine gf_sheet_cues hT dX6_move_30 flX6_12 ?_
      refine gf_tree_beats hT.2.1 dX6_move_33 flX6_128 ?_
      refine V_iload_n dX6_move_36 0 rfl ?_
      refine ld_tree_beats hT.2.1 dX6_move_37 (by first | assumption | exact isSlot_in (by assumption) | exact hasPerf_in (by assumption) | exact Or.resolve_left (by assumption) (by assumption)) ?_
      refine V_istore (lv' := [(4, .int (rd beats (T_X3_slotOf ids kinds cue))), (3, .int (T_X3_slotOf ids kinds cue)), (0, .ref s), (1, .int cue), (2, .int cueBeat)]) dX6_move_38 (by decide) rfl ?_
      refine V_aload_n dX6_move_40 2 rfl ?_
      refine gf_sheet_cues hT dX6_move_41 flX6_12 ?_
      refine V_iload_n dX6_move_44 1 rfl ?_
      refine V_iload_n dX6_move_45 4 rfl ?_
      refine V_cVmv (As := [.int (T_X3_slotOf ids kinds cue), .int cueBeat]) (rest := []) dX6_move_46 cvX6_131 (c_X3_shift hxs hT.2.1 (T_X3_slotOf ids kinds cue) cueBeat hl hr) hT.2.1.1 rfl ⟨Nat.le_of_ble_eq_true rfl, Nat.le_of_ble_eq_true rfl, Nat.le_of_ble_eq_true rfl, Nat.le_of_ble_eq_true rfl⟩ (Nat.le_of_ble_eq_true rfl) rfl (fun h9 q9 => ?_)
      obtain ⟨hT9, hO9⟩ := q9
      have hT6 := IsSheet.tree hT hT9 hO9
      have hO6 := (hO9.up (b := s) (v := 12) (by omega) (by omega))
      refine V_iload dX6_move_49 0 rfl ?_
      exact V_iret dX6_move_51 rfl ⟨Nat.le_of_ble_eq_true rfl, Nat.le_of_ble_eq_true rfl⟩ (hK ((rd beats (T_X3_slotOf ids kinds cue)), (T_X3_shift ids beats lower higher root (T_X3_slotOf ids kinds cue) cueBeat).1, (T_X3_shift ids beats lower higher root (T_X3_slotOf ids kinds cue) cueBeat).2.1, (T_X3_shift ids beats lower higher root (T_X3_slotOf ids kinds cue) cueBeat).2.2.1, (T_X3_shift ids beats lower higher root (T_X3_slotOf ids kinds cue) cueBeat).2.2.2) _ hT6 hO6 hz)
    · rw [if_pos c5] at hz
      refine V_bipush (v := (-2)) dX6_move_26 (by decide) ?_
      exact V_iret dX6_move_28 rfl ⟨Nat.le_of_ble_eq_true rfl, Nat.le_of_ble_eq_true rfl⟩ (hK ((-2), beats, lower, higher, root) _ hT Outs.rf hz)
  · rw [if_pos c3] at hz
    refine V_iconst (v := (-1)) dX6_move_16 (by decide) ?_
    exact V_iret dX6_move_17 rfl ⟨Nat.le_of_ble_eq_true rfl, Nat.le_of_ble_eq_true rfl⟩ (hK ((-1), beats, lower, higher, root) _ hT Outs.rf hz)
theorem c_X6_move {X : KX} (hxs : X.1.stackTraces = false) {h : AH} {s : Nat} {ids kinds players beats sizes lower higher od owed mends : List Int32} {root count perf nid beat act lim hend hbt happ clash imp paid : Int32} (hT : IsSheet X h s ids kinds players beats sizes lower higher od root count owed mends perf nid beat act lim hend hbt happ clash imp paid) (cue : Int32) (cueBeat : Int32) (hl : LT16 lower) (hr : LT16 higher) : Ct X mX6_move [.ref s, .int cue, .int cueBeat] h (zM (some (.int (T_X6_move ids kinds beats lower higher root beat cue cueBeat).1)) (fun h' => IsSheet X h' s ids kinds players (T_X6_move ids kinds beats lower higher root beat cue cueBeat).2.1 sizes (T_X6_move ids kinds beats lower higher root beat cue cueBeat).2.2.1 (T_X6_move ids kinds beats lower higher root beat cue cueBeat).2.2.2.1 od (T_X6_move ids kinds beats lower higher root beat cue cueBeat).2.2.2.2 count owed mends perf nid beat act lim hend hbt happ clash imp paid ∧ Outs h h' s 12)) := w_X6_move hxs hT cue cueBeat hl hr (K := fun r => r = T_X6_move ids kinds beats lower higher root beat cue cueBeat) (fun r h' a b e => by subst e; exact ⟨rfl, a, b⟩) rfl
def T_X6_limitNoise (lim : Int32) (newLimit : Int32) : Int32 × Int32 := (if newLimit < 0 then ((-1), lim) else (if newLimit ≤ 30 then (lim, newLimit) else ((-1), lim)))
set_option maxRecDepth 20000 in
set_option maxHeartbeats 2000000 in
theorem w_X6_limitNoise {X : KX} (hxs : X.1.stackTraces = false) {h : AH} {s : Nat} {ids kinds players beats sizes lower higher od owed mends : List Int32} {root count perf nid beat act lim hend hbt happ clash imp paid : Int32} (hT : IsSheet X h s ids kinds players beats sizes lower higher od root count owed mends perf nid beat act lim hend hbt happ clash imp paid) (newLimit : Int32) {Z : ZT} {K : Int32 × Int32 → Prop} (hK : ∀ (r : Int32 × Int32) (h' : AH), IsSheet X h' s ids kinds players beats sizes lower higher od root count owed mends perf nid beat act (r.2) hend hbt happ clash imp paid → Outs h h' s 12 → K r → Z (.inl (some (.int r.1))) h') (hz : K (T_X6_limitNoise lim newLimit)) : Ct X mX6_limitNoise [.ref s, .int newLimit] h Z := by
  refine Ct.of (by decide) rfl (Nat.le_of_ble_eq_true rfl) rfl hxs ?_
  unfold T_X6_limitNoise at hz
  try dsimp only [tb] at hz
  refine V_iload_n dX6_limitNoise_0 1 rfl ?_
  refine V_if_lt (tgt := 10) dX6_limitNoise_1 (by decide) (fun c1 => ?_) (fun c1 => ?_)
  · rw [if_pos c1] at hz
    refine V_iconst (v := (-1)) dX6_limitNoise_10 (by decide) ?_
    exact V_iret dX6_limitNoise_11 rfl ⟨Nat.le_of_ble_eq_true rfl, Nat.le_of_ble_eq_true rfl⟩ (hK ((-1), lim) _ hT Outs.rf hz)
  · rw [if_neg c1] at hz
    refine V_iload_n dX6_limitNoise_4 1 rfl ?_
    refine V_bipush (v := 30) dX6_limitNoise_5 (by decide) ?_
    refine V_icmp_le (tgt := 12) dX6_limitNoise_7 (by decide) (fun c2 => ?_) (fun c2 => ?_)
    · rw [if_pos c2] at hz
      refine V_aload_n dX6_limitNoise_12 0 rfl ?_
      refine gf_sheet_lim hT dX6_limitNoise_13 flX6_38 ?_
      refine V_istore_n (lv' := [(2, .int lim), (0, .ref s), (1, .int newLimit)]) dX6_limitNoise_16 rfl (by decide) rfl ?_
      refine V_aload_n dX6_limitNoise_17 1 rfl ?_
      refine V_iload_n dX6_limitNoise_18 2 rfl ?_
      refine pf_sheet_lim hT dX6_limitNoise_19 flX6_38 (fun h3 hT3 hO3 => ?_)
      refine V_iload_n dX6_limitNoise_22 0 rfl ?_
      exact V_iret dX6_limitNoise_23 rfl ⟨Nat.le_of_ble_eq_true rfl, Nat.le_of_ble_eq_true rfl⟩ (hK (lim, newLimit) _ hT3 hO3 hz)
    · rw [if_neg c2] at hz
      refine V_iconst (v := (-1)) dX6_limitNoise_10 (by decide) ?_
      exact V_iret dX6_limitNoise_11 rfl ⟨Nat.le_of_ble_eq_true rfl, Nat.le_of_ble_eq_true rfl⟩ (hK ((-1), lim) _ hT Outs.rf hz)
theorem c_X6_limitNoise {X : KX} (hxs : X.1.stackTraces = false) {h : AH} {s : Nat} {ids kinds players beats sizes lower higher od owed mends : List Int32} {root count perf nid beat act lim hend hbt happ clash imp paid : Int32} (hT : IsSheet X h s ids kinds players beats sizes lower higher od root count owed mends perf nid beat act lim hend hbt happ clash imp paid) (newLimit : Int32) : Ct X mX6_limitNoise [.ref s, .int newLimit] h (zM (some (.int (T_X6_limitNoise lim newLimit).1)) (fun h' => IsSheet X h' s ids kinds players beats sizes lower higher od root count owed mends perf nid beat act (T_X6_limitNoise lim newLimit).2 hend hbt happ clash imp paid ∧ Outs h h' s 12)) := w_X6_limitNoise hxs hT newLimit  (K := fun r => r = T_X6_limitNoise lim newLimit) (fun r h' a b e => by subst e; exact ⟨rfl, a, b⟩) rfl
def T_X6_openAct (mends : List Int32) (act : Int32) (hend : Int32) : Int32 × List Int32 × Int32 × Int32 := (if act < 3 then ((act + 1), (List.replicate 6 (-1)), (act + 1), (-1)) else ((-1), mends, act, hend))
set_option maxRecDepth 20000 in
set_option maxHeartbeats 2000000 in
theorem w_X6_openAct {X : KX} (hxs : X.1.stackTraces = false) {h : AH} {s : Nat} {ids kinds players beats sizes lower higher od owed mends : List Int32} {root count perf nid beat act lim hend hbt happ clash imp paid : Int32} (hT : IsSheet X h s ids kinds players beats sizes lower higher od root count owed mends perf nid beat act lim hend hbt happ clash imp paid)  {Z : ZT} {K : Int32 × List Int32 × Int32 × Int32 → Prop} (hK : ∀ (r : Int32 × List Int32 × Int32 × Int32) (h' : AH), IsSheet X h' s ids kinds players beats sizes lower higher od root count owed (r.2.1) perf nid beat (r.2.2.1) lim (r.2.2.2) hbt happ clash imp paid → Outs h h' s 12 → K r → Z (.inl (some (.int r.1))) h') (hz : K (T_X6_openAct mends act hend)) : Ct X mX6_openAct [.ref s] h Z := by
  refine Ct.of (by decide) rfl (Nat.le_of_ble_eq_true rfl) rfl hxs ?_
  unfold T_X6_openAct at hz
  try dsimp only [tb] at hz
  refine V_aload_n dX6_openAct_0 0 rfl ?_
  refine gf_sheet_act hT dX6_openAct_1 flX6_35 ?_
  refine V_iconst (v := 3) dX6_openAct_4 (by decide) ?_
  refine V_icmp_lt (tgt := 10) dX6_openAct_5 (by decide) (fun c1 => ?_) (fun c1 => ?_)
  · rw [if_pos c1] at hz
    refine V_aload_n dX6_openAct_10 0 rfl ?_
    refine V_dup dX6_openAct_11 rfl ?_
    refine gf_sheet_act hT dX6_openAct_12 flX6_35 ?_
    refine V_iconst (v := 1) dX6_openAct_15 (by decide) ?_
    refine V_iadd dX6_openAct_16 ?_
    refine pf_sheet_act hT dX6_openAct_17 flX6_35 (fun h2 hT2 hO2 => ?_)
    refine V_aload_n dX6_openAct_20 0 rfl ?_
    refine V_iconst (v := (-1)) dX6_openAct_21 (by decide) ?_
    refine pf_sheet_hend hT2 dX6_openAct_22 flX6_41 (fun h3 hT3 hO3 => ?_)
    have hO3 := Outs.tr hO2 hO3
    refine V_aload_n dX6_openAct_25 0 rfl ?_
    refine gf_sheet_mends hT3 dX6_openAct_26 flX6_22 ?_
    refine V_iconst (v := (-1)) dX6_openAct_29 (by decide) ?_
    refine V_cSmv (As := [.ref (s + 11), .int (-1)]) (rest := []) dX6_openAct_30 cvX6_59 (c_J7_fill_53178 hxs hT3.2.2.2.1 (by rw [hT3.2.2.2.2]; decide) (-1)) ⟨Nat.le_of_ble_eq_true rfl, Nat.le_of_ble_eq_true rfl, Nat.le_of_ble_eq_true rfl, Nat.le_of_ble_eq_true rfl⟩ (Nat.le_of_ble_eq_true rfl) rfl (fun h9 q9 => ?_)
    rw [hT3.2.2.2.2] at q9
    have hT4 := IsSheet.w_mends (L := (List.replicate 6 (-1))) hT3 (by simp)
    rw [← q9] at hT4
    have hO4a : Outs h3 h9 s 12 := by rw [q9]; exact Outs.put (by omega) (by omega)
    have hO4 := Outs.tr hO3 hO4a
    refine V_aload_n dX6_openAct_33 0 rfl ?_
    refine gf_sheet_act hT4 dX6_openAct_34 flX6_35 ?_
    exact V_iret dX6_openAct_37 rfl ⟨Nat.le_of_ble_eq_true rfl, Nat.le_of_ble_eq_true rfl⟩ (hK ((act + 1), (List.replicate 6 (-1)), (act + 1), (-1)) _ hT4 hO4 hz)
  · rw [if_neg c1] at hz
    refine V_iconst (v := (-1)) dX6_openAct_8 (by decide) ?_
    exact V_iret dX6_openAct_9 rfl ⟨Nat.le_of_ble_eq_true rfl, Nat.le_of_ble_eq_true rfl⟩ (hK ((-1), mends, act, hend) _ hT Outs.rf hz)
theorem c_X6_openAct {X : KX} (hxs : X.1.stackTraces = false) {h : AH} {s : Nat} {ids kinds players beats sizes lower higher od owed mends : List Int32} {root count perf nid beat act lim hend hbt happ clash imp paid : Int32} (hT : IsSheet X h s ids kinds players beats sizes lower higher od root count owed mends perf nid beat act lim hend hbt happ clash imp paid)  : Ct X mX6_openAct [.ref s] h (zM (some (.int (T_X6_openAct mends act hend).1)) (fun h' => IsSheet X h' s ids kinds players beats sizes lower higher od root count owed (T_X6_openAct mends act hend).2.1 perf nid beat (T_X6_openAct mends act hend).2.2.1 lim (T_X6_openAct mends act hend).2.2.2 hbt happ clash imp paid ∧ Outs h h' s 12)) := w_X6_openAct hxs hT   (K := fun r => r = T_X6_openAct mends act hend) (fun r h' a b e => by subst e; exact ⟨rfl, a, b⟩) rfl
