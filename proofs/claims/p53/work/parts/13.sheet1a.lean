/-! ===== the sheet ===== -/
def T_X6_hasPerformer (perf : Int32) (performer : Int32) : Int32 := (if performer < 0 then 0 else (if perf ≤ performer then 0 else (if 6 ≤ performer then 0 else 1)))
set_option maxRecDepth 20000 in
set_option maxHeartbeats 2000000 in
theorem w_X6_hasPerformer {X : KX} (hxs : X.1.stackTraces = false) {h : AH} {s : Nat} {ids kinds players beats sizes lower higher od owed mends : List Int32} {root count perf nid beat act lim hend hbt happ clash imp paid : Int32} (hT : IsSheet X h s ids kinds players beats sizes lower higher od root count owed mends perf nid beat act lim hend hbt happ clash imp paid) (performer : Int32) {Z : ZT} {K : Int32 → Prop} (hK : ∀ r : Int32, K r → Z (.inl (some (.int r))) h) (hz : K (T_X6_hasPerformer perf performer)) : Ct X mX6_hasPerformer [.ref s, .int performer] h Z := by
  refine Ct.of (by decide) rfl (Nat.le_of_ble_eq_true rfl) rfl hxs ?_
  unfold T_X6_hasPerformer at hz
  try dsimp only [tb] at hz
  refine V_iload_n dX6_hasPerformer_0 1 rfl ?_
  refine V_if_lt (tgt := 22) dX6_hasPerformer_1 (by decide) (fun c1 => ?_) (fun c1 => ?_)
  · rw [if_pos c1] at hz
    refine V_iconst (v := 0) dX6_hasPerformer_22 (by decide) ?_
    exact V_zret dX6_hasPerformer_23 rfl bN0 ⟨Nat.le_of_ble_eq_true rfl, Nat.le_of_ble_eq_true rfl⟩ (hK 0 hz)
  · rw [if_neg c1] at hz
    refine V_iload_n dX6_hasPerformer_4 1 rfl ?_
    refine V_aload_n dX6_hasPerformer_5 0 rfl ?_
    refine gf_sheet_perf hT dX6_hasPerformer_6 flX6_25 ?_
    refine V_icmp_ge (tgt := 22) dX6_hasPerformer_9 (by decide) (fun c2 => ?_) (fun c2 => ?_)
    · rw [if_pos c2] at hz
      refine V_iconst (v := 0) dX6_hasPerformer_22 (by decide) ?_
      exact V_zret dX6_hasPerformer_23 rfl bN0 ⟨Nat.le_of_ble_eq_true rfl, Nat.le_of_ble_eq_true rfl⟩ (hK 0 hz)
    · rw [if_neg c2] at hz
      refine V_iload_n dX6_hasPerformer_12 1 rfl ?_
      refine V_bipush (v := 6) dX6_hasPerformer_13 (by decide) ?_
      refine V_icmp_ge (tgt := 22) dX6_hasPerformer_15 (by decide) (fun c3 => ?_) (fun c3 => ?_)
      · rw [if_pos c3] at hz
        refine V_iconst (v := 0) dX6_hasPerformer_22 (by decide) ?_
        exact V_zret dX6_hasPerformer_23 rfl bN0 ⟨Nat.le_of_ble_eq_true rfl, Nat.le_of_ble_eq_true rfl⟩ (hK 0 hz)
      · rw [if_neg c3] at hz
        refine V_iconst (v := 1) dX6_hasPerformer_18 (by decide) ?_
        refine V_goto (tgt := 23) dX6_hasPerformer_19 (by decide) ?_
        exact V_zret dX6_hasPerformer_23 rfl bN1 ⟨Nat.le_of_ble_eq_true rfl, Nat.le_of_ble_eq_true rfl⟩ (hK 1 hz)
theorem c_X6_hasPerformer {X : KX} (hxs : X.1.stackTraces = false) {h : AH} {s : Nat} {ids kinds players beats sizes lower higher od owed mends : List Int32} {root count perf nid beat act lim hend hbt happ clash imp paid : Int32} (hT : IsSheet X h s ids kinds players beats sizes lower higher od root count owed mends perf nid beat act lim hend hbt happ clash imp paid) (performer : Int32) : Ct X mX6_hasPerformer [.ref s, .int performer] h (zR (some (.int (T_X6_hasPerformer perf performer))) h) := w_X6_hasPerformer hxs hT performer  (K := fun r => r = T_X6_hasPerformer perf performer) (fun r e => by subst e; exact ⟨rfl, rfl⟩) rfl
theorem hasPerf_in {perf x : Int32} (hc : ¬ T_X6_hasPerformer perf x = 0) : vp_in x 6 := by
  unfold T_X6_hasPerformer at hc
  by_cases h1 : x < 0
  · simp [h1] at hc
  · by_cases h2 : (6 : Int32) ≤ x
    · simp [h1, h2] at hc
    · exact hasInt (b := 6) h1 h2 (by decide)
def T_X6_isOpen (mends : List Int32) (perf : Int32) (performer : Int32) : Int32 := (if (T_X6_hasPerformer perf performer) = 0 then 0 else (if (rd mends performer) = (-1) then 0 else 1))
set_option maxRecDepth 20000 in
set_option maxHeartbeats 2000000 in
theorem w_X6_isOpen {X : KX} (hxs : X.1.stackTraces = false) {h : AH} {s : Nat} {ids kinds players beats sizes lower higher od owed mends : List Int32} {root count perf nid beat act lim hend hbt happ clash imp paid : Int32} (hT : IsSheet X h s ids kinds players beats sizes lower higher od root count owed mends perf nid beat act lim hend hbt happ clash imp paid) (performer : Int32) {Z : ZT} {K : Int32 → Prop} (hK : ∀ r : Int32, K r → Z (.inl (some (.int r))) h) (hz : K (T_X6_isOpen mends perf performer)) : Ct X mX6_isOpen [.ref s, .int performer] h Z := by
  refine Ct.of (by decide) rfl (Nat.le_of_ble_eq_true rfl) rfl hxs ?_
  unfold T_X6_isOpen at hz
  try dsimp only [tb] at hz
  refine V_aload_n dX6_isOpen_0 0 rfl ?_
  refine V_iload_n dX6_isOpen_1 1 rfl ?_
  refine V_cVi (As := [.int performer]) (rest := []) dX6_isOpen_2 cvX6_75 (c_X6_hasPerformer hxs hT performer ) hT.1 rfl ⟨Nat.le_of_ble_eq_true rfl, Nat.le_of_ble_eq_true rfl, Nat.le_of_ble_eq_true rfl, Nat.le_of_ble_eq_true rfl⟩ (Nat.le_of_ble_eq_true rfl) rfl ?_
  refine V_if_eq (tgt := 22) dX6_isOpen_5 (by decide) (fun c2 => ?_) (fun c2 => ?_)
  · rw [if_pos c2] at hz
    refine V_iconst (v := 0) dX6_isOpen_22 (by decide) ?_
    exact V_zret dX6_isOpen_23 rfl bN0 ⟨Nat.le_of_ble_eq_true rfl, Nat.le_of_ble_eq_true rfl⟩ (hK 0 hz)
  · rw [if_neg c2] at hz
    refine V_aload_n dX6_isOpen_8 0 rfl ?_
    refine gf_sheet_mends hT dX6_isOpen_9 flX6_22 ?_
    refine V_iload_n dX6_isOpen_12 1 rfl ?_
    refine ld_sheet_mends hT dX6_isOpen_13 (by first | assumption | exact isSlot_in (by assumption) | exact hasPerf_in (by assumption) | exact isKind_in (by assumption) | exact in16c (by assumption) (by assumption) | exact in6c (by assumption) (by assumption) | exact Or.resolve_left (by assumption) (by assumption)) ?_
    refine V_iconst (v := (-1)) dX6_isOpen_14 (by decide) ?_
    refine V_icmp_eq (tgt := 22) dX6_isOpen_15 (by decide) (fun c3 => ?_) (fun c3 => ?_)
    · rw [if_pos c3] at hz
      refine V_iconst (v := 0) dX6_isOpen_22 (by decide) ?_
      exact V_zret dX6_isOpen_23 rfl bN0 ⟨Nat.le_of_ble_eq_true rfl, Nat.le_of_ble_eq_true rfl⟩ (hK 0 hz)
    · rw [if_neg c3] at hz
      refine V_iconst (v := 1) dX6_isOpen_18 (by decide) ?_
      refine V_goto (tgt := 23) dX6_isOpen_19 (by decide) ?_
      exact V_zret dX6_isOpen_23 rfl bN1 ⟨Nat.le_of_ble_eq_true rfl, Nat.le_of_ble_eq_true rfl⟩ (hK 1 hz)
theorem c_X6_isOpen {X : KX} (hxs : X.1.stackTraces = false) {h : AH} {s : Nat} {ids kinds players beats sizes lower higher od owed mends : List Int32} {root count perf nid beat act lim hend hbt happ clash imp paid : Int32} (hT : IsSheet X h s ids kinds players beats sizes lower higher od root count owed mends perf nid beat act lim hend hbt happ clash imp paid) (performer : Int32) : Ct X mX6_isOpen [.ref s, .int performer] h (zR (some (.int (T_X6_isOpen mends perf performer))) h) := w_X6_isOpen hxs hT performer  (K := fun r => r = T_X6_isOpen mends perf performer) (fun r e => by subst e; exact ⟨rfl, rfl⟩) rfl
def T_X6_isCueBeat (beat : Int32) (candidate : Int32) : Int32 := (if candidate ≤ beat then 0 else (if 199 < candidate then 0 else 1))
set_option maxRecDepth 20000 in
set_option maxHeartbeats 2000000 in
theorem w_X6_isCueBeat {X : KX} (hxs : X.1.stackTraces = false) {h : AH} {s : Nat} {ids kinds players beats sizes lower higher od owed mends : List Int32} {root count perf nid beat act lim hend hbt happ clash imp paid : Int32} (hT : IsSheet X h s ids kinds players beats sizes lower higher od root count owed mends perf nid beat act lim hend hbt happ clash imp paid) (candidate : Int32) {Z : ZT} {K : Int32 → Prop} (hK : ∀ r : Int32, K r → Z (.inl (some (.int r))) h) (hz : K (T_X6_isCueBeat beat candidate)) : Ct X mX6_isCueBeat [.ref s, .int candidate] h Z := by
  refine Ct.of (by decide) rfl (Nat.le_of_ble_eq_true rfl) rfl hxs ?_
  unfold T_X6_isCueBeat at hz
  try dsimp only [tb] at hz
  refine V_iload_n dX6_isCueBeat_0 1 rfl ?_
  refine V_aload_n dX6_isCueBeat_1 0 rfl ?_
  refine gf_sheet_beat hT dX6_isCueBeat_2 flX6_32 ?_
  refine V_icmp_le (tgt := 19) dX6_isCueBeat_5 (by decide) (fun c1 => ?_) (fun c1 => ?_)
  · rw [if_pos c1] at hz
    refine V_iconst (v := 0) dX6_isCueBeat_19 (by decide) ?_
    exact V_zret dX6_isCueBeat_20 rfl bN0 ⟨Nat.le_of_ble_eq_true rfl, Nat.le_of_ble_eq_true rfl⟩ (hK 0 hz)
  · rw [if_neg c1] at hz
    refine V_iload_n dX6_isCueBeat_8 1 rfl ?_
    refine V_sipush (v := 199) dX6_isCueBeat_9 (by decide) ?_
    refine V_icmp_gt (tgt := 19) dX6_isCueBeat_12 (by decide) (fun c2 => ?_) (fun c2 => ?_)
    · rw [if_pos c2] at hz
      refine V_iconst (v := 0) dX6_isCueBeat_19 (by decide) ?_
      exact V_zret dX6_isCueBeat_20 rfl bN0 ⟨Nat.le_of_ble_eq_true rfl, Nat.le_of_ble_eq_true rfl⟩ (hK 0 hz)
    · rw [if_neg c2] at hz
      refine V_iconst (v := 1) dX6_isCueBeat_15 (by decide) ?_
      refine V_goto (tgt := 20) dX6_isCueBeat_16 (by decide) ?_
      exact V_zret dX6_isCueBeat_20 rfl bN1 ⟨Nat.le_of_ble_eq_true rfl, Nat.le_of_ble_eq_true rfl⟩ (hK 1 hz)
theorem c_X6_isCueBeat {X : KX} (hxs : X.1.stackTraces = false) {h : AH} {s : Nat} {ids kinds players beats sizes lower higher od owed mends : List Int32} {root count perf nid beat act lim hend hbt happ clash imp paid : Int32} (hT : IsSheet X h s ids kinds players beats sizes lower higher od root count owed mends perf nid beat act lim hend hbt happ clash imp paid) (candidate : Int32) : Ct X mX6_isCueBeat [.ref s, .int candidate] h (zR (some (.int (T_X6_isCueBeat beat candidate))) h) := w_X6_isCueBeat hxs hT candidate  (K := fun r => r = T_X6_isCueBeat beat candidate) (fun r e => by subst e; exact ⟨rfl, rfl⟩) rfl
def T_X6_isSize (size : Int32) : Int32 := (if size < 1 then 0 else (if 9 < size then 0 else 1))
set_option maxRecDepth 20000 in
set_option maxHeartbeats 2000000 in
theorem w_X6_isSize {X : KX} (hxs : X.1.stackTraces = false) {h : AH} (size : Int32) {Z : ZT} {K : Int32 → Prop} (hK : ∀ r : Int32, K r → Z (.inl (some (.int r))) h) (hz : K (T_X6_isSize size)) : Ct X mX6_isSize [.int size] h Z := by
  refine Ct.of (by decide) rfl (Nat.le_of_ble_eq_true rfl) rfl hxs ?_
  unfold T_X6_isSize at hz
  try dsimp only [tb] at hz
  refine V_iload_n dX6_isSize_0 0 rfl ?_
  refine V_iconst (v := 1) dX6_isSize_1 (by decide) ?_
  refine V_icmp_lt (tgt := 15) dX6_isSize_2 (by decide) (fun c1 => ?_) (fun c1 => ?_)
  · rw [if_pos c1] at hz
    refine V_iconst (v := 0) dX6_isSize_15 (by decide) ?_
    exact V_zret dX6_isSize_16 rfl bN0 ⟨Nat.le_of_ble_eq_true rfl, Nat.le_of_ble_eq_true rfl⟩ (hK 0 hz)
  · rw [if_neg c1] at hz
    refine V_iload_n dX6_isSize_5 0 rfl ?_
    refine V_bipush (v := 9) dX6_isSize_6 (by decide) ?_
    refine V_icmp_gt (tgt := 15) dX6_isSize_8 (by decide) (fun c2 => ?_) (fun c2 => ?_)
    · rw [if_pos c2] at hz
      refine V_iconst (v := 0) dX6_isSize_15 (by decide) ?_
      exact V_zret dX6_isSize_16 rfl bN0 ⟨Nat.le_of_ble_eq_true rfl, Nat.le_of_ble_eq_true rfl⟩ (hK 0 hz)
    · rw [if_neg c2] at hz
      refine V_iconst (v := 1) dX6_isSize_11 (by decide) ?_
      refine V_goto (tgt := 16) dX6_isSize_12 (by decide) ?_
      exact V_zret dX6_isSize_16 rfl bN1 ⟨Nat.le_of_ble_eq_true rfl, Nat.le_of_ble_eq_true rfl⟩ (hK 1 hz)
theorem c_X6_isSize {X : KX} (hxs : X.1.stackTraces = false) {h : AH} (size : Int32) : Ct X mX6_isSize [.int size] h (zR (some (.int (T_X6_isSize size))) h) := w_X6_isSize hxs size  (K := fun r => r = T_X6_isSize size) (fun r e => by subst e; exact ⟨rfl, rfl⟩) rfl
def T_X6_owedTotal_L4 (owed : List Int32) : Nat → Nat → Int32 → Int32
  | 0, i, x1 => x1
  | f + 1, i, x1 => T_X6_owedTotal_L4 owed f (i + 1) (x1 + (rd owed (nI i)))
def T_X6_owedTotal (owed : List Int32) : Int32 := T_X6_owedTotal_L4 owed 6 0 0
set_option maxRecDepth 20000 in
set_option maxHeartbeats 2000000 in
theorem w_X6_owedTotal {X : KX} (hxs : X.1.stackTraces = false) {h : AH} {s : Nat} {ids kinds players beats sizes lower higher od owed mends : List Int32} {root count perf nid beat act lim hend hbt happ clash imp paid : Int32} (hT : IsSheet X h s ids kinds players beats sizes lower higher od root count owed mends perf nid beat act lim hend hbt happ clash imp paid)  {Z : ZT} {K : Int32 → Prop} (hK : ∀ r : Int32, K r → Z (.inl (some (.int r))) h) (hz : K (T_X6_owedTotal owed)) : Ct X mX6_owedTotal [.ref s] h Z := by
  refine Ct.of (by decide) rfl (Nat.le_of_ble_eq_true rfl) rfl hxs ?_
  have L4 : ∀ (f i : Nat), ∀ (x1 : Int32), i + f = 6 → K (T_X6_owedTotal_L4 owed  f i x1) → V X mX6_owedTotal (zF X mX6_owedTotal Z) 0 0 4 [(0, .ref s), (1, .int x1), (2, .int (nI i))] [] h := by
    intro f
    induction f with
    | zero =>
      intro i x1 hi hz
      obtain rfl : i = 6 := by omega
      rw [T_X6_owedTotal_L4] at hz
      try dsimp only [tb] at hz
      refine V_iload_n dX6_owedTotal_4 2 rfl ?_
      refine V_bipush (v := 6) dX6_owedTotal_5 (by decide) ?_
      refine V_icmp_ge (tgt := 25) dX6_owedTotal_7 (by decide) (fun _ => ?_) (fun c9 => absurd (by decide) c9)
      refine V_iload_n dX6_owedTotal_25 1 rfl ?_
      exact V_iret dX6_owedTotal_26 rfl ⟨Nat.le_of_ble_eq_true rfl, Nat.le_of_ble_eq_true rfl⟩ (hK x1 hz)
    | succ f ih =>
      intro i x1 hi hz
      rw [T_X6_owedTotal_L4] at hz
      try dsimp only [tb] at hz
      refine V_iload_n dX6_owedTotal_4 2 rfl ?_
      refine V_bipush (v := 6) dX6_owedTotal_5 (by decide) ?_
      refine V_icmp_ge (tgt := 25) dX6_owedTotal_7 (by decide) (fun c9 => absurd c9 (nI_ge (a := i) (b := 6) (by omega) (by omega))) (fun _ => ?_)
      refine V_iload_n dX6_owedTotal_10 1 rfl ?_
      refine V_aload_n dX6_owedTotal_11 0 rfl ?_
      refine gf_sheet_owed hT dX6_owedTotal_12 flX6_18 ?_
      refine V_iload_n dX6_owedTotal_15 2 rfl ?_
      refine ld_sheet_owed hT dX6_owedTotal_16 (vp_in_nI (by omega) (by omega)) ?_
      refine V_iadd dX6_owedTotal_17 ?_
      refine V_istore_n (lv' := [(1, .int (x1 + (rd owed (nI i)))), (0, .ref s), (2, .int (nI i))]) dX6_owedTotal_18 rfl (by decide) rfl ?_
      refine V_iinc (v := nI (i + 1)) (lv' := [(2, .int (nI (i + 1))), (1, .int (x1 + (rd owed (nI i)))), (0, .ref s)]) dX6_owedTotal_19 2 rfl (iinc1 i) (by decide) rfl ?_
      refine V_goto (tgt := 4) dX6_owedTotal_22 (by decide) ?_
      refine V.loc [2, 1, 0] rfl ?_
      exact ih (i + 1) (x1 + (rd owed (nI i))) (by omega)  hz
  unfold T_X6_owedTotal at hz
  try dsimp only [tb] at hz
  refine V_iconst (v := 0) dX6_owedTotal_0 (by decide) ?_
  refine V_istore_n (lv' := [(1, .int 0), (0, .ref s)]) dX6_owedTotal_1 rfl (by decide) rfl ?_
  refine V_iconst (v := 0) dX6_owedTotal_2 (by decide) ?_
  refine V_istore_n (lv' := [(2, .int 0), (1, .int 0), (0, .ref s)]) dX6_owedTotal_3 rfl (by decide) rfl ?_
  refine V.loc [2, 1, 0] rfl ?_
  exact L4 6 0 0 (by omega)  hz
theorem c_X6_owedTotal {X : KX} (hxs : X.1.stackTraces = false) {h : AH} {s : Nat} {ids kinds players beats sizes lower higher od owed mends : List Int32} {root count perf nid beat act lim hend hbt happ clash imp paid : Int32} (hT : IsSheet X h s ids kinds players beats sizes lower higher od root count owed mends perf nid beat act lim hend hbt happ clash imp paid)  : Ct X mX6_owedTotal [.ref s] h (zR (some (.int (T_X6_owedTotal owed))) h) := w_X6_owedTotal hxs hT   (K := fun r => r = T_X6_owedTotal owed) (fun r e => by subst e; exact ⟨rfl, rfl⟩) rfl
def T_X6_comesBefore (kinds : List Int32) (players : List Int32) (owed : List Int32) (one : Int32) (other : Int32) : Int32 := (if (rd owed one) = (rd owed other) then (if ((T_X3_countOf kinds players one) - (T_X3_countOf kinds players other)) = 0 then (if other ≤ one then 0 else 1) else (if ((T_X3_countOf kinds players one) - (T_X3_countOf kinds players other)) ≤ 0 then 0 else 1)) else (if (rd owed one) ≤ (rd owed other) then 0 else 1))
set_option maxRecDepth 20000 in
set_option maxHeartbeats 2000000 in
theorem w_X6_comesBefore {X : KX} (hxs : X.1.stackTraces = false) {h : AH} {s : Nat} {ids kinds players beats sizes lower higher od owed mends : List Int32} {root count perf nid beat act lim hend hbt happ clash imp paid : Int32} (hT : IsSheet X h s ids kinds players beats sizes lower higher od root count owed mends perf nid beat act lim hend hbt happ clash imp paid) (one : Int32) (other : Int32) (h1i : vp_in one 6) (h2i : vp_in other 6) {Z : ZT} {K : Int32 → Prop} (hK : ∀ r : Int32, K r → Z (.inl (some (.int r))) h) (hz : K (T_X6_comesBefore kinds players owed one other)) : Ct X mX6_comesBefore [.ref s, .int one, .int other] h Z := by
  refine Ct.of (by decide) rfl (Nat.le_of_ble_eq_true rfl) rfl hxs ?_
  unfold T_X6_comesBefore at hz
  try dsimp only [tb] at hz
  refine V_aload_n dX6_comesBefore_0 0 rfl ?_
  refine gf_sheet_owed hT dX6_comesBefore_1 flX6_18 ?_
  refine V_iload_n dX6_comesBefore_4 1 rfl ?_
  refine ld_sheet_owed hT dX6_comesBefore_5 (by first | assumption | exact isSlot_in (by assumption) | exact hasPerf_in (by assumption) | exact isKind_in (by assumption) | exact in16c (by assumption) (by assumption) | exact in6c (by assumption) (by assumption) | exact Or.resolve_left (by assumption) (by assumption)) ?_
  refine V_aload_n dX6_comesBefore_6 0 rfl ?_
  refine gf_sheet_owed hT dX6_comesBefore_7 flX6_18 ?_
  refine V_iload_n dX6_comesBefore_10 2 rfl ?_
  refine ld_sheet_owed hT dX6_comesBefore_11 (by first | assumption | exact isSlot_in (by assumption) | exact hasPerf_in (by assumption) | exact isKind_in (by assumption) | exact in16c (by assumption) (by assumption) | exact in6c (by assumption) (by assumption) | exact Or.resolve_left (by assumption) (by assumption)) ?_
  refine V_icmp_eq (tgt := 36) dX6_comesBefore_12 (by decide) (fun c1 => ?_) (fun c1 => ?_)
  · rw [if_pos c1] at hz
    refine V_aload_n dX6_comesBefore_36 0 rfl ?_
    refine gf_sheet_cues hT dX6_comesBefore_37 flX6_12 ?_
    refine V_iload_n dX6_comesBefore_40 1 rfl ?_
    refine V_cVi (As := [.int one]) (rest := []) dX6_comesBefore_41 cvX6_87 (c_X3_countOf hxs hT.2.1 one ) hT.2.1.1 rfl ⟨Nat.le_of_ble_eq_true rfl, Nat.le_of_ble_eq_true rfl, Nat.le_of_ble_eq_true rfl, Nat.le_of_ble_eq_true rfl⟩ (Nat.le_of_ble_eq_true rfl) rfl ?_
    refine V_aload_n dX6_comesBefore_44 0 rfl ?_
    refine gf_sheet_cues hT dX6_comesBefore_45 flX6_12 ?_
    refine V_iload_n dX6_comesBefore_48 2 rfl ?_
    refine V_cVi (As := [.int other]) (rest := [.int (T_X3_countOf kinds players one)]) dX6_comesBefore_49 cvX6_87 (c_X3_countOf hxs hT.2.1 other ) hT.2.1.1 rfl ⟨Nat.le_of_ble_eq_true rfl, Nat.le_of_ble_eq_true rfl, Nat.le_of_ble_eq_true rfl, Nat.le_of_ble_eq_true rfl⟩ (Nat.le_of_ble_eq_true rfl) rfl ?_
    refine V_isub dX6_comesBefore_52 ?_
    refine V_istore_n (lv' := [(3, .int ((T_X3_countOf kinds players one) - (T_X3_countOf kinds players other))), (0, .ref s), (1, .int one), (2, .int other)]) dX6_comesBefore_53 rfl (by decide) rfl ?_
    refine V_iload_n dX6_comesBefore_54 0 rfl ?_
    refine V_if_eq (tgt := 70) dX6_comesBefore_55 (by decide) (fun c4 => ?_) (fun c4 => ?_)
    · rw [if_pos c4] at hz
      refine V_iload_n dX6_comesBefore_70 2 rfl ?_
      refine V_iload_n dX6_comesBefore_71 3 rfl ?_
      refine V_icmp_ge (tgt := 79) dX6_comesBefore_72 (by decide) (fun c5 => ?_) (fun c5 => ?_)
      · rw [if_pos c5] at hz
        refine V_iconst (v := 0) dX6_comesBefore_79 (by decide) ?_
        exact V_zret dX6_comesBefore_80 rfl bN0 ⟨Nat.le_of_ble_eq_true rfl, Nat.le_of_ble_eq_true rfl⟩ (hK 0 hz)
      · rw [if_neg c5] at hz
        refine V_iconst (v := 1) dX6_comesBefore_75 (by decide) ?_
        refine V_goto (tgt := 80) dX6_comesBefore_76 (by decide) ?_
        exact V_zret dX6_comesBefore_80 rfl bN1 ⟨Nat.le_of_ble_eq_true rfl, Nat.le_of_ble_eq_true rfl⟩ (hK 1 hz)
    · rw [if_neg c4] at hz
      refine V_iload_n dX6_comesBefore_58 0 rfl ?_
      refine V_if_le (tgt := 66) dX6_comesBefore_59 (by decide) (fun c6 => ?_) (fun c6 => ?_)
      · rw [if_pos c6] at hz
        refine V_iconst (v := 0) dX6_comesBefore_66 (by decide) ?_
        refine V_goto (tgt := 80) dX6_comesBefore_67 (by decide) ?_
        exact V_zret dX6_comesBefore_80 rfl bN0 ⟨Nat.le_of_ble_eq_true rfl, Nat.le_of_ble_eq_true rfl⟩ (hK 0 hz)
      · rw [if_neg c6] at hz
        refine V_iconst (v := 1) dX6_comesBefore_62 (by decide) ?_
        refine V_goto (tgt := 80) dX6_comesBefore_63 (by decide) ?_
        exact V_zret dX6_comesBefore_80 rfl bN1 ⟨Nat.le_of_ble_eq_true rfl, Nat.le_of_ble_eq_true rfl⟩ (hK 1 hz)
  · rw [if_neg c1] at hz
    refine V_aload_n dX6_comesBefore_15 0 rfl ?_
    refine gf_sheet_owed hT dX6_comesBefore_16 flX6_18 ?_
    refine V_iload_n dX6_comesBefore_19 1 rfl ?_
    refine ld_sheet_owed hT dX6_comesBefore_20 (by first | assumption | exact isSlot_in (by assumption) | exact hasPerf_in (by assumption) | exact isKind_in (by assumption) | exact in16c (by assumption) (by assumption) | exact in6c (by assumption) (by assumption) | exact Or.resolve_left (by assumption) (by assumption)) ?_
    refine V_aload_n dX6_comesBefore_21 0 rfl ?_
    refine gf_sheet_owed hT dX6_comesBefore_22 flX6_18 ?_
    refine V_iload_n dX6_comesBefore_25 2 rfl ?_
    refine ld_sheet_owed hT dX6_comesBefore_26 (by first | assumption | exact isSlot_in (by assumption) | exact hasPerf_in (by assumption) | exact isKind_in (by assumption) | exact in16c (by assumption) (by assumption) | exact in6c (by assumption) (by assumption) | exact Or.resolve_left (by assumption) (by assumption)) ?_
    refine V_icmp_le (tgt := 34) dX6_comesBefore_27 (by decide) (fun c7 => ?_) (fun c7 => ?_)
    · rw [if_pos c7] at hz
      refine V_iconst (v := 0) dX6_comesBefore_34 (by decide) ?_
      exact V_zret dX6_comesBefore_35 rfl bN0 ⟨Nat.le_of_ble_eq_true rfl, Nat.le_of_ble_eq_true rfl⟩ (hK 0 hz)
    · rw [if_neg c7] at hz
      refine V_iconst (v := 1) dX6_comesBefore_30 (by decide) ?_
      refine V_goto (tgt := 35) dX6_comesBefore_31 (by decide) ?_
      exact V_zret dX6_comesBefore_35 rfl bN1 ⟨Nat.le_of_ble_eq_true rfl, Nat.le_of_ble_eq_true rfl⟩ (hK 1 hz)
theorem c_X6_comesBefore {X : KX} (hxs : X.1.stackTraces = false) {h : AH} {s : Nat} {ids kinds players beats sizes lower higher od owed mends : List Int32} {root count perf nid beat act lim hend hbt happ clash imp paid : Int32} (hT : IsSheet X h s ids kinds players beats sizes lower higher od root count owed mends perf nid beat act lim hend hbt happ clash imp paid) (one : Int32) (other : Int32) (h1i : vp_in one 6) (h2i : vp_in other 6) : Ct X mX6_comesBefore [.ref s, .int one, .int other] h (zR (some (.int (T_X6_comesBefore kinds players owed one other))) h) := w_X6_comesBefore hxs hT one other h1i h2i (K := fun r => r = T_X6_comesBefore kinds players owed one other) (fun r e => by subst e; exact ⟨rfl, rfl⟩) rfl
def T_X6_rankOf_L4 (kinds : List Int32) (players : List Int32) (owed : List Int32) (perf : Int32) (performer : Int32) : Nat → Nat → Int32 → Int32
  | 0, i, x2 => x2
  | f + 1, i, x2 => (if (T_X6_hasPerformer perf (nI i)) = 0 then T_X6_rankOf_L4 kinds players owed perf performer f (i + 1) x2 else (if (T_X6_comesBefore kinds players owed (nI i) performer) = 0 then T_X6_rankOf_L4 kinds players owed perf performer f (i + 1) x2 else T_X6_rankOf_L4 kinds players owed perf performer f (i + 1) (x2 + 1)))
def T_X6_rankOf (kinds : List Int32) (players : List Int32) (owed : List Int32) (perf : Int32) (performer : Int32) : Int32 := T_X6_rankOf_L4 kinds players owed perf performer 6 0 0
set_option maxRecDepth 20000 in
set_option maxHeartbeats 2000000 in
theorem w_X6_rankOf {X : KX} (hxs : X.1.stackTraces = false) {h : AH} {s : Nat} {ids kinds players beats sizes lower higher od owed mends : List Int32} {root count perf nid beat act lim hend hbt happ clash imp paid : Int32} (hT : IsSheet X h s ids kinds players beats sizes lower higher od root count owed mends perf nid beat act lim hend hbt happ clash imp paid) (performer : Int32) (hpi : vp_in performer 6) {Z : ZT} {K : Int32 → Prop} (hK : ∀ r : Int32, K r → Z (.inl (some (.int r))) h) (hz : K (T_X6_rankOf kinds players owed perf performer)) : Ct X mX6_rankOf [.ref s, .int performer] h Z := by
  refine Ct.of (by decide) rfl (Nat.le_of_ble_eq_true rfl) rfl hxs ?_
  have L4 : ∀ (f i : Nat), ∀ (x2 : Int32), i + f = 6 → K (T_X6_rankOf_L4 kinds players owed perf performer  f i x2) → V X mX6_rankOf (zF X mX6_rankOf Z) 0 0 4 [(0, .ref s), (1, .int performer), (2, .int x2), (3, .int (nI i))] [] h := by
    intro f
    induction f with
    | zero =>
      intro i x2 hi hz
      obtain rfl : i = 6 := by omega
      rw [T_X6_rankOf_L4] at hz
      try dsimp only [tb] at hz
      refine V_iload_n dX6_rankOf_4 3 rfl ?_
      refine V_bipush (v := 6) dX6_rankOf_5 (by decide) ?_
      refine V_icmp_ge (tgt := 36) dX6_rankOf_7 (by decide) (fun _ => ?_) (fun c9 => absurd (by decide) c9)
      refine V_iload_n dX6_rankOf_36 2 rfl ?_
      exact V_iret dX6_rankOf_37 rfl ⟨Nat.le_of_ble_eq_true rfl, Nat.le_of_ble_eq_true rfl⟩ (hK x2 hz)
    | succ f ih =>
      intro i x2 hi hz
      rw [T_X6_rankOf_L4] at hz
      try dsimp only [tb] at hz
      refine V_iload_n dX6_rankOf_4 3 rfl ?_
      refine V_bipush (v := 6) dX6_rankOf_5 (by decide) ?_
      refine V_icmp_ge (tgt := 36) dX6_rankOf_7 (by decide) (fun c9 => absurd c9 (nI_ge (a := i) (b := 6) (by omega) (by omega))) (fun _ => ?_)
      refine V_aload_n dX6_rankOf_10 0 rfl ?_
      refine V_iload_n dX6_rankOf_11 3 rfl ?_
      refine V_cVi (As := [.int (nI i)]) (rest := []) dX6_rankOf_12 cvX6_75 (c_X6_hasPerformer hxs hT (nI i) ) hT.1 rfl ⟨Nat.le_of_ble_eq_true rfl, Nat.le_of_ble_eq_true rfl, Nat.le_of_ble_eq_true rfl, Nat.le_of_ble_eq_true rfl⟩ (Nat.le_of_ble_eq_true rfl) rfl ?_
      refine V_if_eq (tgt := 30) dX6_rankOf_15 (by decide) (fun c2 => ?_) (fun c2 => ?_)
      · rw [if_pos c2] at hz
        refine V_iinc (v := nI (i + 1)) (lv' := [(3, .int (nI (i + 1))), (0, .ref s), (1, .int performer), (2, .int x2)]) dX6_rankOf_30 3 rfl (iinc1 i) (by decide) rfl ?_
        refine V_goto (tgt := 4) dX6_rankOf_33 (by decide) ?_
        refine V.loc [1, 2, 3, 0] rfl ?_
        exact ih (i + 1) x2 (by omega)  hz
      · rw [if_neg c2] at hz
        refine V_aload_n dX6_rankOf_18 0 rfl ?_
        refine V_iload_n dX6_rankOf_19 3 rfl ?_
        refine V_iload_n dX6_rankOf_20 1 rfl ?_
        refine V_cVi (As := [.int (nI i), .int performer]) (rest := []) dX6_rankOf_21 cvX6_83 (c_X6_comesBefore hxs hT (nI i) performer (vp_in_nI (by omega) (by omega)) (by first | assumption | exact isSlot_in (by assumption) | exact hasPerf_in (by assumption) | exact isKind_in (by assumption) | exact in16c (by assumption) (by assumption) | exact in6c (by assumption) (by assumption) | exact Or.resolve_left (by assumption) (by assumption))) hT.1 rfl ⟨Nat.le_of_ble_eq_true rfl, Nat.le_of_ble_eq_true rfl, Nat.le_of_ble_eq_true rfl, Nat.le_of_ble_eq_true rfl⟩ (Nat.le_of_ble_eq_true rfl) rfl ?_
        refine V_if_eq (tgt := 30) dX6_rankOf_24 (by decide) (fun c4 => ?_) (fun c4 => ?_)
        · rw [if_pos c4] at hz
          refine V_iinc (v := nI (i + 1)) (lv' := [(3, .int (nI (i + 1))), (0, .ref s), (1, .int performer), (2, .int x2)]) dX6_rankOf_30 3 rfl (iinc1 i) (by decide) rfl ?_
          refine V_goto (tgt := 4) dX6_rankOf_33 (by decide) ?_
          refine V.loc [1, 2, 3, 0] rfl ?_
          exact ih (i + 1) x2 (by omega)  hz
        · rw [if_neg c4] at hz
          refine V_iinc (v := x2 + 1) (lv' := [(2, .int (x2 + 1)), (0, .ref s), (1, .int performer), (3, .int (nI i))]) dX6_rankOf_27 2 rfl rfl (by decide) rfl ?_
          refine V_iinc (v := nI (i + 1)) (lv' := [(3, .int (nI (i + 1))), (2, .int (x2 + 1)), (0, .ref s), (1, .int performer)]) dX6_rankOf_30 3 rfl (iinc1 i) (by decide) rfl ?_
          refine V_goto (tgt := 4) dX6_rankOf_33 (by decide) ?_
          refine V.loc [2, 3, 1, 0] rfl ?_
          exact ih (i + 1) (x2 + 1) (by omega)  hz
  unfold T_X6_rankOf at hz
  try dsimp only [tb] at hz
  refine V_iconst (v := 0) dX6_rankOf_0 (by decide) ?_
  refine V_istore_n (lv' := [(2, .int 0), (0, .ref s), (1, .int performer)]) dX6_rankOf_1 rfl (by decide) rfl ?_
  refine V_iconst (v := 0) dX6_rankOf_2 (by decide) ?_
  refine V_istore_n (lv' := [(3, .int 0), (2, .int 0), (0, .ref s), (1, .int performer)]) dX6_rankOf_3 rfl (by decide) rfl ?_
  refine V.loc [2, 3, 1, 0] rfl ?_
  exact L4 6 0 0 (by omega)  hz
theorem c_X6_rankOf {X : KX} (hxs : X.1.stackTraces = false) {h : AH} {s : Nat} {ids kinds players beats sizes lower higher od owed mends : List Int32} {root count perf nid beat act lim hend hbt happ clash imp paid : Int32} (hT : IsSheet X h s ids kinds players beats sizes lower higher od root count owed mends perf nid beat act lim hend hbt happ clash imp paid) (performer : Int32) (hpi : vp_in performer 6) : Ct X mX6_rankOf [.ref s, .int performer] h (zR (some (.int (T_X6_rankOf kinds players owed perf performer))) h) := w_X6_rankOf hxs hT performer hpi (K := fun r => r = T_X6_rankOf kinds players owed perf performer) (fun r e => by subst e; exact ⟨rfl, rfl⟩) rfl
def T_X6_ranked_L2 (kinds : List Int32) (players : List Int32) (owed : List Int32) (perf : Int32) (rank : Int32) : Nat → Nat → Int32
  | 0, i => (-1)
  | f + 1, i => (if (T_X6_hasPerformer perf (nI i)) = 0 then T_X6_ranked_L2 kinds players owed perf rank f (i + 1) else (if (T_X6_rankOf kinds players owed perf (nI i)) = rank then nI i else T_X6_ranked_L2 kinds players owed perf rank f (i + 1)))
def T_X6_ranked (kinds : List Int32) (players : List Int32) (owed : List Int32) (perf : Int32) (rank : Int32) : Int32 := T_X6_ranked_L2 kinds players owed perf rank 6 0
set_option maxRecDepth 20000 in
set_option maxHeartbeats 2000000 in
theorem w_X6_ranked {X : KX} (hxs : X.1.stackTraces = false) {h : AH} {s : Nat} {ids kinds players beats sizes lower higher od owed mends : List Int32} {root count perf nid beat act lim hend hbt happ clash imp paid : Int32} (hT : IsSheet X h s ids kinds players beats sizes lower higher od root count owed mends perf nid beat act lim hend hbt happ clash imp paid) (rank : Int32) {Z : ZT} {K : Int32 → Prop} (hK : ∀ r : Int32, K r → Z (.inl (some (.int r))) h) (hz : K (T_X6_ranked kinds players owed perf rank)) : Ct X mX6_ranked [.ref s, .int rank] h Z := by
  refine Ct.of (by decide) rfl (Nat.le_of_ble_eq_true rfl) rfl hxs ?_
  have L2 : ∀ (f i : Nat), i + f = 6 → K (T_X6_ranked_L2 kinds players owed perf rank  f i ) → V X mX6_ranked (zF X mX6_ranked Z) 0 0 2 [(0, .ref s), (1, .int rank), (2, .int (nI i))] [] h := by
    intro f
    induction f with
    | zero =>
      intro i hi hz
      obtain rfl : i = 6 := by omega
      rw [T_X6_ranked_L2] at hz
      try dsimp only [tb] at hz
      refine V_iload_n dX6_ranked_2 2 rfl ?_
      refine V_bipush (v := 6) dX6_ranked_3 (by decide) ?_
      refine V_icmp_ge (tgt := 33) dX6_ranked_5 (by decide) (fun _ => ?_) (fun c9 => absurd (by decide) c9)
      refine V_iconst (v := (-1)) dX6_ranked_33 (by decide) ?_
      exact V_iret dX6_ranked_34 rfl ⟨Nat.le_of_ble_eq_true rfl, Nat.le_of_ble_eq_true rfl⟩ (hK (-1) hz)
    | succ f ih =>
      intro i hi hz
      rw [T_X6_ranked_L2] at hz
      try dsimp only [tb] at hz
      refine V_iload_n dX6_ranked_2 2 rfl ?_
      refine V_bipush (v := 6) dX6_ranked_3 (by decide) ?_
      refine V_icmp_ge (tgt := 33) dX6_ranked_5 (by decide) (fun c9 => absurd c9 (nI_ge (a := i) (b := 6) (by omega) (by omega))) (fun _ => ?_)
      refine V_aload_n dX6_ranked_8 0 rfl ?_
      refine V_iload_n dX6_ranked_9 2 rfl ?_
      refine V_cVi (As := [.int (nI i)]) (rest := []) dX6_ranked_10 cvX6_75 (c_X6_hasPerformer hxs hT (nI i) ) hT.1 rfl ⟨Nat.le_of_ble_eq_true rfl, Nat.le_of_ble_eq_true rfl, Nat.le_of_ble_eq_true rfl, Nat.le_of_ble_eq_true rfl⟩ (Nat.le_of_ble_eq_true rfl) rfl ?_
      refine V_if_eq (tgt := 27) dX6_ranked_13 (by decide) (fun c2 => ?_) (fun c2 => ?_)
      · rw [if_pos c2] at hz
        refine V_iinc (v := nI (i + 1)) (lv' := [(2, .int (nI (i + 1))), (0, .ref s), (1, .int rank)]) dX6_ranked_27 2 rfl (iinc1 i) (by decide) rfl ?_
        refine V_goto (tgt := 2) dX6_ranked_30 (by decide) ?_
        refine V.loc [1, 2, 0] rfl ?_
        exact ih (i + 1) (by omega)  hz
      · rw [if_neg c2] at hz
        refine V_aload_n dX6_ranked_16 0 rfl ?_
        refine V_iload_n dX6_ranked_17 2 rfl ?_
        refine V_cVi (As := [.int (nI i)]) (rest := []) dX6_ranked_18 cvX6_79 (c_X6_rankOf hxs hT (nI i) (vp_in_nI (by omega) (by omega))) hT.1 rfl ⟨Nat.le_of_ble_eq_true rfl, Nat.le_of_ble_eq_true rfl, Nat.le_of_ble_eq_true rfl, Nat.le_of_ble_eq_true rfl⟩ (Nat.le_of_ble_eq_true rfl) rfl ?_
        refine V_iload_n dX6_ranked_21 1 rfl ?_
        refine V_icmp_ne (tgt := 27) dX6_ranked_22 (by decide) (fun c4 => ?_) (fun c4 => ?_)
        · rw [if_neg c4] at hz
          refine V_iinc (v := nI (i + 1)) (lv' := [(2, .int (nI (i + 1))), (0, .ref s), (1, .int rank)]) dX6_ranked_27 2 rfl (iinc1 i) (by decide) rfl ?_
          refine V_goto (tgt := 2) dX6_ranked_30 (by decide) ?_
          refine V.loc [1, 2, 0] rfl ?_
          exact ih (i + 1) (by omega)  hz
        · rw [if_pos c4] at hz
          refine V_iload_n dX6_ranked_25 2 rfl ?_
          exact V_iret dX6_ranked_26 rfl ⟨Nat.le_of_ble_eq_true rfl, Nat.le_of_ble_eq_true rfl⟩ (hK (nI i) hz)
  unfold T_X6_ranked at hz
  try dsimp only [tb] at hz
  refine V_iconst (v := 0) dX6_ranked_0 (by decide) ?_
  refine V_istore_n (lv' := [(2, .int 0), (0, .ref s), (1, .int rank)]) dX6_ranked_1 rfl (by decide) rfl ?_
  refine V.loc [1, 2, 0] rfl ?_
  exact L2 6 0 (by omega)  hz
theorem c_X6_ranked {X : KX} (hxs : X.1.stackTraces = false) {h : AH} {s : Nat} {ids kinds players beats sizes lower higher od owed mends : List Int32} {root count perf nid beat act lim hend hbt happ clash imp paid : Int32} (hT : IsSheet X h s ids kinds players beats sizes lower higher od root count owed mends perf nid beat act lim hend hbt happ clash imp paid) (rank : Int32) : Ct X mX6_ranked [.ref s, .int rank] h (zR (some (.int (T_X6_ranked kinds players owed perf rank))) h) := w_X6_ranked hxs hT rank  (K := fun r => r = T_X6_ranked kinds players owed perf rank) (fun r e => by subst e; exact ⟨rfl, rfl⟩) rfl
