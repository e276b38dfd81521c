/-! ===== the tree: its reads ===== -/
def T_X3_isSlot (slot : Int32) : Int32 := (if slot < 0 then 0 else (if 16 ≤ slot then 0 else 1))
set_option maxRecDepth 20000 in
set_option maxHeartbeats 2000000 in
theorem w_X3_isSlot {X : KX} (hxs : X.1.stackTraces = false) {h : AH} (slot : Int32) {Z : ZT} {K : Int32 → Prop} (hK : ∀ r : Int32, K r → Z (.inl (some (.int r))) h) (hz : K (T_X3_isSlot slot)) : Ct X mX3_isSlot [.int slot] h Z := by
  refine Ct.of (by decide) rfl (Nat.le_of_ble_eq_true rfl) rfl hxs ?_
  unfold T_X3_isSlot at hz
  try dsimp only [tb] at hz
  refine V_iload_n dX3_isSlot_0 0 rfl ?_
  refine V_if_lt (tgt := 14) dX3_isSlot_1 (by decide) (fun c1 => ?_) (fun c1 => ?_)
  · rw [if_pos c1] at hz
    refine V_iconst (v := 0) dX3_isSlot_14 (by decide) ?_
    exact V_zret dX3_isSlot_15 rfl bN0 ⟨Nat.le_of_ble_eq_true rfl, Nat.le_of_ble_eq_true rfl⟩ (hK 0 hz)
  · rw [if_neg c1] at hz
    refine V_iload_n dX3_isSlot_4 0 rfl ?_
    refine V_bipush (v := 16) dX3_isSlot_5 (by decide) ?_
    refine V_icmp_ge (tgt := 14) dX3_isSlot_7 (by decide) (fun c2 => ?_) (fun c2 => ?_)
    · rw [if_pos c2] at hz
      refine V_iconst (v := 0) dX3_isSlot_14 (by decide) ?_
      exact V_zret dX3_isSlot_15 rfl bN0 ⟨Nat.le_of_ble_eq_true rfl, Nat.le_of_ble_eq_true rfl⟩ (hK 0 hz)
    · rw [if_neg c2] at hz
      refine V_iconst (v := 1) dX3_isSlot_10 (by decide) ?_
      refine V_goto (tgt := 15) dX3_isSlot_11 (by decide) ?_
      exact V_zret dX3_isSlot_15 rfl bN1 ⟨Nat.le_of_ble_eq_true rfl, Nat.le_of_ble_eq_true rfl⟩ (hK 1 hz)
theorem c_X3_isSlot {X : KX} (hxs : X.1.stackTraces = false) {h : AH} (slot : Int32) : Ct X mX3_isSlot [.int slot] h (zR (some (.int (T_X3_isSlot slot))) h) := w_X3_isSlot hxs slot  (K := fun r => r = T_X3_isSlot slot) (fun r e => by subst e; exact ⟨rfl, rfl⟩) rfl
theorem isSlot_in {x : Int32} (hc : ¬ T_X3_isSlot x = 0) : vp_in x 16 := by
  unfold T_X3_isSlot at hc
  by_cases h1 : x < 0
  · simp [h1] at hc
  · by_cases h2 : (16 : Int32) ≤ x
    · simp [h1, h2] at hc
    · obtain ⟨j, hj, rfl⟩ := nI_of h1
      exact vp_in_nI (by rcases Nat.lt_or_ge j 16 with g | g; exact g; exact absurd (nI_le g hj) h2) (by omega)
theorem in16c {x : Int32} (h0 : ¬ x < 0) (h1 : ¬ (16 : Int32) ≤ x) : vp_in x 16 := by
  obtain ⟨j, hj, rfl⟩ := nI_of h0
  exact vp_in_nI (by rcases Nat.lt_or_ge j 16 with g | g; exact g; exact absurd (nI_le g hj) h1) (by omega)
theorem in6c {x : Int32} (h0 : ¬ x < 0) (h1 : ¬ (6 : Int32) ≤ x) : vp_in x 6 := by
  obtain ⟨j, hj, rfl⟩ := nI_of h0
  exact vp_in_nI (by rcases Nat.lt_or_ge j 6 with g | g; exact g; exact absurd (nI_le g hj) h1) (by omega)
def T_X3_isKind (kinds : List Int32) (slot : Int32) (kind : Int32) : Int32 := (if (T_X3_isSlot slot) = 0 then 0 else (if (rd kinds slot) = kind then 1 else 0))
set_option maxRecDepth 20000 in
set_option maxHeartbeats 2000000 in
theorem w_X3_isKind {X : KX} (hxs : X.1.stackTraces = false) {h : AH} {t : Nat} {ids kinds players beats sizes lower higher od : List Int32} {root count : Int32} (hT : IsTree X h t ids kinds players beats sizes lower higher od root count) (slot : Int32) (kind : Int32) {Z : ZT} {K : Int32 → Prop} (hK : ∀ r : Int32, K r → Z (.inl (some (.int r))) h) (hz : K (T_X3_isKind kinds slot kind)) : Ct X mX3_isKind [.ref t, .int slot, .int kind] h Z := by
  refine Ct.of (by decide) rfl (Nat.le_of_ble_eq_true rfl) rfl hxs ?_
  unfold T_X3_isKind at hz
  try dsimp only [tb] at hz
  refine V_iload_n dX3_isKind_0 1 rfl ?_
  refine V_cSi (As := [.int slot]) (rest := []) dX3_isKind_1 cvX3_60 (c_X3_isSlot hxs slot ) ⟨Nat.le_of_ble_eq_true rfl, Nat.le_of_ble_eq_true rfl, Nat.le_of_ble_eq_true rfl, Nat.le_of_ble_eq_true rfl⟩ (Nat.le_of_ble_eq_true rfl) rfl ?_
  refine V_if_eq (tgt := 21) dX3_isKind_4 (by decide) (fun c2 => ?_) (fun c2 => ?_)
  · rw [if_pos c2] at hz
    refine V_iconst (v := 0) dX3_isKind_21 (by decide) ?_
    exact V_zret dX3_isKind_22 rfl bN0 ⟨Nat.le_of_ble_eq_true rfl, Nat.le_of_ble_eq_true rfl⟩ (hK 0 hz)
  · rw [if_neg c2] at hz
    refine V_aload_n dX3_isKind_7 0 rfl ?_
    refine gf_tree_kinds hT dX3_isKind_8 flX3_15 ?_
    refine V_iload_n dX3_isKind_11 1 rfl ?_
    refine ld_tree_kinds hT dX3_isKind_12 (by first | assumption | exact isSlot_in (by assumption) | exact hasPerf_in (by assumption) | exact isKind_in (by assumption) | exact in16c (by assumption) (by assumption) | exact in6c (by assumption) (by assumption) | exact Or.resolve_left (by assumption) (by assumption)) ?_
    refine V_iload_n dX3_isKind_13 2 rfl ?_
    refine V_icmp_ne (tgt := 21) dX3_isKind_14 (by decide) (fun c3 => ?_) (fun c3 => ?_)
    · rw [if_neg c3] at hz
      refine V_iconst (v := 0) dX3_isKind_21 (by decide) ?_
      exact V_zret dX3_isKind_22 rfl bN0 ⟨Nat.le_of_ble_eq_true rfl, Nat.le_of_ble_eq_true rfl⟩ (hK 0 hz)
    · rw [if_pos c3] at hz
      refine V_iconst (v := 1) dX3_isKind_17 (by decide) ?_
      refine V_goto (tgt := 22) dX3_isKind_18 (by decide) ?_
      exact V_zret dX3_isKind_22 rfl bN1 ⟨Nat.le_of_ble_eq_true rfl, Nat.le_of_ble_eq_true rfl⟩ (hK 1 hz)
theorem c_X3_isKind {X : KX} (hxs : X.1.stackTraces = false) {h : AH} {t : Nat} {ids kinds players beats sizes lower higher od : List Int32} {root count : Int32} (hT : IsTree X h t ids kinds players beats sizes lower higher od root count) (slot : Int32) (kind : Int32) : Ct X mX3_isKind [.ref t, .int slot, .int kind] h (zR (some (.int (T_X3_isKind kinds slot kind))) h) := w_X3_isKind hxs hT slot kind  (K := fun r => r = T_X3_isKind kinds slot kind) (fun r e => by subst e; exact ⟨rfl, rfl⟩) rfl
theorem isKind_in {kinds : List Int32} {x k : Int32} (hc : ¬ T_X3_isKind kinds x k = 0) : vp_in x 16 := by
  unfold T_X3_isKind at hc
  by_cases h1 : T_X3_isSlot x = 0
  · simp [h1] at hc
  · exact isSlot_in h1
def T_X3_isFull (count : Int32) : Int32 := (if count < 16 then 0 else 1)
set_option maxRecDepth 20000 in
set_option maxHeartbeats 2000000 in
theorem w_X3_isFull {X : KX} (hxs : X.1.stackTraces = false) {h : AH} {t : Nat} {ids kinds players beats sizes lower higher od : List Int32} {root count : Int32} (hT : IsTree X h t ids kinds players beats sizes lower higher od root count)  {Z : ZT} {K : Int32 → Prop} (hK : ∀ r : Int32, K r → Z (.inl (some (.int r))) h) (hz : K (T_X3_isFull count)) : Ct X mX3_isFull [.ref t] h Z := by
  refine Ct.of (by decide) rfl (Nat.le_of_ble_eq_true rfl) rfl hxs ?_
  unfold T_X3_isFull at hz
  try dsimp only [tb] at hz
  refine V_aload_n dX3_isFull_0 0 rfl ?_
  refine gf_tree_count hT dX3_isFull_1 flX3_41 ?_
  refine V_bipush (v := 16) dX3_isFull_4 (by decide) ?_
  refine V_icmp_lt (tgt := 13) dX3_isFull_6 (by decide) (fun c1 => ?_) (fun c1 => ?_)
  · rw [if_pos c1] at hz
    refine V_iconst (v := 0) dX3_isFull_13 (by decide) ?_
    exact V_zret dX3_isFull_14 rfl bN0 ⟨Nat.le_of_ble_eq_true rfl, Nat.le_of_ble_eq_true rfl⟩ (hK 0 hz)
  · rw [if_neg c1] at hz
    refine V_iconst (v := 1) dX3_isFull_9 (by decide) ?_
    refine V_goto (tgt := 14) dX3_isFull_10 (by decide) ?_
    exact V_zret dX3_isFull_14 rfl bN1 ⟨Nat.le_of_ble_eq_true rfl, Nat.le_of_ble_eq_true rfl⟩ (hK 1 hz)
theorem c_X3_isFull {X : KX} (hxs : X.1.stackTraces = false) {h : AH} {t : Nat} {ids kinds players beats sizes lower higher od : List Int32} {root count : Int32} (hT : IsTree X h t ids kinds players beats sizes lower higher od root count)  : Ct X mX3_isFull [.ref t] h (zR (some (.int (T_X3_isFull count))) h) := w_X3_isFull hxs hT   (K := fun r => r = T_X3_isFull count) (fun r e => by subst e; exact ⟨rfl, rfl⟩) rfl
def T_X3_slotOf_L2 (ids : List Int32) (kinds : List Int32) (id : Int32) : Nat → Nat → Int32
  | 0, i => (-1)
  | f + 1, i => (if (rd kinds (nI i)) = 0 then T_X3_slotOf_L2 ids kinds id f (i + 1) else (if (rd ids (nI i)) = id then nI i else T_X3_slotOf_L2 ids kinds id f (i + 1)))
def T_X3_slotOf (ids : List Int32) (kinds : List Int32) (id : Int32) : Int32 := T_X3_slotOf_L2 ids kinds id 16 0
set_option maxRecDepth 20000 in
set_option maxHeartbeats 2000000 in
theorem w_X3_slotOf {X : KX} (hxs : X.1.stackTraces = false) {h : AH} {t : Nat} {ids kinds players beats sizes lower higher od : List Int32} {root count : Int32} (hT : IsTree X h t ids kinds players beats sizes lower higher od root count) (id : Int32) {Z : ZT} {K : Int32 → Prop} (hK : ∀ r : Int32, K r → Z (.inl (some (.int r))) h) (hz : K (T_X3_slotOf ids kinds id)) : Ct X mX3_slotOf [.ref t, .int id] h Z := by
  refine Ct.of (by decide) rfl (Nat.le_of_ble_eq_true rfl) rfl hxs ?_
  have L2 : ∀ (f i : Nat), i + f = 16 → K (T_X3_slotOf_L2 ids kinds id  f i ) → V X mX3_slotOf (zF X mX3_slotOf Z) 0 0 2 [(0, .ref t), (1, .int id), (2, .int (nI i))] [] h := by
    intro f
    induction f with
    | zero =>
      intro i hi hz
      obtain rfl : i = 16 := by omega
      rw [T_X3_slotOf_L2] at hz
      try dsimp only [tb] at hz
      refine V_iload_n dX3_slotOf_2 2 rfl ?_
      refine V_bipush (v := 16) dX3_slotOf_3 (by decide) ?_
      refine V_icmp_ge (tgt := 35) dX3_slotOf_5 (by decide) (fun _ => ?_) (fun c9 => absurd (by decide) c9)
      refine V_iconst (v := (-1)) dX3_slotOf_35 (by decide) ?_
      exact V_iret dX3_slotOf_36 rfl ⟨Nat.le_of_ble_eq_true rfl, Nat.le_of_ble_eq_true rfl⟩ (hK (-1) hz)
    | succ f ih =>
      intro i hi hz
      rw [T_X3_slotOf_L2] at hz
      try dsimp only [tb] at hz
      refine V_iload_n dX3_slotOf_2 2 rfl ?_
      refine V_bipush (v := 16) dX3_slotOf_3 (by decide) ?_
      refine V_icmp_ge (tgt := 35) dX3_slotOf_5 (by decide) (fun c9 => absurd c9 (nI_ge (a := i) (b := 16) (by omega) (by omega))) (fun _ => ?_)
      refine V_aload_n dX3_slotOf_8 0 rfl ?_
      refine gf_tree_kinds hT dX3_slotOf_9 flX3_15 ?_
      refine V_iload_n dX3_slotOf_12 2 rfl ?_
      refine ld_tree_kinds hT dX3_slotOf_13 (vp_in_nI (by omega) (by omega)) ?_
      refine V_if_eq (tgt := 29) dX3_slotOf_14 (by decide) (fun c1 => ?_) (fun c1 => ?_)
      · rw [if_pos c1] at hz
        refine V_iinc (v := nI (i + 1)) (lv' := [(2, .int (nI (i + 1))), (0, .ref t), (1, .int id)]) dX3_slotOf_29 2 rfl (iinc1 i) (by decide) rfl ?_
        refine V_goto (tgt := 2) dX3_slotOf_32 (by decide) ?_
        refine V.loc [1, 2, 0] rfl ?_
        exact ih (i + 1) (by omega)  hz
      · rw [if_neg c1] at hz
        refine V_aload_n dX3_slotOf_17 0 rfl ?_
        refine gf_tree_ids hT dX3_slotOf_18 flX3_9 ?_
        refine V_iload_n dX3_slotOf_21 2 rfl ?_
        refine ld_tree_ids hT dX3_slotOf_22 (vp_in_nI (by omega) (by omega)) ?_
        refine V_iload_n dX3_slotOf_23 1 rfl ?_
        refine V_icmp_ne (tgt := 29) dX3_slotOf_24 (by decide) (fun c2 => ?_) (fun c2 => ?_)
        · rw [if_neg c2] at hz
          refine V_iinc (v := nI (i + 1)) (lv' := [(2, .int (nI (i + 1))), (0, .ref t), (1, .int id)]) dX3_slotOf_29 2 rfl (iinc1 i) (by decide) rfl ?_
          refine V_goto (tgt := 2) dX3_slotOf_32 (by decide) ?_
          refine V.loc [1, 2, 0] rfl ?_
          exact ih (i + 1) (by omega)  hz
        · rw [if_pos c2] at hz
          refine V_iload_n dX3_slotOf_27 2 rfl ?_
          exact V_iret dX3_slotOf_28 rfl ⟨Nat.le_of_ble_eq_true rfl, Nat.le_of_ble_eq_true rfl⟩ (hK (nI i) hz)
  unfold T_X3_slotOf at hz
  try dsimp only [tb] at hz
  refine V_iconst (v := 0) dX3_slotOf_0 (by decide) ?_
  refine V_istore_n (lv' := [(2, .int 0), (0, .ref t), (1, .int id)]) dX3_slotOf_1 rfl (by decide) rfl ?_
  refine V.loc [1, 2, 0] rfl ?_
  exact L2 16 0 (by omega)  hz
theorem c_X3_slotOf {X : KX} (hxs : X.1.stackTraces = false) {h : AH} {t : Nat} {ids kinds players beats sizes lower higher od : List Int32} {root count : Int32} (hT : IsTree X h t ids kinds players beats sizes lower higher od root count) (id : Int32) : Ct X mX3_slotOf [.ref t, .int id] h (zR (some (.int (T_X3_slotOf ids kinds id))) h) := w_X3_slotOf hxs hT id  (K := fun r => r = T_X3_slotOf ids kinds id) (fun r e => by subst e; exact ⟨rfl, rfl⟩) rfl
def T_X3_freeSlot_L2 (kinds : List Int32) : Nat → Nat → Int32
  | 0, i => (-1)
  | f + 1, i => (if (rd kinds (nI i)) = 0 then nI i else T_X3_freeSlot_L2 kinds f (i + 1))
def T_X3_freeSlot (kinds : List Int32) : Int32 := T_X3_freeSlot_L2 kinds 16 0
set_option maxRecDepth 20000 in
set_option maxHeartbeats 2000000 in
theorem w_X3_freeSlot {X : KX} (hxs : X.1.stackTraces = false) {h : AH} {t : Nat} {ids kinds players beats sizes lower higher od : List Int32} {root count : Int32} (hT : IsTree X h t ids kinds players beats sizes lower higher od root count)  {Z : ZT} {K : Int32 → Prop} (hK : ∀ r : Int32, K r → Z (.inl (some (.int r))) h) (hz : K (T_X3_freeSlot kinds)) : Ct X mX3_freeSlot [.ref t] h Z := by
  refine Ct.of (by decide) rfl (Nat.le_of_ble_eq_true rfl) rfl hxs ?_
  have L2 : ∀ (f i : Nat), i + f = 16 → K (T_X3_freeSlot_L2 kinds  f i ) → V X mX3_freeSlot (zF X mX3_freeSlot Z) 0 0 2 [(0, .ref t), (1, .int (nI i))] [] h := by
    intro f
    induction f with
    | zero =>
      intro i hi hz
      obtain rfl : i = 16 := by omega
      rw [T_X3_freeSlot_L2] at hz
      try dsimp only [tb] at hz
      refine V_iload_n dX3_freeSlot_2 1 rfl ?_
      refine V_bipush (v := 16) dX3_freeSlot_3 (by decide) ?_
      refine V_icmp_ge (tgt := 25) dX3_freeSlot_5 (by decide) (fun _ => ?_) (fun c9 => absurd (by decide) c9)
      refine V_iconst (v := (-1)) dX3_freeSlot_25 (by decide) ?_
      exact V_iret dX3_freeSlot_26 rfl ⟨Nat.le_of_ble_eq_true rfl, Nat.le_of_ble_eq_true rfl⟩ (hK (-1) hz)
    | succ f ih =>
      intro i hi hz
      rw [T_X3_freeSlot_L2] at hz
      try dsimp only [tb] at hz
      refine V_iload_n dX3_freeSlot_2 1 rfl ?_
      refine V_bipush (v := 16) dX3_freeSlot_3 (by decide) ?_
      refine V_icmp_ge (tgt := 25) dX3_freeSlot_5 (by decide) (fun c9 => absurd c9 (nI_ge (a := i) (b := 16) (by omega) (by omega))) (fun _ => ?_)
      refine V_aload_n dX3_freeSlot_8 0 rfl ?_
      refine gf_tree_kinds hT dX3_freeSlot_9 flX3_15 ?_
      refine V_iload_n dX3_freeSlot_12 1 rfl ?_
      refine ld_tree_kinds hT dX3_freeSlot_13 (vp_in_nI (by omega) (by omega)) ?_
      refine V_if_ne (tgt := 19) dX3_freeSlot_14 (by decide) (fun c1 => ?_) (fun c1 => ?_)
      · rw [if_neg c1] at hz
        refine V_iinc (v := nI (i + 1)) (lv' := [(1, .int (nI (i + 1))), (0, .ref t)]) dX3_freeSlot_19 1 rfl (iinc1 i) (by decide) rfl ?_
        refine V_goto (tgt := 2) dX3_freeSlot_22 (by decide) ?_
        refine V.loc [1, 0] rfl ?_
        exact ih (i + 1) (by omega)  hz
      · rw [if_pos c1] at hz
        refine V_iload_n dX3_freeSlot_17 1 rfl ?_
        exact V_iret dX3_freeSlot_18 rfl ⟨Nat.le_of_ble_eq_true rfl, Nat.le_of_ble_eq_true rfl⟩ (hK (nI i) hz)
  unfold T_X3_freeSlot at hz
  try dsimp only [tb] at hz
  refine V_iconst (v := 0) dX3_freeSlot_0 (by decide) ?_
  refine V_istore_n (lv' := [(1, .int 0), (0, .ref t)]) dX3_freeSlot_1 rfl (by decide) rfl ?_
  refine V.loc [1, 0] rfl ?_
  exact L2 16 0 (by omega)  hz
theorem c_X3_freeSlot {X : KX} (hxs : X.1.stackTraces = false) {h : AH} {t : Nat} {ids kinds players beats sizes lower higher od : List Int32} {root count : Int32} (hT : IsTree X h t ids kinds players beats sizes lower higher od root count)  : Ct X mX3_freeSlot [.ref t] h (zR (some (.int (T_X3_freeSlot kinds))) h) := w_X3_freeSlot hxs hT   (K := fun r => r = T_X3_freeSlot kinds) (fun r e => by subst e; exact ⟨rfl, rfl⟩) rfl
def T_X3_isBefore (ids : List Int32) (beats : List Int32) (slot : Int32) (beat : Int32) (id : Int32) : Int32 := (if (rd beats slot) < beat then 1 else (if (rd beats slot) = beat then (if id ≤ (rd ids slot) then 0 else 1) else 0))
set_option maxRecDepth 20000 in
set_option maxHeartbeats 2000000 in
theorem w_X3_isBefore {X : KX} (hxs : X.1.stackTraces = false) {h : AH} {t : Nat} {ids kinds players beats sizes lower higher od : List Int32} {root count : Int32} (hT : IsTree X h t ids kinds players beats sizes lower higher od root count) (slot : Int32) (beat : Int32) (id : Int32) (hin : vp_in slot 16) {Z : ZT} {K : Int32 → Prop} (hK : ∀ r : Int32, K r → Z (.inl (some (.int r))) h) (hz : K (T_X3_isBefore ids beats slot beat id)) : Ct X mX3_isBefore [.ref t, .int slot, .int beat, .int id] h Z := by
  refine Ct.of (by decide) rfl (Nat.le_of_ble_eq_true rfl) rfl hxs ?_
  unfold T_X3_isBefore at hz
  try dsimp only [tb] at hz
  refine V_aload_n dX3_isBefore_0 0 rfl ?_
  refine gf_tree_beats hT dX3_isBefore_1 flX3_22 ?_
  refine V_iload_n dX3_isBefore_4 1 rfl ?_
  refine ld_tree_beats hT dX3_isBefore_5 (by first | assumption | exact isSlot_in (by assumption) | exact hasPerf_in (by assumption) | exact isKind_in (by assumption) | exact in16c (by assumption) (by assumption) | exact in6c (by assumption) (by assumption) | exact Or.resolve_left (by assumption) (by assumption)) ?_
  refine V_iload_n dX3_isBefore_6 2 rfl ?_
  refine V_icmp_lt (tgt := 30) dX3_isBefore_7 (by decide) (fun c1 => ?_) (fun c1 => ?_)
  · rw [if_pos c1] at hz
    refine V_iconst (v := 1) dX3_isBefore_30 (by decide) ?_
    refine V_goto (tgt := 35) dX3_isBefore_31 (by decide) ?_
    exact V_zret dX3_isBefore_35 rfl bN1 ⟨Nat.le_of_ble_eq_true rfl, Nat.le_of_ble_eq_true rfl⟩ (hK 1 hz)
  · rw [if_neg c1] at hz
    refine V_aload_n dX3_isBefore_10 0 rfl ?_
    refine gf_tree_beats hT dX3_isBefore_11 flX3_22 ?_
    refine V_iload_n dX3_isBefore_14 1 rfl ?_
    refine ld_tree_beats hT dX3_isBefore_15 (by first | assumption | exact isSlot_in (by assumption) | exact hasPerf_in (by assumption) | exact isKind_in (by assumption) | exact in16c (by assumption) (by assumption) | exact in6c (by assumption) (by assumption) | exact Or.resolve_left (by assumption) (by assumption)) ?_
    refine V_iload_n dX3_isBefore_16 2 rfl ?_
    refine V_icmp_ne (tgt := 34) dX3_isBefore_17 (by decide) (fun c2 => ?_) (fun c2 => ?_)
    · rw [if_neg c2] at hz
      refine V_iconst (v := 0) dX3_isBefore_34 (by decide) ?_
      exact V_zret dX3_isBefore_35 rfl bN0 ⟨Nat.le_of_ble_eq_true rfl, Nat.le_of_ble_eq_true rfl⟩ (hK 0 hz)
    · rw [if_pos c2] at hz
      refine V_aload_n dX3_isBefore_20 0 rfl ?_
      refine gf_tree_ids hT dX3_isBefore_21 flX3_9 ?_
      refine V_iload_n dX3_isBefore_24 1 rfl ?_
      refine ld_tree_ids hT dX3_isBefore_25 (by first | assumption | exact isSlot_in (by assumption) | exact hasPerf_in (by assumption) | exact isKind_in (by assumption) | exact in16c (by assumption) (by assumption) | exact in6c (by assumption) (by assumption) | exact Or.resolve_left (by assumption) (by assumption)) ?_
      refine V_iload_n dX3_isBefore_26 3 rfl ?_
      refine V_icmp_ge (tgt := 34) dX3_isBefore_27 (by decide) (fun c3 => ?_) (fun c3 => ?_)
      · rw [if_pos c3] at hz
        refine V_iconst (v := 0) dX3_isBefore_34 (by decide) ?_
        exact V_zret dX3_isBefore_35 rfl bN0 ⟨Nat.le_of_ble_eq_true rfl, Nat.le_of_ble_eq_true rfl⟩ (hK 0 hz)
      · rw [if_neg c3] at hz
        refine V_iconst (v := 1) dX3_isBefore_30 (by decide) ?_
        refine V_goto (tgt := 35) dX3_isBefore_31 (by decide) ?_
        exact V_zret dX3_isBefore_35 rfl bN1 ⟨Nat.le_of_ble_eq_true rfl, Nat.le_of_ble_eq_true rfl⟩ (hK 1 hz)
theorem c_X3_isBefore {X : KX} (hxs : X.1.stackTraces = false) {h : AH} {t : Nat} {ids kinds players beats sizes lower higher od : List Int32} {root count : Int32} (hT : IsTree X h t ids kinds players beats sizes lower higher od root count) (slot : Int32) (beat : Int32) (id : Int32) (hin : vp_in slot 16) : Ct X mX3_isBefore [.ref t, .int slot, .int beat, .int id] h (zR (some (.int (T_X3_isBefore ids beats slot beat id))) h) := w_X3_isBefore hxs hT slot beat id hin (K := fun r => r = T_X3_isBefore ids beats slot beat id) (fun r e => by subst e; exact ⟨rfl, rfl⟩) rfl
def T_X3_lastBeat (beats : List Int32) (sizes : List Int32) (slot : Int32) : Int32 := (((rd beats slot) + (rd sizes slot)) - 1)
set_option maxRecDepth 20000 in
set_option maxHeartbeats 2000000 in
theorem w_X3_lastBeat {X : KX} (hxs : X.1.stackTraces = false) {h : AH} {t : Nat} {ids kinds players beats sizes lower higher od : List Int32} {root count : Int32} (hT : IsTree X h t ids kinds players beats sizes lower higher od root count) (slot : Int32) (hin : vp_in slot 16) {Z : ZT} {K : Int32 → Prop} (hK : ∀ r : Int32, K r → Z (.inl (some (.int r))) h) (hz : K (T_X3_lastBeat beats sizes slot)) : Ct X mX3_lastBeat [.ref t, .int slot] h Z := by
  refine Ct.of (by decide) rfl (Nat.le_of_ble_eq_true rfl) rfl hxs ?_
  unfold T_X3_lastBeat at hz
  try dsimp only [tb] at hz
  refine V_aload_n dX3_lastBeat_0 0 rfl ?_
  refine gf_tree_beats hT dX3_lastBeat_1 flX3_22 ?_
  refine V_iload_n dX3_lastBeat_4 1 rfl ?_
  refine ld_tree_beats hT dX3_lastBeat_5 (by first | assumption | exact isSlot_in (by assumption) | exact hasPerf_in (by assumption) | exact isKind_in (by assumption) | exact in16c (by assumption) (by assumption) | exact in6c (by assumption) (by assumption) | exact Or.resolve_left (by assumption) (by assumption)) ?_
  refine V_aload_n dX3_lastBeat_6 0 rfl ?_
  refine gf_tree_sizes hT dX3_lastBeat_7 flX3_25 ?_
  refine V_iload_n dX3_lastBeat_10 1 rfl ?_
  refine ld_tree_sizes hT dX3_lastBeat_11 (by first | assumption | exact isSlot_in (by assumption) | exact hasPerf_in (by assumption) | exact isKind_in (by assumption) | exact in16c (by assumption) (by assumption) | exact in6c (by assumption) (by assumption) | exact Or.resolve_left (by assumption) (by assumption)) ?_
  refine V_iadd dX3_lastBeat_12 ?_
  refine V_iconst (v := 1) dX3_lastBeat_13 (by decide) ?_
  refine V_isub dX3_lastBeat_14 ?_
  exact V_iret dX3_lastBeat_15 rfl ⟨Nat.le_of_ble_eq_true rfl, Nat.le_of_ble_eq_true rfl⟩ (hK (((rd beats slot) + (rd sizes slot)) - 1) hz)
theorem c_X3_lastBeat {X : KX} (hxs : X.1.stackTraces = false) {h : AH} {t : Nat} {ids kinds players beats sizes lower higher od : List Int32} {root count : Int32} (hT : IsTree X h t ids kinds players beats sizes lower higher od root count) (slot : Int32) (hin : vp_in slot 16) : Ct X mX3_lastBeat [.ref t, .int slot] h (zR (some (.int (T_X3_lastBeat beats sizes slot))) h) := w_X3_lastBeat hxs hT slot hin (K := fun r => r = T_X3_lastBeat beats sizes slot) (fun r e => by subst e; exact ⟨rfl, rfl⟩) rfl
def T_X3_countOf_L4 (kinds : List Int32) (players : List Int32) (player : Int32) : Nat → Nat → Int32 → Int32
  | 0, i, x2 => x2
  | f + 1, i, x2 => (if (rd kinds (nI i)) = 0 then T_X3_countOf_L4 kinds players player f (i + 1) x2 else (if (rd players (nI i)) = player then T_X3_countOf_L4 kinds players player f (i + 1) (x2 + 1) else T_X3_countOf_L4 kinds players player f (i + 1) x2))
def T_X3_countOf (kinds : List Int32) (players : List Int32) (player : Int32) : Int32 := T_X3_countOf_L4 kinds players player 16 0 0
set_option maxRecDepth 20000 in
set_option maxHeartbeats 2000000 in
theorem w_X3_countOf {X : KX} (hxs : X.1.stackTraces = false) {h : AH} {t : Nat} {ids kinds players beats sizes lower higher od : List Int32} {root count : Int32} (hT : IsTree X h t ids kinds players beats sizes lower higher od root count) (player : Int32) {Z : ZT} {K : Int32 → Prop} (hK : ∀ r : Int32, K r → Z (.inl (some (.int r))) h) (hz : K (T_X3_countOf kinds players player)) : Ct X mX3_countOf [.ref t, .int player] h Z := by
  refine Ct.of (by decide) rfl (Nat.le_of_ble_eq_true rfl) rfl hxs ?_
  have L4 : ∀ (f i : Nat), ∀ (x2 : Int32), i + f = 16 → K (T_X3_countOf_L4 kinds players player  f i x2) → V X mX3_countOf (zF X mX3_countOf Z) 0 0 4 [(0, .ref t), (1, .int player), (2, .int x2), (3, .int (nI i))] [] h := by
    intro f
    induction f with
    | zero =>
      intro i x2 hi hz
      obtain rfl : i = 16 := by omega
      rw [T_X3_countOf_L4] at hz
      try dsimp only [tb] at hz
      refine V_iload_n dX3_countOf_4 3 rfl ?_
      refine V_bipush (v := 16) dX3_countOf_5 (by decide) ?_
      refine V_icmp_ge (tgt := 38) dX3_countOf_7 (by decide) (fun _ => ?_) (fun c9 => absurd (by decide) c9)
      refine V_iload_n dX3_countOf_38 2 rfl ?_
      exact V_iret dX3_countOf_39 rfl ⟨Nat.le_of_ble_eq_true rfl, Nat.le_of_ble_eq_true rfl⟩ (hK x2 hz)
    | succ f ih =>
      intro i x2 hi hz
      rw [T_X3_countOf_L4] at hz
      try dsimp only [tb] at hz
      refine V_iload_n dX3_countOf_4 3 rfl ?_
      refine V_bipush (v := 16) dX3_countOf_5 (by decide) ?_
      refine V_icmp_ge (tgt := 38) dX3_countOf_7 (by decide) (fun c9 => absurd c9 (nI_ge (a := i) (b := 16) (by omega) (by omega))) (fun _ => ?_)
      refine V_aload_n dX3_countOf_10 0 rfl ?_
      refine gf_tree_kinds hT dX3_countOf_11 flX3_15 ?_
      refine V_iload_n dX3_countOf_14 3 rfl ?_
      refine ld_tree_kinds hT dX3_countOf_15 (vp_in_nI (by omega) (by omega)) ?_
      refine V_if_eq (tgt := 32) dX3_countOf_16 (by decide) (fun c1 => ?_) (fun c1 => ?_)
      · rw [if_pos c1] at hz
        refine V_iinc (v := nI (i + 1)) (lv' := [(3, .int (nI (i + 1))), (0, .ref t), (1, .int player), (2, .int x2)]) dX3_countOf_32 3 rfl (iinc1 i) (by decide) rfl ?_
        refine V_goto (tgt := 4) dX3_countOf_35 (by decide) ?_
        refine V.loc [1, 2, 3, 0] rfl ?_
        exact ih (i + 1) x2 (by omega)  hz
      · rw [if_neg c1] at hz
        refine V_aload_n dX3_countOf_19 0 rfl ?_
        refine gf_tree_players hT dX3_countOf_20 flX3_19 ?_
        refine V_iload_n dX3_countOf_23 3 rfl ?_
        refine ld_tree_players hT dX3_countOf_24 (vp_in_nI (by omega) (by omega)) ?_
        refine V_iload_n dX3_countOf_25 1 rfl ?_
        refine V_icmp_ne (tgt := 32) dX3_countOf_26 (by decide) (fun c2 => ?_) (fun c2 => ?_)
        · rw [if_neg c2] at hz
          refine V_iinc (v := nI (i + 1)) (lv' := [(3, .int (nI (i + 1))), (0, .ref t), (1, .int player), (2, .int x2)]) dX3_countOf_32 3 rfl (iinc1 i) (by decide) rfl ?_
          refine V_goto (tgt := 4) dX3_countOf_35 (by decide) ?_
          refine V.loc [1, 2, 3, 0] rfl ?_
          exact ih (i + 1) x2 (by omega)  hz
        · rw [if_pos c2] at hz
          refine V_iinc (v := x2 + 1) (lv' := [(2, .int (x2 + 1)), (0, .ref t), (1, .int player), (3, .int (nI i))]) dX3_countOf_29 2 rfl rfl (by decide) rfl ?_
          refine V_iinc (v := nI (i + 1)) (lv' := [(3, .int (nI (i + 1))), (2, .int (x2 + 1)), (0, .ref t), (1, .int player)]) dX3_countOf_32 3 rfl (iinc1 i) (by decide) rfl ?_
          refine V_goto (tgt := 4) dX3_countOf_35 (by decide) ?_
          refine V.loc [2, 3, 1, 0] rfl ?_
          exact ih (i + 1) (x2 + 1) (by omega)  hz
  unfold T_X3_countOf at hz
  try dsimp only [tb] at hz
  refine V_iconst (v := 0) dX3_countOf_0 (by decide) ?_
  refine V_istore_n (lv' := [(2, .int 0), (0, .ref t), (1, .int player)]) dX3_countOf_1 rfl (by decide) rfl ?_
  refine V_iconst (v := 0) dX3_countOf_2 (by decide) ?_
  refine V_istore_n (lv' := [(3, .int 0), (2, .int 0), (0, .ref t), (1, .int player)]) dX3_countOf_3 rfl (by decide) rfl ?_
  refine V.loc [2, 3, 1, 0] rfl ?_
  exact L4 16 0 0 (by omega)  hz
theorem c_X3_countOf {X : KX} (hxs : X.1.stackTraces = false) {h : AH} {t : Nat} {ids kinds players beats sizes lower higher od : List Int32} {root count : Int32} (hT : IsTree X h t ids kinds players beats sizes lower higher od root count) (player : Int32) : Ct X mX3_countOf [.ref t, .int player] h (zR (some (.int (T_X3_countOf kinds players player))) h) := w_X3_countOf hxs hT player  (K := fun r => r = T_X3_countOf kinds players player) (fun r e => by subst e; exact ⟨rfl, rfl⟩) rfl
def T_X3_noiseOn_L4 (kinds : List Int32) (beats : List Int32) (sizes : List Int32) (beat : Int32) : Nat → Nat → Int32 → Int32
  | 0, i, x2 => x2
  | f + 1, i, x2 => (if (rd kinds (nI i)) = 112 then (if (rd beats (nI i)) = beat then T_X3_noiseOn_L4 kinds beats sizes beat f (i + 1) (x2 + (rd sizes (nI i))) else T_X3_noiseOn_L4 kinds beats sizes beat f (i + 1) x2) else T_X3_noiseOn_L4 kinds beats sizes beat f (i + 1) x2)
def T_X3_noiseOn (kinds : List Int32) (beats : List Int32) (sizes : List Int32) (beat : Int32) : Int32 := T_X3_noiseOn_L4 kinds beats sizes beat 16 0 0
set_option maxRecDepth 20000 in
set_option maxHeartbeats 2000000 in
theorem w_X3_noiseOn {X : KX} (hxs : X.1.stackTraces = false) {h : AH} {t : Nat} {ids kinds players beats sizes lower higher od : List Int32} {root count : Int32} (hT : IsTree X h t ids kinds players beats sizes lower higher od root count) (beat : Int32) {Z : ZT} {K : Int32 → Prop} (hK : ∀ r : Int32, K r → Z (.inl (some (.int r))) h) (hz : K (T_X3_noiseOn kinds beats sizes beat)) : Ct X mX3_noiseOn [.ref t, .int beat] h Z := by
  refine Ct.of (by decide) rfl (Nat.le_of_ble_eq_true rfl) rfl hxs ?_
  have L4 : ∀ (f i : Nat), ∀ (x2 : Int32), i + f = 16 → K (T_X3_noiseOn_L4 kinds beats sizes beat  f i x2) → V X mX3_noiseOn (zF X mX3_noiseOn Z) 0 0 4 [(0, .ref t), (1, .int beat), (2, .int x2), (3, .int (nI i))] [] h := by
    intro f
    induction f with
    | zero =>
      intro i x2 hi hz
      obtain rfl : i = 16 := by omega
      rw [T_X3_noiseOn_L4] at hz
      try dsimp only [tb] at hz
      refine V_iload_n dX3_noiseOn_4 3 rfl ?_
      refine V_bipush (v := 16) dX3_noiseOn_5 (by decide) ?_
      refine V_icmp_ge (tgt := 46) dX3_noiseOn_7 (by decide) (fun _ => ?_) (fun c9 => absurd (by decide) c9)
      refine V_iload_n dX3_noiseOn_46 2 rfl ?_
      exact V_iret dX3_noiseOn_47 rfl ⟨Nat.le_of_ble_eq_true rfl, Nat.le_of_ble_eq_true rfl⟩ (hK x2 hz)
    | succ f ih =>
      intro i x2 hi hz
      rw [T_X3_noiseOn_L4] at hz
      try dsimp only [tb] at hz
      refine V_iload_n dX3_noiseOn_4 3 rfl ?_
      refine V_bipush (v := 16) dX3_noiseOn_5 (by decide) ?_
      refine V_icmp_ge (tgt := 46) dX3_noiseOn_7 (by decide) (fun c9 => absurd c9 (nI_ge (a := i) (b := 16) (by omega) (by omega))) (fun _ => ?_)
      refine V_aload_n dX3_noiseOn_10 0 rfl ?_
      refine gf_tree_kinds hT dX3_noiseOn_11 flX3_15 ?_
      refine V_iload_n dX3_noiseOn_14 3 rfl ?_
      refine ld_tree_kinds hT dX3_noiseOn_15 (vp_in_nI (by omega) (by omega)) ?_
      refine V_bipush (v := 112) dX3_noiseOn_16 (by decide) ?_
      refine V_icmp_ne (tgt := 40) dX3_noiseOn_18 (by decide) (fun c1 => ?_) (fun c1 => ?_)
      · rw [if_neg c1] at hz
        refine V_iinc (v := nI (i + 1)) (lv' := [(3, .int (nI (i + 1))), (0, .ref t), (1, .int beat), (2, .int x2)]) dX3_noiseOn_40 3 rfl (iinc1 i) (by decide) rfl ?_
        refine V_goto (tgt := 4) dX3_noiseOn_43 (by decide) ?_
        refine V.loc [1, 2, 3, 0] rfl ?_
        exact ih (i + 1) x2 (by omega)  hz
      · rw [if_pos c1] at hz
        refine V_aload_n dX3_noiseOn_21 0 rfl ?_
        refine gf_tree_beats hT dX3_noiseOn_22 flX3_22 ?_
        refine V_iload_n dX3_noiseOn_25 3 rfl ?_
        refine ld_tree_beats hT dX3_noiseOn_26 (vp_in_nI (by omega) (by omega)) ?_
        refine V_iload_n dX3_noiseOn_27 1 rfl ?_
        refine V_icmp_ne (tgt := 40) dX3_noiseOn_28 (by decide) (fun c2 => ?_) (fun c2 => ?_)
        · rw [if_neg c2] at hz
          refine V_iinc (v := nI (i + 1)) (lv' := [(3, .int (nI (i + 1))), (0, .ref t), (1, .int beat), (2, .int x2)]) dX3_noiseOn_40 3 rfl (iinc1 i) (by decide) rfl ?_
          refine V_goto (tgt := 4) dX3_noiseOn_43 (by decide) ?_
          refine V.loc [1, 2, 3, 0] rfl ?_
          exact ih (i + 1) x2 (by omega)  hz
        · rw [if_pos c2] at hz
          refine V_iload_n dX3_noiseOn_31 2 rfl ?_
          refine V_aload_n dX3_noiseOn_32 0 rfl ?_
          refine gf_tree_sizes hT dX3_noiseOn_33 flX3_25 ?_
          refine V_iload_n dX3_noiseOn_36 3 rfl ?_
          refine ld_tree_sizes hT dX3_noiseOn_37 (vp_in_nI (by omega) (by omega)) ?_
          refine V_iadd dX3_noiseOn_38 ?_
          refine V_istore_n (lv' := [(2, .int (x2 + (rd sizes (nI i)))), (0, .ref t), (1, .int beat), (3, .int (nI i))]) dX3_noiseOn_39 rfl (by decide) rfl ?_
          refine V_iinc (v := nI (i + 1)) (lv' := [(3, .int (nI (i + 1))), (2, .int (x2 + (rd sizes (nI i)))), (0, .ref t), (1, .int beat)]) dX3_noiseOn_40 3 rfl (iinc1 i) (by decide) rfl ?_
          refine V_goto (tgt := 4) dX3_noiseOn_43 (by decide) ?_
          refine V.loc [2, 3, 1, 0] rfl ?_
          exact ih (i + 1) (x2 + (rd sizes (nI i))) (by omega)  hz
  unfold T_X3_noiseOn at hz
  try dsimp only [tb] at hz
  refine V_iconst (v := 0) dX3_noiseOn_0 (by decide) ?_
  refine V_istore_n (lv' := [(2, .int 0), (0, .ref t), (1, .int beat)]) dX3_noiseOn_1 rfl (by decide) rfl ?_
  refine V_iconst (v := 0) dX3_noiseOn_2 (by decide) ?_
  refine V_istore_n (lv' := [(3, .int 0), (2, .int 0), (0, .ref t), (1, .int beat)]) dX3_noiseOn_3 rfl (by decide) rfl ?_
  refine V.loc [2, 3, 1, 0] rfl ?_
  exact L4 16 0 0 (by omega)  hz
theorem c_X3_noiseOn {X : KX} (hxs : X.1.stackTraces = false) {h : AH} {t : Nat} {ids kinds players beats sizes lower higher od : List Int32} {root count : Int32} (hT : IsTree X h t ids kinds players beats sizes lower higher od root count) (beat : Int32) : Ct X mX3_noiseOn [.ref t, .int beat] h (zR (some (.int (T_X3_noiseOn kinds beats sizes beat))) h) := w_X3_noiseOn hxs hT beat  (K := fun r => r = T_X3_noiseOn kinds beats sizes beat) (fun r e => by subst e; exact ⟨rfl, rfl⟩) rfl
def T_X3_isHushDue_L2 (kinds : List Int32) (beats : List Int32) (sizes : List Int32) (beat : Int32) : Nat → Nat → Int32
  | 0, i => 0
  | f + 1, i => (if (rd kinds (nI i)) = 104 then (if beat < (rd beats (nI i)) then T_X3_isHushDue_L2 kinds beats sizes beat f (i + 1) else (if (T_X3_lastBeat beats sizes (nI i)) < beat then T_X3_isHushDue_L2 kinds beats sizes beat f (i + 1) else 1)) else T_X3_isHushDue_L2 kinds beats sizes beat f (i + 1))
def T_X3_isHushDue (kinds : List Int32) (beats : List Int32) (sizes : List Int32) (beat : Int32) : Int32 := T_X3_isHushDue_L2 kinds beats sizes beat 16 0
set_option maxRecDepth 20000 in
set_option maxHeartbeats 2000000 in
theorem w_X3_isHushDue {X : KX} (hxs : X.1.stackTraces = false) {h : AH} {t : Nat} {ids kinds players beats sizes lower higher od : List Int32} {root count : Int32} (hT : IsTree X h t ids kinds players beats sizes lower higher od root count) (beat : Int32) {Z : ZT} {K : Int32 → Prop} (hK : ∀ r : Int32, K r → Z (.inl (some (.int r))) h) (hz : K (T_X3_isHushDue kinds beats sizes beat)) : Ct X mX3_isHushDue [.ref t, .int beat] h Z := by
  refine Ct.of (by decide) rfl (Nat.le_of_ble_eq_true rfl) rfl hxs ?_
  have L2 : ∀ (f i : Nat), i + f = 16 → K (T_X3_isHushDue_L2 kinds beats sizes beat  f i ) → V X mX3_isHushDue (zF X mX3_isHushDue Z) 0 0 2 [(0, .ref t), (1, .int beat), (2, .int (nI i))] [] h := by
    intro f
    induction f with
    | zero =>
      intro i hi hz
      obtain rfl : i = 16 := by omega
      rw [T_X3_isHushDue_L2] at hz
      try dsimp only [tb] at hz
      refine V_iload_n dX3_isHushDue_2 2 rfl ?_
      refine V_bipush (v := 16) dX3_isHushDue_3 (by decide) ?_
      refine V_icmp_ge (tgt := 46) dX3_isHushDue_5 (by decide) (fun _ => ?_) (fun c9 => absurd (by decide) c9)
      refine V_iconst (v := 0) dX3_isHushDue_46 (by decide) ?_
      exact V_zret dX3_isHushDue_47 rfl bN0 ⟨Nat.le_of_ble_eq_true rfl, Nat.le_of_ble_eq_true rfl⟩ (hK 0 hz)
    | succ f ih =>
      intro i hi hz
      rw [T_X3_isHushDue_L2] at hz
      try dsimp only [tb] at hz
      refine V_iload_n dX3_isHushDue_2 2 rfl ?_
      refine V_bipush (v := 16) dX3_isHushDue_3 (by decide) ?_
      refine V_icmp_ge (tgt := 46) dX3_isHushDue_5 (by decide) (fun c9 => absurd c9 (nI_ge (a := i) (b := 16) (by omega) (by omega))) (fun _ => ?_)
      refine V_aload_n dX3_isHushDue_8 0 rfl ?_
      refine gf_tree_kinds hT dX3_isHushDue_9 flX3_15 ?_
      refine V_iload_n dX3_isHushDue_12 2 rfl ?_
      refine ld_tree_kinds hT dX3_isHushDue_13 (vp_in_nI (by omega) (by omega)) ?_
      refine V_bipush (v := 104) dX3_isHushDue_14 (by decide) ?_
      refine V_icmp_ne (tgt := 40) dX3_isHushDue_16 (by decide) (fun c1 => ?_) (fun c1 => ?_)
      · rw [if_neg c1] at hz
        refine V_iinc (v := nI (i + 1)) (lv' := [(2, .int (nI (i + 1))), (0, .ref t), (1, .int beat)]) dX3_isHushDue_40 2 rfl (iinc1 i) (by decide) rfl ?_
        refine V_goto (tgt := 2) dX3_isHushDue_43 (by decide) ?_
        refine V.loc [1, 2, 0] rfl ?_
        exact ih (i + 1) (by omega)  hz
      · rw [if_pos c1] at hz
        refine V_aload_n dX3_isHushDue_19 0 rfl ?_
        refine gf_tree_beats hT dX3_isHushDue_20 flX3_22 ?_
        refine V_iload_n dX3_isHushDue_23 2 rfl ?_
        refine ld_tree_beats hT dX3_isHushDue_24 (vp_in_nI (by omega) (by omega)) ?_
        refine V_iload_n dX3_isHushDue_25 1 rfl ?_
        refine V_icmp_gt (tgt := 40) dX3_isHushDue_26 (by decide) (fun c2 => ?_) (fun c2 => ?_)
        · rw [if_pos c2] at hz
          refine V_iinc (v := nI (i + 1)) (lv' := [(2, .int (nI (i + 1))), (0, .ref t), (1, .int beat)]) dX3_isHushDue_40 2 rfl (iinc1 i) (by decide) rfl ?_
          refine V_goto (tgt := 2) dX3_isHushDue_43 (by decide) ?_
          refine V.loc [1, 2, 0] rfl ?_
          exact ih (i + 1) (by omega)  hz
        · rw [if_neg c2] at hz
          refine V_iload_n dX3_isHushDue_29 1 rfl ?_
          refine V_aload_n dX3_isHushDue_30 0 rfl ?_
          refine V_iload_n dX3_isHushDue_31 2 rfl ?_
          refine V_cVi (As := [.int (nI i)]) (rest := [.int beat]) dX3_isHushDue_32 cvX3_89 (c_X3_lastBeat hxs hT (nI i) (vp_in_nI (by omega) (by omega))) hT.1 rfl ⟨Nat.le_of_ble_eq_true rfl, Nat.le_of_ble_eq_true rfl, Nat.le_of_ble_eq_true rfl, Nat.le_of_ble_eq_true rfl⟩ (Nat.le_of_ble_eq_true rfl) rfl ?_
          refine V_icmp_gt (tgt := 40) dX3_isHushDue_35 (by decide) (fun c4 => ?_) (fun c4 => ?_)
          · rw [if_pos c4] at hz
            refine V_iinc (v := nI (i + 1)) (lv' := [(2, .int (nI (i + 1))), (0, .ref t), (1, .int beat)]) dX3_isHushDue_40 2 rfl (iinc1 i) (by decide) rfl ?_
            refine V_goto (tgt := 2) dX3_isHushDue_43 (by decide) ?_
            refine V.loc [1, 2, 0] rfl ?_
            exact ih (i + 1) (by omega)  hz
          · rw [if_neg c4] at hz
            refine V_iconst (v := 1) dX3_isHushDue_38 (by decide) ?_
            exact V_zret dX3_isHushDue_39 rfl bN1 ⟨Nat.le_of_ble_eq_true rfl, Nat.le_of_ble_eq_true rfl⟩ (hK 1 hz)
  unfold T_X3_isHushDue at hz
  try dsimp only [tb] at hz
  refine V_iconst (v := 0) dX3_isHushDue_0 (by decide) ?_
  refine V_istore_n (lv' := [(2, .int 0), (0, .ref t), (1, .int beat)]) dX3_isHushDue_1 rfl (by decide) rfl ?_
  refine V.loc [1, 2, 0] rfl ?_
  exact L2 16 0 (by omega)  hz
theorem c_X3_isHushDue {X : KX} (hxs : X.1.stackTraces = false) {h : AH} {t : Nat} {ids kinds players beats sizes lower higher od : List Int32} {root count : Int32} (hT : IsTree X h t ids kinds players beats sizes lower higher od root count) (beat : Int32) : Ct X mX3_isHushDue [.ref t, .int beat] h (zR (some (.int (T_X3_isHushDue kinds beats sizes beat))) h) := w_X3_isHushDue hxs hT beat  (K := fun r => r = T_X3_isHushDue kinds beats sizes beat) (fun r e => by subst e; exact ⟨rfl, rfl⟩) rfl
def T_X3_firstNotBefore_L11 (ids : List Int32) (beats : List Int32) (lower : List Int32) (higher : List Int32) (beat : Int32) (id : Int32) : Nat → Nat → Int32 → Int32 → Int32
  | 0, i, x4, x3 => x3
  | f + 1, i, x4, x3 => (if (T_X3_isSlot x4) = 0 then x3 else (if (T_X3_isBefore ids beats x4 beat id) = 0 then T_X3_firstNotBefore_L11 ids beats lower higher beat id f (i + 1) (rd lower x4) x4 else T_X3_firstNotBefore_L11 ids beats lower higher beat id f (i + 1) (rd higher x4) x3))
def T_X3_firstNotBefore (ids : List Int32) (beats : List Int32) (lower : List Int32) (higher : List Int32) (root : Int32) (beat : Int32) (id : Int32) : Int32 := T_X3_firstNotBefore_L11 ids beats lower higher beat id 16 0 root (-1)
set_option maxRecDepth 20000 in
set_option maxHeartbeats 2000000 in
theorem w_X3_firstNotBefore {X : KX} (hxs : X.1.stackTraces = false) {h : AH} {t : Nat} {ids kinds players beats sizes lower higher od : List Int32} {root count : Int32} (hT : IsTree X h t ids kinds players beats sizes lower higher od root count) (beat : Int32) (id : Int32) {Z : ZT} {K : Int32 → Prop} (hK : ∀ r : Int32, K r → Z (.inl (some (.int r))) h) (hz : K (T_X3_firstNotBefore ids beats lower higher root beat id)) : Ct X mX3_firstNotBefore [.ref t, .int beat, .int id] h Z := by
  refine Ct.of (by decide) rfl (Nat.le_of_ble_eq_true rfl) rfl hxs ?_
  have L11 : ∀ (f i : Nat), ∀ (x4 : Int32), ∀ (x3 : Int32), i + f = 16 → K (T_X3_firstNotBefore_L11 ids beats lower higher beat id  f i x4 x3) → V X mX3_firstNotBefore (zF X mX3_firstNotBefore Z) 0 0 11 [(0, .ref t), (1, .int beat), (2, .int id), (3, .int x3), (4, .int x4), (5, .int (nI i))] [] h := by
    intro f
    induction f with
    | zero =>
      intro i x4 x3 hi hz
      obtain rfl : i = 16 := by omega
      rw [T_X3_firstNotBefore_L11] at hz
      try dsimp only [tb] at hz
      refine V_iload dX3_firstNotBefore_11 5 rfl ?_
      refine V_bipush (v := 16) dX3_firstNotBefore_13 (by decide) ?_
      refine V_icmp_ge (tgt := 67) dX3_firstNotBefore_15 (by decide) (fun _ => ?_) (fun c9 => absurd (by decide) c9)
      refine V_iload_n dX3_firstNotBefore_67 3 rfl ?_
      exact V_iret dX3_firstNotBefore_68 rfl ⟨Nat.le_of_ble_eq_true rfl, Nat.le_of_ble_eq_true rfl⟩ (hK x3 hz)
    | succ f ih =>
      intro i x4 x3 hi hz
      rw [T_X3_firstNotBefore_L11] at hz
      try dsimp only [tb] at hz
      refine V_iload dX3_firstNotBefore_11 5 rfl ?_
      refine V_bipush (v := 16) dX3_firstNotBefore_13 (by decide) ?_
      refine V_icmp_ge (tgt := 67) dX3_firstNotBefore_15 (by decide) (fun c9 => absurd c9 (nI_ge (a := i) (b := 16) (by omega) (by omega))) (fun _ => ?_)
      refine V_iload dX3_firstNotBefore_18 4 rfl ?_
      refine V_cSi (As := [.int x4]) (rest := []) dX3_firstNotBefore_20 cvX3_60 (c_X3_isSlot hxs x4 ) ⟨Nat.le_of_ble_eq_true rfl, Nat.le_of_ble_eq_true rfl, Nat.le_of_ble_eq_true rfl, Nat.le_of_ble_eq_true rfl⟩ (Nat.le_of_ble_eq_true rfl) rfl ?_
      refine V_if_eq (tgt := 67) dX3_firstNotBefore_23 (by decide) (fun c2 => ?_) (fun c2 => ?_)
      · rw [if_pos c2] at hz
        refine V_iload_n dX3_firstNotBefore_67 3 rfl ?_
        exact V_iret dX3_firstNotBefore_68 rfl ⟨Nat.le_of_ble_eq_true rfl, Nat.le_of_ble_eq_true rfl⟩ (hK x3 hz)
      · rw [if_neg c2] at hz
        refine V_aload_n dX3_firstNotBefore_26 0 rfl ?_
        refine V_iload dX3_firstNotBefore_27 4 rfl ?_
        refine V_iload_n dX3_firstNotBefore_29 1 rfl ?_
        refine V_iload_n dX3_firstNotBefore_30 2 rfl ?_
        refine V_cVi (As := [.int x4, .int beat, .int id]) (rest := []) dX3_firstNotBefore_31 cvX3_71 (c_X3_isBefore hxs hT x4 beat id (by first | assumption | exact isSlot_in (by assumption) | exact hasPerf_in (by assumption) | exact isKind_in (by assumption) | exact in16c (by assumption) (by assumption) | exact in6c (by assumption) (by assumption) | exact Or.resolve_left (by assumption) (by assumption))) hT.1 rfl ⟨Nat.le_of_ble_eq_true rfl, Nat.le_of_ble_eq_true rfl, Nat.le_of_ble_eq_true rfl, Nat.le_of_ble_eq_true rfl⟩ (Nat.le_of_ble_eq_true rfl) rfl ?_
        refine V_if_eq (tgt := 49) dX3_firstNotBefore_34 (by decide) (fun c4 => ?_) (fun c4 => ?_)
        · rw [if_pos c4] at hz
          refine V_iload dX3_firstNotBefore_49 4 rfl ?_
          refine V_istore_n (lv' := [(3, .int x4), (0, .ref t), (1, .int beat), (2, .int id), (4, .int x4), (5, .int (nI i))]) dX3_firstNotBefore_51 rfl (by decide) rfl ?_
          refine V_aload_n dX3_firstNotBefore_52 1 rfl ?_
          refine gf_tree_lower hT dX3_firstNotBefore_53 flX3_28 ?_
          refine V_iload dX3_firstNotBefore_56 4 rfl ?_
          refine ld_tree_lower hT dX3_firstNotBefore_58 (by first | assumption | exact isSlot_in (by assumption) | exact hasPerf_in (by assumption) | exact isKind_in (by assumption) | exact in16c (by assumption) (by assumption) | exact in6c (by assumption) (by assumption) | exact Or.resolve_left (by assumption) (by assumption)) ?_
          refine V_istore (lv' := [(4, .int (rd lower x4)), (3, .int x4), (0, .ref t), (1, .int beat), (2, .int id), (5, .int (nI i))]) dX3_firstNotBefore_59 (by decide) rfl ?_
          refine V_iinc (v := nI (i + 1)) (lv' := [(5, .int (nI (i + 1))), (4, .int (rd lower x4)), (3, .int x4), (0, .ref t), (1, .int beat), (2, .int id)]) dX3_firstNotBefore_61 5 rfl (iinc1 i) (by decide) rfl ?_
          refine V_goto (tgt := 11) dX3_firstNotBefore_64 (by decide) ?_
          refine V.loc [3, 4, 5, 2, 1, 0] rfl ?_
          exact ih (i + 1) (rd lower x4) x4 (by omega)  hz
        · rw [if_neg c4] at hz
          refine V_aload_n dX3_firstNotBefore_37 0 rfl ?_
          refine gf_tree_higher hT dX3_firstNotBefore_38 flX3_31 ?_
          refine V_iload dX3_firstNotBefore_41 4 rfl ?_
          refine ld_tree_higher hT dX3_firstNotBefore_43 (by first | assumption | exact isSlot_in (by assumption) | exact hasPerf_in (by assumption) | exact isKind_in (by assumption) | exact in16c (by assumption) (by assumption) | exact in6c (by assumption) (by assumption) | exact Or.resolve_left (by assumption) (by assumption)) ?_
          refine V_istore (lv' := [(4, .int (rd higher x4)), (0, .ref t), (1, .int beat), (2, .int id), (3, .int x3), (5, .int (nI i))]) dX3_firstNotBefore_44 (by decide) rfl ?_
          refine V_goto (tgt := 61) dX3_firstNotBefore_46 (by decide) ?_
          refine V_iinc (v := nI (i + 1)) (lv' := [(5, .int (nI (i + 1))), (4, .int (rd higher x4)), (0, .ref t), (1, .int beat), (2, .int id), (3, .int x3)]) dX3_firstNotBefore_61 5 rfl (iinc1 i) (by decide) rfl ?_
          refine V_goto (tgt := 11) dX3_firstNotBefore_64 (by decide) ?_
          refine V.loc [2, 3, 4, 5, 1, 0] rfl ?_
          exact ih (i + 1) (rd higher x4) x3 (by omega)  hz
  unfold T_X3_firstNotBefore at hz
  try dsimp only [tb] at hz
  refine V_iconst (v := (-1)) dX3_firstNotBefore_0 (by decide) ?_
  refine V_istore_n (lv' := [(3, .int (-1)), (0, .ref t), (1, .int beat), (2, .int id)]) dX3_firstNotBefore_1 rfl (by decide) rfl ?_
  refine V_aload_n dX3_firstNotBefore_2 1 rfl ?_
  refine gf_tree_root hT dX3_firstNotBefore_3 flX3_37 ?_
  refine V_istore (lv' := [(4, .int root), (3, .int (-1)), (0, .ref t), (1, .int beat), (2, .int id)]) dX3_firstNotBefore_6 (by decide) rfl ?_
  refine V_iconst (v := 0) dX3_firstNotBefore_8 (by decide) ?_
  refine V_istore (lv' := [(5, .int 0), (4, .int root), (3, .int (-1)), (0, .ref t), (1, .int beat), (2, .int id)]) dX3_firstNotBefore_9 (by decide) rfl ?_
  refine V.loc [3, 4, 5, 2, 1, 0] rfl ?_
  exact L11 16 0 root (-1) (by omega)  hz
theorem c_X3_firstNotBefore {X : KX} (hxs : X.1.stackTraces = false) {h : AH} {t : Nat} {ids kinds players beats sizes lower higher od : List Int32} {root count : Int32} (hT : IsTree X h t ids kinds players beats sizes lower higher od root count) (beat : Int32) (id : Int32) : Ct X mX3_firstNotBefore [.ref t, .int beat, .int id] h (zR (some (.int (T_X3_firstNotBefore ids beats lower higher root beat id))) h) := w_X3_firstNotBefore hxs hT beat id  (K := fun r => r = T_X3_firstNotBefore ids beats lower higher root beat id) (fun r e => by subst e; exact ⟨rfl, rfl⟩) rfl
def T_X3_firstFrom (ids : List Int32) (beats : List Int32) (lower : List Int32) (higher : List Int32) (root : Int32) (beat : Int32) : Int32 := (T_X3_firstNotBefore ids beats lower higher root beat 0)
set_option maxRecDepth 20000 in
set_option maxHeartbeats 2000000 in
theorem w_X3_firstFrom {X : KX} (hxs : X.1.stackTraces = false) {h : AH} {t : Nat} {ids kinds players beats sizes lower higher od : List Int32} {root count : Int32} (hT : IsTree X h t ids kinds players beats sizes lower higher od root count) (beat : Int32) {Z : ZT} {K : Int32 → Prop} (hK : ∀ r : Int32, K r → Z (.inl (some (.int r))) h) (hz : K (T_X3_firstFrom ids beats lower higher root beat)) : Ct X mX3_firstFrom [.ref t, .int beat] h Z := by
  refine Ct.of (by decide) rfl (Nat.le_of_ble_eq_true rfl) rfl hxs ?_
  unfold T_X3_firstFrom at hz
  try dsimp only [tb] at hz
  refine V_aload_n dX3_firstFrom_0 0 rfl ?_
  refine V_iload_n dX3_firstFrom_1 1 rfl ?_
  refine V_iconst (v := 0) dX3_firstFrom_2 (by decide) ?_
  refine V_cVi (As := [.int beat, .int 0]) (rest := []) dX3_firstFrom_3 cvX3_79 (c_X3_firstNotBefore hxs hT beat 0 ) hT.1 rfl ⟨Nat.le_of_ble_eq_true rfl, Nat.le_of_ble_eq_true rfl, Nat.le_of_ble_eq_true rfl, Nat.le_of_ble_eq_true rfl⟩ (Nat.le_of_ble_eq_true rfl) rfl ?_
  exact V_iret dX3_firstFrom_6 rfl ⟨Nat.le_of_ble_eq_true rfl, Nat.le_of_ble_eq_true rfl⟩ (hK (T_X3_firstNotBefore ids beats lower higher root beat 0) hz)
theorem c_X3_firstFrom {X : KX} (hxs : X.1.stackTraces = false) {h : AH} {t : Nat} {ids kinds players beats sizes lower higher od : List Int32} {root count : Int32} (hT : IsTree X h t ids kinds players beats sizes lower higher od root count) (beat : Int32) : Ct X mX3_firstFrom [.ref t, .int beat] h (zR (some (.int (T_X3_firstFrom ids beats lower higher root beat))) h) := w_X3_firstFrom hxs hT beat  (K := fun r => r = T_X3_firstFrom ids beats lower higher root beat) (fun r e => by subst e; exact ⟨rfl, rfl⟩) rfl
def T_X3_isMouthPair (kinds : List Int32) (players : List Int32) (one : Int32) (other : Int32) : Int32 := (if (T_X3_isKind kinds one 109) = 0 then 0 else (if (T_X3_isKind kinds other 109) = 0 then 0 else (if (rd players one) = (rd players other) then 1 else 0)))
set_option maxRecDepth 20000 in
set_option maxHeartbeats 2000000 in
theorem w_X3_isMouthPair {X : KX} (hxs : X.1.stackTraces = false) {h : AH} {t : Nat} {ids kinds players beats sizes lower higher od : List Int32} {root count : Int32} (hT : IsTree X h t ids kinds players beats sizes lower higher od root count) (one : Int32) (other : Int32) {Z : ZT} {K : Int32 → Prop} (hK : ∀ r : Int32, K r → Z (.inl (some (.int r))) h) (hz : K (T_X3_isMouthPair kinds players one other)) : Ct X mX3_isMouthPair [.ref t, .int one, .int other] h Z := by
  refine Ct.of (by decide) rfl (Nat.le_of_ble_eq_true rfl) rfl hxs ?_
  unfold T_X3_isMouthPair at hz
  try dsimp only [tb] at hz
  refine V_aload_n dX3_isMouthPair_0 0 rfl ?_
  refine V_iload_n dX3_isMouthPair_1 1 rfl ?_
  refine V_bipush (v := 109) dX3_isMouthPair_2 (by decide) ?_
  refine V_cVi (As := [.int one, .int 109]) (rest := []) dX3_isMouthPair_4 cvX3_96 (c_X3_isKind hxs hT one 109 ) hT.1 rfl ⟨Nat.le_of_ble_eq_true rfl, Nat.le_of_ble_eq_true rfl, Nat.le_of_ble_eq_true rfl, Nat.le_of_ble_eq_true rfl⟩ (Nat.le_of_ble_eq_true rfl) rfl ?_
  refine V_if_eq (tgt := 39) dX3_isMouthPair_7 (by decide) (fun c2 => ?_) (fun c2 => ?_)
  · rw [if_pos c2] at hz
    refine V_iconst (v := 0) dX3_isMouthPair_39 (by decide) ?_
    exact V_zret dX3_isMouthPair_40 rfl bN0 ⟨Nat.le_of_ble_eq_true rfl, Nat.le_of_ble_eq_true rfl⟩ (hK 0 hz)
  · rw [if_neg c2] at hz
    refine V_aload_n dX3_isMouthPair_10 0 rfl ?_
    refine V_iload_n dX3_isMouthPair_11 2 rfl ?_
    refine V_bipush (v := 109) dX3_isMouthPair_12 (by decide) ?_
    refine V_cVi (As := [.int other, .int 109]) (rest := []) dX3_isMouthPair_14 cvX3_96 (c_X3_isKind hxs hT other 109 ) hT.1 rfl ⟨Nat.le_of_ble_eq_true rfl, Nat.le_of_ble_eq_true rfl, Nat.le_of_ble_eq_true rfl, Nat.le_of_ble_eq_true rfl⟩ (Nat.le_of_ble_eq_true rfl) rfl ?_
    refine V_if_eq (tgt := 39) dX3_isMouthPair_17 (by decide) (fun c4 => ?_) (fun c4 => ?_)
    · rw [if_pos c4] at hz
      refine V_iconst (v := 0) dX3_isMouthPair_39 (by decide) ?_
      exact V_zret dX3_isMouthPair_40 rfl bN0 ⟨Nat.le_of_ble_eq_true rfl, Nat.le_of_ble_eq_true rfl⟩ (hK 0 hz)
    · rw [if_neg c4] at hz
      refine V_aload_n dX3_isMouthPair_20 0 rfl ?_
      refine gf_tree_players hT dX3_isMouthPair_21 flX3_19 ?_
      refine V_iload_n dX3_isMouthPair_24 1 rfl ?_
      refine ld_tree_players hT dX3_isMouthPair_25 (by first | assumption | exact isSlot_in (by assumption) | exact hasPerf_in (by assumption) | exact isKind_in (by assumption) | exact in16c (by assumption) (by assumption) | exact in6c (by assumption) (by assumption) | exact Or.resolve_left (by assumption) (by assumption)) ?_
      refine V_aload_n dX3_isMouthPair_26 0 rfl ?_
      refine gf_tree_players hT dX3_isMouthPair_27 flX3_19 ?_
      refine V_iload_n dX3_isMouthPair_30 2 rfl ?_
      refine ld_tree_players hT dX3_isMouthPair_31 (by first | assumption | exact isSlot_in (by assumption) | exact hasPerf_in (by assumption) | exact isKind_in (by assumption) | exact in16c (by assumption) (by assumption) | exact in6c (by assumption) (by assumption) | exact Or.resolve_left (by assumption) (by assumption)) ?_
      refine V_icmp_ne (tgt := 39) dX3_isMouthPair_32 (by decide) (fun c5 => ?_) (fun c5 => ?_)
      · rw [if_neg c5] at hz
        refine V_iconst (v := 0) dX3_isMouthPair_39 (by decide) ?_
        exact V_zret dX3_isMouthPair_40 rfl bN0 ⟨Nat.le_of_ble_eq_true rfl, Nat.le_of_ble_eq_true rfl⟩ (hK 0 hz)
      · rw [if_pos c5] at hz
        refine V_iconst (v := 1) dX3_isMouthPair_35 (by decide) ?_
        refine V_goto (tgt := 40) dX3_isMouthPair_36 (by decide) ?_
        exact V_zret dX3_isMouthPair_40 rfl bN1 ⟨Nat.le_of_ble_eq_true rfl, Nat.le_of_ble_eq_true rfl⟩ (hK 1 hz)
theorem c_X3_isMouthPair {X : KX} (hxs : X.1.stackTraces = false) {h : AH} {t : Nat} {ids kinds players beats sizes lower higher od : List Int32} {root count : Int32} (hT : IsTree X h t ids kinds players beats sizes lower higher od root count) (one : Int32) (other : Int32) : Ct X mX3_isMouthPair [.ref t, .int one, .int other] h (zR (some (.int (T_X3_isMouthPair kinds players one other))) h) := w_X3_isMouthPair hxs hT one other  (K := fun r => r = T_X3_isMouthPair kinds players one other) (fun r e => by subst e; exact ⟨rfl, rfl⟩) rfl
def T_X3_firstFromScanned_L4 (ids : List Int32) (kinds : List Int32) (beats : List Int32) (beat : Int32) : Nat → Nat → Int32 → Int32
  | 0, i, x2 => x2
  | f + 1, i, x2 => (if (rd kinds (nI i)) = 0 then T_X3_firstFromScanned_L4 ids kinds beats beat f (i + 1) x2 else (if (rd beats (nI i)) < beat then T_X3_firstFromScanned_L4 ids kinds beats beat f (i + 1) x2 else (if x2 = (-1) then T_X3_firstFromScanned_L4 ids kinds beats beat f (i + 1) (nI i) else (if (T_X3_isBefore ids beats (nI i) (rd beats x2) (rd ids x2)) = 0 then T_X3_firstFromScanned_L4 ids kinds beats beat f (i + 1) x2 else T_X3_firstFromScanned_L4 ids kinds beats beat f (i + 1) (nI i)))))
def T_X3_firstFromScanned (ids : List Int32) (kinds : List Int32) (beats : List Int32) (beat : Int32) : Int32 := T_X3_firstFromScanned_L4 ids kinds beats beat 16 0 (-1)
set_option maxRecDepth 20000 in
set_option maxHeartbeats 2000000 in
theorem w_X3_firstFromScanned {X : KX} (hxs : X.1.stackTraces = false) {h : AH} {t : Nat} {ids kinds players beats sizes lower higher od : List Int32} {root count : Int32} (hT : IsTree X h t ids kinds players beats sizes lower higher od root count) (beat : Int32) {Z : ZT} {K : Int32 → Prop} (hK : ∀ r : Int32, K r → Z (.inl (some (.int r))) h) (hz : K (T_X3_firstFromScanned ids kinds beats beat)) : Ct X mX3_firstFromScanned [.ref t, .int beat] h Z := by
  refine Ct.of (by decide) rfl (Nat.le_of_ble_eq_true rfl) rfl hxs ?_
  have L4 : ∀ (f i : Nat), ∀ (x2 : Int32), i + f = 16 → x2 = -1 ∨ vp_in x2 16 → K (T_X3_firstFromScanned_L4 ids kinds beats beat  f i x2) → V X mX3_firstFromScanned (zF X mX3_firstFromScanned Z) 0 0 4 [(0, .ref t), (1, .int beat), (2, .int x2), (3, .int (nI i))] [] h := by
    intro f
    induction f with
    | zero =>
      intro i x2 hi hf2 hz
      obtain rfl : i = 16 := by omega
      rw [T_X3_firstFromScanned_L4] at hz
      try dsimp only [tb] at hz
      refine V_iload_n dX3_firstFromScanned_4 3 rfl ?_
      refine V_bipush (v := 16) dX3_firstFromScanned_5 (by decide) ?_
      refine V_icmp_ge (tgt := 74) dX3_firstFromScanned_7 (by decide) (fun _ => ?_) (fun c9 => absurd (by decide) c9)
      refine V_iload_n dX3_firstFromScanned_74 2 rfl ?_
      exact V_iret dX3_firstFromScanned_75 rfl ⟨Nat.le_of_ble_eq_true rfl, Nat.le_of_ble_eq_true rfl⟩ (hK x2 hz)
    | succ f ih =>
      intro i x2 hi hf2 hz
      rw [T_X3_firstFromScanned_L4] at hz
      try dsimp only [tb] at hz
      refine V_iload_n dX3_firstFromScanned_4 3 rfl ?_
      refine V_bipush (v := 16) dX3_firstFromScanned_5 (by decide) ?_
      refine V_icmp_ge (tgt := 74) dX3_firstFromScanned_7 (by decide) (fun c9 => absurd c9 (nI_ge (a := i) (b := 16) (by omega) (by omega))) (fun _ => ?_)
      refine V_aload_n dX3_firstFromScanned_10 0 rfl ?_
      refine gf_tree_kinds hT dX3_firstFromScanned_11 flX3_15 ?_
      refine V_iload_n dX3_firstFromScanned_14 3 rfl ?_
      refine ld_tree_kinds hT dX3_firstFromScanned_15 (vp_in_nI (by omega) (by omega)) ?_
      refine V_if_eq (tgt := 33) dX3_firstFromScanned_16 (by decide) (fun c1 => ?_) (fun c1 => ?_)
      · rw [if_pos c1] at hz
        refine V_iconst (v := 0) dX3_firstFromScanned_33 (by decide) ?_
        refine V_istore (lv' := [(4, .int 0), (0, .ref t), (1, .int beat), (2, .int x2), (3, .int (nI i))]) dX3_firstFromScanned_34 (by decide) rfl ?_
        refine V_iload dX3_firstFromScanned_36 0 rfl ?_
        refine V_if_eq (tgt := 68) dX3_firstFromScanned_38 (by decide) (fun _ => ?_) (fun c9 => absurd (by decide) c9)
        refine V_iinc (v := nI (i + 1)) (lv' := [(3, .int (nI (i + 1))), (4, .int 0), (0, .ref t), (1, .int beat), (2, .int x2)]) dX3_firstFromScanned_68 4 rfl (iinc1 i) (by decide) rfl ?_
        refine V_goto (tgt := 4) dX3_firstFromScanned_71 (by decide) ?_
        refine V.loc [2, 3, 4, 0] rfl ?_
        exact ih (i + 1) x2 (by omega) (by first | exact hf2 | exact Or.inr (vp_in_nI (by omega) (by omega))) hz
      · rw [if_neg c1] at hz
        refine V_aload_n dX3_firstFromScanned_19 0 rfl ?_
        refine gf_tree_beats hT dX3_firstFromScanned_20 flX3_22 ?_
        refine V_iload_n dX3_firstFromScanned_23 3 rfl ?_
        refine ld_tree_beats hT dX3_firstFromScanned_24 (vp_in_nI (by omega) (by omega)) ?_
        refine V_iload_n dX3_firstFromScanned_25 1 rfl ?_
        refine V_icmp_lt (tgt := 33) dX3_firstFromScanned_26 (by decide) (fun c2 => ?_) (fun c2 => ?_)
        · rw [if_pos c2] at hz
          refine V_iconst (v := 0) dX3_firstFromScanned_33 (by decide) ?_
          refine V_istore (lv' := [(4, .int 0), (0, .ref t), (1, .int beat), (2, .int x2), (3, .int (nI i))]) dX3_firstFromScanned_34 (by decide) rfl ?_
          refine V_iload dX3_firstFromScanned_36 0 rfl ?_
          refine V_if_eq (tgt := 68) dX3_firstFromScanned_38 (by decide) (fun _ => ?_) (fun c9 => absurd (by decide) c9)
          refine V_iinc (v := nI (i + 1)) (lv' := [(3, .int (nI (i + 1))), (4, .int 0), (0, .ref t), (1, .int beat), (2, .int x2)]) dX3_firstFromScanned_68 4 rfl (iinc1 i) (by decide) rfl ?_
          refine V_goto (tgt := 4) dX3_firstFromScanned_71 (by decide) ?_
          refine V.loc [2, 3, 4, 0] rfl ?_
          exact ih (i + 1) x2 (by omega) (by first | exact hf2 | exact Or.inr (vp_in_nI (by omega) (by omega))) hz
        · rw [if_neg c2] at hz
          refine V_iconst (v := 1) dX3_firstFromScanned_29 (by decide) ?_
          refine V_goto (tgt := 34) dX3_firstFromScanned_30 (by decide) ?_
          refine V_istore (lv' := [(4, .int 1), (0, .ref t), (1, .int beat), (2, .int x2), (3, .int (nI i))]) dX3_firstFromScanned_34 (by decide) rfl ?_
          refine V_iload dX3_firstFromScanned_36 0 rfl ?_
          refine V_if_eq (tgt := 68) dX3_firstFromScanned_38 (by decide) (fun c9 => absurd c9 (by decide)) (fun _ => ?_)
          refine V_iload_n dX3_firstFromScanned_41 3 rfl ?_
          refine V_iconst (v := (-1)) dX3_firstFromScanned_42 (by decide) ?_
          refine V_icmp_eq (tgt := 66) dX3_firstFromScanned_43 (by decide) (fun c3 => ?_) (fun c3 => ?_)
          · rw [if_pos c3] at hz
            refine V_iload_n dX3_firstFromScanned_66 4 rfl ?_
            refine V_istore_n (lv' := [(2, .int (nI i)), (4, .int 1), (0, .ref t), (1, .int beat), (3, .int (nI i))]) dX3_firstFromScanned_67 rfl (by decide) rfl ?_
            refine V_iinc (v := nI (i + 1)) (lv' := [(3, .int (nI (i + 1))), (2, .int (nI i)), (4, .int 1), (0, .ref t), (1, .int beat)]) dX3_firstFromScanned_68 4 rfl (iinc1 i) (by decide) rfl ?_
            refine V_goto (tgt := 4) dX3_firstFromScanned_71 (by decide) ?_
            refine V.loc [3, 4, 1, 0] rfl ?_
            exact ih (i + 1) (nI i) (by omega) (by first | exact hf2 | exact Or.inr (vp_in_nI (by omega) (by omega))) hz
          · rw [if_neg c3] at hz
            refine V_aload_n dX3_firstFromScanned_46 1 rfl ?_
            refine V_iload_n dX3_firstFromScanned_47 4 rfl ?_
            refine V_aload_n dX3_firstFromScanned_48 1 rfl ?_
            refine gf_tree_beats hT dX3_firstFromScanned_49 flX3_22 ?_
            refine V_iload_n dX3_firstFromScanned_52 3 rfl ?_
            refine ld_tree_beats hT dX3_firstFromScanned_53 (by first | assumption | exact isSlot_in (by assumption) | exact hasPerf_in (by assumption) | exact isKind_in (by assumption) | exact in16c (by assumption) (by assumption) | exact in6c (by assumption) (by assumption) | exact Or.resolve_left (by assumption) (by assumption)) ?_
            refine V_aload_n dX3_firstFromScanned_54 1 rfl ?_
            refine gf_tree_ids hT dX3_firstFromScanned_55 flX3_9 ?_
            refine V_iload_n dX3_firstFromScanned_58 3 rfl ?_
            refine ld_tree_ids hT dX3_firstFromScanned_59 (by first | assumption | exact isSlot_in (by assumption) | exact hasPerf_in (by assumption) | exact isKind_in (by assumption) | exact in16c (by assumption) (by assumption) | exact in6c (by assumption) (by assumption) | exact Or.resolve_left (by assumption) (by assumption)) ?_
            refine V_cVi (As := [.int (nI i), .int (rd beats x2), .int (rd ids x2)]) (rest := []) dX3_firstFromScanned_60 cvX3_71 (c_X3_isBefore hxs hT (nI i) (rd beats x2) (rd ids x2) (vp_in_nI (by omega) (by omega))) hT.1 rfl ⟨Nat.le_of_ble_eq_true rfl, Nat.le_of_ble_eq_true rfl, Nat.le_of_ble_eq_true rfl, Nat.le_of_ble_eq_true rfl⟩ (Nat.le_of_ble_eq_true rfl) rfl ?_
            refine V_if_eq (tgt := 68) dX3_firstFromScanned_63 (by decide) (fun c5 => ?_) (fun c5 => ?_)
            · rw [if_pos c5] at hz
              refine V_iinc (v := nI (i + 1)) (lv' := [(3, .int (nI (i + 1))), (4, .int 1), (0, .ref t), (1, .int beat), (2, .int x2)]) dX3_firstFromScanned_68 4 rfl (iinc1 i) (by decide) rfl ?_
              refine V_goto (tgt := 4) dX3_firstFromScanned_71 (by decide) ?_
              refine V.loc [2, 3, 4, 0] rfl ?_
              exact ih (i + 1) x2 (by omega) (by first | exact hf2 | exact Or.inr (vp_in_nI (by omega) (by omega))) hz
            · rw [if_neg c5] at hz
              refine V_iload_n dX3_firstFromScanned_66 4 rfl ?_
              refine V_istore_n (lv' := [(2, .int (nI i)), (4, .int 1), (0, .ref t), (1, .int beat), (3, .int (nI i))]) dX3_firstFromScanned_67 rfl (by decide) rfl ?_
              refine V_iinc (v := nI (i + 1)) (lv' := [(3, .int (nI (i + 1))), (2, .int (nI i)), (4, .int 1), (0, .ref t), (1, .int beat)]) dX3_firstFromScanned_68 4 rfl (iinc1 i) (by decide) rfl ?_
              refine V_goto (tgt := 4) dX3_firstFromScanned_71 (by decide) ?_
              refine V.loc [3, 4, 1, 0] rfl ?_
              exact ih (i + 1) (nI i) (by omega) (by first | exact hf2 | exact Or.inr (vp_in_nI (by omega) (by omega))) hz
  unfold T_X3_firstFromScanned at hz
  try dsimp only [tb] at hz
  refine V_iconst (v := (-1)) dX3_firstFromScanned_0 (by decide) ?_
  refine V_istore_n (lv' := [(2, .int (-1)), (0, .ref t), (1, .int beat)]) dX3_firstFromScanned_1 rfl (by decide) rfl ?_
  refine V_iconst (v := 0) dX3_firstFromScanned_2 (by decide) ?_
  refine V_istore_n (lv' := [(3, .int 0), (2, .int (-1)), (0, .ref t), (1, .int beat)]) dX3_firstFromScanned_3 rfl (by decide) rfl ?_
  refine V.loc [2, 3, 1, 0] rfl ?_
  exact L4 16 0 (-1) (by omega) (Or.inl rfl) hz
theorem c_X3_firstFromScanned {X : KX} (hxs : X.1.stackTraces = false) {h : AH} {t : Nat} {ids kinds players beats sizes lower higher od : List Int32} {root count : Int32} (hT : IsTree X h t ids kinds players beats sizes lower higher od root count) (beat : Int32) : Ct X mX3_firstFromScanned [.ref t, .int beat] h (zR (some (.int (T_X3_firstFromScanned ids kinds beats beat))) h) := w_X3_firstFromScanned hxs hT beat  (K := fun r => r = T_X3_firstFromScanned ids kinds beats beat) (fun r e => by subst e; exact ⟨rfl, rfl⟩) rfl
def T_X3_loudest_L6 (kinds : List Int32) (beats : List Int32) (sizes : List Int32) : Nat → Nat → Int32 → Int32 → Int32
  | 0, i, x2, x1 => x1
  | f + 1, i, x2, x1 => (if (rd kinds (nI i)) = 112 then (if x1 ≤ (rd beats (nI i)) then (if x2 < (T_X3_noiseOn kinds beats sizes (rd beats (nI i))) then T_X3_loudest_L6 kinds beats sizes f (i + 1) (T_X3_noiseOn kinds beats sizes (rd beats (nI i))) (rd beats (nI i)) else (if (T_X3_noiseOn kinds beats sizes (rd beats (nI i))) ≤ 0 then T_X3_loudest_L6 kinds beats sizes f (i + 1) x2 x1 else (if (T_X3_noiseOn kinds beats sizes (rd beats (nI i))) = x2 then T_X3_loudest_L6 kinds beats sizes f (i + 1) x2 x1 else T_X3_loudest_L6 kinds beats sizes f (i + 1) x2 x1))) else (if x2 < (T_X3_noiseOn kinds beats sizes (rd beats (nI i))) then T_X3_loudest_L6 kinds beats sizes f (i + 1) (T_X3_noiseOn kinds beats sizes (rd beats (nI i))) (rd beats (nI i)) else (if (T_X3_noiseOn kinds beats sizes (rd beats (nI i))) ≤ 0 then T_X3_loudest_L6 kinds beats sizes f (i + 1) x2 x1 else (if (T_X3_noiseOn kinds beats sizes (rd beats (nI i))) = x2 then T_X3_loudest_L6 kinds beats sizes f (i + 1) (T_X3_noiseOn kinds beats sizes (rd beats (nI i))) (rd beats (nI i)) else T_X3_loudest_L6 kinds beats sizes f (i + 1) x2 x1)))) else (if x1 ≤ (rd beats (nI i)) then (if x2 < 0 then T_X3_loudest_L6 kinds beats sizes f (i + 1) 0 (rd beats (nI i)) else T_X3_loudest_L6 kinds beats sizes f (i + 1) x2 x1) else (if x2 < 0 then T_X3_loudest_L6 kinds beats sizes f (i + 1) 0 (rd beats (nI i)) else T_X3_loudest_L6 kinds beats sizes f (i + 1) x2 x1)))
def T_X3_loudest (kinds : List Int32) (beats : List Int32) (sizes : List Int32) : Int32 := T_X3_loudest_L6 kinds beats sizes 16 0 0 (-1)
set_option maxRecDepth 20000 in
set_option maxHeartbeats 2000000 in
theorem w_X3_loudest {X : KX} (hxs : X.1.stackTraces = false) {h : AH} {t : Nat} {ids kinds players beats sizes lower higher od : List Int32} {root count : Int32} (hT : IsTree X h t ids kinds players beats sizes lower higher od root count)  {Z : ZT} {K : Int32 → Prop} (hK : ∀ r : Int32, K r → Z (.inl (some (.int r))) h) (hz : K (T_X3_loudest kinds beats sizes)) : Ct X mX3_loudest [.ref t] h Z := by
  refine Ct.of (by decide) rfl (Nat.le_of_ble_eq_true rfl) rfl hxs ?_
  have L6 : ∀ (f i : Nat), ∀ (x2 : Int32), ∀ (x1 : Int32), i + f = 16 → K (T_X3_loudest_L6 kinds beats sizes  f i x2 x1) → V X mX3_loudest (zF X mX3_loudest Z) 0 0 6 [(0, .ref t), (1, .int x1), (2, .int x2), (3, .int (nI i))] [] h := by
    intro f
    induction f with
    | zero =>
      intro i x2 x1 hi hz
      obtain rfl : i = 16 := by omega
      rw [T_X3_loudest_L6] at hz
      try dsimp only [tb] at hz
      refine V_iload_n dX3_loudest_6 3 rfl ?_
      refine V_bipush (v := 16) dX3_loudest_7 (by decide) ?_
      refine V_icmp_ge (tgt := 94) dX3_loudest_9 (by decide) (fun _ => ?_) (fun c9 => absurd (by decide) c9)
      refine V_iload_n dX3_loudest_94 1 rfl ?_
      exact V_iret dX3_loudest_95 rfl ⟨Nat.le_of_ble_eq_true rfl, Nat.le_of_ble_eq_true rfl⟩ (hK x1 hz)
    | succ f ih =>
      intro i x2 x1 hi hz
      rw [T_X3_loudest_L6] at hz
      try dsimp only [tb] at hz
      refine V_iload_n dX3_loudest_6 3 rfl ?_
      refine V_bipush (v := 16) dX3_loudest_7 (by decide) ?_
      refine V_icmp_ge (tgt := 94) dX3_loudest_9 (by decide) (fun c9 => absurd c9 (nI_ge (a := i) (b := 16) (by omega) (by omega))) (fun _ => ?_)
      refine V_aload_n dX3_loudest_12 0 rfl ?_
      refine gf_tree_kinds hT dX3_loudest_13 flX3_15 ?_
      refine V_iload_n dX3_loudest_16 3 rfl ?_
      refine ld_tree_kinds hT dX3_loudest_17 (vp_in_nI (by omega) (by omega)) ?_
      refine V_bipush (v := 112) dX3_loudest_18 (by decide) ?_
      refine V_icmp_ne (tgt := 36) dX3_loudest_20 (by decide) (fun c1 => ?_) (fun c1 => ?_)
      · rw [if_neg c1] at hz
        refine V_iconst (v := 0) dX3_loudest_36 (by decide) ?_
        refine V_istore (lv' := [(4, .int 0), (0, .ref t), (1, .int x1), (2, .int x2), (3, .int (nI i))]) dX3_loudest_37 (by decide) rfl ?_
        refine V_aload_n dX3_loudest_39 1 rfl ?_
        refine gf_tree_beats hT dX3_loudest_40 flX3_22 ?_
        refine V_iload_n dX3_loudest_43 4 rfl ?_
        refine ld_tree_beats hT dX3_loudest_44 (vp_in_nI (by omega) (by omega)) ?_
        refine V_iload_n dX3_loudest_45 2 rfl ?_
        refine V_icmp_ge (tgt := 53) dX3_loudest_46 (by decide) (fun c2 => ?_) (fun c2 => ?_)
        · rw [if_pos c2] at hz
          refine V_iconst (v := 0) dX3_loudest_53 (by decide) ?_
          refine V_istore (lv' := [(5, .int 0), (4, .int 0), (0, .ref t), (1, .int x1), (2, .int x2), (3, .int (nI i))]) dX3_loudest_54 (by decide) rfl ?_
          refine V_iload dX3_loudest_56 1 rfl ?_
          refine V_iload_n dX3_loudest_58 4 rfl ?_
          refine V_icmp_gt (tgt := 78) dX3_loudest_59 (by decide) (fun c3 => ?_) (fun c3 => ?_)
          · rw [if_pos c3] at hz
            refine V_iload dX3_loudest_78 1 rfl ?_
            refine V_istore_n (lv' := [(2, .int 0), (5, .int 0), (4, .int 0), (0, .ref t), (1, .int x1), (3, .int (nI i))]) dX3_loudest_80 rfl (by decide) rfl ?_
            refine V_aload_n dX3_loudest_81 3 rfl ?_
            refine gf_tree_beats hT dX3_loudest_82 flX3_22 ?_
            refine V_iload_n dX3_loudest_85 5 rfl ?_
            refine ld_tree_beats hT dX3_loudest_86 (vp_in_nI (by omega) (by omega)) ?_
            refine V_istore_n (lv' := [(1, .int (rd beats (nI i))), (2, .int 0), (5, .int 0), (4, .int 0), (0, .ref t), (3, .int (nI i))]) dX3_loudest_87 rfl (by decide) rfl ?_
            refine V_iinc (v := nI (i + 1)) (lv' := [(3, .int (nI (i + 1))), (1, .int (rd beats (nI i))), (2, .int 0), (5, .int 0), (4, .int 0), (0, .ref t)]) dX3_loudest_88 5 rfl (iinc1 i) (by decide) rfl ?_
            refine V_goto (tgt := 6) dX3_loudest_91 (by decide) ?_
            refine V.loc [5, 1, 2, 0] rfl ?_
            exact ih (i + 1) 0 (rd beats (nI i)) (by omega)  hz
          · rw [if_neg c3] at hz
            refine V_iload dX3_loudest_62 1 rfl ?_
            refine V_if_le (tgt := 88) dX3_loudest_64 (by decide) (fun _ => ?_) (fun c9 => absurd (by decide) c9)
            refine V_iinc (v := nI (i + 1)) (lv' := [(3, .int (nI (i + 1))), (5, .int 0), (4, .int 0), (0, .ref t), (1, .int x1), (2, .int x2)]) dX3_loudest_88 5 rfl (iinc1 i) (by decide) rfl ?_
            refine V_goto (tgt := 6) dX3_loudest_91 (by decide) ?_
            refine V.loc [3, 4, 5, 0] rfl ?_
            exact ih (i + 1) x2 x1 (by omega)  hz
        · rw [if_neg c2] at hz
          refine V_iconst (v := 1) dX3_loudest_49 (by decide) ?_
          refine V_goto (tgt := 54) dX3_loudest_50 (by decide) ?_
          refine V_istore (lv' := [(5, .int 1), (4, .int 0), (0, .ref t), (1, .int x1), (2, .int x2), (3, .int (nI i))]) dX3_loudest_54 (by decide) rfl ?_
          refine V_iload dX3_loudest_56 1 rfl ?_
          refine V_iload_n dX3_loudest_58 4 rfl ?_
          refine V_icmp_gt (tgt := 78) dX3_loudest_59 (by decide) (fun c4 => ?_) (fun c4 => ?_)
          · rw [if_pos c4] at hz
            refine V_iload dX3_loudest_78 1 rfl ?_
            refine V_istore_n (lv' := [(2, .int 0), (5, .int 1), (4, .int 0), (0, .ref t), (1, .int x1), (3, .int (nI i))]) dX3_loudest_80 rfl (by decide) rfl ?_
            refine V_aload_n dX3_loudest_81 3 rfl ?_
            refine gf_tree_beats hT dX3_loudest_82 flX3_22 ?_
            refine V_iload_n dX3_loudest_85 5 rfl ?_
            refine ld_tree_beats hT dX3_loudest_86 (vp_in_nI (by omega) (by omega)) ?_
            refine V_istore_n (lv' := [(1, .int (rd beats (nI i))), (2, .int 0), (5, .int 1), (4, .int 0), (0, .ref t), (3, .int (nI i))]) dX3_loudest_87 rfl (by decide) rfl ?_
            refine V_iinc (v := nI (i + 1)) (lv' := [(3, .int (nI (i + 1))), (1, .int (rd beats (nI i))), (2, .int 0), (5, .int 1), (4, .int 0), (0, .ref t)]) dX3_loudest_88 5 rfl (iinc1 i) (by decide) rfl ?_
            refine V_goto (tgt := 6) dX3_loudest_91 (by decide) ?_
            refine V.loc [5, 1, 2, 0] rfl ?_
            exact ih (i + 1) 0 (rd beats (nI i)) (by omega)  hz
          · rw [if_neg c4] at hz
            refine V_iload dX3_loudest_62 1 rfl ?_
            refine V_if_le (tgt := 88) dX3_loudest_64 (by decide) (fun _ => ?_) (fun c9 => absurd (by decide) c9)
            refine V_iinc (v := nI (i + 1)) (lv' := [(3, .int (nI (i + 1))), (5, .int 1), (4, .int 0), (0, .ref t), (1, .int x1), (2, .int x2)]) dX3_loudest_88 5 rfl (iinc1 i) (by decide) rfl ?_
            refine V_goto (tgt := 6) dX3_loudest_91 (by decide) ?_
            refine V.loc [3, 4, 5, 0] rfl ?_
            exact ih (i + 1) x2 x1 (by omega)  hz
      · rw [if_pos c1] at hz
        refine V_aload_n dX3_loudest_23 0 rfl ?_
        refine V_aload_n dX3_loudest_24 0 rfl ?_
        refine gf_tree_beats hT dX3_loudest_25 flX3_22 ?_
        refine V_iload_n dX3_loudest_28 3 rfl ?_
        refine ld_tree_beats hT dX3_loudest_29 (vp_in_nI (by omega) (by omega)) ?_
        refine V_cVi (As := [.int (rd beats (nI i))]) (rest := []) dX3_loudest_30 cvX3_86 (c_X3_noiseOn hxs hT (rd beats (nI i)) ) hT.1 rfl ⟨Nat.le_of_ble_eq_true rfl, Nat.le_of_ble_eq_true rfl, Nat.le_of_ble_eq_true rfl, Nat.le_of_ble_eq_true rfl⟩ (Nat.le_of_ble_eq_true rfl) rfl ?_
        refine V_goto (tgt := 37) dX3_loudest_33 (by decide) ?_
        refine V_istore (lv' := [(4, .int (T_X3_noiseOn kinds beats sizes (rd beats (nI i)))), (0, .ref t), (1, .int x1), (2, .int x2), (3, .int (nI i))]) dX3_loudest_37 (by decide) rfl ?_
        refine V_aload_n dX3_loudest_39 1 rfl ?_
        refine gf_tree_beats hT dX3_loudest_40 flX3_22 ?_
        refine V_iload_n dX3_loudest_43 4 rfl ?_
        refine ld_tree_beats hT dX3_loudest_44 (vp_in_nI (by omega) (by omega)) ?_
        refine V_iload_n dX3_loudest_45 2 rfl ?_
        refine V_icmp_ge (tgt := 53) dX3_loudest_46 (by decide) (fun c6 => ?_) (fun c6 => ?_)
        · rw [if_pos c6] at hz
          refine V_iconst (v := 0) dX3_loudest_53 (by decide) ?_
          refine V_istore (lv' := [(5, .int 0), (4, .int (T_X3_noiseOn kinds beats sizes (rd beats (nI i)))), (0, .ref t), (1, .int x1), (2, .int x2), (3, .int (nI i))]) dX3_loudest_54 (by decide) rfl ?_
          refine V_iload dX3_loudest_56 1 rfl ?_
          refine V_iload_n dX3_loudest_58 4 rfl ?_
          refine V_icmp_gt (tgt := 78) dX3_loudest_59 (by decide) (fun c7 => ?_) (fun c7 => ?_)
          · rw [if_pos c7] at hz
            refine V_iload dX3_loudest_78 1 rfl ?_
            refine V_istore_n (lv' := [(2, .int (T_X3_noiseOn kinds beats sizes (rd beats (nI i)))), (5, .int 0), (4, .int (T_X3_noiseOn kinds beats sizes (rd beats (nI i)))), (0, .ref t), (1, .int x1), (3, .int (nI i))]) dX3_loudest_80 rfl (by decide) rfl ?_
            refine V_aload_n dX3_loudest_81 3 rfl ?_
            refine gf_tree_beats hT dX3_loudest_82 flX3_22 ?_
            refine V_iload_n dX3_loudest_85 5 rfl ?_
            refine ld_tree_beats hT dX3_loudest_86 (vp_in_nI (by omega) (by omega)) ?_
            refine V_istore_n (lv' := [(1, .int (rd beats (nI i))), (2, .int (T_X3_noiseOn kinds beats sizes (rd beats (nI i)))), (5, .int 0), (4, .int (T_X3_noiseOn kinds beats sizes (rd beats (nI i)))), (0, .ref t), (3, .int (nI i))]) dX3_loudest_87 rfl (by decide) rfl ?_
            refine V_iinc (v := nI (i + 1)) (lv' := [(3, .int (nI (i + 1))), (1, .int (rd beats (nI i))), (2, .int (T_X3_noiseOn kinds beats sizes (rd beats (nI i)))), (5, .int 0), (4, .int (T_X3_noiseOn kinds beats sizes (rd beats (nI i)))), (0, .ref t)]) dX3_loudest_88 5 rfl (iinc1 i) (by decide) rfl ?_
            refine V_goto (tgt := 6) dX3_loudest_91 (by decide) ?_
            refine V.loc [5, 1, 2, 0] rfl ?_
            exact ih (i + 1) (T_X3_noiseOn kinds beats sizes (rd beats (nI i))) (rd beats (nI i)) (by omega)  hz
          · rw [if_neg c7] at hz
            refine V_iload dX3_loudest_62 1 rfl ?_
            refine V_if_le (tgt := 88) dX3_loudest_64 (by decide) (fun c8 => ?_) (fun c8 => ?_)
            · rw [if_pos c8] at hz
              refine V_iinc (v := nI (i + 1)) (lv' := [(3, .int (nI (i + 1))), (5, .int 0), (4, .int (T_X3_noiseOn kinds beats sizes (rd beats (nI i)))), (0, .ref t), (1, .int x1), (2, .int x2)]) dX3_loudest_88 5 rfl (iinc1 i) (by decide) rfl ?_
              refine V_goto (tgt := 6) dX3_loudest_91 (by decide) ?_
              refine V.loc [3, 4, 5, 0] rfl ?_
              exact ih (i + 1) x2 x1 (by omega)  hz
            · rw [if_neg c8] at hz
              refine V_iload dX3_loudest_67 1 rfl ?_
              refine V_iload_n dX3_loudest_69 4 rfl ?_
              refine V_icmp_ne (tgt := 88) dX3_loudest_70 (by decide) (fun c9 => ?_) (fun c9 => ?_)
              · rw [if_neg c9] at hz
                refine V_iinc (v := nI (i + 1)) (lv' := [(3, .int (nI (i + 1))), (5, .int 0), (4, .int (T_X3_noiseOn kinds beats sizes (rd beats (nI i)))), (0, .ref t), (1, .int x1), (2, .int x2)]) dX3_loudest_88 5 rfl (iinc1 i) (by decide) rfl ?_
                refine V_goto (tgt := 6) dX3_loudest_91 (by decide) ?_
                refine V.loc [3, 4, 5, 0] rfl ?_
                exact ih (i + 1) x2 x1 (by omega)  hz
              · rw [if_pos c9] at hz
                refine V_iload dX3_loudest_73 0 rfl ?_
                refine V_if_eq (tgt := 88) dX3_loudest_75 (by decide) (fun _ => ?_) (fun c9 => absurd (by decide) c9)
                refine V_iinc (v := nI (i + 1)) (lv' := [(3, .int (nI (i + 1))), (5, .int 0), (4, .int (T_X3_noiseOn kinds beats sizes (rd beats (nI i)))), (0, .ref t), (1, .int x1), (2, .int x2)]) dX3_loudest_88 5 rfl (iinc1 i) (by decide) rfl ?_
                refine V_goto (tgt := 6) dX3_loudest_91 (by decide) ?_
                refine V.loc [3, 4, 5, 0] rfl ?_
                exact ih (i + 1) x2 x1 (by omega)  hz
        · rw [if_neg c6] at hz
          refine V_iconst (v := 1) dX3_loudest_49 (by decide) ?_
          refine V_goto (tgt := 54) dX3_loudest_50 (by decide) ?_
          refine V_istore (lv' := [(5, .int 1), (4, .int (T_X3_noiseOn kinds beats sizes (rd beats (nI i)))), (0, .ref t), (1, .int x1), (2, .int x2), (3, .int (nI i))]) dX3_loudest_54 (by decide) rfl ?_
          refine V_iload dX3_loudest_56 1 rfl ?_
          refine V_iload_n dX3_loudest_58 4 rfl ?_
          refine V_icmp_gt (tgt := 78) dX3_loudest_59 (by decide) (fun c10 => ?_) (fun c10 => ?_)
          · rw [if_pos c10] at hz
            refine V_iload dX3_loudest_78 1 rfl ?_
            refine V_istore_n (lv' := [(2, .int (T_X3_noiseOn kinds beats sizes (rd beats (nI i)))), (5, .int 1), (4, .int (T_X3_noiseOn kinds beats sizes (rd beats (nI i)))), (0, .ref t), (1, .int x1), (3, .int (nI i))]) dX3_loudest_80 rfl (by decide) rfl ?_
            refine V_aload_n dX3_loudest_81 3 rfl ?_
            refine gf_tree_beats hT dX3_loudest_82 flX3_22 ?_
            refine V_iload_n dX3_loudest_85 5 rfl ?_
            refine ld_tree_beats hT dX3_loudest_86 (vp_in_nI (by omega) (by omega)) ?_
            refine V_istore_n (lv' := [(1, .int (rd beats (nI i))), (2, .int (T_X3_noiseOn kinds beats sizes (rd beats (nI i)))), (5, .int 1), (4, .int (T_X3_noiseOn kinds beats sizes (rd beats (nI i)))), (0, .ref t), (3, .int (nI i))]) dX3_loudest_87 rfl (by decide) rfl ?_
            refine V_iinc (v := nI (i + 1)) (lv' := [(3, .int (nI (i + 1))), (1, .int (rd beats (nI i))), (2, .int (T_X3_noiseOn kinds beats sizes (rd beats (nI i)))), (5, .int 1), (4, .int (T_X3_noiseOn kinds beats sizes (rd beats (nI i)))), (0, .ref t)]) dX3_loudest_88 5 rfl (iinc1 i) (by decide) rfl ?_
            refine V_goto (tgt := 6) dX3_loudest_91 (by decide) ?_
            refine V.loc [5, 1, 2, 0] rfl ?_
            exact ih (i + 1) (T_X3_noiseOn kinds beats sizes (rd beats (nI i))) (rd beats (nI i)) (by omega)  hz
          · rw [if_neg c10] at hz
            refine V_iload dX3_loudest_62 1 rfl ?_
            refine V_if_le (tgt := 88) dX3_loudest_64 (by decide) (fun c11 => ?_) (fun c11 => ?_)
            · rw [if_pos c11] at hz
              refine V_iinc (v := nI (i + 1)) (lv' := [(3, .int (nI (i + 1))), (5, .int 1), (4, .int (T_X3_noiseOn kinds beats sizes (rd beats (nI i)))), (0, .ref t), (1, .int x1), (2, .int x2)]) dX3_loudest_88 5 rfl (iinc1 i) (by decide) rfl ?_
              refine V_goto (tgt := 6) dX3_loudest_91 (by decide) ?_
              refine V.loc [3, 4, 5, 0] rfl ?_
              exact ih (i + 1) x2 x1 (by omega)  hz
            · rw [if_neg c11] at hz
              refine V_iload dX3_loudest_67 1 rfl ?_
              refine V_iload_n dX3_loudest_69 4 rfl ?_
              refine V_icmp_ne (tgt := 88) dX3_loudest_70 (by decide) (fun c12 => ?_) (fun c12 => ?_)
              · rw [if_neg c12] at hz
                refine V_iinc (v := nI (i + 1)) (lv' := [(3, .int (nI (i + 1))), (5, .int 1), (4, .int (T_X3_noiseOn kinds beats sizes (rd beats (nI i)))), (0, .ref t), (1, .int x1), (2, .int x2)]) dX3_loudest_88 5 rfl (iinc1 i) (by decide) rfl ?_
                refine V_goto (tgt := 6) dX3_loudest_91 (by decide) ?_
                refine V.loc [3, 4, 5, 0] rfl ?_
                exact ih (i + 1) x2 x1 (by omega)  hz
              · rw [if_pos c12] at hz
                refine V_iload dX3_loudest_73 0 rfl ?_
                refine V_if_eq (tgt := 88) dX3_loudest_75 (by decide) (fun c9 => absurd c9 (by decide)) (fun _ => ?_)
                refine V_iload dX3_loudest_78 1 rfl ?_
                refine V_istore_n (lv' := [(2, .int (T_X3_noiseOn kinds beats sizes (rd beats (nI i)))), (5, .int 1), (4, .int (T_X3_noiseOn kinds beats sizes (rd beats (nI i)))), (0, .ref t), (1, .int x1), (3, .int (nI i))]) dX3_loudest_80 rfl (by decide) rfl ?_
                refine V_aload_n dX3_loudest_81 3 rfl ?_
                refine gf_tree_beats hT dX3_loudest_82 flX3_22 ?_
                refine V_iload_n dX3_loudest_85 5 rfl ?_
                refine ld_tree_beats hT dX3_loudest_86 (vp_in_nI (by omega) (by omega)) ?_
                refine V_istore_n (lv' := [(1, .int (rd beats (nI i))), (2, .int (T_X3_noiseOn kinds beats sizes (rd beats (nI i)))), (5, .int 1), (4, .int (T_X3_noiseOn kinds beats sizes (rd beats (nI i)))), (0, .ref t), (3, .int (nI i))]) dX3_loudest_87 rfl (by decide) rfl ?_
                refine V_iinc (v := nI (i + 1)) (lv' := [(3, .int (nI (i + 1))), (1, .int (rd beats (nI i))), (2, .int (T_X3_noiseOn kinds beats sizes (rd beats (nI i)))), (5, .int 1), (4, .int (T_X3_noiseOn kinds beats sizes (rd beats (nI i)))), (0, .ref t)]) dX3_loudest_88 5 rfl (iinc1 i) (by decide) rfl ?_
                refine V_goto (tgt := 6) dX3_loudest_91 (by decide) ?_
                refine V.loc [5, 1, 2, 0] rfl ?_
                exact ih (i + 1) (T_X3_noiseOn kinds beats sizes (rd beats (nI i))) (rd beats (nI i)) (by omega)  hz
  unfold T_X3_loudest at hz
  try dsimp only [tb] at hz
  refine V_iconst (v := (-1)) dX3_loudest_0 (by decide) ?_
  refine V_istore_n (lv' := [(1, .int (-1)), (0, .ref t)]) dX3_loudest_1 rfl (by decide) rfl ?_
  refine V_iconst (v := 0) dX3_loudest_2 (by decide) ?_
  refine V_istore_n (lv' := [(2, .int 0), (1, .int (-1)), (0, .ref t)]) dX3_loudest_3 rfl (by decide) rfl ?_
  refine V_iconst (v := 0) dX3_loudest_4 (by decide) ?_
  refine V_istore_n (lv' := [(3, .int 0), (2, .int 0), (1, .int (-1)), (0, .ref t)]) dX3_loudest_5 rfl (by decide) rfl ?_
  refine V.loc [3, 2, 1, 0] rfl ?_
  exact L6 16 0 0 (-1) (by omega)  hz
theorem c_X3_loudest {X : KX} (hxs : X.1.stackTraces = false) {h : AH} {t : Nat} {ids kinds players beats sizes lower higher od : List Int32} {root count : Int32} (hT : IsTree X h t ids kinds players beats sizes lower higher od root count)  : Ct X mX3_loudest [.ref t] h (zR (some (.int (T_X3_loudest kinds beats sizes))) h) := w_X3_loudest hxs hT   (K := fun r => r = T_X3_loudest kinds beats sizes) (fun r e => by subst e; exact ⟨rfl, rfl⟩) rfl
def T_X3_conflicts_L14 (kinds : List Int32) (players : List Int32) (beats : List Int32) (sizes : List Int32) (o : Nat) : Nat → Nat → Int32 → Int32
  | 0, i, x1 => x1
  | f + 1, i, x1 => (if (T_X3_isMouthPair kinds players (nI o) (nI i)) = 0 then T_X3_conflicts_L14 kinds players beats sizes o f (i + 1) x1 else (if (T_X3_lastBeat beats sizes (nI i)) < (rd beats (nI o)) then T_X3_conflicts_L14 kinds players beats sizes o f (i + 1) x1 else (if (T_X3_lastBeat beats sizes (nI o)) < (rd beats (nI i)) then T_X3_conflicts_L14 kinds players beats sizes o f (i + 1) x1 else T_X3_conflicts_L14 kinds players beats sizes o f (i + 1) (x1 + 1))))
def T_X3_conflicts_L4 (kinds : List Int32) (players : List Int32) (beats : List Int32) (sizes : List Int32) : Nat → Nat → Int32 → Int32
  | 0, o, x1 => x1
  | g + 1, o, x1 => T_X3_conflicts_L4 kinds players beats sizes g (o + 1) (T_X3_conflicts_L14 kinds players beats sizes o (15 - o) (o + 1) x1)
def T_X3_conflicts (kinds : List Int32) (players : List Int32) (beats : List Int32) (sizes : List Int32) : Int32 := T_X3_conflicts_L4 kinds players beats sizes 16 0 0
set_option maxRecDepth 20000 in
set_option maxHeartbeats 2000000 in
theorem w_X3_conflicts {X : KX} (hxs : X.1.stackTraces = false) {h : AH} {t : Nat} {ids kinds players beats sizes lower higher od : List Int32} {root count : Int32} (hT : IsTree X h t ids kinds players beats sizes lower higher od root count)  {Z : ZT} {K : Int32 → Prop} (hK : ∀ r : Int32, K r → Z (.inl (some (.int r))) h) (hz : K (T_X3_conflicts kinds players beats sizes)) : Ct X mX3_conflicts [.ref t] h Z := by
  refine Ct.of (by decide) rfl (Nat.le_of_ble_eq_true rfl) rfl hxs ?_
  have L14 : ∀ (o : Nat), o < 16 → ∀ (f i : Nat), ∀ (x1 : Int32), i + f = 16 → V X mX3_conflicts (zF X mX3_conflicts Z) 0 0 66 [(0, .ref t), (1, .int (T_X3_conflicts_L14 kinds players beats sizes o f i x1)), (2, .int (nI o))] [] h → V X mX3_conflicts (zF X mX3_conflicts Z) 0 0 14 [(0, .ref t), (1, .int x1), (2, .int (nI o)), (3, .int (nI i))] [] h := by
    intro o ho_o
    intro f
    induction f with
    | zero =>
      intro i x1 hi hz
      obtain rfl : i = 16 := by omega
      rw [T_X3_conflicts_L14] at hz
      try dsimp only [tb] at hz
      refine V_iload_n dX3_conflicts_14 3 rfl ?_
      refine V_bipush (v := 16) dX3_conflicts_15 (by decide) ?_
      refine V_icmp_ge (tgt := 66) dX3_conflicts_17 (by decide) (fun _ => ?_) (fun c9 => absurd (by decide) c9)
      refine V.loc [0, 1, 2] rfl ?_
      exact hz
    | succ f ih =>
      intro i x1 hi hz
      rw [T_X3_conflicts_L14] at hz
      try dsimp only [tb] at hz
      refine V_iload_n dX3_conflicts_14 3 rfl ?_
      refine V_bipush (v := 16) dX3_conflicts_15 (by decide) ?_
      refine V_icmp_ge (tgt := 66) dX3_conflicts_17 (by decide) (fun c9 => absurd c9 (nI_ge (a := i) (b := 16) (by omega) (by omega))) (fun _ => ?_)
      refine V_aload_n dX3_conflicts_20 0 rfl ?_
      refine V_iload_n dX3_conflicts_21 2 rfl ?_
      refine V_iload_n dX3_conflicts_22 3 rfl ?_
      refine V_cVi (As := [.int (nI o), .int (nI i)]) (rest := []) dX3_conflicts_23 cvX3_92 (c_X3_isMouthPair hxs hT (nI o) (nI i) ) hT.1 rfl ⟨Nat.le_of_ble_eq_true rfl, Nat.le_of_ble_eq_true rfl, Nat.le_of_ble_eq_true rfl, Nat.le_of_ble_eq_true rfl⟩ (Nat.le_of_ble_eq_true rfl) rfl ?_
      refine V_if_eq (tgt := 60) dX3_conflicts_26 (by decide) (fun c2 => ?_) (fun c2 => ?_)
      · rw [if_pos c2] at hz
        refine V_iinc (v := nI (i + 1)) (lv' := [(3, .int (nI (i + 1))), (0, .ref t), (1, .int x1), (2, .int (nI o))]) dX3_conflicts_60 3 rfl (iinc1 i) (by decide) rfl ?_
        refine V_goto (tgt := 14) dX3_conflicts_63 (by decide) ?_
        refine V.loc [1, 2, 3, 0] rfl ?_
        exact ih (i + 1) x1 (by omega)  hz
      · rw [if_neg c2] at hz
        refine V_aload_n dX3_conflicts_29 0 rfl ?_
        refine gf_tree_beats hT dX3_conflicts_30 flX3_22 ?_
        refine V_iload_n dX3_conflicts_33 2 rfl ?_
        refine ld_tree_beats hT dX3_conflicts_34 (vp_in_nI (by omega) (by omega)) ?_
        refine V_aload_n dX3_conflicts_35 0 rfl ?_
        refine V_iload_n dX3_conflicts_36 3 rfl ?_
        refine V_cVi (As := [.int (nI i)]) (rest := [.int (rd beats (nI o))]) dX3_conflicts_37 cvX3_89 (c_X3_lastBeat hxs hT (nI i) (vp_in_nI (by omega) (by omega))) hT.1 rfl ⟨Nat.le_of_ble_eq_true rfl, Nat.le_of_ble_eq_true rfl, Nat.le_of_ble_eq_true rfl, Nat.le_of_ble_eq_true rfl⟩ (Nat.le_of_ble_eq_true rfl) rfl ?_
        refine V_icmp_gt (tgt := 60) dX3_conflicts_40 (by decide) (fun c4 => ?_) (fun c4 => ?_)
        · rw [if_pos c4] at hz
          refine V_iinc (v := nI (i + 1)) (lv' := [(3, .int (nI (i + 1))), (0, .ref t), (1, .int x1), (2, .int (nI o))]) dX3_conflicts_60 3 rfl (iinc1 i) (by decide) rfl ?_
          refine V_goto (tgt := 14) dX3_conflicts_63 (by decide) ?_
          refine V.loc [1, 2, 3, 0] rfl ?_
          exact ih (i + 1) x1 (by omega)  hz
        · rw [if_neg c4] at hz
          refine V_aload_n dX3_conflicts_43 0 rfl ?_
          refine gf_tree_beats hT dX3_conflicts_44 flX3_22 ?_
          refine V_iload_n dX3_conflicts_47 3 rfl ?_
          refine ld_tree_beats hT dX3_conflicts_48 (vp_in_nI (by omega) (by omega)) ?_
          refine V_aload_n dX3_conflicts_49 0 rfl ?_
          refine V_iload_n dX3_conflicts_50 2 rfl ?_
          refine V_cVi (As := [.int (nI o)]) (rest := [.int (rd beats (nI i))]) dX3_conflicts_51 cvX3_89 (c_X3_lastBeat hxs hT (nI o) (vp_in_nI (by omega) (by omega))) hT.1 rfl ⟨Nat.le_of_ble_eq_true rfl, Nat.le_of_ble_eq_true rfl, Nat.le_of_ble_eq_true rfl, Nat.le_of_ble_eq_true rfl⟩ (Nat.le_of_ble_eq_true rfl) rfl ?_
          refine V_icmp_gt (tgt := 60) dX3_conflicts_54 (by decide) (fun c6 => ?_) (fun c6 => ?_)
          · rw [if_pos c6] at hz
            refine V_iinc (v := nI (i + 1)) (lv' := [(3, .int (nI (i + 1))), (0, .ref t), (1, .int x1), (2, .int (nI o))]) dX3_conflicts_60 3 rfl (iinc1 i) (by decide) rfl ?_
            refine V_goto (tgt := 14) dX3_conflicts_63 (by decide) ?_
            refine V.loc [1, 2, 3, 0] rfl ?_
            exact ih (i + 1) x1 (by omega)  hz
          · rw [if_neg c6] at hz
            refine V_iinc (v := x1 + 1) (lv' := [(1, .int (x1 + 1)), (0, .ref t), (2, .int (nI o)), (3, .int (nI i))]) dX3_conflicts_57 1 rfl rfl (by decide) rfl ?_
            refine V_iinc (v := nI (i + 1)) (lv' := [(3, .int (nI (i + 1))), (1, .int (x1 + 1)), (0, .ref t), (2, .int (nI o))]) dX3_conflicts_60 3 rfl (iinc1 i) (by decide) rfl ?_
            refine V_goto (tgt := 14) dX3_conflicts_63 (by decide) ?_
            refine V.loc [2, 1, 3, 0] rfl ?_
            exact ih (i + 1) (x1 + 1) (by omega)  hz
  have L4 : ∀ (g o : Nat), ∀ (x1 : Int32), o + g = 16 → K (T_X3_conflicts_L4 kinds players beats sizes  g o x1) → V X mX3_conflicts (zF X mX3_conflicts Z) 0 0 4 [(0, .ref t), (1, .int x1), (2, .int (nI o))] [] h := by
    intro g
    induction g with
    | zero =>
      intro o x1 hi hz
      obtain rfl : o = 16 := by omega
      rw [T_X3_conflicts_L4] at hz
      try dsimp only [tb] at hz
      refine V_iload_n dX3_conflicts_4 2 rfl ?_
      refine V_bipush (v := 16) dX3_conflicts_5 (by decide) ?_
      refine V_icmp_ge (tgt := 72) dX3_conflicts_7 (by decide) (fun _ => ?_) (fun c9 => absurd (by decide) c9)
      refine V_iload_n dX3_conflicts_72 1 rfl ?_
      exact V_iret dX3_conflicts_73 rfl ⟨Nat.le_of_ble_eq_true rfl, Nat.le_of_ble_eq_true rfl⟩ (hK x1 hz)
    | succ g ih =>
      intro o x1 hi hz
      rw [T_X3_conflicts_L4] at hz
      try dsimp only [tb] at hz
      refine V_iload_n dX3_conflicts_4 2 rfl ?_
      refine V_bipush (v := 16) dX3_conflicts_5 (by decide) ?_
      refine V_icmp_ge (tgt := 72) dX3_conflicts_7 (by decide) (fun c9 => absurd c9 (nI_ge (a := o) (b := 16) (by omega) (by omega))) (fun _ => ?_)
      refine V_iload_n dX3_conflicts_10 2 rfl ?_
      refine V_iconst (v := 1) dX3_conflicts_11 (by decide) ?_
      refine V_iadd dX3_conflicts_12 ?_
      rw [show nI o + 1 = nI (o + 1) from nI_1 o]
      refine V_istore_n (lv' := [(3, .int (nI (o + 1))), (0, .ref t), (1, .int x1), (2, .int (nI o))]) dX3_conflicts_13 rfl (by decide) rfl ?_
      refine V.loc [1, 2, 3, 0] rfl ?_
      refine L14 o (by omega) (15 - o) (o + 1) x1 (by omega)  ?_
      refine V_iinc (v := nI (o + 1)) (lv' := [(2, .int (nI (o + 1))), (0, .ref t), (1, .int (T_X3_conflicts_L14 kinds players beats sizes o (15 - o) (o + 1) x1))]) dX3_conflicts_66 2 rfl (iinc1 o) (by decide) rfl ?_
      refine V_goto (tgt := 4) dX3_conflicts_69 (by decide) ?_
      refine V.loc [1, 2, 0] rfl ?_
      exact ih (o + 1) (T_X3_conflicts_L14 kinds players beats sizes o (15 - o) (o + 1) x1) (by omega)  hz
  unfold T_X3_conflicts at hz
  try dsimp only [tb] at hz
  refine V_iconst (v := 0) dX3_conflicts_0 (by decide) ?_
  refine V_istore_n (lv' := [(1, .int 0), (0, .ref t)]) dX3_conflicts_1 rfl (by decide) rfl ?_
  refine V_iconst (v := 0) dX3_conflicts_2 (by decide) ?_
  refine V_istore_n (lv' := [(2, .int 0), (1, .int 0), (0, .ref t)]) dX3_conflicts_3 rfl (by decide) rfl ?_
  refine V.loc [2, 1, 0] rfl ?_
  exact L4 16 0 0 (by omega)  hz
theorem c_X3_conflicts {X : KX} (hxs : X.1.stackTraces = false) {h : AH} {t : Nat} {ids kinds players beats sizes lower higher od : List Int32} {root count : Int32} (hT : IsTree X h t ids kinds players beats sizes lower higher od root count)  : Ct X mX3_conflicts [.ref t] h (zR (some (.int (T_X3_conflicts kinds players beats sizes))) h) := w_X3_conflicts hxs hT   (K := fun r => r = T_X3_conflicts kinds players beats sizes) (fun r e => by subst e; exact ⟨rfl, rfl⟩) rfl
