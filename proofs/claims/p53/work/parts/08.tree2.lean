/-! ===== the tree: its changes ===== -/
def LT16 (L : List Int32) : Prop := ∀ j, vp_in j 16 → rd L j < 16
theorem in16 {x : Int32} (h0 : ¬ x < 0) (h1 : x < 16) : vp_in x 16 := by
  obtain ⟨j, hj, rfl⟩ := nI_of h0
  exact vp_in_nI (by rcases Nat.lt_or_ge j 16 with g | g; exact g; exact absurd h1 (nI_nlt (b := 16) g hj)) (by omega)
theorem in16b {x : Int32} (h0 : 0 ≤ x) (h1 : x < 16) : vp_in x 16 := in16 (Int32.not_lt.mpr h0) h1
def T_X3_joined_L8 (higher : List Int32) (first : Int32) (second : Int32) : Nat → Nat → Int32 → Int32 → Int32 × List Int32
  | 0, i, x3, x4 => (if x3 = (-1) then (second, higher) else (first, (wr higher x3 second)))
  | f + 1, i, x3, x4 => (if x4 < 0 then (if x3 = (-1) then (second, higher) else (first, (wr higher x3 second))) else (if 16 ≤ x4 then (if x3 = (-1) then (second, higher) else (first, (wr higher x3 second))) else T_X3_joined_L8 higher first second f (i + 1) x4 (rd higher x4)))
def T_X3_joined (higher : List Int32) (first : Int32) (second : Int32) : Int32 × List Int32 := T_X3_joined_L8 higher first second 16 0 (-1) first
set_option maxRecDepth 20000 in
set_option maxHeartbeats 2000000 in
theorem w_X3_joined {X : KX} (hxs : X.1.stackTraces = false) {h : AH} {t : Nat} {ids kinds players beats sizes lower higher od : List Int32} {root count : Int32} (hT : IsTree X h t ids kinds players beats sizes lower higher od root count) (first : Int32) (second : Int32) {Z : ZT} {K : Int32 × List Int32 → Prop} (hK : ∀ (r : Int32 × List Int32) (h' : AH), IsTree X h' t ids kinds players beats sizes lower (r.2) od root count → Outs h h' t 9 → K r → Z (.inl (some (.int r.1))) h') (hz : K (T_X3_joined higher first second)) : Ct X mX3_joined [.ref t, .int first, .int second] h Z := by
  refine Ct.of (by decide) rfl (Nat.le_of_ble_eq_true rfl) rfl hxs ?_
  have L8 : ∀ (f i : Nat), ∀ (x3 : Int32), ∀ (x4 : Int32), i + f = 16 → x3 = -1 ∨ vp_in x3 16 → K (T_X3_joined_L8 higher first second  f i x3 x4) → V X mX3_joined (zF X mX3_joined Z) 0 0 8 [(0, .ref t), (1, .int first), (2, .int second), (3, .int x3), (4, .int x4), (5, .int (nI i))] [] h := by
    intro f
    induction f with
    | zero =>
      intro i x3 x4 hi hf2 hz
      obtain rfl : i = 16 := by omega
      rw [T_X3_joined_L8] at hz
      try dsimp only [tb] at hz
      refine V_iload dX3_joined_8 5 rfl ?_
      refine V_bipush (v := 16) dX3_joined_10 (by decide) ?_
      refine V_icmp_ge (tgt := 45) dX3_joined_12 (by decide) (fun _ => ?_) (fun c9 => absurd (by decide) c9)
      refine V_iload_n dX3_joined_45 3 rfl ?_
      refine V_iconst (v := (-1)) dX3_joined_46 (by decide) ?_
      refine V_icmp_ne (tgt := 52) dX3_joined_47 (by decide) (fun c1 => ?_) (fun c1 => ?_)
      · rw [if_neg c1] at hz
        refine V_aload_n dX3_joined_52 0 rfl ?_
        refine gf_tree_higher hT dX3_joined_53 flX3_31 ?_
        refine V_iload_n dX3_joined_56 3 rfl ?_
        refine V_iload_n dX3_joined_57 2 rfl ?_
        refine st_tree_higher hT dX3_joined_58 (by first | assumption | exact isSlot_in (by assumption) | exact hasPerf_in (by assumption) | exact isKind_in (by assumption) | exact in16c (by assumption) (by assumption) | exact in6c (by assumption) (by assumption) | exact Or.resolve_left (by assumption) (by assumption)) (fun h2 hT2 hO2 => ?_)
        refine V_iload_n dX3_joined_59 1 rfl ?_
        exact V_iret dX3_joined_60 rfl ⟨Nat.le_of_ble_eq_true rfl, Nat.le_of_ble_eq_true rfl⟩ (hK (first, (wr higher x3 second)) _ hT2 hO2 hz)
      · rw [if_pos c1] at hz
        refine V_iload_n dX3_joined_50 2 rfl ?_
        exact V_iret dX3_joined_51 rfl ⟨Nat.le_of_ble_eq_true rfl, Nat.le_of_ble_eq_true rfl⟩ (hK (second, higher) _ hT Outs.rf hz)
    | succ f ih =>
      intro i x3 x4 hi hf2 hz
      rw [T_X3_joined_L8] at hz
      try dsimp only [tb] at hz
      refine V_iload dX3_joined_8 5 rfl ?_
      refine V_bipush (v := 16) dX3_joined_10 (by decide) ?_
      refine V_icmp_ge (tgt := 45) dX3_joined_12 (by decide) (fun c9 => absurd c9 (nI_ge (a := i) (b := 16) (by omega) (by omega))) (fun _ => ?_)
      refine V_iload dX3_joined_15 4 rfl ?_
      refine V_if_lt (tgt := 45) dX3_joined_17 (by decide) (fun c3 => ?_) (fun c3 => ?_)
      · rw [if_pos c3] at hz
        refine V_iload_n dX3_joined_45 3 rfl ?_
        refine V_iconst (v := (-1)) dX3_joined_46 (by decide) ?_
        refine V_icmp_ne (tgt := 52) dX3_joined_47 (by decide) (fun c4 => ?_) (fun c4 => ?_)
        · rw [if_neg c4] at hz
          refine V_aload_n dX3_joined_52 0 rfl ?_
          refine gf_tree_higher hT dX3_joined_53 flX3_31 ?_
          refine V_iload_n dX3_joined_56 3 rfl ?_
          refine V_iload_n dX3_joined_57 2 rfl ?_
          refine st_tree_higher hT dX3_joined_58 (by first | assumption | exact isSlot_in (by assumption) | exact hasPerf_in (by assumption) | exact isKind_in (by assumption) | exact in16c (by assumption) (by assumption) | exact in6c (by assumption) (by assumption) | exact Or.resolve_left (by assumption) (by assumption)) (fun h5 hT5 hO5 => ?_)
          refine V_iload_n dX3_joined_59 1 rfl ?_
          exact V_iret dX3_joined_60 rfl ⟨Nat.le_of_ble_eq_true rfl, Nat.le_of_ble_eq_true rfl⟩ (hK (first, (wr higher x3 second)) _ hT5 hO5 hz)
        · rw [if_pos c4] at hz
          refine V_iload_n dX3_joined_50 2 rfl ?_
          exact V_iret dX3_joined_51 rfl ⟨Nat.le_of_ble_eq_true rfl, Nat.le_of_ble_eq_true rfl⟩ (hK (second, higher) _ hT Outs.rf hz)
      · rw [if_neg c3] at hz
        refine V_iload dX3_joined_20 4 rfl ?_
        refine V_bipush (v := 16) dX3_joined_22 (by decide) ?_
        refine V_icmp_ge (tgt := 45) dX3_joined_24 (by decide) (fun c6 => ?_) (fun c6 => ?_)
        · rw [if_pos c6] at hz
          refine V_iload_n dX3_joined_45 3 rfl ?_
          refine V_iconst (v := (-1)) dX3_joined_46 (by decide) ?_
          refine V_icmp_ne (tgt := 52) dX3_joined_47 (by decide) (fun c7 => ?_) (fun c7 => ?_)
          · rw [if_neg c7] at hz
            refine V_aload_n dX3_joined_52 0 rfl ?_
            refine gf_tree_higher hT dX3_joined_53 flX3_31 ?_
            refine V_iload_n dX3_joined_56 3 rfl ?_
            refine V_iload_n dX3_joined_57 2 rfl ?_
            refine st_tree_higher hT dX3_joined_58 (by first | assumption | exact isSlot_in (by assumption) | exact hasPerf_in (by assumption) | exact isKind_in (by assumption) | exact in16c (by assumption) (by assumption) | exact in6c (by assumption) (by assumption) | exact Or.resolve_left (by assumption) (by assumption)) (fun h8 hT8 hO8 => ?_)
            refine V_iload_n dX3_joined_59 1 rfl ?_
            exact V_iret dX3_joined_60 rfl ⟨Nat.le_of_ble_eq_true rfl, Nat.le_of_ble_eq_true rfl⟩ (hK (first, (wr higher x3 second)) _ hT8 hO8 hz)
          · rw [if_pos c7] at hz
            refine V_iload_n dX3_joined_50 2 rfl ?_
            exact V_iret dX3_joined_51 rfl ⟨Nat.le_of_ble_eq_true rfl, Nat.le_of_ble_eq_true rfl⟩ (hK (second, higher) _ hT Outs.rf hz)
        · rw [if_neg c6] at hz
          refine V_iload dX3_joined_27 4 rfl ?_
          refine V_istore_n (lv' := [(3, .int x4), (0, .ref t), (1, .int first), (2, .int second), (4, .int x4), (5, .int (nI i))]) dX3_joined_29 rfl (by decide) rfl ?_
          refine V_aload_n dX3_joined_30 1 rfl ?_
          refine gf_tree_higher hT dX3_joined_31 flX3_31 ?_
          refine V_iload dX3_joined_34 4 rfl ?_
          refine ld_tree_higher hT dX3_joined_36 (by first | assumption | exact isSlot_in (by assumption) | exact hasPerf_in (by assumption) | exact isKind_in (by assumption) | exact in16c (by assumption) (by assumption) | exact in6c (by assumption) (by assumption) | exact Or.resolve_left (by assumption) (by assumption)) ?_
          refine V_istore (lv' := [(4, .int (rd higher x4)), (3, .int x4), (0, .ref t), (1, .int first), (2, .int second), (5, .int (nI i))]) dX3_joined_37 (by decide) rfl ?_
          refine V_iinc (v := nI (i + 1)) (lv' := [(5, .int (nI (i + 1))), (4, .int (rd higher x4)), (3, .int x4), (0, .ref t), (1, .int first), (2, .int second)]) dX3_joined_39 5 rfl (iinc1 i) (by decide) rfl ?_
          refine V_goto (tgt := 8) dX3_joined_42 (by decide) ?_
          refine V.loc [3, 4, 5, 2, 1, 0] rfl ?_
          exact ih (i + 1) x4 (rd higher x4) (by omega) (Or.inr (in16c (by assumption) (by assumption))) hz
  unfold T_X3_joined at hz
  try dsimp only [tb] at hz
  refine V_iconst (v := (-1)) dX3_joined_0 (by decide) ?_
  refine V_istore_n (lv' := [(3, .int (-1)), (0, .ref t), (1, .int first), (2, .int second)]) dX3_joined_1 rfl (by decide) rfl ?_
  refine V_iload_n dX3_joined_2 2 rfl ?_
  refine V_istore (lv' := [(4, .int first), (3, .int (-1)), (0, .ref t), (1, .int first), (2, .int second)]) dX3_joined_3 (by decide) rfl ?_
  refine V_iconst (v := 0) dX3_joined_5 (by decide) ?_
  refine V_istore (lv' := [(5, .int 0), (4, .int first), (3, .int (-1)), (0, .ref t), (1, .int first), (2, .int second)]) dX3_joined_6 (by decide) rfl ?_
  refine V.loc [3, 4, 5, 2, 1, 0] rfl ?_
  exact L8 16 0 (-1) first (by omega) (Or.inl rfl) hz
theorem c_X3_joined {X : KX} (hxs : X.1.stackTraces = false) {h : AH} {t : Nat} {ids kinds players beats sizes lower higher od : List Int32} {root count : Int32} (hT : IsTree X h t ids kinds players beats sizes lower higher od root count) (first : Int32) (second : Int32) : Ct X mX3_joined [.ref t, .int first, .int second] h (zM (some (.int (T_X3_joined higher first second).1)) (fun h' => IsTree X h' t ids kinds players beats sizes lower (T_X3_joined higher first second).2 od root count ∧ Outs h h' t 9)) := w_X3_joined hxs hT first second  (K := fun r => r = T_X3_joined higher first second) (fun r h' a b e => by subst e; exact ⟨rfl, a, b⟩) rfl
def T_X3_unlink_L32 (lower : List Int32) (higher : List Int32) (slot : Int32) : Nat → Nat → List Int32 → List Int32 → Int32 → List Int32 × List Int32 × Int32
  | 0, i, lower0, higher0, root0 => ((wr lower0 slot (-1)), (wr higher0 slot (-1)), root0)
  | f + 1, i, lower0, higher0, root0 => (if (rd lower0 (nI i)) = slot then (if (rd higher0 (nI i)) = slot then T_X3_unlink_L32 lower higher slot f (i + 1) (wr lower0 (nI i) ((T_X3_joined higher (rd lower slot) (rd higher slot)).1)) (wr higher0 (nI i) ((T_X3_joined higher (rd lower slot) (rd higher slot)).1)) root0 else T_X3_unlink_L32 lower higher slot f (i + 1) (wr lower0 (nI i) ((T_X3_joined higher (rd lower slot) (rd higher slot)).1)) higher0 root0) else (if (rd higher0 (nI i)) = slot then T_X3_unlink_L32 lower higher slot f (i + 1) lower0 (wr higher0 (nI i) ((T_X3_joined higher (rd lower slot) (rd higher slot)).1)) root0 else T_X3_unlink_L32 lower higher slot f (i + 1) lower0 higher0 root0))
def T_X3_unlink (lower : List Int32) (higher : List Int32) (root : Int32) (slot : Int32) : List Int32 × List Int32 × Int32 := (if root = slot then T_X3_unlink_L32 lower higher slot 16 0 lower ((T_X3_joined higher (rd lower slot) (rd higher slot)).2) ((T_X3_joined higher (rd lower slot) (rd higher slot)).1) else T_X3_unlink_L32 lower higher slot 16 0 lower ((T_X3_joined higher (rd lower slot) (rd higher slot)).2) root)
set_option maxRecDepth 20000 in
set_option maxHeartbeats 2000000 in
theorem w_X3_unlink {X : KX} (hxs : X.1.stackTraces = false) {h : AH} {t : Nat} {ids kinds players beats sizes lower higher od : List Int32} {root count : Int32} (hT : IsTree X h t ids kinds players beats sizes lower higher od root count) (slot : Int32) (hs : vp_in slot 16) {Z : ZT} {K : List Int32 × List Int32 × Int32 → Prop} (hK : ∀ (r : List Int32 × List Int32 × Int32) (h' : AH), IsTree X h' t ids kinds players beats sizes (r.1) (r.2.1) od (r.2.2) count → Outs h h' t 9 → K r → Z (.inl none) h') (hz : K (T_X3_unlink lower higher root slot)) : Ct X mX3_unlink [.ref t, .int slot] h Z := by
  refine Ct.of (by decide) rfl (Nat.le_of_ble_eq_true rfl) rfl hxs ?_
  have L32 : ∀ (f i : Nat), ∀ (lower0 : List Int32), ∀ (higher0 : List Int32), ∀ (root0 : Int32), i + f = 16 → ∀ {h0 : AH}, IsTree X h0 t ids kinds players beats sizes lower0 higher0 od root0 count → Outs h h0 t 9 → K (T_X3_unlink_L32 lower higher slot  f i lower0 higher0 root0) → V X mX3_unlink (zF X mX3_unlink Z) 0 0 32 [(0, .ref t), (1, .int slot), (2, .int ((T_X3_joined higher (rd lower slot) (rd higher slot)).1)), (3, .int (nI i))] [] h0 := by
    intro f
    induction f with
    | zero =>
      intro i lower0 higher0 root0 hi h0 hT0 hO0 hz
      obtain rfl : i = 16 := by omega
      rw [T_X3_unlink_L32] at hz
      try dsimp only [tb] at hz
      refine V_iload_n dX3_unlink_32 3 rfl ?_
      refine V_bipush (v := 16) dX3_unlink_33 (by decide) ?_
      refine V_icmp_ge (tgt := 78) dX3_unlink_35 (by decide) (fun _ => ?_) (fun c9 => absurd (by decide) c9)
      refine V_aload_n dX3_unlink_78 0 rfl ?_
      refine gf_tree_lower hT0 dX3_unlink_79 flX3_28 ?_
      refine V_iload_n dX3_unlink_82 1 rfl ?_
      refine V_iconst (v := (-1)) dX3_unlink_83 (by decide) ?_
      refine st_tree_lower hT0 dX3_unlink_84 (by first | assumption | exact isSlot_in (by assumption) | exact hasPerf_in (by assumption) | exact isKind_in (by assumption) | exact in16c (by assumption) (by assumption) | exact in6c (by assumption) (by assumption) | exact Or.resolve_left (by assumption) (by assumption)) (fun h4 hT4 hO4 => ?_)
      have hO4 := Outs.tr hO0 hO4
      refine V_aload_n dX3_unlink_85 0 rfl ?_
      refine gf_tree_higher hT4 dX3_unlink_86 flX3_31 ?_
      refine V_iload_n dX3_unlink_89 1 rfl ?_
      refine V_iconst (v := (-1)) dX3_unlink_90 (by decide) ?_
      refine st_tree_higher hT4 dX3_unlink_91 (by first | assumption | exact isSlot_in (by assumption) | exact hasPerf_in (by assumption) | exact isKind_in (by assumption) | exact in16c (by assumption) (by assumption) | exact in6c (by assumption) (by assumption) | exact Or.resolve_left (by assumption) (by assumption)) (fun h5 hT5 hO5 => ?_)
      have hO5 := Outs.tr hO4 hO5
      exact V_vret dX3_unlink_92 rfl ⟨Nat.le_of_ble_eq_true rfl, Nat.le_of_ble_eq_true rfl⟩ (hK ((wr lower0 slot (-1)), (wr higher0 slot (-1)), root0) _ hT5 hO5 hz)
    | succ f ih =>
      intro i lower0 higher0 root0 hi h0 hT0 hO0 hz
      rw [T_X3_unlink_L32] at hz
      try dsimp only [tb] at hz
      refine V_iload_n dX3_unlink_32 3 rfl ?_
      refine V_bipush (v := 16) dX3_unlink_33 (by decide) ?_
      refine V_icmp_ge (tgt := 78) dX3_unlink_35 (by decide) (fun c9 => absurd c9 (nI_ge (a := i) (b := 16) (by omega) (by omega))) (fun _ => ?_)
      refine V_aload_n dX3_unlink_38 0 rfl ?_
      refine gf_tree_lower hT0 dX3_unlink_39 flX3_28 ?_
      refine V_iload_n dX3_unlink_42 3 rfl ?_
      refine ld_tree_lower hT0 dX3_unlink_43 (vp_in_nI (by omega) (by omega)) ?_
      refine V_iload_n dX3_unlink_44 1 rfl ?_
      refine V_icmp_ne (tgt := 55) dX3_unlink_45 (by decide) (fun c6 => ?_) (fun c6 => ?_)
      · rw [if_neg c6] at hz
        refine V_aload_n dX3_unlink_55 0 rfl ?_
        refine gf_tree_higher hT0 dX3_unlink_56 flX3_31 ?_
        refine V_iload_n dX3_unlink_59 3 rfl ?_
        refine ld_tree_higher hT0 dX3_unlink_60 (vp_in_nI (by omega) (by omega)) ?_
        refine V_iload_n dX3_unlink_61 1 rfl ?_
        refine V_icmp_ne (tgt := 72) dX3_unlink_62 (by decide) (fun c7 => ?_) (fun c7 => ?_)
        · rw [if_neg c7] at hz
          refine V_iinc (v := nI (i + 1)) (lv' := [(3, .int (nI (i + 1))), (0, .ref t), (1, .int slot), (2, .int ((T_X3_joined higher (rd lower slot) (rd higher slot)).1))]) dX3_unlink_72 3 rfl (iinc1 i) (by decide) rfl ?_
          refine V_goto (tgt := 32) dX3_unlink_75 (by decide) ?_
          refine V.loc [1, 2, 3, 0] rfl ?_
          exact ih (i + 1) lower0 higher0 root0 (by omega) hT0 hO0 hz
        · rw [if_pos c7] at hz
          refine V_aload_n dX3_unlink_65 0 rfl ?_
          refine gf_tree_higher hT0 dX3_unlink_66 flX3_31 ?_
          refine V_iload_n dX3_unlink_69 3 rfl ?_
          refine V_iload_n dX3_unlink_70 2 rfl ?_
          refine st_tree_higher hT0 dX3_unlink_71 (vp_in_nI (by omega) (by omega)) (fun h8 hT8 hO8 => ?_)
          have hO8 := Outs.tr hO0 hO8
          refine V_iinc (v := nI (i + 1)) (lv' := [(3, .int (nI (i + 1))), (0, .ref t), (1, .int slot), (2, .int ((T_X3_joined higher (rd lower slot) (rd higher slot)).1))]) dX3_unlink_72 3 rfl (iinc1 i) (by decide) rfl ?_
          refine V_goto (tgt := 32) dX3_unlink_75 (by decide) ?_
          refine V.loc [1, 2, 3, 0] rfl ?_
          exact ih (i + 1) lower0 (wr higher0 (nI i) ((T_X3_joined higher (rd lower slot) (rd higher slot)).1)) root0 (by omega) hT8 hO8 hz
      · rw [if_pos c6] at hz
        refine V_aload_n dX3_unlink_48 0 rfl ?_
        refine gf_tree_lower hT0 dX3_unlink_49 flX3_28 ?_
        refine V_iload_n dX3_unlink_52 3 rfl ?_
        refine V_iload_n dX3_unlink_53 2 rfl ?_
        refine st_tree_lower hT0 dX3_unlink_54 (vp_in_nI (by omega) (by omega)) (fun h9 hT9 hO9 => ?_)
        have hO9 := Outs.tr hO0 hO9
        refine V_aload_n dX3_unlink_55 0 rfl ?_
        refine gf_tree_higher hT9 dX3_unlink_56 flX3_31 ?_
        refine V_iload_n dX3_unlink_59 3 rfl ?_
        refine ld_tree_higher hT9 dX3_unlink_60 (vp_in_nI (by omega) (by omega)) ?_
        refine V_iload_n dX3_unlink_61 1 rfl ?_
        refine V_icmp_ne (tgt := 72) dX3_unlink_62 (by decide) (fun c10 => ?_) (fun c10 => ?_)
        · rw [if_neg c10] at hz
          refine V_iinc (v := nI (i + 1)) (lv' := [(3, .int (nI (i + 1))), (0, .ref t), (1, .int slot), (2, .int ((T_X3_joined higher (rd lower slot) (rd higher slot)).1))]) dX3_unlink_72 3 rfl (iinc1 i) (by decide) rfl ?_
          refine V_goto (tgt := 32) dX3_unlink_75 (by decide) ?_
          refine V.loc [1, 2, 3, 0] rfl ?_
          exact ih (i + 1) (wr lower0 (nI i) ((T_X3_joined higher (rd lower slot) (rd higher slot)).1)) higher0 root0 (by omega) hT9 hO9 hz
        · rw [if_pos c10] at hz
          refine V_aload_n dX3_unlink_65 0 rfl ?_
          refine gf_tree_higher hT9 dX3_unlink_66 flX3_31 ?_
          refine V_iload_n dX3_unlink_69 3 rfl ?_
          refine V_iload_n dX3_unlink_70 2 rfl ?_
          refine st_tree_higher hT9 dX3_unlink_71 (vp_in_nI (by omega) (by omega)) (fun h11 hT11 hO11 => ?_)
          have hO11 := Outs.tr hO9 hO11
          refine V_iinc (v := nI (i + 1)) (lv' := [(3, .int (nI (i + 1))), (0, .ref t), (1, .int slot), (2, .int ((T_X3_joined higher (rd lower slot) (rd higher slot)).1))]) dX3_unlink_72 3 rfl (iinc1 i) (by decide) rfl ?_
          refine V_goto (tgt := 32) dX3_unlink_75 (by decide) ?_
          refine V.loc [1, 2, 3, 0] rfl ?_
          exact ih (i + 1) (wr lower0 (nI i) ((T_X3_joined higher (rd lower slot) (rd higher slot)).1)) (wr higher0 (nI i) ((T_X3_joined higher (rd lower slot) (rd higher slot)).1)) root0 (by omega) hT11 hO11 hz
  unfold T_X3_unlink at hz
  try dsimp only [tb] at hz
  refine V_aload_n dX3_unlink_0 0 rfl ?_
  refine V_aload_n dX3_unlink_1 0 rfl ?_
  refine gf_tree_lower hT dX3_unlink_2 flX3_28 ?_
  refine V_iload_n dX3_unlink_5 1 rfl ?_
  refine ld_tree_lower hT dX3_unlink_6 (by first | assumption | exact isSlot_in (by assumption) | exact hasPerf_in (by assumption) | exact isKind_in (by assumption) | exact in16c (by assumption) (by assumption) | exact in6c (by assumption) (by assumption) | exact Or.resolve_left (by assumption) (by assumption)) ?_
  refine V_aload_n dX3_unlink_7 0 rfl ?_
  refine gf_tree_higher hT dX3_unlink_8 flX3_31 ?_
  refine V_iload_n dX3_unlink_11 1 rfl ?_
  refine ld_tree_higher hT dX3_unlink_12 (by first | assumption | exact isSlot_in (by assumption) | exact hasPerf_in (by assumption) | exact isKind_in (by assumption) | exact in16c (by assumption) (by assumption) | exact in6c (by assumption) (by assumption) | exact Or.resolve_left (by assumption) (by assumption)) ?_
  refine V_cVmi (As := [.int (rd lower slot), .int (rd higher slot)]) (rest := []) dX3_unlink_13 cvX3_75 (c_X3_joined hxs hT (rd lower slot) (rd higher slot) ) hT.1 rfl ⟨Nat.le_of_ble_eq_true rfl, Nat.le_of_ble_eq_true rfl, Nat.le_of_ble_eq_true rfl, Nat.le_of_ble_eq_true rfl⟩ (Nat.le_of_ble_eq_true rfl) rfl (fun h9 q9 => ?_)
  obtain ⟨hT9, hO9⟩ := q9
  have hT1 := hT9
  have hO1 := hO9
  refine V_istore_n (lv' := [(2, .int ((T_X3_joined higher (rd lower slot) (rd higher slot)).1)), (0, .ref t), (1, .int slot)]) dX3_unlink_16 rfl (by decide) rfl ?_
  refine V_aload_n dX3_unlink_17 1 rfl ?_
  refine gf_tree_root hT1 dX3_unlink_18 flX3_37 ?_
  refine V_iload_n dX3_unlink_21 2 rfl ?_
  refine V_icmp_ne (tgt := 30) dX3_unlink_22 (by decide) (fun c3 => ?_) (fun c3 => ?_)
  · rw [if_neg c3] at hz
    refine V_iconst (v := 0) dX3_unlink_30 (by decide) ?_
    refine V_istore_n (lv' := [(3, .int 0), (2, .int ((T_X3_joined higher (rd lower slot) (rd higher slot)).1)), (0, .ref t), (1, .int slot)]) dX3_unlink_31 rfl (by decide) rfl ?_
    refine V.loc [2, 3, 1, 0] rfl ?_
    exact L32 16 0 lower ((T_X3_joined higher (rd lower slot) (rd higher slot)).2) root (by omega) hT1 hO1 hz
  · rw [if_pos c3] at hz
    refine V_aload_n dX3_unlink_25 1 rfl ?_
    refine V_iload_n dX3_unlink_26 0 rfl ?_
    refine pf_tree_root hT1 dX3_unlink_27 flX3_37 (fun h12 hT12 hO12 => ?_)
    have hO12 := Outs.tr hO1 hO12
    refine V_iconst (v := 0) dX3_unlink_30 (by decide) ?_
    refine V_istore_n (lv' := [(3, .int 0), (2, .int ((T_X3_joined higher (rd lower slot) (rd higher slot)).1)), (0, .ref t), (1, .int slot)]) dX3_unlink_31 rfl (by decide) rfl ?_
    refine V.loc [2, 3, 1, 0] rfl ?_
    exact L32 16 0 lower ((T_X3_joined higher (rd lower slot) (rd higher slot)).2) ((T_X3_joined higher (rd lower slot) (rd higher slot)).1) (by omega) hT12 hO12 hz
theorem c_X3_unlink {X : KX} (hxs : X.1.stackTraces = false) {h : AH} {t : Nat} {ids kinds players beats sizes lower higher od : List Int32} {root count : Int32} (hT : IsTree X h t ids kinds players beats sizes lower higher od root count) (slot : Int32) (hs : vp_in slot 16) : Ct X mX3_unlink [.ref t, .int slot] h (zM none (fun h' => IsTree X h' t ids kinds players beats sizes (T_X3_unlink lower higher root slot).1 (T_X3_unlink lower higher root slot).2.1 od (T_X3_unlink lower higher root slot).2.2 count ∧ Outs h h' t 9)) := w_X3_unlink hxs hT slot hs (K := fun r => r = T_X3_unlink lower higher root slot) (fun r h' a b e => by subst e; exact ⟨rfl, a, b⟩) rfl
def T_X3_link_L23 (ids : List Int32) (beats : List Int32) (slot : Int32) : Nat → Nat → Int32 → List Int32 → List Int32 → Int32 → List Int32 × List Int32 × Int32
  | 0, i, x2, lower0, higher0, root0 => (lower0, higher0, root0)
  | f + 1, i, x2, lower0, higher0, root0 => (if (T_X3_isSlot x2) = 0 then (lower0, higher0, root0) else (if (T_X3_isBefore ids beats x2 (rd beats slot) (rd ids slot)) = 0 then (if (rd lower0 x2) = (-1) then T_X3_link_L23 ids beats slot f (i + 1) (rd lower0 x2) (wr lower0 x2 slot) higher0 root0 else (if (rd lower0 x2) = (-1) then T_X3_link_L23 ids beats slot f (i + 1) (rd lower0 x2) lower0 (wr higher0 x2 slot) root0 else T_X3_link_L23 ids beats slot f (i + 1) (rd lower0 x2) lower0 higher0 root0)) else (if (rd higher0 x2) = (-1) then (if (rd higher0 x2) = (-1) then T_X3_link_L23 ids beats slot f (i + 1) (rd higher0 x2) lower0 (wr higher0 x2 slot) root0 else T_X3_link_L23 ids beats slot f (i + 1) (rd higher0 x2) lower0 higher0 root0) else (if (rd higher0 x2) = (-1) then T_X3_link_L23 ids beats slot f (i + 1) (rd higher0 x2) lower0 (wr higher0 x2 slot) root0 else T_X3_link_L23 ids beats slot f (i + 1) (rd higher0 x2) lower0 higher0 root0))))
def T_X3_link (ids : List Int32) (beats : List Int32) (lower : List Int32) (higher : List Int32) (root : Int32) (slot : Int32) : List Int32 × List Int32 × Int32 := (if (T_X3_isSlot root) = 0 then (lower, higher, slot) else T_X3_link_L23 ids beats slot 16 0 root lower higher root)
set_option maxRecDepth 20000 in
set_option maxHeartbeats 2000000 in
theorem w_X3_link {X : KX} (hxs : X.1.stackTraces = false) {h : AH} {t : Nat} {ids kinds players beats sizes lower higher od : List Int32} {root count : Int32} (hT : IsTree X h t ids kinds players beats sizes lower higher od root count) (slot : Int32) (hs : vp_in slot 16) {Z : ZT} {K : List Int32 × List Int32 × Int32 → Prop} (hK : ∀ (r : List Int32 × List Int32 × Int32) (h' : AH), IsTree X h' t ids kinds players beats sizes (r.1) (r.2.1) od (r.2.2) count → Outs h h' t 9 → K r → Z (.inl none) h') (hz : K (T_X3_link ids beats lower higher root slot)) : Ct X mX3_link [.ref t, .int slot] h Z := by
  refine Ct.of (by decide) rfl (Nat.le_of_ble_eq_true rfl) rfl hxs ?_
  have L23 : ∀ (f i : Nat), ∀ (x2 : Int32), ∀ (lower0 : List Int32), ∀ (higher0 : List Int32), ∀ (root0 : Int32), i + f = 16 → ∀ {h0 : AH}, IsTree X h0 t ids kinds players beats sizes lower0 higher0 od root0 count → Outs h h0 t 9 → K (T_X3_link_L23 ids beats slot  f i x2 lower0 higher0 root0) → V X mX3_link (zF X mX3_link Z) 0 0 23 [(0, .ref t), (1, .int slot), (2, .int x2), (3, .int (nI i))] [] h0 := by
    intro f
    induction f with
    | zero =>
      intro i x2 lower0 higher0 root0 hi h0 hT0 hO0 hz
      obtain rfl : i = 16 := by omega
      rw [T_X3_link_L23] at hz
      try dsimp only [tb] at hz
      refine V_iload_n dX3_link_23 3 rfl ?_
      refine V_bipush (v := 16) dX3_link_24 (by decide) ?_
      refine V_icmp_ge (tgt := 128) dX3_link_26 (by decide) (fun _ => ?_) (fun c9 => absurd (by decide) c9)
      exact V_vret dX3_link_128 rfl ⟨Nat.le_of_ble_eq_true rfl, Nat.le_of_ble_eq_true rfl⟩ (hK (lower0, higher0, root0) _ hT0 hO0 hz)
    | succ f ih =>
      intro i x2 lower0 higher0 root0 hi h0 hT0 hO0 hz
      rw [T_X3_link_L23] at hz
      try dsimp only [tb] at hz
      refine V_iload_n dX3_link_23 3 rfl ?_
      refine V_bipush (v := 16) dX3_link_24 (by decide) ?_
      refine V_icmp_ge (tgt := 128) dX3_link_26 (by decide) (fun c9 => absurd c9 (nI_ge (a := i) (b := 16) (by omega) (by omega))) (fun _ => ?_)
      refine V_iload_n dX3_link_29 2 rfl ?_
      refine V_cSi (As := [.int x2]) (rest := []) dX3_link_30 cvX3_60 (c_X3_isSlot hxs x2 ) ⟨Nat.le_of_ble_eq_true rfl, Nat.le_of_ble_eq_true rfl, Nat.le_of_ble_eq_true rfl, Nat.le_of_ble_eq_true rfl⟩ (Nat.le_of_ble_eq_true rfl) rfl ?_
      refine V_if_eq (tgt := 128) dX3_link_33 (by decide) (fun c4 => ?_) (fun c4 => ?_)
      · rw [if_pos c4] at hz
        exact V_vret dX3_link_128 rfl ⟨Nat.le_of_ble_eq_true rfl, Nat.le_of_ble_eq_true rfl⟩ (hK (lower0, higher0, root0) _ hT0 hO0 hz)
      · rw [if_neg c4] at hz
        refine V_aload_n dX3_link_36 0 rfl ?_
        refine V_iload_n dX3_link_37 2 rfl ?_
        refine V_aload_n dX3_link_38 0 rfl ?_
        refine gf_tree_beats hT0 dX3_link_39 flX3_22 ?_
        refine V_iload_n dX3_link_42 1 rfl ?_
        refine ld_tree_beats hT0 dX3_link_43 (by first | assumption | exact isSlot_in (by assumption) | exact hasPerf_in (by assumption) | exact isKind_in (by assumption) | exact in16c (by assumption) (by assumption) | exact in6c (by assumption) (by assumption) | exact Or.resolve_left (by assumption) (by assumption)) ?_
        refine V_aload_n dX3_link_44 0 rfl ?_
        refine gf_tree_ids hT0 dX3_link_45 flX3_9 ?_
        refine V_iload_n dX3_link_48 1 rfl ?_
        refine ld_tree_ids hT0 dX3_link_49 (by first | assumption | exact isSlot_in (by assumption) | exact hasPerf_in (by assumption) | exact isKind_in (by assumption) | exact in16c (by assumption) (by assumption) | exact in6c (by assumption) (by assumption) | exact Or.resolve_left (by assumption) (by assumption)) ?_
        refine V_cVi (As := [.int x2, .int (rd beats slot), .int (rd ids slot)]) (rest := []) dX3_link_50 cvX3_71 (c_X3_isBefore hxs hT0 x2 (rd beats slot) (rd ids slot) (by first | assumption | exact isSlot_in (by assumption) | exact hasPerf_in (by assumption) | exact isKind_in (by assumption) | exact in16c (by assumption) (by assumption) | exact in6c (by assumption) (by assumption) | exact Or.resolve_left (by assumption) (by assumption))) hT0.1 rfl ⟨Nat.le_of_ble_eq_true rfl, Nat.le_of_ble_eq_true rfl, Nat.le_of_ble_eq_true rfl, Nat.le_of_ble_eq_true rfl⟩ (Nat.le_of_ble_eq_true rfl) rfl ?_
        refine V_if_ne (tgt := 60) dX3_link_53 (by decide) (fun c6 => ?_) (fun c6 => ?_)
        · rw [if_neg c6] at hz
          refine V_iconst (v := 0) dX3_link_60 (by decide) ?_
          refine V_istore (lv' := [(4, .int 0), (0, .ref t), (1, .int slot), (2, .int x2), (3, .int (nI i))]) dX3_link_61 (by decide) rfl ?_
          refine V_iload dX3_link_63 0 rfl ?_
          refine V_if_eq (tgt := 77) dX3_link_65 (by decide) (fun _ => ?_) (fun c9 => absurd (by decide) c9)
          refine V_aload_n dX3_link_77 1 rfl ?_
          refine gf_tree_higher hT0 dX3_link_78 flX3_31 ?_
          refine V_iload_n dX3_link_81 3 rfl ?_
          refine ld_tree_higher hT0 dX3_link_82 (by first | assumption | exact isSlot_in (by assumption) | exact hasPerf_in (by assumption) | exact isKind_in (by assumption) | exact in16c (by assumption) (by assumption) | exact in6c (by assumption) (by assumption) | exact Or.resolve_left (by assumption) (by assumption)) ?_
          refine V_istore (lv' := [(5, .int (rd higher0 x2)), (4, .int 0), (0, .ref t), (1, .int slot), (2, .int x2), (3, .int (nI i))]) dX3_link_83 (by decide) rfl ?_
          refine V_iload dX3_link_85 0 rfl ?_
          refine V_iconst (v := (-1)) dX3_link_87 (by decide) ?_
          refine V_icmp_ne (tgt := 106) dX3_link_88 (by decide) (fun c7 => ?_) (fun c7 => ?_)
          · rw [if_neg c7] at hz
            refine V_iload dX3_link_106 0 rfl ?_
            refine V_iconst (v := (-1)) dX3_link_108 (by decide) ?_
            refine V_icmp_ne (tgt := 119) dX3_link_109 (by decide) (fun c8 => ?_) (fun c8 => ?_)
            · rw [if_neg c8] at hz
              refine V_iload dX3_link_119 0 rfl ?_
              refine V_istore_n (lv' := [(2, .int (rd higher0 x2)), (5, .int (rd higher0 x2)), (4, .int 0), (0, .ref t), (1, .int slot), (3, .int (nI i))]) dX3_link_121 rfl (by decide) rfl ?_
              refine V_iinc (v := nI (i + 1)) (lv' := [(3, .int (nI (i + 1))), (2, .int (rd higher0 x2)), (5, .int (rd higher0 x2)), (4, .int 0), (0, .ref t), (1, .int slot)]) dX3_link_122 5 rfl (iinc1 i) (by decide) rfl ?_
              refine V_goto (tgt := 23) dX3_link_125 (by decide) ?_
              refine V.loc [4, 5, 1, 0] rfl ?_
              exact ih (i + 1) (rd higher0 x2) lower0 higher0 root0 (by omega) hT0 hO0 hz
            · rw [if_pos c8] at hz
              refine V_aload_n dX3_link_112 2 rfl ?_
              refine gf_tree_higher hT0 dX3_link_113 flX3_31 ?_
              refine V_iload_n dX3_link_116 4 rfl ?_
              refine V_iload_n dX3_link_117 3 rfl ?_
              refine st_tree_higher hT0 dX3_link_118 (by first | assumption | exact isSlot_in (by assumption) | exact hasPerf_in (by assumption) | exact isKind_in (by assumption) | exact in16c (by assumption) (by assumption) | exact in6c (by assumption) (by assumption) | exact Or.resolve_left (by assumption) (by assumption)) (fun h9 hT9 hO9 => ?_)
              have hO9 := Outs.tr hO0 hO9
              refine V_iload dX3_link_119 0 rfl ?_
              refine V_istore_n (lv' := [(2, .int (rd higher0 x2)), (5, .int (rd higher0 x2)), (4, .int 0), (0, .ref t), (1, .int slot), (3, .int (nI i))]) dX3_link_121 rfl (by decide) rfl ?_
              refine V_iinc (v := nI (i + 1)) (lv' := [(3, .int (nI (i + 1))), (2, .int (rd higher0 x2)), (5, .int (rd higher0 x2)), (4, .int 0), (0, .ref t), (1, .int slot)]) dX3_link_122 5 rfl (iinc1 i) (by decide) rfl ?_
              refine V_goto (tgt := 23) dX3_link_125 (by decide) ?_
              refine V.loc [4, 5, 1, 0] rfl ?_
              exact ih (i + 1) (rd higher0 x2) lower0 (wr higher0 x2 slot) root0 (by omega) hT9 hO9 hz
          · rw [if_pos c7] at hz
            refine V_iload dX3_link_91 1 rfl ?_
            refine V_if_eq (tgt := 106) dX3_link_93 (by decide) (fun _ => ?_) (fun c9 => absurd (by decide) c9)
            refine V_iload dX3_link_106 0 rfl ?_
            refine V_iconst (v := (-1)) dX3_link_108 (by decide) ?_
            refine V_icmp_ne (tgt := 119) dX3_link_109 (by decide) (fun c10 => ?_) (fun c10 => ?_)
            · rw [if_neg c10] at hz
              refine V_iload dX3_link_119 0 rfl ?_
              refine V_istore_n (lv' := [(2, .int (rd higher0 x2)), (5, .int (rd higher0 x2)), (4, .int 0), (0, .ref t), (1, .int slot), (3, .int (nI i))]) dX3_link_121 rfl (by decide) rfl ?_
              refine V_iinc (v := nI (i + 1)) (lv' := [(3, .int (nI (i + 1))), (2, .int (rd higher0 x2)), (5, .int (rd higher0 x2)), (4, .int 0), (0, .ref t), (1, .int slot)]) dX3_link_122 5 rfl (iinc1 i) (by decide) rfl ?_
              refine V_goto (tgt := 23) dX3_link_125 (by decide) ?_
              refine V.loc [4, 5, 1, 0] rfl ?_
              exact ih (i + 1) (rd higher0 x2) lower0 higher0 root0 (by omega) hT0 hO0 hz
            · rw [if_pos c10] at hz
              refine V_aload_n dX3_link_112 2 rfl ?_
              refine gf_tree_higher hT0 dX3_link_113 flX3_31 ?_
              refine V_iload_n dX3_link_116 4 rfl ?_
              refine V_iload_n dX3_link_117 3 rfl ?_
              refine st_tree_higher hT0 dX3_link_118 (by first | assumption | exact isSlot_in (by assumption) | exact hasPerf_in (by assumption) | exact isKind_in (by assumption) | exact in16c (by assumption) (by assumption) | exact in6c (by assumption) (by assumption) | exact Or.resolve_left (by assumption) (by assumption)) (fun h11 hT11 hO11 => ?_)
              have hO11 := Outs.tr hO0 hO11
              refine V_iload dX3_link_119 0 rfl ?_
              refine V_istore_n (lv' := [(2, .int (rd higher0 x2)), (5, .int (rd higher0 x2)), (4, .int 0), (0, .ref t), (1, .int slot), (3, .int (nI i))]) dX3_link_121 rfl (by decide) rfl ?_
              refine V_iinc (v := nI (i + 1)) (lv' := [(3, .int (nI (i + 1))), (2, .int (rd higher0 x2)), (5, .int (rd higher0 x2)), (4, .int 0), (0, .ref t), (1, .int slot)]) dX3_link_122 5 rfl (iinc1 i) (by decide) rfl ?_
              refine V_goto (tgt := 23) dX3_link_125 (by decide) ?_
              refine V.loc [4, 5, 1, 0] rfl ?_
              exact ih (i + 1) (rd higher0 x2) lower0 (wr higher0 x2 slot) root0 (by omega) hT11 hO11 hz
        · rw [if_pos c6] at hz
          refine V_iconst (v := 1) dX3_link_56 (by decide) ?_
          refine V_goto (tgt := 61) dX3_link_57 (by decide) ?_
          refine V_istore (lv' := [(4, .int 1), (0, .ref t), (1, .int slot), (2, .int x2), (3, .int (nI i))]) dX3_link_61 (by decide) rfl ?_
          refine V_iload dX3_link_63 0 rfl ?_
          refine V_if_eq (tgt := 77) dX3_link_65 (by decide) (fun c9 => absurd c9 (by decide)) (fun _ => ?_)
          refine V_aload_n dX3_link_68 1 rfl ?_
          refine gf_tree_lower hT0 dX3_link_69 flX3_28 ?_
          refine V_iload_n dX3_link_72 3 rfl ?_
          refine ld_tree_lower hT0 dX3_link_73 (by first | assumption | exact isSlot_in (by assumption) | exact hasPerf_in (by assumption) | exact isKind_in (by assumption) | exact in16c (by assumption) (by assumption) | exact in6c (by assumption) (by assumption) | exact Or.resolve_left (by assumption) (by assumption)) ?_
          refine V_goto (tgt := 83) dX3_link_74 (by decide) ?_
          refine V_istore (lv' := [(5, .int (rd lower0 x2)), (4, .int 1), (0, .ref t), (1, .int slot), (2, .int x2), (3, .int (nI i))]) dX3_link_83 (by decide) rfl ?_
          refine V_iload dX3_link_85 0 rfl ?_
          refine V_iconst (v := (-1)) dX3_link_87 (by decide) ?_
          refine V_icmp_ne (tgt := 106) dX3_link_88 (by decide) (fun c12 => ?_) (fun c12 => ?_)
          · rw [if_neg c12] at hz
            refine V_iload dX3_link_106 0 rfl ?_
            refine V_iconst (v := (-1)) dX3_link_108 (by decide) ?_
            refine V_icmp_ne (tgt := 119) dX3_link_109 (by decide) (fun c13 => ?_) (fun c13 => ?_)
            · rw [if_neg c13] at hz
              refine V_iload dX3_link_119 0 rfl ?_
              refine V_istore_n (lv' := [(2, .int (rd lower0 x2)), (5, .int (rd lower0 x2)), (4, .int 1), (0, .ref t), (1, .int slot), (3, .int (nI i))]) dX3_link_121 rfl (by decide) rfl ?_
              refine V_iinc (v := nI (i + 1)) (lv' := [(3, .int (nI (i + 1))), (2, .int (rd lower0 x2)), (5, .int (rd lower0 x2)), (4, .int 1), (0, .ref t), (1, .int slot)]) dX3_link_122 5 rfl (iinc1 i) (by decide) rfl ?_
              refine V_goto (tgt := 23) dX3_link_125 (by decide) ?_
              refine V.loc [4, 5, 1, 0] rfl ?_
              exact ih (i + 1) (rd lower0 x2) lower0 higher0 root0 (by omega) hT0 hO0 hz
            · rw [if_pos c13] at hz
              refine V_aload_n dX3_link_112 2 rfl ?_
              refine gf_tree_higher hT0 dX3_link_113 flX3_31 ?_
              refine V_iload_n dX3_link_116 4 rfl ?_
              refine V_iload_n dX3_link_117 3 rfl ?_
              refine st_tree_higher hT0 dX3_link_118 (by first | assumption | exact isSlot_in (by assumption) | exact hasPerf_in (by assumption) | exact isKind_in (by assumption) | exact in16c (by assumption) (by assumption) | exact in6c (by assumption) (by assumption) | exact Or.resolve_left (by assumption) (by assumption)) (fun h14 hT14 hO14 => ?_)
              have hO14 := Outs.tr hO0 hO14
              refine V_iload dX3_link_119 0 rfl ?_
              refine V_istore_n (lv' := [(2, .int (rd lower0 x2)), (5, .int (rd lower0 x2)), (4, .int 1), (0, .ref t), (1, .int slot), (3, .int (nI i))]) dX3_link_121 rfl (by decide) rfl ?_
              refine V_iinc (v := nI (i + 1)) (lv' := [(3, .int (nI (i + 1))), (2, .int (rd lower0 x2)), (5, .int (rd lower0 x2)), (4, .int 1), (0, .ref t), (1, .int slot)]) dX3_link_122 5 rfl (iinc1 i) (by decide) rfl ?_
              refine V_goto (tgt := 23) dX3_link_125 (by decide) ?_
              refine V.loc [4, 5, 1, 0] rfl ?_
              exact ih (i + 1) (rd lower0 x2) lower0 (wr higher0 x2 slot) root0 (by omega) hT14 hO14 hz
          · rw [if_pos c12] at hz
            refine V_iload dX3_link_91 1 rfl ?_
            refine V_if_eq (tgt := 106) dX3_link_93 (by decide) (fun c9 => absurd c9 (by decide)) (fun _ => ?_)
            refine V_aload_n dX3_link_96 2 rfl ?_
            refine gf_tree_lower hT0 dX3_link_97 flX3_28 ?_
            refine V_iload_n dX3_link_100 4 rfl ?_
            refine V_iload_n dX3_link_101 3 rfl ?_
            refine st_tree_lower hT0 dX3_link_102 (by first | assumption | exact isSlot_in (by assumption) | exact hasPerf_in (by assumption) | exact isKind_in (by assumption) | exact in16c (by assumption) (by assumption) | exact in6c (by assumption) (by assumption) | exact Or.resolve_left (by assumption) (by assumption)) (fun h15 hT15 hO15 => ?_)
            have hO15 := Outs.tr hO0 hO15
            refine V_goto (tgt := 119) dX3_link_103 (by decide) ?_
            refine V_iload dX3_link_119 0 rfl ?_
            refine V_istore_n (lv' := [(2, .int (rd lower0 x2)), (5, .int (rd lower0 x2)), (4, .int 1), (0, .ref t), (1, .int slot), (3, .int (nI i))]) dX3_link_121 rfl (by decide) rfl ?_
            refine V_iinc (v := nI (i + 1)) (lv' := [(3, .int (nI (i + 1))), (2, .int (rd lower0 x2)), (5, .int (rd lower0 x2)), (4, .int 1), (0, .ref t), (1, .int slot)]) dX3_link_122 5 rfl (iinc1 i) (by decide) rfl ?_
            refine V_goto (tgt := 23) dX3_link_125 (by decide) ?_
            refine V.loc [4, 5, 1, 0] rfl ?_
            exact ih (i + 1) (rd lower0 x2) (wr lower0 x2 slot) higher0 root0 (by omega) hT15 hO15 hz
  unfold T_X3_link at hz
  try dsimp only [tb] at hz
  refine V_aload_n dX3_link_0 0 rfl ?_
  refine gf_tree_root hT dX3_link_1 flX3_37 ?_
  refine V_cSi (As := [.int root]) (rest := []) dX3_link_4 cvX3_60 (c_X3_isSlot hxs root ) ⟨Nat.le_of_ble_eq_true rfl, Nat.le_of_ble_eq_true rfl, Nat.le_of_ble_eq_true rfl, Nat.le_of_ble_eq_true rfl⟩ (Nat.le_of_ble_eq_true rfl) rfl ?_
  refine V_if_ne (tgt := 16) dX3_link_7 (by decide) (fun c2 => ?_) (fun c2 => ?_)
  · rw [if_neg c2] at hz
    refine V_aload_n dX3_link_16 0 rfl ?_
    refine gf_tree_root hT dX3_link_17 flX3_37 ?_
    refine V_istore_n (lv' := [(2, .int root), (0, .ref t), (1, .int slot)]) dX3_link_20 rfl (by decide) rfl ?_
    refine V_iconst (v := 0) dX3_link_21 (by decide) ?_
    refine V_istore_n (lv' := [(3, .int 0), (2, .int root), (0, .ref t), (1, .int slot)]) dX3_link_22 rfl (by decide) rfl ?_
    refine V.loc [2, 3, 1, 0] rfl ?_
    exact L23 16 0 root lower higher root (by omega) hT Outs.rf hz
  · rw [if_pos c2] at hz
    refine V_aload_n dX3_link_10 0 rfl ?_
    refine V_iload_n dX3_link_11 1 rfl ?_
    refine pf_tree_root hT dX3_link_12 flX3_37 (fun h16 hT16 hO16 => ?_)
    exact V_vret dX3_link_15 rfl ⟨Nat.le_of_ble_eq_true rfl, Nat.le_of_ble_eq_true rfl⟩ (hK (lower, higher, slot) _ hT16 hO16 hz)
theorem c_X3_link {X : KX} (hxs : X.1.stackTraces = false) {h : AH} {t : Nat} {ids kinds players beats sizes lower higher od : List Int32} {root count : Int32} (hT : IsTree X h t ids kinds players beats sizes lower higher od root count) (slot : Int32) (hs : vp_in slot 16) : Ct X mX3_link [.ref t, .int slot] h (zM none (fun h' => IsTree X h' t ids kinds players beats sizes (T_X3_link ids beats lower higher root slot).1 (T_X3_link ids beats lower higher root slot).2.1 od (T_X3_link ids beats lower higher root slot).2.2 count ∧ Outs h h' t 9)) := w_X3_link hxs hT slot hs (K := fun r => r = T_X3_link ids beats lower higher root slot) (fun r h' a b e => by subst e; exact ⟨rfl, a, b⟩) rfl
def T_X3_put (ids : List Int32) (kinds : List Int32) (players : List Int32) (beats : List Int32) (sizes : List Int32) (lower : List Int32) (higher : List Int32) (root : Int32) (count : Int32) (id : Int32) (kind : Int32) (player : Int32) (beat : Int32) (size : Int32) : List Int32 × List Int32 × List Int32 × List Int32 × List Int32 × List Int32 × List Int32 × Int32 × Int32 := (if (T_X3_isSlot (T_X3_freeSlot kinds)) = 0 then (ids, kinds, players, beats, sizes, lower, higher, root, count) else ((wr ids (T_X3_freeSlot kinds) id), (wr kinds (T_X3_freeSlot kinds) kind), (wr players (T_X3_freeSlot kinds) player), (wr beats (T_X3_freeSlot kinds) beat), (wr sizes (T_X3_freeSlot kinds) size), (T_X3_link (wr ids (T_X3_freeSlot kinds) id) (wr beats (T_X3_freeSlot kinds) beat) lower higher root (T_X3_freeSlot kinds)).1, (T_X3_link (wr ids (T_X3_freeSlot kinds) id) (wr beats (T_X3_freeSlot kinds) beat) lower higher root (T_X3_freeSlot kinds)).2.1, (T_X3_link (wr ids (T_X3_freeSlot kinds) id) (wr beats (T_X3_freeSlot kinds) beat) lower higher root (T_X3_freeSlot kinds)).2.2, (count + 1)))
set_option maxRecDepth 20000 in
set_option maxHeartbeats 2000000 in
theorem w_X3_put {X : KX} (hxs : X.1.stackTraces = false) {h : AH} {t : Nat} {ids kinds players beats sizes lower higher od : List Int32} {root count : Int32} (hT : IsTree X h t ids kinds players beats sizes lower higher od root count) (id : Int32) (kind : Int32) (player : Int32) (beat : Int32) (size : Int32) (hk : vp_nar .char kind = kind) {Z : ZT} {K : List Int32 × List Int32 × List Int32 × List Int32 × List Int32 × List Int32 × List Int32 × Int32 × Int32 → Prop} (hK : ∀ (r : List Int32 × List Int32 × List Int32 × List Int32 × List Int32 × List Int32 × List Int32 × Int32 × Int32) (h' : AH), IsTree X h' t (r.1) (r.2.1) (r.2.2.1) (r.2.2.2.1) (r.2.2.2.2.1) (r.2.2.2.2.2.1) (r.2.2.2.2.2.2.1) od (r.2.2.2.2.2.2.2.1) (r.2.2.2.2.2.2.2.2) → Outs h h' t 9 → K r → Z (.inl none) h') (hz : K (T_X3_put ids kinds players beats sizes lower higher root count id kind player beat size)) : Ct X mX3_put [.ref t, .int id, .int kind, .int player, .int beat, .int size] h Z := by
  refine Ct.of (by decide) rfl (Nat.le_of_ble_eq_true rfl) rfl hxs ?_
  unfold T_X3_put at hz
  try dsimp only [tb] at hz
  refine V_aload_n dX3_put_0 0 rfl ?_
  refine V_cVi (As := []) (rest := []) dX3_put_1 cvX3_56 (c_X3_freeSlot hxs hT  ) hT.1 rfl ⟨Nat.le_of_ble_eq_true rfl, Nat.le_of_ble_eq_true rfl, Nat.le_of_ble_eq_true rfl, Nat.le_of_ble_eq_true rfl⟩ (Nat.le_of_ble_eq_true rfl) rfl ?_
  refine V_istore (lv' := [(6, .int (T_X3_freeSlot kinds)), (0, .ref t), (1, .int id), (2, .int kind), (3, .int player), (4, .int beat), (5, .int size)]) dX3_put_4 (by decide) rfl ?_
  refine V_iload dX3_put_6 0 rfl ?_
  refine V_cSi (As := [.int (T_X3_freeSlot kinds)]) (rest := []) dX3_put_8 cvX3_60 (c_X3_isSlot hxs (T_X3_freeSlot kinds) ) ⟨Nat.le_of_ble_eq_true rfl, Nat.le_of_ble_eq_true rfl, Nat.le_of_ble_eq_true rfl, Nat.le_of_ble_eq_true rfl⟩ (Nat.le_of_ble_eq_true rfl) rfl ?_
  refine V_if_ne (tgt := 15) dX3_put_11 (by decide) (fun c3 => ?_) (fun c3 => ?_)
  · rw [if_neg c3] at hz
    refine V_aload_n dX3_put_15 1 rfl ?_
    refine gf_tree_ids hT dX3_put_16 flX3_9 ?_
    refine V_iload dX3_put_19 0 rfl ?_
    refine V_iload_n dX3_put_21 2 rfl ?_
    refine st_tree_ids hT dX3_put_22 (by first | assumption | exact isSlot_in (by assumption) | exact hasPerf_in (by assumption) | exact isKind_in (by assumption) | exact in16c (by assumption) (by assumption) | exact in6c (by assumption) (by assumption) | exact Or.resolve_left (by assumption) (by assumption)) (fun h4 hT4 hO4 => ?_)
    refine V_aload_n dX3_put_23 1 rfl ?_
    refine gf_tree_kinds hT4 dX3_put_24 flX3_15 ?_
    refine V_iload dX3_put_27 0 rfl ?_
    refine V_iload_n dX3_put_29 3 rfl ?_
    refine st_tree_kinds hT4 dX3_put_30 (by first | assumption | exact isSlot_in (by assumption) | exact hasPerf_in (by assumption) | exact isKind_in (by assumption) | exact in16c (by assumption) (by assumption) | exact in6c (by assumption) (by assumption) | exact Or.resolve_left (by assumption) (by assumption)) (by first | decide | assumption) (fun h5 hT5 hO5 => ?_)
    have hO5 := Outs.tr hO4 hO5
    refine V_aload_n dX3_put_31 1 rfl ?_
    refine gf_tree_players hT5 dX3_put_32 flX3_19 ?_
    refine V_iload dX3_put_35 0 rfl ?_
    refine V_iload_n dX3_put_37 4 rfl ?_
    refine st_tree_players hT5 dX3_put_38 (by first | assumption | exact isSlot_in (by assumption) | exact hasPerf_in (by assumption) | exact isKind_in (by assumption) | exact in16c (by assumption) (by assumption) | exact in6c (by assumption) (by assumption) | exact Or.resolve_left (by assumption) (by assumption)) (fun h6 hT6 hO6 => ?_)
    have hO6 := Outs.tr hO5 hO6
    refine V_aload_n dX3_put_39 1 rfl ?_
    refine gf_tree_beats hT6 dX3_put_40 flX3_22 ?_
    refine V_iload dX3_put_43 0 rfl ?_
    refine V_iload dX3_put_45 5 rfl ?_
    refine st_tree_beats hT6 dX3_put_47 (by first | assumption | exact isSlot_in (by assumption) | exact hasPerf_in (by assumption) | exact isKind_in (by assumption) | exact in16c (by assumption) (by assumption) | exact in6c (by assumption) (by assumption) | exact Or.resolve_left (by assumption) (by assumption)) (fun h7 hT7 hO7 => ?_)
    have hO7 := Outs.tr hO6 hO7
    refine V_aload_n dX3_put_48 1 rfl ?_
    refine gf_tree_sizes hT7 dX3_put_49 flX3_25 ?_
    refine V_iload dX3_put_52 0 rfl ?_
    refine V_iload dX3_put_54 6 rfl ?_
    refine st_tree_sizes hT7 dX3_put_56 (by first | assumption | exact isSlot_in (by assumption) | exact hasPerf_in (by assumption) | exact isKind_in (by assumption) | exact in16c (by assumption) (by assumption) | exact in6c (by assumption) (by assumption) | exact Or.resolve_left (by assumption) (by assumption)) (fun h8 hT8 hO8 => ?_)
    have hO8 := Outs.tr hO7 hO8
    refine V_aload_n dX3_put_57 1 rfl ?_
    refine V_iload dX3_put_58 0 rfl ?_
    refine V_cVmv (As := [.int (T_X3_freeSlot kinds)]) (rest := []) dX3_put_60 cvX3_64 (c_X3_link hxs hT8 (T_X3_freeSlot kinds) (by first | assumption | exact isSlot_in (by assumption) | exact hasPerf_in (by assumption) | exact isKind_in (by assumption) | exact in16c (by assumption) (by assumption) | exact in6c (by assumption) (by assumption) | exact Or.resolve_left (by assumption) (by assumption))) hT8.1 rfl ⟨Nat.le_of_ble_eq_true rfl, Nat.le_of_ble_eq_true rfl, Nat.le_of_ble_eq_true rfl, Nat.le_of_ble_eq_true rfl⟩ (Nat.le_of_ble_eq_true rfl) rfl (fun h9 q9 => ?_)
    obtain ⟨hT9, hO9⟩ := q9
    have hT9 := hT9
    have hO9 := Outs.tr hO8 hO9
    refine V_aload_n dX3_put_63 1 rfl ?_
    refine V_dup dX3_put_64 rfl ?_
    refine gf_tree_count hT9 dX3_put_65 flX3_41 ?_
    refine V_iconst (v := 1) dX3_put_68 (by decide) ?_
    refine V_iadd dX3_put_69 ?_
    refine pf_tree_count hT9 dX3_put_70 flX3_41 (fun h11 hT11 hO11 => ?_)
    have hO11 := Outs.tr hO9 hO11
    exact V_vret dX3_put_73 rfl ⟨Nat.le_of_ble_eq_true rfl, Nat.le_of_ble_eq_true rfl⟩ (hK ((wr ids (T_X3_freeSlot kinds) id), (wr kinds (T_X3_freeSlot kinds) kind), (wr players (T_X3_freeSlot kinds) player), (wr beats (T_X3_freeSlot kinds) beat), (wr sizes (T_X3_freeSlot kinds) size), (T_X3_link (wr ids (T_X3_freeSlot kinds) id) (wr beats (T_X3_freeSlot kinds) beat) lower higher root (T_X3_freeSlot kinds)).1, (T_X3_link (wr ids (T_X3_freeSlot kinds) id) (wr beats (T_X3_freeSlot kinds) beat) lower higher root (T_X3_freeSlot kinds)).2.1, (T_X3_link (wr ids (T_X3_freeSlot kinds) id) (wr beats (T_X3_freeSlot kinds) beat) lower higher root (T_X3_freeSlot kinds)).2.2, (count + 1)) _ hT11 hO11 hz)
  · rw [if_pos c3] at hz
    exact V_vret dX3_put_14 rfl ⟨Nat.le_of_ble_eq_true rfl, Nat.le_of_ble_eq_true rfl⟩ (hK (ids, kinds, players, beats, sizes, lower, higher, root, count) _ hT Outs.rf hz)
theorem c_X3_put {X : KX} (hxs : X.1.stackTraces = false) {h : AH} {t : Nat} {ids kinds players beats sizes lower higher od : List Int32} {root count : Int32} (hT : IsTree X h t ids kinds players beats sizes lower higher od root count) (id : Int32) (kind : Int32) (player : Int32) (beat : Int32) (size : Int32) (hk : vp_nar .char kind = kind) : Ct X mX3_put [.ref t, .int id, .int kind, .int player, .int beat, .int size] h (zM none (fun h' => IsTree X h' t (T_X3_put ids kinds players beats sizes lower higher root count id kind player beat size).1 (T_X3_put ids kinds players beats sizes lower higher root count id kind player beat size).2.1 (T_X3_put ids kinds players beats sizes lower higher root count id kind player beat size).2.2.1 (T_X3_put ids kinds players beats sizes lower higher root count id kind player beat size).2.2.2.1 (T_X3_put ids kinds players beats sizes lower higher root count id kind player beat size).2.2.2.2.1 (T_X3_put ids kinds players beats sizes lower higher root count id kind player beat size).2.2.2.2.2.1 (T_X3_put ids kinds players beats sizes lower higher root count id kind player beat size).2.2.2.2.2.2.1 od (T_X3_put ids kinds players beats sizes lower higher root count id kind player beat size).2.2.2.2.2.2.2.1 (T_X3_put ids kinds players beats sizes lower higher root count id kind player beat size).2.2.2.2.2.2.2.2 ∧ Outs h h' t 9)) := w_X3_put hxs hT id kind player beat size hk (K := fun r => r = T_X3_put ids kinds players beats sizes lower higher root count id kind player beat size) (fun r h' a b e => by subst e; exact ⟨rfl, a, b⟩) rfl
def T_X3_drop (kinds : List Int32) (lower : List Int32) (higher : List Int32) (root : Int32) (count : Int32) (slot : Int32) : List Int32 × List Int32 × List Int32 × Int32 × Int32 := (if (T_X3_isSlot slot) = 0 then (kinds, lower, higher, root, count) else (if (rd kinds slot) = 0 then (kinds, lower, higher, root, count) else ((wr kinds slot 0), (T_X3_unlink lower higher root slot).1, (T_X3_unlink lower higher root slot).2.1, (T_X3_unlink lower higher root slot).2.2, (count - 1))))
set_option maxRecDepth 20000 in
set_option maxHeartbeats 2000000 in
theorem w_X3_drop {X : KX} (hxs : X.1.stackTraces = false) {h : AH} {t : Nat} {ids kinds players beats sizes lower higher od : List Int32} {root count : Int32} (hT : IsTree X h t ids kinds players beats sizes lower higher od root count) (slot : Int32) {Z : ZT} {K : List Int32 × List Int32 × List Int32 × Int32 × Int32 → Prop} (hK : ∀ (r : List Int32 × List Int32 × List Int32 × Int32 × Int32) (h' : AH), IsTree X h' t ids (r.1) players beats sizes (r.2.1) (r.2.2.1) od (r.2.2.2.1) (r.2.2.2.2) → Outs h h' t 9 → K r → Z (.inl none) h') (hz : K (T_X3_drop kinds lower higher root count slot)) : Ct X mX3_drop [.ref t, .int slot] h Z := by
  refine Ct.of (by decide) rfl (Nat.le_of_ble_eq_true rfl) rfl hxs ?_
  unfold T_X3_drop at hz
  try dsimp only [tb] at hz
  refine V_iload_n dX3_drop_0 1 rfl ?_
  refine V_cSi (As := [.int slot]) (rest := []) dX3_drop_1 cvX3_60 (c_X3_isSlot hxs slot ) ⟨Nat.le_of_ble_eq_true rfl, Nat.le_of_ble_eq_true rfl, Nat.le_of_ble_eq_true rfl, Nat.le_of_ble_eq_true rfl⟩ (Nat.le_of_ble_eq_true rfl) rfl ?_
  refine V_if_eq (tgt := 16) dX3_drop_4 (by decide) (fun c2 => ?_) (fun c2 => ?_)
  · rw [if_pos c2] at hz
    exact V_vret dX3_drop_16 rfl ⟨Nat.le_of_ble_eq_true rfl, Nat.le_of_ble_eq_true rfl⟩ (hK (kinds, lower, higher, root, count) _ hT Outs.rf hz)
  · rw [if_neg c2] at hz
    refine V_aload_n dX3_drop_7 0 rfl ?_
    refine gf_tree_kinds hT dX3_drop_8 flX3_15 ?_
    refine V_iload_n dX3_drop_11 1 rfl ?_
    refine ld_tree_kinds hT dX3_drop_12 (by first | assumption | exact isSlot_in (by assumption) | exact hasPerf_in (by assumption) | exact isKind_in (by assumption) | exact in16c (by assumption) (by assumption) | exact in6c (by assumption) (by assumption) | exact Or.resolve_left (by assumption) (by assumption)) ?_
    refine V_if_ne (tgt := 17) dX3_drop_13 (by decide) (fun c3 => ?_) (fun c3 => ?_)
    · rw [if_neg c3] at hz
      refine V_aload_n dX3_drop_17 0 rfl ?_
      refine V_iload_n dX3_drop_18 1 rfl ?_
      refine V_cVmv (As := [.int slot]) (rest := []) dX3_drop_19 cvX3_68 (c_X3_unlink hxs hT slot (by first | assumption | exact isSlot_in (by assumption) | exact hasPerf_in (by assumption) | exact isKind_in (by assumption) | exact in16c (by assumption) (by assumption) | exact in6c (by assumption) (by assumption) | exact Or.resolve_left (by assumption) (by assumption))) hT.1 rfl ⟨Nat.le_of_ble_eq_true rfl, Nat.le_of_ble_eq_true rfl, Nat.le_of_ble_eq_true rfl, Nat.le_of_ble_eq_true rfl⟩ (Nat.le_of_ble_eq_true rfl) rfl (fun h9 q9 => ?_)
      obtain ⟨hT9, hO9⟩ := q9
      have hT4 := hT9
      have hO4 := hO9
      refine V_aload_n dX3_drop_22 0 rfl ?_
      refine gf_tree_kinds hT4 dX3_drop_23 flX3_15 ?_
      refine V_iload_n dX3_drop_26 1 rfl ?_
      refine V_iconst (v := 0) dX3_drop_27 (by decide) ?_
      refine st_tree_kinds hT4 dX3_drop_28 (by first | assumption | exact isSlot_in (by assumption) | exact hasPerf_in (by assumption) | exact isKind_in (by assumption) | exact in16c (by assumption) (by assumption) | exact in6c (by assumption) (by assumption) | exact Or.resolve_left (by assumption) (by assumption)) (by first | decide | assumption) (fun h6 hT6 hO6 => ?_)
      have hO6 := Outs.tr hO4 hO6
      refine V_aload_n dX3_drop_29 0 rfl ?_
      refine V_dup dX3_drop_30 rfl ?_
      refine gf_tree_count hT6 dX3_drop_31 flX3_41 ?_
      refine V_iconst (v := 1) dX3_drop_34 (by decide) ?_
      refine V_isub dX3_drop_35 ?_
      refine pf_tree_count hT6 dX3_drop_36 flX3_41 (fun h7 hT7 hO7 => ?_)
      have hO7 := Outs.tr hO6 hO7
      exact V_vret dX3_drop_39 rfl ⟨Nat.le_of_ble_eq_true rfl, Nat.le_of_ble_eq_true rfl⟩ (hK ((wr kinds slot 0), (T_X3_unlink lower higher root slot).1, (T_X3_unlink lower higher root slot).2.1, (T_X3_unlink lower higher root slot).2.2, (count - 1)) _ hT7 hO7 hz)
    · rw [if_pos c3] at hz
      exact V_vret dX3_drop_16 rfl ⟨Nat.le_of_ble_eq_true rfl, Nat.le_of_ble_eq_true rfl⟩ (hK (kinds, lower, higher, root, count) _ hT Outs.rf hz)
theorem c_X3_drop {X : KX} (hxs : X.1.stackTraces = false) {h : AH} {t : Nat} {ids kinds players beats sizes lower higher od : List Int32} {root count : Int32} (hT : IsTree X h t ids kinds players beats sizes lower higher od root count) (slot : Int32) : Ct X mX3_drop [.ref t, .int slot] h (zM none (fun h' => IsTree X h' t ids (T_X3_drop kinds lower higher root count slot).1 players beats sizes (T_X3_drop kinds lower higher root count slot).2.1 (T_X3_drop kinds lower higher root count slot).2.2.1 od (T_X3_drop kinds lower higher root count slot).2.2.2.1 (T_X3_drop kinds lower higher root count slot).2.2.2.2 ∧ Outs h h' t 9)) := w_X3_drop hxs hT slot  (K := fun r => r = T_X3_drop kinds lower higher root count slot) (fun r h' a b e => by subst e; exact ⟨rfl, a, b⟩) rfl
def T_X3_shift (ids : List Int32) (beats : List Int32) (lower : List Int32) (higher : List Int32) (root : Int32) (slot : Int32) (beat : Int32) : List Int32 × List Int32 × List Int32 × Int32 := (if (T_X3_isSlot slot) = 0 then (beats, lower, higher, root) else ((wr beats slot beat), (T_X3_link ids (wr beats slot beat) ((T_X3_unlink lower higher root slot).1) ((T_X3_unlink lower higher root slot).2.1) ((T_X3_unlink lower higher root slot).2.2) slot).1, (T_X3_link ids (wr beats slot beat) ((T_X3_unlink lower higher root slot).1) ((T_X3_unlink lower higher root slot).2.1) ((T_X3_unlink lower higher root slot).2.2) slot).2.1, (T_X3_link ids (wr beats slot beat) ((T_X3_unlink lower higher root slot).1) ((T_X3_unlink lower higher root slot).2.1) ((T_X3_unlink lower higher root slot).2.2) slot).2.2))
set_option maxRecDepth 20000 in
set_option maxHeartbeats 2000000 in
theorem w_X3_shift {X : KX} (hxs : X.1.stackTraces = false) {h : AH} {t : Nat} {ids kinds players beats sizes lower higher od : List Int32} {root count : Int32} (hT : IsTree X h t ids kinds players beats sizes lower higher od root count) (slot : Int32) (beat : Int32) {Z : ZT} {K : List Int32 × List Int32 × List Int32 × Int32 → Prop} (hK : ∀ (r : List Int32 × List Int32 × List Int32 × Int32) (h' : AH), IsTree X h' t ids kinds players (r.1) sizes (r.2.1) (r.2.2.1) od (r.2.2.2) count → Outs h h' t 9 → K r → Z (.inl none) h') (hz : K (T_X3_shift ids beats lower higher root slot beat)) : Ct X mX3_shift [.ref t, .int slot, .int beat] h Z := by
  refine Ct.of (by decide) rfl (Nat.le_of_ble_eq_true rfl) rfl hxs ?_
  unfold T_X3_shift at hz
  try dsimp only [tb] at hz
  refine V_iload_n dX3_shift_0 1 rfl ?_
  refine V_cSi (As := [.int slot]) (rest := []) dX3_shift_1 cvX3_60 (c_X3_isSlot hxs slot ) ⟨Nat.le_of_ble_eq_true rfl, Nat.le_of_ble_eq_true rfl, Nat.le_of_ble_eq_true rfl, Nat.le_of_ble_eq_true rfl⟩ (Nat.le_of_ble_eq_true rfl) rfl ?_
  refine V_if_ne (tgt := 8) dX3_shift_4 (by decide) (fun c2 => ?_) (fun c2 => ?_)
  · rw [if_neg c2] at hz
    refine V_aload_n dX3_shift_8 0 rfl ?_
    refine V_iload_n dX3_shift_9 1 rfl ?_
    refine V_cVmv (As := [.int slot]) (rest := []) dX3_shift_10 cvX3_68 (c_X3_unlink hxs hT slot (by first | assumption | exact isSlot_in (by assumption) | exact hasPerf_in (by assumption) | exact isKind_in (by assumption) | exact in16c (by assumption) (by assumption) | exact in6c (by assumption) (by assumption) | exact Or.resolve_left (by assumption) (by assumption))) hT.1 rfl ⟨Nat.le_of_ble_eq_true rfl, Nat.le_of_ble_eq_true rfl, Nat.le_of_ble_eq_true rfl, Nat.le_of_ble_eq_true rfl⟩ (Nat.le_of_ble_eq_true rfl) rfl (fun h9 q9 => ?_)
    obtain ⟨hT9, hO9⟩ := q9
    have hT3 := hT9
    have hO3 := hO9
    refine V_aload_n dX3_shift_13 0 rfl ?_
    refine gf_tree_beats hT3 dX3_shift_14 flX3_22 ?_
    refine V_iload_n dX3_shift_17 1 rfl ?_
    refine V_iload_n dX3_shift_18 2 rfl ?_
    refine st_tree_beats hT3 dX3_shift_19 (by first | assumption | exact isSlot_in (by assumption) | exact hasPerf_in (by assumption) | exact isKind_in (by assumption) | exact in16c (by assumption) (by assumption) | exact in6c (by assumption) (by assumption) | exact Or.resolve_left (by assumption) (by assumption)) (fun h5 hT5 hO5 => ?_)
    have hO5 := Outs.tr hO3 hO5
    refine V_aload_n dX3_shift_20 0 rfl ?_
    refine V_iload_n dX3_shift_21 1 rfl ?_
    refine V_cVmv (As := [.int slot]) (rest := []) dX3_shift_22 cvX3_64 (c_X3_link hxs hT5 slot (by first | assumption | exact isSlot_in (by assumption) | exact hasPerf_in (by assumption) | exact isKind_in (by assumption) | exact in16c (by assumption) (by assumption) | exact in6c (by assumption) (by assumption) | exact Or.resolve_left (by assumption) (by assumption))) hT5.1 rfl ⟨Nat.le_of_ble_eq_true rfl, Nat.le_of_ble_eq_true rfl, Nat.le_of_ble_eq_true rfl, Nat.le_of_ble_eq_true rfl⟩ (Nat.le_of_ble_eq_true rfl) rfl (fun h9 q9 => ?_)
    obtain ⟨hT9, hO9⟩ := q9
    have hT6 := hT9
    have hO6 := Outs.tr hO5 hO9
    exact V_vret dX3_shift_25 rfl ⟨Nat.le_of_ble_eq_true rfl, Nat.le_of_ble_eq_true rfl⟩ (hK ((wr beats slot beat), (T_X3_link ids (wr beats slot beat) ((T_X3_unlink lower higher root slot).1) ((T_X3_unlink lower higher root slot).2.1) ((T_X3_unlink lower higher root slot).2.2) slot).1, (T_X3_link ids (wr beats slot beat) ((T_X3_unlink lower higher root slot).1) ((T_X3_unlink lower higher root slot).2.1) ((T_X3_unlink lower higher root slot).2.2) slot).2.1, (T_X3_link ids (wr beats slot beat) ((T_X3_unlink lower higher root slot).1) ((T_X3_unlink lower higher root slot).2.1) ((T_X3_unlink lower higher root slot).2.2) slot).2.2) _ hT6 hO6 hz)
  · rw [if_pos c2] at hz
    exact V_vret dX3_shift_7 rfl ⟨Nat.le_of_ble_eq_true rfl, Nat.le_of_ble_eq_true rfl⟩ (hK (beats, lower, higher, root) _ hT Outs.rf hz)
theorem c_X3_shift {X : KX} (hxs : X.1.stackTraces = false) {h : AH} {t : Nat} {ids kinds players beats sizes lower higher od : List Int32} {root count : Int32} (hT : IsTree X h t ids kinds players beats sizes lower higher od root count) (slot : Int32) (beat : Int32) : Ct X mX3_shift [.ref t, .int slot, .int beat] h (zM none (fun h' => IsTree X h' t ids kinds players (T_X3_shift ids beats lower higher root slot beat).1 sizes (T_X3_shift ids beats lower higher root slot beat).2.1 (T_X3_shift ids beats lower higher root slot beat).2.2.1 od (T_X3_shift ids beats lower higher root slot beat).2.2.2 count ∧ Outs h h' t 9)) := w_X3_shift hxs hT slot beat  (K := fun r => r = T_X3_shift ids beats lower higher root slot beat) (fun r h' a b e => by subst e; exact ⟨rfl, a, b⟩) rfl
def T_X3_listThrough_L9 (ids : List Int32) (beats : List Int32) (lower : List Int32) (higher : List Int32) (root : Int32) (lastBeat : Int32) : Nat → Nat → Int32 → List Int32 → Int32 × List Int32
  | 0, i, x3, od0 => (nI 16, od0)
  | f + 1, i, x3, od0 => (if (T_X3_isSlot x3) = 0 then (nI i, od0) else (if lastBeat < (rd beats x3) then (nI i, od0) else T_X3_listThrough_L9 ids beats lower higher root lastBeat f (i + 1) (T_X3_firstNotBefore ids beats lower higher root (rd beats x3) ((rd ids x3) + 1)) (wr od0 (nI i) x3)))
def T_X3_listThrough (ids : List Int32) (beats : List Int32) (lower : List Int32) (higher : List Int32) (od : List Int32) (root : Int32) (lastBeat : Int32) : Int32 × List Int32 := T_X3_listThrough_L9 ids beats lower higher root lastBeat 16 0 (T_X3_firstNotBefore ids beats lower higher root 0 0) od
set_option maxRecDepth 20000 in
set_option maxHeartbeats 2000000 in
theorem w_X3_listThrough {X : KX} (hxs : X.1.stackTraces = false) {h : AH} {t : Nat} {ids kinds players beats sizes lower higher od : List Int32} {root count : Int32} (hT : IsTree X h t ids kinds players beats sizes lower higher od root count) (lastBeat : Int32) {Z : ZT} {K : Int32 × List Int32 → Prop} (hK : ∀ (r : Int32 × List Int32) (h' : AH), IsTree X h' t ids kinds players beats sizes lower higher (r.2) root count → Outs h h' t 9 → K r → Z (.inl (some (.int r.1))) h') (hz : K (T_X3_listThrough ids beats lower higher od root lastBeat)) : Ct X mX3_listThrough [.ref t, .int lastBeat] h Z := by
  refine Ct.of (by decide) rfl (Nat.le_of_ble_eq_true rfl) rfl hxs ?_
  have L9 : ∀ (f i : Nat), ∀ (x3 : Int32), ∀ (od0 : List Int32), i + f = 16 → ∀ {h0 : AH}, IsTree X h0 t ids kinds players beats sizes lower higher od0 root count → Outs h h0 t 9 → K (T_X3_listThrough_L9 ids beats lower higher root lastBeat  f i x3 od0) → V X mX3_listThrough (zF X mX3_listThrough Z) 0 0 9 [(0, .ref t), (1, .int lastBeat), (2, .int (nI i)), (3, .int x3)] [] h0 := by
    intro f
    induction f with
    | zero =>
      intro i x3 od0 hi h0 hT0 hO0 hz
      obtain rfl : i = 16 := by omega
      rw [T_X3_listThrough_L9] at hz
      try dsimp only [tb] at hz
      refine V_iload_n dX3_listThrough_9 2 rfl ?_
      refine V_bipush (v := 16) dX3_listThrough_10 (by decide) ?_
      refine V_icmp_ge (tgt := 64) dX3_listThrough_12 (by decide) (fun _ => ?_) (fun c9 => absurd (by decide) c9)
      refine V_iload_n dX3_listThrough_64 2 rfl ?_
      exact V_iret dX3_listThrough_65 rfl ⟨Nat.le_of_ble_eq_true rfl, Nat.le_of_ble_eq_true rfl⟩ (hK (nI 16, od0) _ hT0 hO0 hz)
    | succ f ih =>
      intro i x3 od0 hi h0 hT0 hO0 hz
      rw [T_X3_listThrough_L9] at hz
      try dsimp only [tb] at hz
      refine V_iload_n dX3_listThrough_9 2 rfl ?_
      refine V_bipush (v := 16) dX3_listThrough_10 (by decide) ?_
      refine V_icmp_ge (tgt := 64) dX3_listThrough_12 (by decide) (fun c9 => absurd c9 (nI_ge (a := i) (b := 16) (by omega) (by omega))) (fun _ => ?_)
      refine V_iload_n dX3_listThrough_15 3 rfl ?_
      refine V_cSi (As := [.int x3]) (rest := []) dX3_listThrough_16 cvX3_60 (c_X3_isSlot hxs x3 ) ⟨Nat.le_of_ble_eq_true rfl, Nat.le_of_ble_eq_true rfl, Nat.le_of_ble_eq_true rfl, Nat.le_of_ble_eq_true rfl⟩ (Nat.le_of_ble_eq_true rfl) rfl ?_
      refine V_if_eq (tgt := 64) dX3_listThrough_19 (by decide) (fun c3 => ?_) (fun c3 => ?_)
      · rw [if_pos c3] at hz
        refine V_iload_n dX3_listThrough_64 2 rfl ?_
        exact V_iret dX3_listThrough_65 rfl ⟨Nat.le_of_ble_eq_true rfl, Nat.le_of_ble_eq_true rfl⟩ (hK (nI i, od0) _ hT0 hO0 hz)
      · rw [if_neg c3] at hz
        refine V_aload_n dX3_listThrough_22 0 rfl ?_
        refine gf_tree_beats hT0 dX3_listThrough_23 flX3_22 ?_
        refine V_iload_n dX3_listThrough_26 3 rfl ?_
        refine ld_tree_beats hT0 dX3_listThrough_27 (by first | assumption | exact isSlot_in (by assumption) | exact hasPerf_in (by assumption) | exact isKind_in (by assumption) | exact in16c (by assumption) (by assumption) | exact in6c (by assumption) (by assumption) | exact Or.resolve_left (by assumption) (by assumption)) ?_
        refine V_iload_n dX3_listThrough_28 1 rfl ?_
        refine V_icmp_gt (tgt := 64) dX3_listThrough_29 (by decide) (fun c4 => ?_) (fun c4 => ?_)
        · rw [if_pos c4] at hz
          refine V_iload_n dX3_listThrough_64 2 rfl ?_
          exact V_iret dX3_listThrough_65 rfl ⟨Nat.le_of_ble_eq_true rfl, Nat.le_of_ble_eq_true rfl⟩ (hK (nI i, od0) _ hT0 hO0 hz)
        · rw [if_neg c4] at hz
          refine V_aload_n dX3_listThrough_32 0 rfl ?_
          refine gf_tree_od hT0 dX3_listThrough_33 flX3_34 ?_
          refine V_iload_n dX3_listThrough_36 2 rfl ?_
          refine V_iload_n dX3_listThrough_37 3 rfl ?_
          refine st_tree_od hT0 dX3_listThrough_38 (vp_in_nI (by omega) (by omega)) (fun h5 hT5 hO5 => ?_)
          have hO5 := Outs.tr hO0 hO5
          refine V_iinc (v := nI (i + 1)) (lv' := [(2, .int (nI (i + 1))), (0, .ref t), (1, .int lastBeat), (3, .int x3)]) dX3_listThrough_39 2 rfl (iinc1 i) (by decide) rfl ?_
          refine V_aload_n dX3_listThrough_42 1 rfl ?_
          refine V_aload_n dX3_listThrough_43 1 rfl ?_
          refine gf_tree_beats hT5 dX3_listThrough_44 flX3_22 ?_
          refine V_iload_n dX3_listThrough_47 3 rfl ?_
          refine ld_tree_beats hT5 dX3_listThrough_48 (by first | assumption | exact isSlot_in (by assumption) | exact hasPerf_in (by assumption) | exact isKind_in (by assumption) | exact in16c (by assumption) (by assumption) | exact in6c (by assumption) (by assumption) | exact Or.resolve_left (by assumption) (by assumption)) ?_
          refine V_aload_n dX3_listThrough_49 1 rfl ?_
          refine gf_tree_ids hT5 dX3_listThrough_50 flX3_9 ?_
          refine V_iload_n dX3_listThrough_53 3 rfl ?_
          refine ld_tree_ids hT5 dX3_listThrough_54 (by first | assumption | exact isSlot_in (by assumption) | exact hasPerf_in (by assumption) | exact isKind_in (by assumption) | exact in16c (by assumption) (by assumption) | exact in6c (by assumption) (by assumption) | exact Or.resolve_left (by assumption) (by assumption)) ?_
          refine V_iconst (v := 1) dX3_listThrough_55 (by decide) ?_
          refine V_iadd dX3_listThrough_56 ?_
          refine V_cVi (As := [.int (rd beats x3), .int ((rd ids x3) + 1)]) (rest := []) dX3_listThrough_57 cvX3_79 (c_X3_firstNotBefore hxs hT5 (rd beats x3) ((rd ids x3) + 1) ) hT5.1 rfl ⟨Nat.le_of_ble_eq_true rfl, Nat.le_of_ble_eq_true rfl, Nat.le_of_ble_eq_true rfl, Nat.le_of_ble_eq_true rfl⟩ (Nat.le_of_ble_eq_true rfl) rfl ?_
          refine V_istore_n (lv' := [(3, .int (T_X3_firstNotBefore ids beats lower higher root (rd beats x3) ((rd ids x3) + 1))), (2, .int (nI (i + 1))), (0, .ref t), (1, .int lastBeat)]) dX3_listThrough_60 rfl (by decide) rfl ?_
          refine V_goto (tgt := 9) dX3_listThrough_61 (by decide) ?_
          refine V.loc [2, 3, 1, 0] rfl ?_
          exact ih (i + 1) (T_X3_firstNotBefore ids beats lower higher root (rd beats x3) ((rd ids x3) + 1)) (wr od0 (nI i) x3) (by omega) hT5 hO5 hz
  unfold T_X3_listThrough at hz
  try dsimp only [tb] at hz
  refine V_iconst (v := 0) dX3_listThrough_0 (by decide) ?_
  refine V_istore_n (lv' := [(2, .int 0), (0, .ref t), (1, .int lastBeat)]) dX3_listThrough_1 rfl (by decide) rfl ?_
  refine V_aload_n dX3_listThrough_2 1 rfl ?_
  refine V_iconst (v := 0) dX3_listThrough_3 (by decide) ?_
  refine V_iconst (v := 0) dX3_listThrough_4 (by decide) ?_
  refine V_cVi (As := [.int 0, .int 0]) (rest := []) dX3_listThrough_5 cvX3_79 (c_X3_firstNotBefore hxs hT 0 0 ) hT.1 rfl ⟨Nat.le_of_ble_eq_true rfl, Nat.le_of_ble_eq_true rfl, Nat.le_of_ble_eq_true rfl, Nat.le_of_ble_eq_true rfl⟩ (Nat.le_of_ble_eq_true rfl) rfl ?_
  refine V_istore_n (lv' := [(3, .int (T_X3_firstNotBefore ids beats lower higher root 0 0)), (2, .int 0), (0, .ref t), (1, .int lastBeat)]) dX3_listThrough_8 rfl (by decide) rfl ?_
  refine V.loc [2, 3, 1, 0] rfl ?_
  exact L9 16 0 (T_X3_firstNotBefore ids beats lower higher root 0 0) od (by omega) hT Outs.rf hz
theorem c_X3_listThrough {X : KX} (hxs : X.1.stackTraces = false) {h : AH} {t : Nat} {ids kinds players beats sizes lower higher od : List Int32} {root count : Int32} (hT : IsTree X h t ids kinds players beats sizes lower higher od root count) (lastBeat : Int32) : Ct X mX3_listThrough [.ref t, .int lastBeat] h (zM (some (.int (T_X3_listThrough ids beats lower higher od root lastBeat).1)) (fun h' => IsTree X h' t ids kinds players beats sizes lower higher (T_X3_listThrough ids beats lower higher od root lastBeat).2 root count ∧ Outs h h' t 9)) := w_X3_listThrough hxs hT lastBeat  (K := fun r => r = T_X3_listThrough ids beats lower higher od root lastBeat) (fun r h' a b e => by subst e; exact ⟨rfl, a, b⟩) rfl
def T_X3_slotAt (ids : List Int32) (beats : List Int32) (lower : List Int32) (higher : List Int32) (od : List Int32) (root : Int32) (rank : Int32) : Int32 × List Int32 := (tb (T_X3_listThrough ids beats lower higher od root 199) fun r2 => (if rank < 0 then ((-1), r2.2) else (if r2.1 ≤ rank then ((-1), r2.2) else (if 16 ≤ rank then ((-1), r2.2) else ((rd r2.2 rank), r2.2)))))
set_option maxRecDepth 20000 in
set_option maxHeartbeats 2000000 in
theorem w_X3_slotAt {X : KX} (hxs : X.1.stackTraces = false) {h : AH} {t : Nat} {ids kinds players beats sizes lower higher od : List Int32} {root count : Int32} (hT : IsTree X h t ids kinds players beats sizes lower higher od root count) (rank : Int32) {Z : ZT} {K : Int32 × List Int32 → Prop} (hK : ∀ (r : Int32 × List Int32) (h' : AH), IsTree X h' t ids kinds players beats sizes lower higher (r.2) root count → Outs h h' t 9 → K r → Z (.inl (some (.int r.1))) h') (hz : K (T_X3_slotAt ids beats lower higher od root rank)) : Ct X mX3_slotAt [.ref t, .int rank] h Z := by
  refine Ct.of (by decide) rfl (Nat.le_of_ble_eq_true rfl) rfl hxs ?_
  unfold T_X3_slotAt at hz
  try dsimp only [tb] at hz
  refine V_aload_n dX3_slotAt_0 0 rfl ?_
  refine V_sipush (v := 199) dX3_slotAt_1 (by decide) ?_
  refine V_cVmi (As := [.int 199]) (rest := []) dX3_slotAt_4 cvX3_82 (c_X3_listThrough hxs hT 199 ) hT.1 rfl ⟨Nat.le_of_ble_eq_true rfl, Nat.le_of_ble_eq_true rfl, Nat.le_of_ble_eq_true rfl, Nat.le_of_ble_eq_true rfl⟩ (Nat.le_of_ble_eq_true rfl) rfl (fun h9 q9 => ?_)
  obtain ⟨hT9, hO9⟩ := q9
  have hO1 := hO9
  generalize T_X3_listThrough ids beats lower higher od root 199 = r2 at hT9 hz ⊢
  refine V_istore_n (lv' := [(2, .int r2.1), (0, .ref t), (1, .int rank)]) dX3_slotAt_7 rfl (by decide) rfl ?_
  refine V_iload_n dX3_slotAt_8 2 rfl ?_
  refine V_if_lt (tgt := 32) dX3_slotAt_9 (by decide) (fun c3 => ?_) (fun c3 => ?_)
  · rw [if_pos c3] at hz
    refine V_iconst (v := (-1)) dX3_slotAt_32 (by decide) ?_
    exact V_iret dX3_slotAt_33 rfl ⟨Nat.le_of_ble_eq_true rfl, Nat.le_of_ble_eq_true rfl⟩ (hK ((-1), r2.2) _ hT9 hO1 hz)
  · rw [if_neg c3] at hz
    refine V_iload_n dX3_slotAt_12 2 rfl ?_
    refine V_iload_n dX3_slotAt_13 0 rfl ?_
    refine V_icmp_ge (tgt := 32) dX3_slotAt_14 (by decide) (fun c4 => ?_) (fun c4 => ?_)
    · rw [if_pos c4] at hz
      refine V_iconst (v := (-1)) dX3_slotAt_32 (by decide) ?_
      exact V_iret dX3_slotAt_33 rfl ⟨Nat.le_of_ble_eq_true rfl, Nat.le_of_ble_eq_true rfl⟩ (hK ((-1), r2.2) _ hT9 hO1 hz)
    · rw [if_neg c4] at hz
      refine V_iload_n dX3_slotAt_17 2 rfl ?_
      refine V_bipush (v := 16) dX3_slotAt_18 (by decide) ?_
      refine V_icmp_ge (tgt := 32) dX3_slotAt_20 (by decide) (fun c5 => ?_) (fun c5 => ?_)
      · rw [if_pos c5] at hz
        refine V_iconst (v := (-1)) dX3_slotAt_32 (by decide) ?_
        exact V_iret dX3_slotAt_33 rfl ⟨Nat.le_of_ble_eq_true rfl, Nat.le_of_ble_eq_true rfl⟩ (hK ((-1), r2.2) _ hT9 hO1 hz)
      · rw [if_neg c5] at hz
        refine V_aload_n dX3_slotAt_23 1 rfl ?_
        refine gf_tree_od hT9 dX3_slotAt_24 flX3_34 ?_
        refine V_iload_n dX3_slotAt_27 2 rfl ?_
        refine ld_tree_od hT9 dX3_slotAt_28 (by first | assumption | exact isSlot_in (by assumption) | exact hasPerf_in (by assumption) | exact isKind_in (by assumption) | exact in16c (by assumption) (by assumption) | exact in6c (by assumption) (by assumption) | exact Or.resolve_left (by assumption) (by assumption)) ?_
        refine V_goto (tgt := 33) dX3_slotAt_29 (by decide) ?_
        exact V_iret dX3_slotAt_33 rfl ⟨Nat.le_of_ble_eq_true rfl, Nat.le_of_ble_eq_true rfl⟩ (hK ((rd r2.2 rank), r2.2) _ hT9 hO1 hz)
theorem c_X3_slotAt {X : KX} (hxs : X.1.stackTraces = false) {h : AH} {t : Nat} {ids kinds players beats sizes lower higher od : List Int32} {root count : Int32} (hT : IsTree X h t ids kinds players beats sizes lower higher od root count) (rank : Int32) : Ct X mX3_slotAt [.ref t, .int rank] h (zM (some (.int (T_X3_slotAt ids beats lower higher od root rank).1)) (fun h' => IsTree X h' t ids kinds players beats sizes lower higher (T_X3_slotAt ids beats lower higher od root rank).2 root count ∧ Outs h h' t 9)) := w_X3_slotAt hxs hT rank  (K := fun r => r = T_X3_slotAt ids beats lower higher od root rank) (fun r h' a b e => by subst e; exact ⟨rfl, a, b⟩) rfl
