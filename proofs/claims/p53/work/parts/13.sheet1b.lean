def T_X6_join (perf : Int32) : Int32 × Int32 := (if perf < 6 then (((perf + 1) - 1), (perf + 1)) else ((-1), perf))
set_option maxRecDepth 20000 in
set_option maxHeartbeats 2000000 in
theorem w_X6_join {X : KX} (hxs : X.1.stackTraces = false) {h : AH} {s : Nat} {ids kinds players beats sizes lower higher od owed mends : List Int32} {root count perf nid beat act lim hend hbt happ clash imp paid : Int32} (hT : IsSheet X h s ids kinds players beats sizes lower higher od root count owed mends perf nid beat act lim hend hbt happ clash imp paid)  {Z : ZT} {K : Int32 × Int32 → Prop} (hK : ∀ (r : Int32 × Int32) (h' : AH), IsSheet X h' s ids kinds players beats sizes lower higher od root count owed mends (r.2) nid beat act lim hend hbt happ clash imp paid → Outs h h' s 12 → K r → Z (.inl (some (.int r.1))) h') (hz : K (T_X6_join perf)) : Ct X mX6_join [.ref s] h Z := by
  refine Ct.of (by decide) rfl (Nat.le_of_ble_eq_true rfl) rfl hxs ?_
  unfold T_X6_join at hz
  try dsimp only [tb] at hz
  refine V_aload_n dX6_join_0 0 rfl ?_
  refine gf_sheet_perf hT dX6_join_1 flX6_25 ?_
  refine V_bipush (v := 6) dX6_join_4 (by decide) ?_
  refine V_icmp_lt (tgt := 11) dX6_join_6 (by decide) (fun c1 => ?_) (fun c1 => ?_)
  · rw [if_pos c1] at hz
    refine V_aload_n dX6_join_11 0 rfl ?_
    refine V_dup dX6_join_12 rfl ?_
    refine gf_sheet_perf hT dX6_join_13 flX6_25 ?_
    refine V_iconst (v := 1) dX6_join_16 (by decide) ?_
    refine V_iadd dX6_join_17 ?_
    refine pf_sheet_perf hT dX6_join_18 flX6_25 (fun h2 hT2 hO2 => ?_)
    refine V_aload_n dX6_join_21 0 rfl ?_
    refine gf_sheet_perf hT2 dX6_join_22 flX6_25 ?_
    refine V_iconst (v := 1) dX6_join_25 (by decide) ?_
    refine V_isub dX6_join_26 ?_
    exact V_iret dX6_join_27 rfl ⟨Nat.le_of_ble_eq_true rfl, Nat.le_of_ble_eq_true rfl⟩ (hK (((perf + 1) - 1), (perf + 1)) _ hT2 hO2 hz)
  · rw [if_neg c1] at hz
    refine V_iconst (v := (-1)) dX6_join_9 (by decide) ?_
    exact V_iret dX6_join_10 rfl ⟨Nat.le_of_ble_eq_true rfl, Nat.le_of_ble_eq_true rfl⟩ (hK ((-1), perf) _ hT Outs.rf hz)
theorem c_X6_join {X : KX} (hxs : X.1.stackTraces = false) {h : AH} {s : Nat} {ids kinds players beats sizes lower higher od owed mends : List Int32} {root count perf nid beat act lim hend hbt happ clash imp paid : Int32} (hT : IsSheet X h s ids kinds players beats sizes lower higher od root count owed mends perf nid beat act lim hend hbt happ clash imp paid)  : Ct X mX6_join [.ref s] h (zM (some (.int (T_X6_join perf).1)) (fun h' => IsSheet X h' s ids kinds players beats sizes lower higher od root count owed mends (T_X6_join perf).2 nid beat act lim hend hbt happ clash imp paid ∧ Outs h h' s 12)) := w_X6_join hxs hT   (K := fun r => r = T_X6_join perf) (fun r h' a b e => by subst e; exact ⟨rfl, a, b⟩) rfl
def T_X6_pay (owed : List Int32) (perf : Int32) (paid : Int32) (performer : Int32) (coins : Int32) : Int32 × List Int32 × Int32 := (if (T_X6_hasPerformer perf performer) = 0 then ((-1), owed, paid) else (if coins < 1 then ((-2), owed, paid) else (if coins ≤ 99 then (if coins ≤ (rd owed performer) then ((rd (wr owed performer ((rd owed performer) - coins)) performer), (wr owed performer ((rd owed performer) - coins)), (paid + coins)) else ((-3), owed, paid)) else ((-2), owed, paid))))
set_option maxRecDepth 20000 in
set_option maxHeartbeats 2000000 in
theorem w_X6_pay {X : KX} (hxs : X.1.stackTraces = false) {h : AH} {s : Nat} {ids kinds players beats sizes lower higher od owed mends : List Int32} {root count perf nid beat act lim hend hbt happ clash imp paid : Int32} (hT : IsSheet X h s ids kinds players beats sizes lower higher od root count owed mends perf nid beat act lim hend hbt happ clash imp paid) (performer : Int32) (coins : Int32) {Z : ZT} {K : Int32 × List Int32 × Int32 → Prop} (hK : ∀ (r : Int32 × List Int32 × Int32) (h' : AH), IsSheet X h' s ids kinds players beats sizes lower higher od root count (r.2.1) mends perf nid beat act lim hend hbt happ clash imp (r.2.2) → Outs h h' s 12 → K r → Z (.inl (some (.int r.1))) h') (hz : K (T_X6_pay owed perf paid performer coins)) : Ct X mX6_pay [.ref s, .int performer, .int coins] h Z := by
  refine Ct.of (by decide) rfl (Nat.le_of_ble_eq_true rfl) rfl hxs ?_
  unfold T_X6_pay at hz
  try dsimp only [tb] at hz
  refine V_aload_n dX6_pay_0 0 rfl ?_
  refine V_iload_n dX6_pay_1 1 rfl ?_
  refine V_cVi (As := [.int performer]) (rest := []) dX6_pay_2 cvX6_75 (c_X6_hasPerformer hxs hT performer ) hT.1 rfl ⟨Nat.le_of_ble_eq_true rfl, Nat.le_of_ble_eq_true rfl, Nat.le_of_ble_eq_true rfl, Nat.le_of_ble_eq_true rfl⟩ (Nat.le_of_ble_eq_true rfl) rfl ?_
  refine V_if_ne (tgt := 10) dX6_pay_5 (by decide) (fun c2 => ?_) (fun c2 => ?_)
  · rw [if_neg c2] at hz
    refine V_iload_n dX6_pay_10 2 rfl ?_
    refine V_iconst (v := 1) dX6_pay_11 (by decide) ?_
    refine V_icmp_lt (tgt := 21) dX6_pay_12 (by decide) (fun c3 => ?_) (fun c3 => ?_)
    · rw [if_pos c3] at hz
      refine V_bipush (v := (-2)) dX6_pay_21 (by decide) ?_
      exact V_iret dX6_pay_23 rfl ⟨Nat.le_of_ble_eq_true rfl, Nat.le_of_ble_eq_true rfl⟩ (hK ((-2), owed, paid) _ hT Outs.rf hz)
    · rw [if_neg c3] at hz
      refine V_iload_n dX6_pay_15 2 rfl ?_
      refine V_bipush (v := 99) dX6_pay_16 (by decide) ?_
      refine V_icmp_le (tgt := 24) dX6_pay_18 (by decide) (fun c4 => ?_) (fun c4 => ?_)
      · rw [if_pos c4] at hz
        refine V_iload_n dX6_pay_24 2 rfl ?_
        refine V_aload_n dX6_pay_25 0 rfl ?_
        refine gf_sheet_owed hT dX6_pay_26 flX6_18 ?_
        refine V_iload_n dX6_pay_29 1 rfl ?_
        refine ld_sheet_owed hT dX6_pay_30 (by first | assumption | exact isSlot_in (by assumption) | exact hasPerf_in (by assumption) | exact isKind_in (by assumption) | exact in16c (by assumption) (by assumption) | exact in6c (by assumption) (by assumption) | exact Or.resolve_left (by assumption) (by assumption)) ?_
        refine V_icmp_le (tgt := 37) dX6_pay_31 (by decide) (fun c5 => ?_) (fun c5 => ?_)
        · rw [if_pos c5] at hz
          refine V_aload_n dX6_pay_37 0 rfl ?_
          refine gf_sheet_owed hT dX6_pay_38 flX6_18 ?_
          refine V_iload_n dX6_pay_41 1 rfl ?_
          refine V_dup2_11 dX6_pay_42 rfl rfl ?_
          refine ld_sheet_owed hT dX6_pay_43 (by first | assumption | exact isSlot_in (by assumption) | exact hasPerf_in (by assumption) | exact isKind_in (by assumption) | exact in16c (by assumption) (by assumption) | exact in6c (by assumption) (by assumption) | exact Or.resolve_left (by assumption) (by assumption)) ?_
          refine V_iload_n dX6_pay_44 2 rfl ?_
          refine V_isub dX6_pay_45 ?_
          refine st_sheet_owed hT dX6_pay_46 (by first | assumption | exact isSlot_in (by assumption) | exact hasPerf_in (by assumption) | exact isKind_in (by assumption) | exact in16c (by assumption) (by assumption) | exact in6c (by assumption) (by assumption) | exact Or.resolve_left (by assumption) (by assumption)) (fun h6 hT6 hO6 => ?_)
          refine V_aload_n dX6_pay_47 0 rfl ?_
          refine V_dup dX6_pay_48 rfl ?_
          refine gf_sheet_paid hT6 dX6_pay_49 flX6_56 ?_
          refine V_iload_n dX6_pay_52 2 rfl ?_
          refine V_iadd dX6_pay_53 ?_
          refine pf_sheet_paid hT6 dX6_pay_54 flX6_56 (fun h7 hT7 hO7 => ?_)
          have hO7 := Outs.tr hO6 hO7
          refine V_aload_n dX6_pay_57 0 rfl ?_
          refine gf_sheet_owed hT7 dX6_pay_58 flX6_18 ?_
          refine V_iload_n dX6_pay_61 1 rfl ?_
          refine ld_sheet_owed hT7 dX6_pay_62 (by first | assumption | exact isSlot_in (by assumption) | exact hasPerf_in (by assumption) | exact isKind_in (by assumption) | exact in16c (by assumption) (by assumption) | exact in6c (by assumption) (by assumption) | exact Or.resolve_left (by assumption) (by assumption)) ?_
          exact V_iret dX6_pay_63 rfl ⟨Nat.le_of_ble_eq_true rfl, Nat.le_of_ble_eq_true rfl⟩ (hK ((rd (wr owed performer ((rd owed performer) - coins)) performer), (wr owed performer ((rd owed performer) - coins)), (paid + coins)) _ hT7 hO7 hz)
        · rw [if_neg c5] at hz
          refine V_bipush (v := (-3)) dX6_pay_34 (by decide) ?_
          exact V_iret dX6_pay_36 rfl ⟨Nat.le_of_ble_eq_true rfl, Nat.le_of_ble_eq_true rfl⟩ (hK ((-3), owed, paid) _ hT Outs.rf hz)
      · rw [if_neg c4] at hz
        refine V_bipush (v := (-2)) dX6_pay_21 (by decide) ?_
        exact V_iret dX6_pay_23 rfl ⟨Nat.le_of_ble_eq_true rfl, Nat.le_of_ble_eq_true rfl⟩ (hK ((-2), owed, paid) _ hT Outs.rf hz)
  · rw [if_pos c2] at hz
    refine V_iconst (v := (-1)) dX6_pay_8 (by decide) ?_
    exact V_iret dX6_pay_9 rfl ⟨Nat.le_of_ble_eq_true rfl, Nat.le_of_ble_eq_true rfl⟩ (hK ((-1), owed, paid) _ hT Outs.rf hz)
theorem c_X6_pay {X : KX} (hxs : X.1.stackTraces = false) {h : AH} {s : Nat} {ids kinds players beats sizes lower higher od owed mends : List Int32} {root count perf nid beat act lim hend hbt happ clash imp paid : Int32} (hT : IsSheet X h s ids kinds players beats sizes lower higher od root count owed mends perf nid beat act lim hend hbt happ clash imp paid) (performer : Int32) (coins : Int32) : Ct X mX6_pay [.ref s, .int performer, .int coins] h (zM (some (.int (T_X6_pay owed perf paid performer coins).1)) (fun h' => IsSheet X h' s ids kinds players beats sizes lower higher od root count (T_X6_pay owed perf paid performer coins).2.1 mends perf nid beat act lim hend hbt happ clash imp (T_X6_pay owed perf paid performer coins).2.2 ∧ Outs h h' s 12)) := w_X6_pay hxs hT performer coins  (K := fun r => r = T_X6_pay owed perf paid performer coins) (fun r h' a b e => by subst e; exact ⟨rfl, a, b⟩) rfl
def T_X6_impose (owed : List Int32) (perf : Int32) (imp : Int32) (performer : Int32) (fine : Int32) : List Int32 × Int32 := (if (T_X6_hasPerformer perf performer) = 0 then (owed, imp) else ((wr owed performer ((rd owed performer) + fine)), (imp + fine)))
set_option maxRecDepth 20000 in
set_option maxHeartbeats 2000000 in
theorem w_X6_impose {X : KX} (hxs : X.1.stackTraces = false) {h : AH} {s : Nat} {ids kinds players beats sizes lower higher od owed mends : List Int32} {root count perf nid beat act lim hend hbt happ clash imp paid : Int32} (hT : IsSheet X h s ids kinds players beats sizes lower higher od root count owed mends perf nid beat act lim hend hbt happ clash imp paid) (performer : Int32) (fine : Int32) {Z : ZT} {K : List Int32 × Int32 → Prop} (hK : ∀ (r : List Int32 × Int32) (h' : AH), IsSheet X h' s ids kinds players beats sizes lower higher od root count (r.1) mends perf nid beat act lim hend hbt happ clash (r.2) paid → Outs h h' s 12 → K r → Z (.inl none) h') (hz : K (T_X6_impose owed perf imp performer fine)) : Ct X mX6_impose [.ref s, .int performer, .int fine] h Z := by
  refine Ct.of (by decide) rfl (Nat.le_of_ble_eq_true rfl) rfl hxs ?_
  unfold T_X6_impose at hz
  try dsimp only [tb] at hz
  refine V_aload_n dX6_impose_0 0 rfl ?_
  refine V_iload_n dX6_impose_1 1 rfl ?_
  refine V_cVi (As := [.int performer]) (rest := []) dX6_impose_2 cvX6_75 (c_X6_hasPerformer hxs hT performer ) hT.1 rfl ⟨Nat.le_of_ble_eq_true rfl, Nat.le_of_ble_eq_true rfl, Nat.le_of_ble_eq_true rfl, Nat.le_of_ble_eq_true rfl⟩ (Nat.le_of_ble_eq_true rfl) rfl ?_
  refine V_if_eq (tgt := 28) dX6_impose_5 (by decide) (fun c2 => ?_) (fun c2 => ?_)
  · rw [if_pos c2] at hz
    exact V_vret dX6_impose_28 rfl ⟨Nat.le_of_ble_eq_true rfl, Nat.le_of_ble_eq_true rfl⟩ (hK (owed, imp) _ hT Outs.rf hz)
  · rw [if_neg c2] at hz
    refine V_aload_n dX6_impose_8 0 rfl ?_
    refine gf_sheet_owed hT dX6_impose_9 flX6_18 ?_
    refine V_iload_n dX6_impose_12 1 rfl ?_
    refine V_dup2_11 dX6_impose_13 rfl rfl ?_
    refine ld_sheet_owed hT dX6_impose_14 (by first | assumption | exact isSlot_in (by assumption) | exact hasPerf_in (by assumption) | exact isKind_in (by assumption) | exact in16c (by assumption) (by assumption) | exact in6c (by assumption) (by assumption) | exact Or.resolve_left (by assumption) (by assumption)) ?_
    refine V_iload_n dX6_impose_15 2 rfl ?_
    refine V_iadd dX6_impose_16 ?_
    refine st_sheet_owed hT dX6_impose_17 (by first | assumption | exact isSlot_in (by assumption) | exact hasPerf_in (by assumption) | exact isKind_in (by assumption) | exact in16c (by assumption) (by assumption) | exact in6c (by assumption) (by assumption) | exact Or.resolve_left (by assumption) (by assumption)) (fun h3 hT3 hO3 => ?_)
    refine V_aload_n dX6_impose_18 0 rfl ?_
    refine V_dup dX6_impose_19 rfl ?_
    refine gf_sheet_imp hT3 dX6_impose_20 flX6_53 ?_
    refine V_iload_n dX6_impose_23 2 rfl ?_
    refine V_iadd dX6_impose_24 ?_
    refine pf_sheet_imp hT3 dX6_impose_25 flX6_53 (fun h4 hT4 hO4 => ?_)
    have hO4 := Outs.tr hO3 hO4
    exact V_vret dX6_impose_28 rfl ⟨Nat.le_of_ble_eq_true rfl, Nat.le_of_ble_eq_true rfl⟩ (hK ((wr owed performer ((rd owed performer) + fine)), (imp + fine)) _ hT4 hO4 hz)
theorem c_X6_impose {X : KX} (hxs : X.1.stackTraces = false) {h : AH} {s : Nat} {ids kinds players beats sizes lower higher od owed mends : List Int32} {root count perf nid beat act lim hend hbt happ clash imp paid : Int32} (hT : IsSheet X h s ids kinds players beats sizes lower higher od root count owed mends perf nid beat act lim hend hbt happ clash imp paid) (performer : Int32) (fine : Int32) : Ct X mX6_impose [.ref s, .int performer, .int fine] h (zM none (fun h' => IsSheet X h' s ids kinds players beats sizes lower higher od root count (T_X6_impose owed perf imp performer fine).1 mends perf nid beat act lim hend hbt happ clash (T_X6_impose owed perf imp performer fine).2 paid ∧ Outs h h' s 12)) := w_X6_impose hxs hT performer fine  (K := fun r => r = T_X6_impose owed perf imp performer fine) (fun r h' a b e => by subst e; exact ⟨rfl, a, b⟩) rfl
def T_X6_isSilent (kinds : List Int32) (beats : List Int32) (sizes : List Int32) (beat : Int32) (hend : Int32) (candidate : Int32) : Int32 := (if candidate < beat then 0 else (if candidate ≤ hend then 1 else (if (T_X3_isHushDue kinds beats sizes candidate) = 0 then 0 else 1)))
set_option maxRecDepth 20000 in
set_option maxHeartbeats 2000000 in
theorem w_X6_isSilent {X : KX} (hxs : X.1.stackTraces = false) {h : AH} {s : Nat} {ids kinds players beats sizes lower higher od owed mends : List Int32} {root count perf nid beat act lim hend hbt happ clash imp paid : Int32} (hT : IsSheet X h s ids kinds players beats sizes lower higher od root count owed mends perf nid beat act lim hend hbt happ clash imp paid) (candidate : Int32) {Z : ZT} {K : Int32 → Prop} (hK : ∀ r : Int32, K r → Z (.inl (some (.int r))) h) (hz : K (T_X6_isSilent kinds beats sizes beat hend candidate)) : Ct X mX6_isSilent [.ref s, .int candidate] h Z := by
  refine Ct.of (by decide) rfl (Nat.le_of_ble_eq_true rfl) rfl hxs ?_
  unfold T_X6_isSilent at hz
  try dsimp only [tb] at hz
  refine V_iload_n dX6_isSilent_0 1 rfl ?_
  refine V_aload_n dX6_isSilent_1 0 rfl ?_
  refine gf_sheet_beat hT dX6_isSilent_2 flX6_32 ?_
  refine V_icmp_lt (tgt := 31) dX6_isSilent_5 (by decide) (fun c1 => ?_) (fun c1 => ?_)
  · rw [if_pos c1] at hz
    refine V_iconst (v := 0) dX6_isSilent_31 (by decide) ?_
    exact V_zret dX6_isSilent_32 rfl bN0 ⟨Nat.le_of_ble_eq_true rfl, Nat.le_of_ble_eq_true rfl⟩ (hK 0 hz)
  · rw [if_neg c1] at hz
    refine V_iload_n dX6_isSilent_8 1 rfl ?_
    refine V_aload_n dX6_isSilent_9 0 rfl ?_
    refine gf_sheet_hend hT dX6_isSilent_10 flX6_41 ?_
    refine V_icmp_le (tgt := 27) dX6_isSilent_13 (by decide) (fun c2 => ?_) (fun c2 => ?_)
    · rw [if_pos c2] at hz
      refine V_iconst (v := 1) dX6_isSilent_27 (by decide) ?_
      refine V_goto (tgt := 32) dX6_isSilent_28 (by decide) ?_
      exact V_zret dX6_isSilent_32 rfl bN1 ⟨Nat.le_of_ble_eq_true rfl, Nat.le_of_ble_eq_true rfl⟩ (hK 1 hz)
    · rw [if_neg c2] at hz
      refine V_aload_n dX6_isSilent_16 0 rfl ?_
      refine gf_sheet_cues hT dX6_isSilent_17 flX6_12 ?_
      refine V_iload_n dX6_isSilent_20 1 rfl ?_
      refine V_cVi (As := [.int candidate]) (rest := []) dX6_isSilent_21 cvX6_184 (c_X3_isHushDue hxs hT.2.1 candidate ) hT.2.1.1 rfl ⟨Nat.le_of_ble_eq_true rfl, Nat.le_of_ble_eq_true rfl, Nat.le_of_ble_eq_true rfl, Nat.le_of_ble_eq_true rfl⟩ (Nat.le_of_ble_eq_true rfl) rfl ?_
      refine V_if_eq (tgt := 31) dX6_isSilent_24 (by decide) (fun c4 => ?_) (fun c4 => ?_)
      · rw [if_pos c4] at hz
        refine V_iconst (v := 0) dX6_isSilent_31 (by decide) ?_
        exact V_zret dX6_isSilent_32 rfl bN0 ⟨Nat.le_of_ble_eq_true rfl, Nat.le_of_ble_eq_true rfl⟩ (hK 0 hz)
      · rw [if_neg c4] at hz
        refine V_iconst (v := 1) dX6_isSilent_27 (by decide) ?_
        refine V_goto (tgt := 32) dX6_isSilent_28 (by decide) ?_
        exact V_zret dX6_isSilent_32 rfl bN1 ⟨Nat.le_of_ble_eq_true rfl, Nat.le_of_ble_eq_true rfl⟩ (hK 1 hz)
theorem c_X6_isSilent {X : KX} (hxs : X.1.stackTraces = false) {h : AH} {s : Nat} {ids kinds players beats sizes lower higher od owed mends : List Int32} {root count perf nid beat act lim hend hbt happ clash imp paid : Int32} (hT : IsSheet X h s ids kinds players beats sizes lower higher od root count owed mends perf nid beat act lim hend hbt happ clash imp paid) (candidate : Int32) : Ct X mX6_isSilent [.ref s, .int candidate] h (zR (some (.int (T_X6_isSilent kinds beats sizes beat hend candidate))) h) := w_X6_isSilent hxs hT candidate  (K := fun r => r = T_X6_isSilent kinds beats sizes beat hend candidate) (fun r e => by subst e; exact ⟨rfl, rfl⟩) rfl
def T_X6_isTooLoud (lim : Int32) (noise : Int32) (hushed : Int32) : Int32 := (if hushed = 0 then (if noise ≤ lim then 0 else 1) else (if noise ≤ 0 then 0 else 1))
set_option maxRecDepth 20000 in
set_option maxHeartbeats 2000000 in
theorem w_X6_isTooLoud {X : KX} (hxs : X.1.stackTraces = false) {h : AH} {s : Nat} {ids kinds players beats sizes lower higher od owed mends : List Int32} {root count perf nid beat act lim hend hbt happ clash imp paid : Int32} (hT : IsSheet X h s ids kinds players beats sizes lower higher od root count owed mends perf nid beat act lim hend hbt happ clash imp paid) (noise : Int32) (hushed : Int32) {Z : ZT} {K : Int32 → Prop} (hK : ∀ r : Int32, K r → Z (.inl (some (.int r))) h) (hz : K (T_X6_isTooLoud lim noise hushed)) : Ct X mX6_isTooLoud [.ref s, .int noise, .int hushed] h Z := by
  refine Ct.of (by decide) rfl (Nat.le_of_ble_eq_true rfl) rfl hxs ?_
  unfold T_X6_isTooLoud at hz
  try dsimp only [tb] at hz
  refine V_iload_n dX6_isTooLoud_0 1 rfl ?_
  refine V_iload_n dX6_isTooLoud_1 2 rfl ?_
  refine V_if_eq (tgt := 9) dX6_isTooLoud_2 (by decide) (fun c1 => ?_) (fun c1 => ?_)
  · rw [if_pos c1] at hz
    refine V_aload_n dX6_isTooLoud_9 0 rfl ?_
    refine gf_sheet_lim hT dX6_isTooLoud_10 flX6_38 ?_
    refine V_icmp_le (tgt := 20) dX6_isTooLoud_13 (by decide) (fun c2 => ?_) (fun c2 => ?_)
    · rw [if_pos c2] at hz
      refine V_iconst (v := 0) dX6_isTooLoud_20 (by decide) ?_
      exact V_zret dX6_isTooLoud_21 rfl bN0 ⟨Nat.le_of_ble_eq_true rfl, Nat.le_of_ble_eq_true rfl⟩ (hK 0 hz)
    · rw [if_neg c2] at hz
      refine V_iconst (v := 1) dX6_isTooLoud_16 (by decide) ?_
      refine V_goto (tgt := 21) dX6_isTooLoud_17 (by decide) ?_
      exact V_zret dX6_isTooLoud_21 rfl bN1 ⟨Nat.le_of_ble_eq_true rfl, Nat.le_of_ble_eq_true rfl⟩ (hK 1 hz)
  · rw [if_neg c1] at hz
    refine V_iconst (v := 0) dX6_isTooLoud_5 (by decide) ?_
    refine V_goto (tgt := 13) dX6_isTooLoud_6 (by decide) ?_
    refine V_icmp_le (tgt := 20) dX6_isTooLoud_13 (by decide) (fun c3 => ?_) (fun c3 => ?_)
    · rw [if_pos c3] at hz
      refine V_iconst (v := 0) dX6_isTooLoud_20 (by decide) ?_
      exact V_zret dX6_isTooLoud_21 rfl bN0 ⟨Nat.le_of_ble_eq_true rfl, Nat.le_of_ble_eq_true rfl⟩ (hK 0 hz)
    · rw [if_neg c3] at hz
      refine V_iconst (v := 1) dX6_isTooLoud_16 (by decide) ?_
      refine V_goto (tgt := 21) dX6_isTooLoud_17 (by decide) ?_
      exact V_zret dX6_isTooLoud_21 rfl bN1 ⟨Nat.le_of_ble_eq_true rfl, Nat.le_of_ble_eq_true rfl⟩ (hK 1 hz)
theorem c_X6_isTooLoud {X : KX} (hxs : X.1.stackTraces = false) {h : AH} {s : Nat} {ids kinds players beats sizes lower higher od owed mends : List Int32} {root count perf nid beat act lim hend hbt happ clash imp paid : Int32} (hT : IsSheet X h s ids kinds players beats sizes lower higher od root count owed mends perf nid beat act lim hend hbt happ clash imp paid) (noise : Int32) (hushed : Int32) : Ct X mX6_isTooLoud [.ref s, .int noise, .int hushed] h (zR (some (.int (T_X6_isTooLoud lim noise hushed))) h) := w_X6_isTooLoud hxs hT noise hushed  (K := fun r => r = T_X6_isTooLoud lim noise hushed) (fun r e => by subst e; exact ⟨rfl, rfl⟩) rfl
def T_X6_hiss (kinds : List Int32) (beats : List Int32) (sizes : List Int32) (owed : List Int32) (perf : Int32) (beat : Int32) (hend : Int32) (imp : Int32) (performer : Int32) (loudness : Int32) : Int32 × List Int32 × Int32 := (if (T_X6_hasPerformer perf performer) = 0 then ((-1), owed, imp) else (if loudness < 1 then ((-2), owed, imp) else (if loudness ≤ 3 then (if (T_X6_isSilent kinds beats sizes beat hend beat) = 0 then (0, (T_X6_impose owed perf imp performer 0).1, (T_X6_impose owed perf imp performer 0).2) else ((2 * loudness), (T_X6_impose owed perf imp performer (2 * loudness)).1, (T_X6_impose owed perf imp performer (2 * loudness)).2)) else ((-2), owed, imp))))
set_option maxRecDepth 20000 in
set_option maxHeartbeats 2000000 in
theorem w_X6_hiss {X : KX} (hxs : X.1.stackTraces = false) {h : AH} {s : Nat} {ids kinds players beats sizes lower higher od owed mends : List Int32} {root count perf nid beat act lim hend hbt happ clash imp paid : Int32} (hT : IsSheet X h s ids kinds players beats sizes lower higher od root count owed mends perf nid beat act lim hend hbt happ clash imp paid) (performer : Int32) (loudness : Int32) {Z : ZT} {K : Int32 × List Int32 × Int32 → Prop} (hK : ∀ (r : Int32 × List Int32 × Int32) (h' : AH), IsSheet X h' s ids kinds players beats sizes lower higher od root count (r.2.1) mends perf nid beat act lim hend hbt happ clash (r.2.2) paid → Outs h h' s 12 → K r → Z (.inl (some (.int r.1))) h') (hz : K (T_X6_hiss kinds beats sizes owed perf beat hend imp performer loudness)) : Ct X mX6_hiss [.ref s, .int performer, .int loudness] h Z := by
  refine Ct.of (by decide) rfl (Nat.le_of_ble_eq_true rfl) rfl hxs ?_
  unfold T_X6_hiss at hz
  try dsimp only [tb] at hz
  refine V_aload_n dX6_hiss_0 0 rfl ?_
  refine V_iload_n dX6_hiss_1 1 rfl ?_
  refine V_cVi (As := [.int performer]) (rest := []) dX6_hiss_2 cvX6_75 (c_X6_hasPerformer hxs hT performer ) hT.1 rfl ⟨Nat.le_of_ble_eq_true rfl, Nat.le_of_ble_eq_true rfl, Nat.le_of_ble_eq_true rfl, Nat.le_of_ble_eq_true rfl⟩ (Nat.le_of_ble_eq_true rfl) rfl ?_
  refine V_if_ne (tgt := 10) dX6_hiss_5 (by decide) (fun c2 => ?_) (fun c2 => ?_)
  · rw [if_neg c2] at hz
    refine V_iload_n dX6_hiss_10 2 rfl ?_
    refine V_iconst (v := 1) dX6_hiss_11 (by decide) ?_
    refine V_icmp_lt (tgt := 20) dX6_hiss_12 (by decide) (fun c3 => ?_) (fun c3 => ?_)
    · rw [if_pos c3] at hz
      refine V_bipush (v := (-2)) dX6_hiss_20 (by decide) ?_
      exact V_iret dX6_hiss_22 rfl ⟨Nat.le_of_ble_eq_true rfl, Nat.le_of_ble_eq_true rfl⟩ (hK ((-2), owed, imp) _ hT Outs.rf hz)
    · rw [if_neg c3] at hz
      refine V_iload_n dX6_hiss_15 2 rfl ?_
      refine V_iconst (v := 3) dX6_hiss_16 (by decide) ?_
      refine V_icmp_le (tgt := 23) dX6_hiss_17 (by decide) (fun c4 => ?_) (fun c4 => ?_)
      · rw [if_pos c4] at hz
        refine V_aload_n dX6_hiss_23 0 rfl ?_
        refine V_aload_n dX6_hiss_24 0 rfl ?_
        refine gf_sheet_beat hT dX6_hiss_25 flX6_32 ?_
        refine V_cVi (As := [.int beat]) (rest := []) dX6_hiss_28 cvX6_90 (c_X6_isSilent hxs hT beat ) hT.1 rfl ⟨Nat.le_of_ble_eq_true rfl, Nat.le_of_ble_eq_true rfl, Nat.le_of_ble_eq_true rfl, Nat.le_of_ble_eq_true rfl⟩ (Nat.le_of_ble_eq_true rfl) rfl ?_
        refine V_if_eq (tgt := 40) dX6_hiss_31 (by decide) (fun c6 => ?_) (fun c6 => ?_)
        · rw [if_pos c6] at hz
          refine V_iconst (v := 0) dX6_hiss_40 (by decide) ?_
          refine V_istore_n (lv' := [(3, .int 0), (0, .ref s), (1, .int performer), (2, .int loudness)]) dX6_hiss_41 rfl (by decide) rfl ?_
          refine V_aload_n dX6_hiss_42 1 rfl ?_
          refine V_iload_n dX6_hiss_43 2 rfl ?_
          refine V_iload_n dX6_hiss_44 0 rfl ?_
          refine V_cVmv (As := [.int performer, .int 0]) (rest := []) dX6_hiss_45 cvX6_93 (c_X6_impose hxs hT performer 0 ) hT.1 rfl ⟨Nat.le_of_ble_eq_true rfl, Nat.le_of_ble_eq_true rfl, Nat.le_of_ble_eq_true rfl, Nat.le_of_ble_eq_true rfl⟩ (Nat.le_of_ble_eq_true rfl) rfl (fun h9 q9 => ?_)
          obtain ⟨hT9, hO9⟩ := q9
          have hT7 := hT9
          have hO7 := hO9
          refine V_iload_n dX6_hiss_48 0 rfl ?_
          exact V_iret dX6_hiss_49 rfl ⟨Nat.le_of_ble_eq_true rfl, Nat.le_of_ble_eq_true rfl⟩ (hK (0, (T_X6_impose owed perf imp performer 0).1, (T_X6_impose owed perf imp performer 0).2) _ hT7 hO7 hz)
        · rw [if_neg c6] at hz
          refine V_iconst (v := 2) dX6_hiss_34 (by decide) ?_
          refine V_iload_n dX6_hiss_35 2 rfl ?_
          refine V_imul dX6_hiss_36 ?_
          refine V_goto (tgt := 41) dX6_hiss_37 (by decide) ?_
          refine V_istore_n (lv' := [(3, .int (2 * loudness)), (0, .ref s), (1, .int performer), (2, .int loudness)]) dX6_hiss_41 rfl (by decide) rfl ?_
          refine V_aload_n dX6_hiss_42 1 rfl ?_
          refine V_iload_n dX6_hiss_43 2 rfl ?_
          refine V_iload_n dX6_hiss_44 0 rfl ?_
          refine V_cVmv (As := [.int performer, .int (2 * loudness)]) (rest := []) dX6_hiss_45 cvX6_93 (c_X6_impose hxs hT performer (2 * loudness) ) hT.1 rfl ⟨Nat.le_of_ble_eq_true rfl, Nat.le_of_ble_eq_true rfl, Nat.le_of_ble_eq_true rfl, Nat.le_of_ble_eq_true rfl⟩ (Nat.le_of_ble_eq_true rfl) rfl (fun h9 q9 => ?_)
          obtain ⟨hT9, hO9⟩ := q9
          have hT9 := hT9
          have hO9 := hO9
          refine V_iload_n dX6_hiss_48 0 rfl ?_
          exact V_iret dX6_hiss_49 rfl ⟨Nat.le_of_ble_eq_true rfl, Nat.le_of_ble_eq_true rfl⟩ (hK ((2 * loudness), (T_X6_impose owed perf imp performer (2 * loudness)).1, (T_X6_impose owed perf imp performer (2 * loudness)).2) _ hT9 hO9 hz)
      · rw [if_neg c4] at hz
        refine V_bipush (v := (-2)) dX6_hiss_20 (by decide) ?_
        exact V_iret dX6_hiss_22 rfl ⟨Nat.le_of_ble_eq_true rfl, Nat.le_of_ble_eq_true rfl⟩ (hK ((-2), owed, imp) _ hT Outs.rf hz)
  · rw [if_pos c2] at hz
    refine V_iconst (v := (-1)) dX6_hiss_8 (by decide) ?_
    exact V_iret dX6_hiss_9 rfl ⟨Nat.le_of_ble_eq_true rfl, Nat.le_of_ble_eq_true rfl⟩ (hK ((-1), owed, imp) _ hT Outs.rf hz)
theorem c_X6_hiss {X : KX} (hxs : X.1.stackTraces = false) {h : AH} {s : Nat} {ids kinds players beats sizes lower higher od owed mends : List Int32} {root count perf nid beat act lim hend hbt happ clash imp paid : Int32} (hT : IsSheet X h s ids kinds players beats sizes lower higher od root count owed mends perf nid beat act lim hend hbt happ clash imp paid) (performer : Int32) (loudness : Int32) : Ct X mX6_hiss [.ref s, .int performer, .int loudness] h (zM (some (.int (T_X6_hiss kinds beats sizes owed perf beat hend imp performer loudness).1)) (fun h' => IsSheet X h' s ids kinds players beats sizes lower higher od root count (T_X6_hiss kinds beats sizes owed perf beat hend imp performer loudness).2.1 mends perf nid beat act lim hend hbt happ clash (T_X6_hiss kinds beats sizes owed perf beat hend imp performer loudness).2.2 paid ∧ Outs h h' s 12)) := w_X6_hiss hxs hT performer loudness  (K := fun r => r = T_X6_hiss kinds beats sizes owed perf beat hend imp performer loudness) (fun r h' a b e => by subst e; exact ⟨rfl, a, b⟩) rfl
