/-! ===== a beat that passes, and beats ===== -/
def zs_beat (S : SH) (v : Int32) : SH := (z_ids S, z_kinds S, z_players S, z_beats S, z_sizes S, z_lower S, z_higher S, z_root S, z_count S, z_owed S, z_mends S, z_perf S, z_nid S, v, z_act S, z_lim S, z_hend S, z_hbt S, z_happ S, z_clash S, z_imp S, z_paid S)
def zs_happ (S : SH) (v : Int32) : SH := (z_ids S, z_kinds S, z_players S, z_beats S, z_sizes S, z_lower S, z_higher S, z_root S, z_count S, z_owed S, z_mends S, z_perf S, z_nid S, z_beat S, z_act S, z_lim S, z_hend S, z_hbt S, v, z_clash S, z_imp S, z_paid S)
def zs_hbt (S : SH) (v : Int32) : SH := (z_ids S, z_kinds S, z_players S, z_beats S, z_sizes S, z_lower S, z_higher S, z_root S, z_count S, z_owed S, z_mends S, z_perf S, z_nid S, z_beat S, z_act S, z_lim S, z_hend S, v, z_happ S, z_clash S, z_imp S, z_paid S)
def U_dropS (S : SH) (slot : Int32) : SH := (fun r => (z_ids S, r.1, z_players S, z_beats S, z_sizes S, r.2.1, r.2.2.1, r.2.2.2.1, r.2.2.2.2, z_owed S, z_mends S, z_perf S, z_nid S, z_beat S, z_act S, z_lim S, z_hend S, z_hbt S, z_happ S, z_clash S, z_imp S, z_paid S)) (T_X3_drop (z_kinds S) (z_lower S) (z_higher S) (z_root S) (z_count S) slot)
def U_drops (o : List Int32) : Nat → Nat → SH → SH
  | 0, _, S => S
  | f + 1, i, S => U_drops o f (i + 1) (U_dropS S (rd o (nI i)))
/-- the cues through a beat: how many, and their slots (in a work row that was clear before) -/
def Lst (S : SH) (b : Int32) : Int32 × List Int32 := T_X3_listThrough (z_ids S) (z_beats S) (z_lower S) (z_higher S) od0 (z_root S) b
def U_due (S : SH) (d : Int32 × List Int32) : SH := tb (U_beginHushes S d.2 d.1) fun S3 => tb (U_openMouths S3 d.2 d.1) fun S4 => tb (U_dropProps S4 d.2 d.1) fun S5 => U_drops d.2 d.1.toNatClampNeg 0 S5
def U_tail (d : Int32) (S6 : SH) : SH := tb (zs_happ S6 (z_happ S6 + d)) fun S7 => if z_hend S7 < z_beat S7 then S7 else zs_hbt S7 (z_hbt S7 + 1)
def U_passBeat (S : SH) : SH := tb (U_closeMouths (zs_beat S (z_beat S + 1))) fun S2 => tb (Lst S2 (z_beat S2)) fun d => U_tail d.1 (U_due S2 d)
def U_beats : Nat → SH → SH
  | 0, S => S
  | f + 1, S => U_beats f (U_passBeat S)
def U_pass (S : SH) (b : Int32) : Int32 × SH := if b < 1 then (-1, S) else if b ≤ 40 then tb (U_beats b.toNatClampNeg S) (fun S' => (z_happ S' - z_happ S, S')) else (-1, S)
theorem SI_dropS {S : SH} {x : Int32} (h : SI S) : SI (U_dropS S x) := drop_kc h
theorem SI_drops {o : List Int32} : ∀ (f i : Nat) (S : SH), SI S → SI (U_drops o f i S) := by
  intro f
  induction f with
  | zero => intro i S h; exact h
  | succ f ih => intro i S h; exact ih _ _ (SI_dropS h)
theorem SI_due {S : SH} {d : Int32 × List Int32} (h : SI S) : SI (U_due S d) := SI_drops _ _ _ h
theorem SI_tail {S : SH} {d : Int32} (h : SI S) : SI (U_tail d S) := by
  unfold U_tail tb
  split
  · exact h
  · exact h
theorem SI_passBeat {S : SH} (h : SI S) : SI (U_passBeat S) := SI_tail (SI_due (S := U_closeMouths (zs_beat S (z_beat S + 1))) h)
theorem SI_beats : ∀ (f : Nat) (S : SH), SI S → SI (U_beats f S) := by
  intro f
  induction f with
  | zero => intro S h; exact h
  | succ f ih => intro S h; exact ih _ (SI_passBeat h)
theorem SI_pass {S : SH} {b : Int32} (h : SI S) : SI (U_pass S b).2 := by
  unfold U_pass
  split
  · exact h
  · split
    · exact SI_beats _ _ h
    · exact h
theorem SI_join {S : SH} (h : SI S) : SI (U_join S).2 := h
theorem SI_pay {S : SH} {p c : Int32} (h : SI S) : SI (U_pay S p c).2 := h
theorem SI_hiss {S : SH} {p c : Int32} (h : SI S) : SI (U_hiss S p c).2 := h
theorem SI_limitNoise {S : SH} {c : Int32} (h : SI S) : SI (U_limitNoise S c).2 := h
theorem SI_openAct {S : SH} (h : SI S) : SI (U_openAct S).2 := h
theorem SI_putPlayed {S : SH} {k p b z : Int32} (h : SI S) (hk : fits .char (.int k) = true) : SI (U_putPlayed S k p b z).2 := by
  unfold U_putPlayed T_X6_putPlayed
  repeat' split
  all_goals first | exact h | exact put_kc h hk
theorem SI_putHush {S : SH} {b z : Int32} (h : SI S) : SI (U_putHush S b z).2 := by
  unfold U_putHush T_X6_putHush
  repeat' split
  all_goals first | exact h | exact put_kc h (by decide)
theorem SI_cancel {S : SH} {c : Int32} (h : SI S) : SI (U_cancel S c).2 := by
  unfold U_cancel T_X6_cancel
  split
  · exact h
  · exact drop_kc h
theorem SI_move {S : SH} {c b : Int32} (h : SI S) : SI (U_move S c b).2 := h
/-! the work row: what it held before doesn't matter -/
theorem list_od {ids beats lower higher o o2 : List Int32} {root b : Int32} (ho : o.length = 16) (ho2 : o2.length = 16) : (T_X3_listThrough ids beats lower higher o root b).1 = (T_X3_listThrough ids beats lower higher o2 root b).1 ∧ ∀ j, j < (T_X3_listThrough ids beats lower higher o root b).1.toNatClampNeg → rd (T_X3_listThrough ids beats lower higher o root b).2 (nI j) = rd (T_X3_listThrough ids beats lower higher o2 root b).2 (nI j) := by
  have : ∀ (f i : Nat) (x3 : Int32) (p q : List Int32), i + f = 16 → p.length = 16 → q.length = 16 → (∀ j, j < i → rd p (nI j) = rd q (nI j)) → (T_X3_listThrough_L9 ids beats lower higher root b f i x3 p).1 = (T_X3_listThrough_L9 ids beats lower higher root b f i x3 q).1 ∧ ∀ j, j < (T_X3_listThrough_L9 ids beats lower higher root b f i x3 p).1.toNatClampNeg → rd (T_X3_listThrough_L9 ids beats lower higher root b f i x3 p).2 (nI j) = rd (T_X3_listThrough_L9 ids beats lower higher root b f i x3 q).2 (nI j) := by
    intro f
    induction f with
    | zero =>
      intro i x3 p q hi hp hq h
      obtain rfl : i = 16 := by omega
      exact ⟨rfl, fun j hj => h j (by rw [T_X3_listThrough_L9, nI_clamp (by decide)] at hj; exact hj)⟩
    | succ f ih =>
      intro i x3 p q hi hp hq h
      rw [T_X3_listThrough_L9, T_X3_listThrough_L9]
      split
      · exact ⟨rfl, fun j hj => h j (by rw [nI_clamp (by omega)] at hj; exact hj)⟩
      · split
        · exact ⟨rfl, fun j hj => h j (by rw [nI_clamp (by omega)] at hj; exact hj)⟩
        · refine ih _ _ _ _ (by omega) (by rw [wr_len]; exact hp) (by rw [wr_len]; exact hq) (fun j hj => ?_)
          by_cases e : j = i
          · subst e
            rw [rd_wr_same (by rw [nI_clamp (by omega), hp]; omega), rd_wr_same (by rw [nI_clamp (by omega), hq]; omega)]
          · rw [rd_wr_ne (by rw [nI_clamp (by omega), nI_clamp (by omega)]; omega), rd_wr_ne (by rw [nI_clamp (by omega), nI_clamp (by omega)]; omega)]
            exact h j (by omega)
  exact this 16 0 _ o o2 (by omega) ho ho2 (fun j hj => absurd hj (by omega))
theorem bh_od {S : SH} {o o2 : List Int32} {d : Int32} (h : ∀ j, j < d.toNatClampNeg → rd o (nI j) = rd o2 (nI j)) : U_beginHushes S o d = U_beginHushes S o2 d := by
  have : ∀ (f i : Nat) (x : Int32), i + f = d.toNatClampNeg → T_X6_beginHushes_L2 (z_kinds S) (z_beats S) (z_sizes S) o f i x = T_X6_beginHushes_L2 (z_kinds S) (z_beats S) (z_sizes S) o2 f i x := by
    intro f
    induction f with
    | zero => intro i x hi; rfl
    | succ f ih =>
      intro i x hi
      rw [T_X6_beginHushes_L2, T_X6_beginHushes_L2, h i (by omega), ih _ _ (by omega), ih _ _ (by omega)]
  unfold U_beginHushes T_X6_beginHushes
  rw [this _ _ _ (by omega)]
theorem om_od {S : SH} {o o2 : List Int32} {d : Int32} (h : ∀ j, j < d.toNatClampNeg → rd o (nI j) = rd o2 (nI j)) : U_openMouths S o d = U_openMouths S o2 d := by
  have : ∀ (f i : Nat) (x : List Int32) (y : Int32), i + f = d.toNatClampNeg → T_X6_openMouths_L2 (z_kinds S) (z_players S) (z_beats S) (z_sizes S) o (z_perf S) f i x y = T_X6_openMouths_L2 (z_kinds S) (z_players S) (z_beats S) (z_sizes S) o2 (z_perf S) f i x y := by
    intro f
    induction f with
    | zero => intro i x y hi; rfl
    | succ f ih =>
      intro i x y hi
      rw [T_X6_openMouths_L2, T_X6_openMouths_L2, h i (by omega), ih _ _ _ (by omega), ih _ _ _ (by omega)]
  unfold U_openMouths T_X6_openMouths
  rw [this _ _ _ _ (by omega)]
theorem dp_od {S : SH} {o o2 : List Int32} {d : Int32} (h : ∀ j, j < d.toNatClampNeg → rd o (nI j) = rd o2 (nI j)) : U_dropProps S o d = U_dropProps S o2 d := by
  have : ∀ (f i : Nat) (x : List Int32) (y : Int32), i + f = d.toNatClampNeg → T_X6_dropProps_L37 (z_kinds S) (z_players S) (z_sizes S) o (z_perf S) f i x y = T_X6_dropProps_L37 (z_kinds S) (z_players S) (z_sizes S) o2 (z_perf S) f i x y := by
    intro f
    induction f with
    | zero => intro i x y hi; rfl
    | succ f ih =>
      intro i x y hi
      rw [T_X6_dropProps_L37, T_X6_dropProps_L37, h i (by omega), ih _ _ _ (by omega), ih _ _ _ (by omega)]
  unfold U_dropProps T_X6_dropProps
  rw [this _ _ _ _ (by omega)]
theorem IsSh.lod {X : KX} {h : AH} {s : Nat} {S : SH} {od : List Int32} (p : IsSh X h s S od) : od.length = 16 := IsTree.lod p.2.1
theorem od0_len : od0.length = 16 := rfl
theorem Lst_ok (S : SH) (b : Int32) : SmallN (Lst S b).1 16 ∧ ∀ j, j < (Lst S b).1.toNatClampNeg → vp_in (rd (Lst S b).2 (nI j)) 16 := by
  have := list_ok (ids := z_ids S) (beats := z_beats S) (lower := z_lower S) (higher := z_higher S) (root := z_root S) (lastBeat := b) od0_len
  exact ⟨this.1, this.2.2⟩
theorem C_list {X : KX} (hxs : X.1.stackTraces = false) {h : AH} {s : Nat} {S : SH} {od : List Int32} (hS : IsSh X h s S od) (b : Int32) : Ct X mX3_listThrough [.ref (s + 1), .int b] h (zM (some (.int (Lst S b).1)) (fun h' => ∃ o, IsSh X h' s S o ∧ (∀ j, j < (Lst S b).1.toNatClampNeg → rd o (nI j) = rd (Lst S b).2 (nI j)) ∧ Outs h h' s 12)) := by
  have hE := list_od (ids := z_ids S) (beats := z_beats S) (lower := z_lower S) (higher := z_higher S) (root := z_root S) (b := b) hS.lod od0_len
  refine w_X3_listThrough hxs hS.2.1 b (K := fun r => r = T_X3_listThrough (z_ids S) (z_beats S) (z_lower S) (z_higher S) od (z_root S) b) (fun r h' hT hO e => ?_) rfl
  subst e
  refine ⟨by rw [hE.1]; rfl, _, IsSheet.tree hS hT hO, fun j hj => hE.2 j ?_, hO.up (by omega) (by omega)⟩
  rw [hE.1]
  exact hj
theorem C_dropS {X : KX} (hxs : X.1.stackTraces = false) {h : AH} {s : Nat} {S : SH} {od : List Int32} (hS : IsSh X h s S od) (slot : Int32) (hI : SI S) : Ct X mX3_drop [.ref (s + 1), .int slot] h (zM none (fun h' => IsSh X h' s (U_dropS S slot) od ∧ Outs h h' s 12)) := by
  refine w_X3_drop hxs hS.2.1 slot (K := fun r => r = T_X3_drop (z_kinds S) (z_lower S) (z_higher S) (z_root S) (z_count S) slot) (fun r h' hT hO e => ?_) rfl
  subst e
  exact ⟨rfl, IsSheet.tree hS hT hO, hO.up (by omega) (by omega)⟩
set_option maxRecDepth 20000 in
set_option maxHeartbeats 2000000 in
theorem C_passBeat {X : KX} (hxs : X.1.stackTraces = false) {h : AH} {s : Nat} {S : SH} {od : List Int32} (hS : IsSh X h s S od) (hI : SI S) : Ct X mX6_passBeat [.ref s] h (zM none (fun h' => (∃ od', IsSh X h' s (U_passBeat S) od') ∧ Outs h h' s 12)) := by
  refine Ct.of (by decide) rfl (Nat.le_of_ble_eq_true rfl) rfl hxs ?_
  refine V_aload_n dX6_passBeat_0 0 rfl ?_
  refine V_dup dX6_passBeat_1 rfl ?_
  refine gf_sheet_beat hS dX6_passBeat_2 flX6_32 ?_
  refine V_iconst (v := 1) dX6_passBeat_5 (by decide) ?_
  refine V_iadd dX6_passBeat_6 ?_
  refine pf_sheet_beat hS dX6_passBeat_7 flX6_32 (fun h1 hT1 hO1 => ?_)
  have hS1 : IsSh X h1 s (zs_beat S (z_beat S + 1)) od := hT1
  refine V_aload_n dX6_passBeat_10 0 rfl ?_
  refine V_cVmv (As := []) (rest := []) dX6_passBeat_11 cvX6_137 (C_closeMouths hxs hS1) hS1.1 rfl ⟨Nat.le_of_ble_eq_true rfl, Nat.le_of_ble_eq_true rfl, Nat.le_of_ble_eq_true rfl, Nat.le_of_ble_eq_true rfl⟩ (Nat.le_of_ble_eq_true rfl) rfl (fun h2 qh2 => ?_)
  obtain ⟨hS2, hO2⟩ := qh2
  have hI2 : SI (U_closeMouths (zs_beat S (z_beat S + 1))) := hI
  generalize e2 : U_closeMouths (zs_beat S (z_beat S + 1)) = S2 at hS2 hI2
  have hO2 := hO1.tr hO2
  refine V_aload_n dX6_passBeat_14 0 rfl ?_
  refine gf_sheet_cues hS2 dX6_passBeat_15 flX6_12 ?_
  refine V_aload_n dX6_passBeat_18 0 rfl ?_
  refine gf_sheet_beat hS2 dX6_passBeat_19 flX6_32 ?_
  refine V_cVmi (As := [.int (z_beat S2)]) (rest := []) dX6_passBeat_22 cvX6_140 (C_list hxs hS2 (z_beat S2)) hS2.2.1.1 rfl ⟨Nat.le_of_ble_eq_true rfl, Nat.le_of_ble_eq_true rfl, Nat.le_of_ble_eq_true rfl, Nat.le_of_ble_eq_true rfl⟩ (Nat.le_of_ble_eq_true rfl) rfl (fun h3 q3 => ?_)
  obtain ⟨o, hS3, hag, hO3⟩ := q3
  have hO3 := hO2.tr hO3
  have hok := Lst_ok S2 (z_beat S2)
  generalize e3 : Lst S2 (z_beat S2) = dl at hag hok ⊢
  obtain ⟨hD, hin⟩ := hok
  have hD2 := hD.2
  refine V_istore_n (lv' := [(1, .int dl.1), (0, .ref s)]) dX6_passBeat_25 rfl (by decide) rfl ?_
  refine V_aload_n dX6_passBeat_26 1 rfl ?_
  refine V_iload_n dX6_passBeat_27 0 rfl ?_
  refine V_cVmv (As := [.int dl.1]) (rest := []) dX6_passBeat_28 cvX6_143 (C_beginHushes hxs hS3 dl.1 hD) hS3.1 rfl ⟨Nat.le_of_ble_eq_true rfl, Nat.le_of_ble_eq_true rfl, Nat.le_of_ble_eq_true rfl, Nat.le_of_ble_eq_true rfl⟩ (Nat.le_of_ble_eq_true rfl) rfl (fun h4 qh4 => ?_)
  obtain ⟨hS4, hO4⟩ := qh4
  rw [bh_od hag] at hS4
  have hI4 : SI (U_beginHushes S2 dl.2 dl.1) := hI2
  generalize e4 : U_beginHushes S2 dl.2 dl.1 = S4 at hS4 hI4
  have hO4 := hO3.tr hO4
  refine V_aload_n dX6_passBeat_31 1 rfl ?_
  refine V_iload_n dX6_passBeat_32 0 rfl ?_
  refine V_cVmv (As := [.int dl.1]) (rest := []) dX6_passBeat_33 cvX6_146 (C_openMouths hxs hS4 dl.1 hD) hS4.1 rfl ⟨Nat.le_of_ble_eq_true rfl, Nat.le_of_ble_eq_true rfl, Nat.le_of_ble_eq_true rfl, Nat.le_of_ble_eq_true rfl⟩ (Nat.le_of_ble_eq_true rfl) rfl (fun h5 qh5 => ?_)
  obtain ⟨hS5, hO5⟩ := qh5
  rw [om_od hag] at hS5
  have hI5 : SI (U_openMouths S4 dl.2 dl.1) := hI4
  generalize e5 : U_openMouths S4 dl.2 dl.1 = S5 at hS5 hI5
  have hO5 := hO4.tr hO5
  refine V_aload_n dX6_passBeat_36 1 rfl ?_
  refine V_iload_n dX6_passBeat_37 0 rfl ?_
  refine V_cVmv (As := [.int dl.1]) (rest := []) dX6_passBeat_38 cvX6_149 (C_dropProps hxs hS5 dl.1 hD) hS5.1 rfl ⟨Nat.le_of_ble_eq_true rfl, Nat.le_of_ble_eq_true rfl, Nat.le_of_ble_eq_true rfl, Nat.le_of_ble_eq_true rfl⟩ (Nat.le_of_ble_eq_true rfl) rfl (fun h6 qh6 => ?_)
  obtain ⟨hS6, hO6⟩ := qh6
  rw [dp_od hag] at hS6
  have hI6 : SI (U_dropProps S5 dl.2 dl.1) := hI5
  generalize e6 : U_dropProps S5 dl.2 dl.1 = S6 at hS6 hI6
  have hO6 := hO5.tr hO6
  have L43 : ∀ (f i : Nat) (Q : SH) (h0 : AH), i + f = dl.1.toNatClampNeg → IsSh X h0 s Q o → SI Q → (∀ h1, IsSh X h1 s (U_drops dl.2 f i Q) o → Outs h0 h1 s 12 → V X mX6_passBeat (zF X mX6_passBeat (zM none (fun h' => (∃ od', IsSh X h' s (U_passBeat S) od') ∧ Outs h h' s 12))) 0 0 76 [(0, .ref s), (1, .int dl.1)] [] h1) → V X mX6_passBeat (zF X mX6_passBeat (zM none (fun h' => (∃ od', IsSh X h' s (U_passBeat S) od') ∧ Outs h h' s 12))) 0 0 43 [(0, .ref s), (1, .int dl.1), (2, .int (nI i))] [] h0 := by
    intro f
    induction f with
    | zero =>
      intro i Q h0 hi hQ hIQ kk
      have ei : i = dl.1.toNatClampNeg := by omega
      subst ei
      refine V_iload_n dX6_passBeat_43 2 rfl ?_
      refine V_iload_n dX6_passBeat_44 1 rfl ?_
      refine V_icmp_ge (tgt := 76) dX6_passBeat_45 (by decide) (fun _ => ?_) (fun c9 => absurd (sm_le hD) c9)
      refine V.loc [0, 1] rfl ?_
      exact kk _ hQ Outs.rf
    | succ f ih =>
      intro i Q h0 hi hQ hIQ kk
      refine V_iload_n dX6_passBeat_43 2 rfl ?_
      refine V_iload_n dX6_passBeat_44 1 rfl ?_
      refine V_icmp_ge (tgt := 76) dX6_passBeat_45 (by decide) (fun c9 => absurd c9 (sm_ge hD (by omega) (by decide))) (fun _ => ?_)
      refine V_iload_n dX6_passBeat_48 2 rfl ?_
      refine V_bipush (v := 16) dX6_passBeat_49 (by decide) ?_
      refine V_icmp_ge (tgt := 76) dX6_passBeat_51 (by decide) (fun c9 => absurd c9 (nI_ge (a := i) (b := 16) (by omega) (by omega))) (fun _ => ?_)
      refine V_aload_n dX6_passBeat_54 0 rfl ?_
      refine gf_sheet_cues hQ dX6_passBeat_55 flX6_12 ?_
      refine V_aload_n dX6_passBeat_58 0 rfl ?_
      refine gf_sheet_cues hQ dX6_passBeat_59 flX6_12 ?_
      refine gf_tree_od hQ.2.1 dX6_passBeat_62 flX6_152 ?_
      refine V_iload_n dX6_passBeat_65 2 rfl ?_
      refine ld_tree_od hQ.2.1 dX6_passBeat_66 (vp_in_nI (by omega) (by omega)) ?_
      rw [hag i (by omega)]
      refine V_cVmv (As := [.int (rd dl.2 (nI i))]) (rest := []) dX6_passBeat_67 cvX6_121 (C_dropS hxs hQ (rd dl.2 (nI i)) hIQ) hQ.2.1.1 rfl ⟨Nat.le_of_ble_eq_true rfl, Nat.le_of_ble_eq_true rfl, Nat.le_of_ble_eq_true rfl, Nat.le_of_ble_eq_true rfl⟩ (Nat.le_of_ble_eq_true rfl) rfl (fun h1 q1 => ?_)
      obtain ⟨hQ1, hO9⟩ := q1
      refine V_iinc (v := nI (i + 1)) (lv' := [(2, .int (nI (i + 1))), (0, .ref s), (1, .int dl.1)]) dX6_passBeat_70 2 rfl (iinc1 i) (by decide) rfl ?_
      refine V_goto (tgt := 43) dX6_passBeat_73 (by decide) ?_
      refine V.loc [1, 2, 0] rfl ?_
      exact ih (i + 1) _ h1 (by omega) hQ1 (SI_dropS hIQ) (fun h2 a b => kk h2 a (hO9.tr b))
  refine V_iconst (v := 0) dX6_passBeat_41 (by decide) ?_
  refine V_istore_n (lv' := [(2, .int 0), (1, .int dl.1), (0, .ref s)]) dX6_passBeat_42 rfl (by decide) rfl ?_
  refine V.loc [2, 1, 0] rfl ?_
  refine L43 dl.1.toNatClampNeg 0 S6 h6 (by omega) hS6 hI6 (fun h7 hS7 hO7 => ?_)
  generalize e7 : U_drops dl.2 dl.1.toNatClampNeg 0 S6 = S7 at hS7
  have hO7 := hO6.tr hO7
  refine V_aload_n dX6_passBeat_76 0 rfl ?_
  refine V_dup dX6_passBeat_77 rfl ?_
  refine gf_sheet_happ hS7 dX6_passBeat_78 flX6_47 ?_
  refine V_iload_n dX6_passBeat_81 1 rfl ?_
  refine V_iadd dX6_passBeat_82 ?_
  refine pf_sheet_happ hS7 dX6_passBeat_83 flX6_47 (fun h8 hT8 hO8 => ?_)
  have hS8 : IsSh X h8 s (zs_happ S7 (z_happ S7 + dl.1)) o := hT8
  generalize e8 : zs_happ S7 (z_happ S7 + dl.1) = S8 at hS8
  have hO8 := hO7.tr hO8
  have eU : U_passBeat S = if z_hend S8 < z_beat S8 then S8 else zs_hbt S8 (z_hbt S8 + 1) := by
    simp only [U_passBeat, U_due, U_tail, tb, e2, e3, e4, e5, e6, e7, e8]
  refine V_aload_n dX6_passBeat_86 0 rfl ?_
  refine gf_sheet_beat hS8 dX6_passBeat_87 flX6_32 ?_
  refine V_aload_n dX6_passBeat_90 0 rfl ?_
  refine gf_sheet_hend hS8 dX6_passBeat_91 flX6_41 ?_
  refine V_icmp_gt (tgt := 107) dX6_passBeat_94 (by decide) (fun c1 => ?_) (fun c1 => ?_)
  · rw [if_pos c1] at eU
    exact V_vret dX6_passBeat_107 rfl ⟨Nat.le_of_ble_eq_true rfl, Nat.le_of_ble_eq_true rfl⟩ ⟨rfl, ⟨o, by rw [eU]; exact hS8⟩, hO8⟩
  · rw [if_neg c1] at eU
    refine V_aload_n dX6_passBeat_97 0 rfl ?_
    refine V_dup dX6_passBeat_98 rfl ?_
    refine gf_sheet_hbt hS8 dX6_passBeat_99 flX6_44 ?_
    refine V_iconst (v := 1) dX6_passBeat_102 (by decide) ?_
    refine V_iadd dX6_passBeat_103 ?_
    refine pf_sheet_hbt hS8 dX6_passBeat_104 flX6_44 (fun h9 hT9 hO9 => ?_)
    have hS9 : IsSh X h9 s (zs_hbt S8 (z_hbt S8 + 1)) o := hT9
    exact V_vret dX6_passBeat_107 rfl ⟨Nat.le_of_ble_eq_true rfl, Nat.le_of_ble_eq_true rfl⟩ ⟨rfl, ⟨o, by rw [eU]; exact hS9⟩, hO8.tr hO9⟩
set_option maxRecDepth 20000 in
set_option maxHeartbeats 2000000 in
theorem C_pass {X : KX} (hxs : X.1.stackTraces = false) {h : AH} {s : Nat} {S : SH} {od : List Int32} (hS : IsSh X h s S od) (hI : SI S) (b : Int32) : Ct X mX6_pass [.ref s, .int b] h (zM (some (.int (U_pass S b).1)) (fun h' => (∃ od', IsSh X h' s (U_pass S b).2 od') ∧ Outs h h' s 12)) := by
  refine Ct.of (by decide) rfl (Nat.le_of_ble_eq_true rfl) rfl hxs ?_
  refine V_iload_n dX6_pass_0 1 rfl ?_
  refine V_iconst (v := 1) dX6_pass_1 (by decide) ?_
  refine V_icmp_lt (tgt := 11) dX6_pass_2 (by decide) (fun c1 => ?_) (fun c1 => ?_)
  · have eU : U_pass S b = (-1, S) := by unfold U_pass; rw [if_pos c1]
    refine V_iconst (v := (-1)) dX6_pass_11 (by decide) ?_
    exact V_iret dX6_pass_12 rfl ⟨Nat.le_of_ble_eq_true rfl, Nat.le_of_ble_eq_true rfl⟩ ⟨by rw [eU], ⟨od, by rw [eU]; exact hS⟩, Outs.rf⟩
  · refine V_iload_n dX6_pass_5 1 rfl ?_
    refine V_bipush (v := 40) dX6_pass_6 (by decide) ?_
    refine V_icmp_le (tgt := 13) dX6_pass_8 (by decide) (fun c2 => ?_) (fun c2 => ?_)
    · have eU : U_pass S b = (z_happ (U_beats b.toNatClampNeg S) - z_happ S, U_beats b.toNatClampNeg S) := by unfold U_pass; rw [if_neg c1, if_pos c2]; rfl
      have hB : SmallN b 40 := sm_of (i1_0 c1) (fun c => absurd c (Int32.not_lt.mpr c2)) rfl (by decide)
      have hB2 := hB.2
      refine V_aload_n dX6_pass_13 0 rfl ?_
      refine gf_sheet_happ hS dX6_pass_14 flX6_47 ?_
      refine V_istore_n (lv' := [(2, .int (z_happ S)), (0, .ref s), (1, .int b)]) dX6_pass_17 rfl (by decide) rfl ?_
      refine V_iconst (v := 0) dX6_pass_18 (by decide) ?_
      refine V_istore_n (lv' := [(3, .int 0), (2, .int (z_happ S)), (0, .ref s), (1, .int b)]) dX6_pass_19 rfl (by decide) rfl ?_
      refine V.loc [2, 3, 1, 0] rfl ?_
      have L20 : ∀ (f i : Nat) (Q : SH) (h0 : AH), i + f = b.toNatClampNeg → (∃ o, IsSh X h0 s Q o) → SI Q → Outs h h0 s 12 → U_beats f Q = U_beats b.toNatClampNeg S → V X mX6_pass (zF X mX6_pass (zM (some (.int (U_pass S b).1)) (fun h' => (∃ od', IsSh X h' s (U_pass S b).2 od') ∧ Outs h h' s 12))) 0 0 20 [(0, .ref s), (1, .int b), (2, .int (z_happ S)), (3, .int (nI i))] [] h0 := by
        intro f
        induction f with
        | zero =>
          intro i Q h0 hi hQ hIQ hO eQ
          obtain ⟨o, hQ⟩ := hQ
          have ei : i = b.toNatClampNeg := by omega
          subst ei
          have eQ : Q = U_beats b.toNatClampNeg S := eQ
          refine V_iload_n dX6_pass_20 3 rfl ?_
          refine V_iload_n dX6_pass_21 1 rfl ?_
          refine V_icmp_ge (tgt := 35) dX6_pass_22 (by decide) (fun _ => ?_) (fun c9 => absurd (sm_le hB) c9)
          refine V_aload_n dX6_pass_35 0 rfl ?_
          refine gf_sheet_happ hQ dX6_pass_36 flX6_47 ?_
          refine V_iload_n dX6_pass_39 2 rfl ?_
          refine V_isub dX6_pass_40 ?_
          exact V_iret dX6_pass_41 rfl ⟨Nat.le_of_ble_eq_true rfl, Nat.le_of_ble_eq_true rfl⟩ ⟨by rw [eU, eQ], ⟨o, by rw [eU]; rw [eQ] at hQ; exact hQ⟩, hO⟩
        | succ f ih =>
          intro i Q h0 hi hQ hIQ hO eQ
          obtain ⟨o, hQ⟩ := hQ
          refine V_iload_n dX6_pass_20 3 rfl ?_
          refine V_iload_n dX6_pass_21 1 rfl ?_
          refine V_icmp_ge (tgt := 35) dX6_pass_22 (by decide) (fun c9 => absurd c9 (sm_ge hB (by omega) (by decide))) (fun _ => ?_)
          refine V_aload_n dX6_pass_25 0 rfl ?_
          refine V_cVmv (As := []) (rest := []) dX6_pass_26 cvX6_134 (C_passBeat hxs hQ hIQ) hQ.1 rfl ⟨Nat.le_of_ble_eq_true rfl, Nat.le_of_ble_eq_true rfl, Nat.le_of_ble_eq_true rfl, Nat.le_of_ble_eq_true rfl⟩ (Nat.le_of_ble_eq_true rfl) rfl (fun h1 q1 => ?_)
          obtain ⟨hQ1, hO9⟩ := q1
          refine V_iinc (v := nI (i + 1)) (lv' := [(3, .int (nI (i + 1))), (0, .ref s), (1, .int b), (2, .int (z_happ S))]) dX6_pass_29 3 rfl (iinc1 i) (by decide) rfl ?_
          refine V_goto (tgt := 20) dX6_pass_32 (by decide) ?_
          refine V.loc [1, 2, 3, 0] rfl ?_
          exact ih (i + 1) _ h1 (by omega) hQ1 (SI_passBeat hIQ) (hO.tr hO9) eQ
      exact L20 b.toNatClampNeg 0 S h (by omega) ⟨od, hS⟩ hI Outs.rf rfl
    · have eU : U_pass S b = (-1, S) := by unfold U_pass; rw [if_neg c1, if_neg c2]
      refine V_iconst (v := (-1)) dX6_pass_11 (by decide) ?_
      exact V_iret dX6_pass_12 rfl ⟨Nat.le_of_ble_eq_true rfl, Nat.le_of_ble_eq_true rfl⟩ ⟨by rw [eU], ⟨od, by rw [eU]; exact hS⟩, Outs.rf⟩
