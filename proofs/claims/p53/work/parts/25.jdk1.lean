/-! ===== StringBuilder of one byte a letter: its methods ===== -/
/-- cells a and v may have changed, and new ones may be there -/
def FrS (h h' : AH) (a v : Nat) : Prop := h.1 ≤ h'.1 ∧ ∀ q, q ≠ a → q ≠ v → q < h.1 → h'.2 q = h.2 q
theorem FrS.rf {h : AH} {a v : Nat} : FrS h h a v := ⟨Nat.le_refl _, fun _ _ _ _ => rfl⟩
theorem FrS.tr {h h1 h2 : AH} {a v v1 : Nat} (p : FrS h h1 a v) (q : FrS h1 h2 a v1) (hv : v1 = v ∨ h.1 ≤ v1) : FrS h h2 a v := ⟨Nat.le_trans p.1 q.1, fun x hx hy hz => (q.2 x hx (by omega) (Nat.lt_of_lt_of_le hz p.1)).trans (p.2 x hx hy hz)⟩
theorem FrS.put {h : AH} {a v x : Nat} {e : va_E} (hx : x = a ∨ x = v) : FrS h (hput h x e) a v := ⟨Nat.le_refl _, fun q h1 h2 _ => hput_ne (by omega)⟩
section VSB
variable {X : KX} {M : MI} {F : FT} {k n pc : Nat} {lv lv' : List (Nat × Value)} {rest : List Value} {h : AH} {Z : ZT} {a v : Nat} {ml c : Int32}
theorem gf_sb_value {idx : Nat} (p : SbO h a v ml c) (hdg : decode (mcc M) pc = .ok (.getfield idx, 3)) (hw : Cond.fieldLink (my M).cls idx "java/lang/AbstractStringBuilder" "value" "[B" ∈ GW) (kk : V X M F k n (pc + 3) lv (.ref v :: rest) h) : V X M F k n pc lv (.ref a :: rest) h := V_get 0 hdg hw iGJ4 rfl (by decide) rfl p rfl kk
theorem gf_sb_coder {idx : Nat} (p : SbO h a v ml c) (hdg : decode (mcc M) pc = .ok (.getfield idx, 3)) (hw : Cond.fieldLink (my M).cls idx "java/lang/AbstractStringBuilder" "coder" "B" ∈ GW) (kk : V X M F k n (pc + 3) lv (.int 0 :: rest) h) : V X M F k n pc lv (.ref a :: rest) h := V_get 1 hdg hw iGJ4 rfl (by decide) rfl p rfl kk
theorem gf_sb_maybeLatin1 {idx : Nat} (p : SbO h a v ml c) (hdg : decode (mcc M) pc = .ok (.getfield idx, 3)) (hw : Cond.fieldLink (my M).cls idx "java/lang/AbstractStringBuilder" "maybeLatin1" "Z" ∈ GW) (kk : V X M F k n (pc + 3) lv (.int ml :: rest) h) : V X M F k n pc lv (.ref a :: rest) h := V_get 2 hdg hw iGJ4 rfl (by decide) rfl p rfl kk
theorem gf_sb_count {idx : Nat} (p : SbO h a v ml c) (hdg : decode (mcc M) pc = .ok (.getfield idx, 3)) (hw : Cond.fieldLink (my M).cls idx "java/lang/AbstractStringBuilder" "count" "I" ∈ GW) (kk : V X M F k n (pc + 3) lv (.int c :: rest) h) : V X M F k n pc lv (.ref a :: rest) h := V_get 3 hdg hw iGJ4 rfl (by decide) rfl p rfl kk
theorem pf_sb_value {idx : Nat} {w : Nat} (p : SbO h a v ml c) (hdg : decode (mcc M) pc = .ok (.putfield idx, 3)) (hw : Cond.fieldLink (my M).cls idx "java/lang/AbstractStringBuilder" "value" "[B" ∈ GW) (kk : ∀ h1, SbO h1 a w ml c → FrS h h1 a v → h1.1 = h.1 → (∀ q, q ≠ a → h1.2 q = h.2 q) → V X M F k n (pc + 3) lv rest h1) : V X M F k n pc lv (.ref w :: .ref a :: rest) h := V_put 0 hdg hw iGJ4 tyJ4_ok nmJ4 rfl (by decide) rfl rfl rfl p rfl rfl (by simp) (kk _ hput_at (FrS.put (Or.inl rfl)) rfl (fun q hq => hput_ne hq))
theorem pf_sb_maybeLatin1 {idx : Nat} {w : Int32} (p : SbO h a v ml c) (hw9 : w = 0 ∨ w = 1) (hdg : decode (mcc M) pc = .ok (.putfield idx, 3)) (hw : Cond.fieldLink (my M).cls idx "java/lang/AbstractStringBuilder" "maybeLatin1" "Z" ∈ GW) (kk : ∀ h1, SbO h1 a v w c → FrS h h1 a v → h1.1 = h.1 → (∀ q, q ≠ a → h1.2 q = h.2 q) → V X M F k n (pc + 3) lv rest h1) : V X M F k n pc lv (.int w :: .ref a :: rest) h := V_put 2 hdg hw iGJ4 tyJ4_ok nmJ4 rfl (by decide) rfl rfl rfl p (bN hw9) (by rcases hw9 with rfl | rfl <;> rfl) (by simp) (kk _ hput_at (FrS.put (Or.inl rfl)) rfl (fun q hq => hput_ne hq))
theorem pf_sb_count {idx : Nat} {w : Int32} (p : SbO h a v ml c) (hdg : decode (mcc M) pc = .ok (.putfield idx, 3)) (hw : Cond.fieldLink (my M).cls idx "java/lang/AbstractStringBuilder" "count" "I" ∈ GW) (kk : ∀ h1, SbO h1 a v ml w → FrS h h1 a v → h1.1 = h.1 → (∀ q, q ≠ a → h1.2 q = h.2 q) → V X M F k n (pc + 3) lv rest h1) : V X M F k n pc lv (.int w :: .ref a :: rest) h := V_put 3 hdg hw iGJ4 tyJ4_ok nmJ4 rfl (by decide) rfl rfl rfl p rfl rfl (by simp) (kk _ hput_at (FrS.put (Or.inl rfl)) rfl (fun q hq => hput_ne hq))
end VSB
set_option maxRecDepth 20000 in
set_option maxHeartbeats 1000000 in
theorem c_J5_isLatin1_aae02 {X : KX} (hxs : X.1.stackTraces = false) (hg : GX X) {h : AH} {a v : Nat} {ml c : Int32} (hS : SbO h a v ml c) : Ct X mJ5_isLatin1_aae02 [.ref a] h (zR (some (.int 1)) h) := by
  refine Ct.of (by decide) rfl (Nat.le_of_ble_eq_true rfl) rfl hxs ?_
  refine V_gets dJ5_isLatin1_aae02_0 flJ5_18 hg.2.2.1 ?_
  refine V_if_eq (tgt := 17) dJ5_isLatin1_aae02_3 (by decide) (fun c9 => absurd c9 (by decide)) (fun _ => ?_)
  refine V_aload_n dJ5_isLatin1_aae02_6 0 rfl ?_
  refine gf_sb_coder hS dJ5_isLatin1_aae02_7 flJ5_22 ?_
  refine V_if_ne (tgt := 17) dJ5_isLatin1_aae02_10 (by decide) (fun c9 => absurd c9 (fun q9 => q9 rfl)) (fun _ => ?_)
  refine V_iconst (v := 1) dJ5_isLatin1_aae02_13 (by decide) ?_
  refine V_goto (tgt := 18) dJ5_isLatin1_aae02_14 (by decide) ?_
  exact V_zret dJ5_isLatin1_aae02_18 rfl bN1 ⟨Nat.le_of_ble_eq_true rfl, Nat.le_of_ble_eq_true rfl⟩ ⟨rfl, rfl⟩
set_option maxRecDepth 20000 in
set_option maxHeartbeats 1000000 in
theorem c_J5_length_8abf5 {X : KX} (hxs : X.1.stackTraces = false) (hg : GX X) {h : AH} {a v : Nat} {ml c : Int32} (hS : SbO h a v ml c) : Ct X mJ5_length_8abf5 [.ref a] h (zR (some (.int c)) h) := by
  refine Ct.of (by decide) rfl (Nat.le_of_ble_eq_true rfl) rfl hxs ?_
  refine V_aload_n dJ5_length_8abf5_0 0 rfl ?_
  refine gf_sb_count hS dJ5_length_8abf5_1 flJ5_79 ?_
  exact V_iret dJ5_length_8abf5_4 rfl ⟨Nat.le_of_ble_eq_true rfl, Nat.le_of_ble_eq_true rfl⟩ ⟨rfl, rfl⟩
set_option maxRecDepth 20000 in
set_option maxHeartbeats 1000000 in
theorem c_J4_length_8abf5 {X : KX} (hxs : X.1.stackTraces = false) (hg : GX X) {h : AH} {a v : Nat} {ml c : Int32} (hS : SbO h a v ml c) : Ct X mJ4_length_8abf5 [.ref a] h (zR (some (.int c)) h) := by
  refine Ct.of (by decide) rfl (Nat.le_of_ble_eq_true rfl) rfl hxs ?_
  refine V_aload_n dJ4_length_8abf5_0 0 rfl ?_
  refine V_cSU (As := []) (rest := []) dJ4_length_8abf5_1 csJ4_343 (Q := fun h1 => h1 = h) (c_J5_length_8abf5 hxs hg hS) hS rfl ⟨Nat.le_of_ble_eq_true rfl, Nat.le_of_ble_eq_true rfl, Nat.le_of_ble_eq_true rfl, Nat.le_of_ble_eq_true rfl⟩ (Nat.le_of_ble_eq_true rfl) rfl (fun h1 e9 => ?_)
  subst e9
  exact V_iret dJ4_length_8abf5_4 rfl ⟨Nat.le_of_ble_eq_true rfl, Nat.le_of_ble_eq_true rfl⟩ ⟨rfl, rfl⟩
set_option maxRecDepth 20000 in
set_option maxHeartbeats 1000000 in
theorem c_ens0z {X : KX} (hxs : X.1.stackTraces = false) (hg : GX X) {h : AH} {a v : Nat} {ml c : Int32} (hS : SbO h a v ml c) {L : List Int32} (hL : h.2 v = some (aL (kA X 2) L)) {q : Nat} (hq : q ≤ L.length) (hb : L.length < 2 ^ 30) : Ct X mJ5_ensureCapacityInternal_d00dfz [.ref a, .int (nI q)] h (zR none h) := by
  refine Ct.of (by decide) rfl (Nat.le_of_ble_eq_true rfl) rfl hxs ?_
  refine V_aload_n dJ5_ensureCapacityInternal_d00df_0 0 rfl ?_
  refine gf_sb_value hS dJ5_ensureCapacityInternal_d00df_1 flJ5_15 ?_
  refine V_alen (t := 2) (v := nI L.length) dJ5_ensureCapacityInternal_d00df_4 rfl hL rfl ?_
  refine V_aload_n dJ5_ensureCapacityInternal_d00df_5 0 rfl ?_
  refine gf_sb_coder hS dJ5_ensureCapacityInternal_d00df_6 flJ5_22 ?_
  refine V_ishr dJ5_ensureCapacityInternal_d00df_9 ?_
  rw [sb_shr0]
  refine V_istore_n (lv' := [(2, .int (nI L.length)), (0, .ref a), (1, .int (nI q))]) dJ5_ensureCapacityInternal_d00df_10 rfl (by decide) rfl ?_
  refine V_iload_n dJ5_ensureCapacityInternal_d00df_11 2 rfl ?_
  refine V_iload_n dJ5_ensureCapacityInternal_d00df_12 0 rfl ?_
  refine V_isub dJ5_ensureCapacityInternal_d00df_13 ?_
  refine V_if_le (tgt := 38) dJ5_ensureCapacityInternal_d00df_14 (by decide) (fun _ => ?_) (fun c9 => absurd (by rw [Int32.le_iff_toInt_le, pk_sub_toInt (by omega) (by omega), Int32.toInt_zero]; omega) c9)
  exact V_vret dJ5_ensureCapacityInternal_d00df_38 rfl ⟨Nat.le_of_ble_eq_true rfl, Nat.le_of_ble_eq_true rfl⟩ ⟨rfl, rfl⟩
set_option maxRecDepth 20000 in
set_option maxHeartbeats 1000000 in
theorem c_ens0 {X : KX} (hxs : X.1.stackTraces = false) (hg : GX X) {h : AH} {a v : Nat} {ml c : Int32} (hS : SbO h a v ml c) {L : List Int32} (hL : h.2 v = some (aL (kA X 2) L)) {q : Nat} (hq : q ≤ L.length) (hb : L.length < 2 ^ 30) : Ct X mJ5_ensureCapacityInternal_d00df [.ref a, .int (nI q)] h (zR none h) := by
  refine Ct.of (by decide) rfl (Nat.le_of_ble_eq_true rfl) rfl hxs ?_
  refine V_aload_n dJ5_ensureCapacityInternal_d00df_0 0 rfl ?_
  refine gf_sb_value hS dJ5_ensureCapacityInternal_d00df_1 flJ5_15 ?_
  refine V_alen (t := 2) (v := nI L.length) dJ5_ensureCapacityInternal_d00df_4 rfl hL rfl ?_
  refine V_aload_n dJ5_ensureCapacityInternal_d00df_5 0 rfl ?_
  refine gf_sb_coder hS dJ5_ensureCapacityInternal_d00df_6 flJ5_22 ?_
  refine V_ishr dJ5_ensureCapacityInternal_d00df_9 ?_
  rw [sb_shr0]
  refine V_istore_n (lv' := [(2, .int (nI L.length)), (0, .ref a), (1, .int (nI q))]) dJ5_ensureCapacityInternal_d00df_10 rfl (by decide) rfl ?_
  refine V_iload_n dJ5_ensureCapacityInternal_d00df_11 2 rfl ?_
  refine V_iload_n dJ5_ensureCapacityInternal_d00df_12 0 rfl ?_
  refine V_isub dJ5_ensureCapacityInternal_d00df_13 ?_
  refine V_if_le (tgt := 38) dJ5_ensureCapacityInternal_d00df_14 (by decide) (fun _ => ?_) (fun c9 => absurd (by rw [Int32.le_iff_toInt_le, pk_sub_toInt (by omega) (by omega), Int32.toInt_zero]; omega) c9)
  exact V_vret dJ5_ensureCapacityInternal_d00df_38 rfl ⟨Nat.le_of_ble_eq_true rfl, Nat.le_of_ble_eq_true rfl⟩ ⟨rfl, rfl⟩
theorem imaxN {x y : Nat} (hx : x < 2 ^ 31) (hy : y < 2 ^ 31) : imax (nI x) (nI y) = nI (max x y) := by
  unfold imax
  by_cases g : x < y
  · rw [if_pos (nI_lt g hy), Nat.max_eq_right (by omega)]
  · rw [if_neg (nI_nlt (by omega) hx), Nat.max_eq_left (by omega)]
theorem iminN {x y : Nat} (hx : x < 2 ^ 31) (hy : y < 2 ^ 31) : imin (nI x) (nI y) = nI (min x y) := by
  unfold imin
  by_cases g : y < x
  · rw [if_pos (nI_lt g hx), Nat.min_eq_right (by omega)]
  · rw [if_neg (nI_nlt (by omega) hy), Nat.min_eq_left (by omega)]
set_option maxRecDepth 20000 in
set_option maxHeartbeats 1000000 in
theorem c_newLength {X : KX} (hxs : X.1.stackTraces = false) {h : AH} {m x y : Nat} (h0 : 0 < m + max x y) (hb : m + max x y ≤ 2147483639) : Ct X mJ8_newLength_cabcc [.int (nI m), .int (nI x), .int (nI y)] h (zR (some (.int (nI (m + max x y)))) h) := by
  have hx2 : x < 2 ^ 31 := by omega
  have hy2 : y < 2 ^ 31 := by omega
  refine Ct.of (by decide) rfl (Nat.le_of_ble_eq_true rfl) rfl hxs ?_
  refine V_iload_n dJ8_newLength_cabcc_0 0 rfl ?_
  refine V_iload_n dJ8_newLength_cabcc_1 1 rfl ?_
  refine V_iload_n dJ8_newLength_cabcc_2 2 rfl ?_
  refine V_mmax dJ8_newLength_cabcc_3 mlJ8_194 wMax ⟨Nat.le_of_ble_eq_true rfl, Nat.le_of_ble_eq_true rfl, Nat.le_of_ble_eq_true rfl, Nat.le_of_ble_eq_true rfl⟩ ?_
  refine V_iadd dJ8_newLength_cabcc_6 ?_
  rw [imaxN hx2 hy2, nI_add]
  refine V_istore_n (lv' := [(3, .int (nI (m + max x y))), (0, .int (nI m)), (1, .int (nI x)), (2, .int (nI y))]) dJ8_newLength_cabcc_7 rfl (by decide) rfl ?_
  refine V_iconst (v := 0) dJ8_newLength_cabcc_8 (by decide) ?_
  refine V_iload_n dJ8_newLength_cabcc_9 0 rfl ?_
  refine V_icmp_ge (tgt := 21) dJ8_newLength_cabcc_10 (by decide) (fun c9 => absurd c9 (nI_nle (by omega) (by omega))) (fun _ => ?_)
  refine V_iload_n dJ8_newLength_cabcc_13 0 rfl ?_
  refine V_ldci dJ8_newLength_cabcc_14 kcJ8_200 ?_
  refine V_icmp_gt (tgt := 21) dJ8_newLength_cabcc_16 (by decide) (fun c9 => absurd c9 (nI_nlt (a := 2147483639) (b := m + max x y) (by omega) (by decide))) (fun _ => ?_)
  refine V_iload_n dJ8_newLength_cabcc_19 0 rfl ?_
  exact V_iret dJ8_newLength_cabcc_20 rfl ⟨Nat.le_of_ble_eq_true rfl, Nat.le_of_ble_eq_true rfl⟩ ⟨rfl, rfl⟩
set_option maxRecDepth 20000 in
set_option maxHeartbeats 1000000 in
theorem c_newCap {X : KX} (hxs : X.1.stackTraces = false) (hg : GX X) {h : AH} {a v : Nat} {ml c : Int32} (hS : SbO h a v ml c) {L : List Int32} (hL : h.2 v = some (aL (kA X 2) L)) {q : Nat} (hq : L.length < q) (hq2 : q ≤ 65536) : Ct X mJ5_newCapacity_0f7a4 [.ref a, .int (nI q)] h (zR (some (.int (nI (L.length + max (q - L.length) (L.length + 2))))) h) := by
  refine Ct.of (by decide) rfl (Nat.le_of_ble_eq_true rfl) rfl hxs ?_
  refine V_aload_n dJ5_newCapacity_0f7a4_0 0 rfl ?_
  refine gf_sb_value hS dJ5_newCapacity_0f7a4_1 flJ5_15 ?_
  refine V_alen (t := 2) (v := nI L.length) dJ5_newCapacity_0f7a4_4 rfl hL rfl ?_
  refine V_istore_n (lv' := [(2, .int (nI L.length)), (0, .ref a), (1, .int (nI q))]) dJ5_newCapacity_0f7a4_5 rfl (by decide) rfl ?_
  refine V_iload_n dJ5_newCapacity_0f7a4_6 2 rfl ?_
  refine V_aload_n dJ5_newCapacity_0f7a4_7 1 rfl ?_
  refine gf_sb_coder hS dJ5_newCapacity_0f7a4_8 flJ5_22 ?_
  refine V_ishl dJ5_newCapacity_0f7a4_11 ?_
  rw [sb_shl0]
  refine V_istore_n (lv' := [(3, .int (nI q)), (2, .int (nI L.length)), (0, .ref a), (1, .int (nI q))]) dJ5_newCapacity_0f7a4_12 rfl (by decide) rfl ?_
  refine V_iload_n dJ5_newCapacity_0f7a4_13 0 rfl ?_
  refine V_iload_n dJ5_newCapacity_0f7a4_14 1 rfl ?_
  refine V_isub dJ5_newCapacity_0f7a4_15 ?_
  rw [pk_sub (by omega)]
  refine V_istore (lv' := [(4, .int (nI (q - L.length))), (3, .int (nI q)), (2, .int (nI L.length)), (0, .ref a), (1, .int (nI q))]) dJ5_newCapacity_0f7a4_16 (by decide) rfl ?_
  refine V_iload_n dJ5_newCapacity_0f7a4_18 2 rfl ?_
  refine V_iload dJ5_newCapacity_0f7a4_19 0 rfl ?_
  refine V_iload_n dJ5_newCapacity_0f7a4_21 2 rfl ?_
  refine V_iconst (v := 2) dJ5_newCapacity_0f7a4_22 (by decide) ?_
  refine V_aload_n dJ5_newCapacity_0f7a4_23 3 rfl ?_
  refine gf_sb_coder hS dJ5_newCapacity_0f7a4_24 flJ5_22 ?_
  refine V_ishl dJ5_newCapacity_0f7a4_27 ?_
  rw [sb_shl0]
  refine V_iadd dJ5_newCapacity_0f7a4_28 ?_
  rw [show nI L.length + 2 = nI (L.length + 2) from nI_add L.length 2]
  refine V_cSi (As := [.int (nI L.length), .int (nI (q - L.length)), .int (nI (L.length + 2))]) (rest := []) dJ5_newCapacity_0f7a4_29 cvJ5_114 (c_newLength hxs (by omega) (by omega)) ⟨Nat.le_of_ble_eq_true rfl, Nat.le_of_ble_eq_true rfl, Nat.le_of_ble_eq_true rfl, Nat.le_of_ble_eq_true rfl⟩ (Nat.le_of_ble_eq_true rfl) rfl ?_
  refine V_istore (lv' := [(5, .int (nI (L.length + max (q - L.length) (L.length + 2)))), (4, .int (nI (q - L.length))), (3, .int (nI q)), (2, .int (nI L.length)), (0, .ref a), (1, .int (nI q))]) dJ5_newCapacity_0f7a4_32 (by decide) rfl ?_
  refine V_iload dJ5_newCapacity_0f7a4_34 0 rfl ?_
  refine V_ldci dJ5_newCapacity_0f7a4_36 kcJ5_39 ?_
  refine V_icmp_ne (tgt := 51) dJ5_newCapacity_0f7a4_38 (by decide) (fun _ => ?_) (fun c9 => absurd c9 (fun e9 => by have := (nI_eq (a := L.length + max (q - L.length) (L.length + 2)) (b := 2147483647) (by omega) (by decide)).mp e9; omega))
  refine V_iload dJ5_newCapacity_0f7a4_51 0 rfl ?_
  refine V_aload_n dJ5_newCapacity_0f7a4_53 4 rfl ?_
  refine gf_sb_coder hS dJ5_newCapacity_0f7a4_54 flJ5_22 ?_
  refine V_ishr dJ5_newCapacity_0f7a4_57 ?_
  rw [sb_shr0]
  exact V_iret dJ5_newCapacity_0f7a4_58 rfl ⟨Nat.le_of_ble_eq_true rfl, Nat.le_of_ble_eq_true rfl⟩ ⟨rfl, rfl⟩
set_option maxRecDepth 20000 in
set_option maxHeartbeats 1000000 in
theorem c_copyOf {X : KX} (hxs : X.1.stackTraces = false) {h : AH} {v : Nat} {L : List Int32} (hL : h.2 v = some (aL (kA X 2) L)) (hv : v < h.1) {q : Nat} (hq : L.length < q) (hq2 : q ≤ 128) (hf : ∀ i, fits .byte (.int (L.getD i 0)) = true) : Ct X mJ7_copyOf_9075b [.ref v, .int (nI q)] h (zM (some (.ref h.1)) (fun h' => h' = hput (hnew h (aL (kA X 2) (List.replicate q 0))) h.1 (aL (kA X 2) (cpL L (List.replicate q 0) 0 0 L.length)))) := by
  refine Ct.of (by decide) rfl (Nat.le_of_ble_eq_true rfl) rfl hxs ?_
  refine V_iload_n dJ7_copyOf_9075b_0 1 rfl ?_
  refine V_aload_n dJ7_copyOf_9075b_1 0 rfl ?_
  refine V_alen (t := 2) (v := nI L.length) dJ7_copyOf_9075b_2 rfl hL rfl ?_
  refine V_icmp_ne (tgt := 14) dJ7_copyOf_9075b_3 (by decide) (fun _ => ?_) (fun c9 => absurd c9 (fun e9 => by have := (nI_eq (by omega) (by omega)).mp e9; omega))
  refine V_iload_n dJ7_copyOf_9075b_14 1 rfl ?_
  refine V_newb (N := q) dJ7_copyOf_9075b_15 wAb (nI_pos (by omega)) (nI_clamp (by omega)) (by omega) ⟨by decide, by show 0 + q ≤ 128; omega⟩ ?_
  have hL1 : (hnew h (aL (kA X 2) (List.replicate q 0))).2 v = some (aL (kA X 2) L) := (if_neg (fun e => by omega)).trans hL
  refine V_astore_n (lv' := [(2, .ref h.1), (0, .ref v), (1, .int (nI q))]) dJ7_copyOf_9075b_17 rfl (by decide) rfl ?_
  refine V_aload_n dJ7_copyOf_9075b_18 1 rfl ?_
  refine V_iconst (v := 0) dJ7_copyOf_9075b_19 (by decide) ?_
  refine V_aload_n dJ7_copyOf_9075b_20 0 rfl ?_
  refine V_iconst (v := 0) dJ7_copyOf_9075b_21 (by decide) ?_
  refine V_aload_n dJ7_copyOf_9075b_22 1 rfl ?_
  refine V_alen (t := 2) (v := nI L.length) dJ7_copyOf_9075b_23 rfl hL1 rfl ?_
  refine V_iload_n dJ7_copyOf_9075b_24 2 rfl ?_
  refine V_mmin dJ7_copyOf_9075b_25 mlJ7_304 wMin ⟨Nat.le_of_ble_eq_true rfl, Nat.le_of_ble_eq_true rfl, by decide, by show 0 + q ≤ 128; omega⟩ ?_
  rw [iminN (by omega) (by omega), Nat.min_eq_left (by omega)]
  refine V_copyp (t := 2) (ty := .byte) (u := 0) (v := 0) (w := L.length) (L1 := List.replicate q 0) dJ7_copyOf_9075b_28 mlJ7_150 wCpy rfl rfl hL1 (if_pos rfl) (by omega) rfl rfl rfl (by omega) (by rw [List.length_replicate]; omega) (by omega) (by rw [List.length_replicate]; omega) hf ⟨by decide, by decide +kernel⟩ ?_
  refine V_aload_n dJ7_copyOf_9075b_31 0 rfl ?_
  exact V_aret dJ7_copyOf_9075b_32 rfl (Or.inr ⟨_, rfl⟩) ⟨by decide, by show 0 + q ≤ 128; omega⟩ ⟨rfl, rfl⟩
