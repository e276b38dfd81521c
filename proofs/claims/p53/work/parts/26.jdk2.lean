/-! ===== StringBuilder: room, letters ===== -/
/-- how a builder's room grows: from m for q letters -/
def capN (q m : Nat) : Nat := if q ≤ m then m else m + max (q - m) (m + 2)
theorem fitC {A B : List Int32} {u v w : Nat} (hA : ∀ i, fits .byte (.int (A.getD i 0)) = true) (hB : ∀ i, fits .byte (.int (B.getD i 0)) = true) : ∀ i, fits .byte (.int ((cpL A B u v w).getD i 0)) = true := fun i => by
  by_cases g : i < B.length
  · rw [cpL_getD g]
    split
    · exact hA _
    · exact hB _
  · rw [List.getD_eq_getElem?_getD, List.getElem?_eq_none (by rw [cpL_len]; omega)]
    rfl
theorem fitR (q : Nat) : ∀ i, fits .byte (.int ((List.replicate q (0 : Int32)).getD i 0)) = true := fun i => by
  have : (List.replicate q (0 : Int32)).getD i 0 = 0 := by
    rw [List.getD_eq_getElem?_getD, List.getElem?_replicate]
    split <;> rfl
  rw [this]
  rfl
theorem fitW {L : List Int32} {i x : Int32} (hL : ∀ j, fits .byte (.int (L.getD j 0)) = true) (hx : fits .byte (.int x) = true) : ∀ j, fits .byte (.int ((wr L i x).getD j 0)) = true := fun j => by
  by_cases e : i.toNatClampNeg = j
  · by_cases g : j < L.length
    · have : (wr L i x).getD j 0 = x := by subst e; simp [wr, List.getD_eq_getElem?_getD, g]
      rw [this]; exact hx
    · have : (wr L i x).getD j 0 = 0 := by simp [wr, List.getD_eq_getElem?_getD, List.getElem?_eq_none (show (L.set i.toNatClampNeg x).length ≤ j by rw [List.length_set]; omega)]
      rw [this]; rfl
  · have : (wr L i x).getD j 0 = L.getD j 0 := by simp [wr, List.getD_eq_getElem?_getD, List.getElem?_set_ne e]
    rw [this]; exact hL j
theorem i2b_s : ∀ b, b < 128 → (nI b).toInt8.toInt32 = nI b := by decide +kernel
theorem nar_s : ∀ b, b < 128 → vp_nar .byte (nI b) = nI b := by decide +kernel
theorem fit_s : ∀ b, b < 128 → fits .byte (.int (nI b)) = true := by decide +kernel
theorem and_s : ∀ b, b < 128 → nI b &&& 255 = nI b := by decide +kernel
theorem i2c_s : ∀ b, b < 128 → ((nI b).toUInt32 % 65536).toInt32 = nI b := by decide +kernel
theorem narc_s : ∀ b, b < 128 → narrow .char (.int (nI b)) = .int (nI b) := by decide +kernel
set_option maxRecDepth 20000 in
set_option maxHeartbeats 1000000 in
theorem c_ens1 {X : KX} (hxs : X.1.stackTraces = false) (hg : GX X) {h : AH} {a v : Nat} {L : List Int32} {ml c : Int32} (hS : SbV X h a v L ml c) {q : Nat} (hq : L.length < q) (hq2 : q ≤ 65536) (hcap : L.length + max (q - L.length) (L.length + 2) ≤ 128) : Ct X mJ5_ensureCapacityInternal_d00df [.ref a, .int (nI q)] h (zM none (fun h' => ∃ v' L', SbV X h' a v' L' ml c ∧ L'.length = L.length + max (q - L.length) (L.length + 2) ∧ (∀ j, j < L.length → L'.getD j 0 = L.getD j 0) ∧ FrS h h' a v ∧ h.1 ≤ v')) := by
  have hl9 := hS.2.2.2.2.2.1
  refine Ct.of (by decide) rfl (Nat.le_of_ble_eq_true rfl) rfl hxs ?_
  refine V_aload_n dJ5_ensureCapacityInternal_d00df_0 0 rfl ?_
  refine gf_sb_value hS.1 dJ5_ensureCapacityInternal_d00df_1 flJ5_15 ?_
  refine V_alen (t := 2) (v := nI L.length) dJ5_ensureCapacityInternal_d00df_4 rfl hS.2.1 rfl ?_
  refine V_aload_n dJ5_ensureCapacityInternal_d00df_5 0 rfl ?_
  refine gf_sb_coder hS.1 dJ5_ensureCapacityInternal_d00df_6 flJ5_22 ?_
  refine V_ishr dJ5_ensureCapacityInternal_d00df_9 ?_
  rw [sb_shr0]
  refine V_istore_n (lv' := [(2, .int (nI L.length)), (0, .ref a), (1, .int (nI q))]) dJ5_ensureCapacityInternal_d00df_10 rfl (by decide) rfl ?_
  refine V_iload_n dJ5_ensureCapacityInternal_d00df_11 2 rfl ?_
  refine V_iload_n dJ5_ensureCapacityInternal_d00df_12 0 rfl ?_
  refine V_isub dJ5_ensureCapacityInternal_d00df_13 ?_
  refine V_if_le (tgt := 38) dJ5_ensureCapacityInternal_d00df_14 (by decide) (fun c9 => absurd c9 (by rw [Int32.le_iff_toInt_le, pk_sub_toInt (by omega) (by omega), Int32.toInt_zero]; omega)) (fun _ => ?_)
  refine V_aload_n dJ5_ensureCapacityInternal_d00df_17 1 rfl ?_
  refine V_aload_n dJ5_ensureCapacityInternal_d00df_18 1 rfl ?_
  refine gf_sb_value hS.1 dJ5_ensureCapacityInternal_d00df_19 flJ5_15 ?_
  refine V_aload_n dJ5_ensureCapacityInternal_d00df_22 1 rfl ?_
  refine V_iload_n dJ5_ensureCapacityInternal_d00df_23 2 rfl ?_
  refine V_cVp hg.p (As := [.int (nI q)]) (rest := [.ref v, .ref a]) dJ5_ensureCapacityInternal_d00df_24 cpJ5_104 (Q := fun h1 => h1 = h) (c_newCap hxs hg hS.1 hS.2.1 hq hq2)  hS.1 rfl ⟨Nat.le_of_ble_eq_true rfl, Nat.le_of_ble_eq_true rfl, Nat.le_of_ble_eq_true rfl, Nat.le_of_ble_eq_true rfl⟩ (Nat.le_of_ble_eq_true rfl) rfl (fun h1 e9 => ?_)
  subst e9
  refine V_aload_n dJ5_ensureCapacityInternal_d00df_27 1 rfl ?_
  refine gf_sb_coder hS.1 dJ5_ensureCapacityInternal_d00df_28 flJ5_22 ?_
  refine V_ishl dJ5_ensureCapacityInternal_d00df_31 ?_
  rw [sb_shl0]
  refine V_cSg (As := [.ref v, .int (nI (L.length + max (q - L.length) (L.length + 2)))]) (rest := [.ref a]) dJ5_ensureCapacityInternal_d00df_32 cvJ5_108 (c_copyOf hxs hS.2.1 hS.2.2.2.2.1 (by omega) hcap hS.2.2.2.2.2.2) ⟨Nat.le_of_ble_eq_true rfl, Nat.le_of_ble_eq_true rfl, Nat.le_of_ble_eq_true rfl, Nat.le_of_ble_eq_true rfl⟩ (Nat.le_of_ble_eq_true rfl) rfl (fun h2 e2 => ?_)
  have hS2 : SbO h2 a v ml c := by rw [e2]; exact (hput_ne (by have := hS.2.2.2.1; omega)).trans ((if_neg (by have := hS.2.2.2.1; omega)).trans hS.1)
  have hL2 : h2.2 h1.1 = some (aL (kA X 2) (cpL L (List.replicate (L.length + max (q - L.length) (L.length + 2)) 0) 0 0 L.length)) := by rw [e2]; exact hput_at
  have hz2 : h2.1 = h1.1 + 1 := by rw [e2]; rfl
  have hF2 : FrS h1 h2 a v := ⟨by omega, fun x _ _ hx => by rw [e2]; exact (hput_ne (by omega)).trans (if_neg (by omega))⟩
  refine pf_sb_value hS2 dJ5_ensureCapacityInternal_d00df_35 flJ5_15 (fun h3 hS3 hF3 hz3 hk3 => ?_)
  refine V_vret dJ5_ensureCapacityInternal_d00df_38 rfl ⟨Nat.le_of_ble_eq_true rfl, Nat.le_of_ble_eq_true rfl⟩ ⟨rfl, ⟨_, _, ⟨hS3, (hk3 _ (by have := hS.2.2.2.1; omega)).trans hL2, by have := hS.2.2.2.1; omega, by have := hS.2.2.2.1; omega, by omega, by rw [cpL_len, List.length_replicate]; exact hcap, fitC hS.2.2.2.2.2.2 (fitR _)⟩, by rw [cpL_len, List.length_replicate], fun j hj => ?_, hF2.tr hF3 (Or.inl rfl), Nat.le_refl _⟩⟩
  rw [cpL_getD (by rw [List.length_replicate]; omega), if_pos ⟨by omega, by omega⟩]
  simp
/-- room for q letters -/
theorem c_ens {X : KX} (hxs : X.1.stackTraces = false) (hg : GX X) {h : AH} {a v : Nat} {L : List Int32} {ml c : Int32} (hS : SbV X h a v L ml c) {q : Nat} (hcap : capN q L.length ≤ 128) {Z : ZT} (hZ : ∀ (h' : AH) (v' : Nat) (L' : List Int32), SbV X h' a v' L' ml c → L'.length = capN q L.length → q ≤ L'.length → (∀ j, j < L.length → L'.getD j 0 = L.getD j 0) → FrS h h' a v → (v' = v ∧ q ≤ L.length ∨ h.1 ≤ v' ∧ L.length < q) → Z (.inl none) h') : Ct X mJ5_ensureCapacityInternal_d00df [.ref a, .int (nI q)] h (zM none (fun h' => Z (.inl none) h')) := by
  have hl9 := hS.2.2.2.2.2.1
  unfold capN at hcap hZ
  by_cases g : q ≤ L.length
  · rw [if_pos g] at hcap hZ
    exact Ct.weak (c_ens0 hxs hg hS.1 hS.2.1 g (by omega)) (fun o h' hz => ⟨hz.1, by rw [hz.2]; exact hZ h v L hS rfl g (fun _ _ => rfl) FrS.rf (Or.inl ⟨rfl, g⟩)⟩)
  · rw [if_neg g] at hcap hZ
    exact Ct.weak (c_ens1 hxs hg hS (by omega) (by omega) hcap) (fun o h' hz => ⟨hz.1, by
      obtain ⟨v', L', h1, h2, h3, h4, h5⟩ := hz.2
      exact hZ h' v' L' h1 h2 (by omega) h3 h4 (Or.inr ⟨h5, by omega⟩)⟩)
