/-! ===== StringBuilder: append a letter, read a letter, forget the text ===== -/
set_option maxRecDepth 20000 in
set_option maxHeartbeats 1000000 in
theorem c_canEnc {X : KX} (hxs : X.1.stackTraces = false) {h : AH} {b : Nat} (hb : b < 128) : Ct X mJ1_canEncode_fc78d [.int (nI b)] h (zR (some (.int 1)) h) := by
  refine Ct.of (by decide) rfl (Nat.le_of_ble_eq_true rfl) rfl hxs ?_
  refine V_iload_n dJ1_canEncode_fc78d_0 0 rfl ?_
  refine V_sipush (v := 255) dJ1_canEncode_fc78d_1 (by decide) ?_
  refine V_icmp_gt (tgt := 11) dJ1_canEncode_fc78d_4 (by decide) (fun c9 => absurd c9 (nI_nlt (a := 255) (b := b) (by omega) (by decide))) (fun _ => ?_)
  refine V_iconst (v := 1) dJ1_canEncode_fc78d_7 (by decide) ?_
  refine V_goto (tgt := 12) dJ1_canEncode_fc78d_8 (by decide) ?_
  exact V_zret dJ1_canEncode_fc78d_12 rfl bN1 ⟨Nat.le_of_ble_eq_true rfl, Nat.le_of_ble_eq_true rfl⟩ ⟨rfl, rfl⟩
set_option maxRecDepth 20000 in
set_option maxHeartbeats 1000000 in
theorem c_J5_appC {X : KX} (hxs : X.1.stackTraces = false) (hg : GX X) {h : AH} {a v : Nat} {L : List Int32} {ml : Int32} {n b : Nat} (hS : SbV X h a v L ml (nI n)) (hb : b < 128) (hn : n ≤ L.length) (hcap : capN (n + 1) L.length ≤ 128) : Ct X mJ5_append_3fe6f [.ref a, .int (nI b)] h (zM (some (.ref a)) (fun h' => ∃ v' L', SbV X h' a v' L' ml (nI (n + 1)) ∧ L'.length = capN (n + 1) L.length ∧ n + 1 ≤ L'.length ∧ (∀ j, j < n → L'.getD j 0 = L.getD j 0) ∧ L'.getD n 0 = nI b ∧ FrS h h' a v ∧ (v' = v ∧ n + 1 ≤ L.length ∨ h.1 ≤ v' ∧ L.length < n + 1))) := by
  have hl9 := hS.2.2.2.2.2.1
  refine Ct.of (by decide) rfl (Nat.le_of_ble_eq_true rfl) rfl hxs ?_
  refine V_aload_n dJ5_append_3fe6f_0 0 rfl ?_
  refine V_aload_n dJ5_append_3fe6f_1 0 rfl ?_
  refine gf_sb_count hS.1 dJ5_append_3fe6f_2 flJ5_79 ?_
  refine V_iconst (v := 1) dJ5_append_3fe6f_5 (by decide) ?_
  refine V_iadd dJ5_append_3fe6f_6 ?_
  rw [show nI n + 1 = nI (n + 1) from nI_1 n]
  refine V_cVp hg.p (As := [.int (nI (n + 1))]) (rest := []) (v := none) dJ5_append_3fe6f_7 cpJ5_100 (c_ens hxs hg hS hcap (Z := fun _ h1 => ∃ v1 L1, SbV X h1 a v1 L1 ml (nI n) ∧ L1.length = capN (n + 1) L.length ∧ n + 1 ≤ L1.length ∧ (∀ j, j < L.length → L1.getD j 0 = L.getD j 0) ∧ FrS h h1 a v ∧ (v1 = v ∧ n + 1 ≤ L.length ∨ h.1 ≤ v1 ∧ L.length < n + 1)) (fun h1 v1 L1 z1 z2 z3 z4 z5 z6 => ⟨v1, L1, z1, z2, z3, z4, z5, z6⟩)) hS.1 rfl ⟨Nat.le_of_ble_eq_true rfl, Nat.le_of_ble_eq_true rfl, Nat.le_of_ble_eq_true rfl, Nat.le_of_ble_eq_true rfl⟩ (Nat.le_of_ble_eq_true rfl) rfl (fun h1 q1 => ?_)
  obtain ⟨v1, L1, hS1, hL1, hn1, hk1, hF1, hv1⟩ := q1
  refine V_aload_n dJ5_append_3fe6f_10 0 rfl ?_
  refine V_cVg (As := []) (rest := []) dJ5_append_3fe6f_11 cuJ5_83 (Q := fun h2 => h2 = h1) (c_J5_isLatin1_aae02 hxs hg hS1.1) hS1.1 rfl ⟨Nat.le_of_ble_eq_true rfl, Nat.le_of_ble_eq_true rfl, Nat.le_of_ble_eq_true rfl, Nat.le_of_ble_eq_true rfl⟩ (Nat.le_of_ble_eq_true rfl) rfl (fun h2 e2 => ?_)
  subst e2
  refine V_if_eq (tgt := 45) dJ5_append_3fe6f_14 (by decide) (fun c9 => absurd c9 (by decide)) (fun _ => ?_)
  refine V_iload_n dJ5_append_3fe6f_17 1 rfl ?_
  refine V_cSi (As := [.int (nI b)]) (rest := []) dJ5_append_3fe6f_18 cvJ5_191 (c_canEnc hxs hb) ⟨Nat.le_of_ble_eq_true rfl, Nat.le_of_ble_eq_true rfl, Nat.le_of_ble_eq_true rfl, Nat.le_of_ble_eq_true rfl⟩ (Nat.le_of_ble_eq_true rfl) rfl ?_
  refine V_if_eq (tgt := 45) dJ5_append_3fe6f_21 (by decide) (fun c9 => absurd c9 (by decide)) (fun _ => ?_)
  refine V_aload_n dJ5_append_3fe6f_24 0 rfl ?_
  refine gf_sb_value hS1.1 dJ5_append_3fe6f_25 flJ5_15 ?_
  refine V_aload_n dJ5_append_3fe6f_28 0 rfl ?_
  refine V_dup dJ5_append_3fe6f_29 rfl ?_
  refine gf_sb_count hS1.1 dJ5_append_3fe6f_30 flJ5_79 ?_
  refine V_dup_x1 dJ5_append_3fe6f_33 rfl rfl ?_
  refine V_iconst (v := 1) dJ5_append_3fe6f_34 (by decide) ?_
  refine V_iadd dJ5_append_3fe6f_35 ?_
  rw [show nI n + 1 = nI (n + 1) from nI_1 n]
  refine pf_sb_count hS1.1 dJ5_append_3fe6f_36 flJ5_79 (fun h3 hS3 hF3 hz3 hk3 => ?_)
  have hL3 : h3.2 v1 = some (aL (kA X 2) L1) := (hk3 v1 (Ne.symm hS1.2.2.1)).trans hS1.2.1
  refine V_iload_n dJ5_append_3fe6f_39 1 rfl ?_
  refine V_i2b dJ5_append_3fe6f_40 (i2b_s b hb) ?_
  refine V_bast dJ5_append_3fe6f_41 hL3 (vp_in_nI (by omega) (by have := hS1.2.2.2.2.2.1; omega)) (nar_s b hb) ?_
  refine V_goto (tgt := 75) dJ5_append_3fe6f_42 (by decide) ?_
  refine V_aload_n dJ5_append_3fe6f_75 0 rfl ?_
  refine V_aret dJ5_append_3fe6f_76 rfl (Or.inl ⟨_, rfl⟩) ⟨Nat.le_of_ble_eq_true rfl, Nat.le_of_ble_eq_true rfl⟩ ⟨rfl, v1, wr L1 (nI n) (nI b), ⟨(hput_ne hS1.2.2.1).trans hS3, hput_at, hS1.2.2.1, ?_, ?_, by rw [wr_len]; exact hS1.2.2.2.2.2.1, fitW hS1.2.2.2.2.2.2 (fit_s b hb)⟩, by rw [wr_len]; exact hL1, by rw [wr_len]; exact hn1, fun j hj => ?_, ?_, ?_, hv1⟩
  · show a < h3.1; rw [hz3]; exact hS1.2.2.2.1
  · show v1 < h3.1; rw [hz3]; exact hS1.2.2.2.2.1
  · have hne : (nI n).toNatClampNeg ≠ j := by rw [nI_clamp (by have := hS1.2.2.2.2.2.1; omega)]; omega
    have : (wr L1 (nI n) (nI b)).getD j 0 = L1.getD j 0 := by simp [wr, List.getD_eq_getElem?_getD, List.getElem?_set_ne hne]
    rw [this, hk1 j (by omega)]
  · have hc : (nI n).toNatClampNeg = n := nI_clamp (by have := hS1.2.2.2.2.2.1; omega)
    simp [wr, List.getD_eq_getElem?_getD, hc, show n < L1.length by omega]
  · exact hF1.tr ((FrS.tr hF3 (FrS.put (Or.inr rfl)) (Or.inl rfl))) (by omega)
set_option maxRecDepth 20000 in
set_option maxHeartbeats 1000000 in
theorem c_appC {X : KX} (hxs : X.1.stackTraces = false) (hg : GX X) {h : AH} {a v : Nat} {L : List Int32} {ml : Int32} {n b : Nat} (hS : SbV X h a v L ml (nI n)) (hb : b < 128) (hn : n ≤ L.length) (hcap : capN (n + 1) L.length ≤ 128) : Ct X mJ4_append_cf468 [.ref a, .int (nI b)] h (zM (some (.ref a)) (fun h' => ∃ v' L', SbV X h' a v' L' ml (nI (n + 1)) ∧ L'.length = capN (n + 1) L.length ∧ n + 1 ≤ L'.length ∧ (∀ j, j < n → L'.getD j 0 = L.getD j 0) ∧ L'.getD n 0 = nI b ∧ FrS h h' a v ∧ (v' = v ∧ n + 1 ≤ L.length ∨ h.1 ≤ v' ∧ L.length < n + 1))) := by
  refine Ct.of (by decide) rfl (Nat.le_of_ble_eq_true rfl) rfl hxs ?_
  refine V_aload_n dJ4_append_cf468_0 0 rfl ?_
  refine V_iload_n dJ4_append_cf468_1 1 rfl ?_
  refine V_cSU (As := [.int (nI b)]) (rest := []) dJ4_append_cf468_2 csJ4_50 (c_J5_appC hxs hg hS hb hn hcap) hS.1 rfl ⟨Nat.le_of_ble_eq_true rfl, Nat.le_of_ble_eq_true rfl, Nat.le_of_ble_eq_true rfl, Nat.le_of_ble_eq_true rfl⟩ (Nat.le_of_ble_eq_true rfl) rfl (fun h1 q1 => ?_)
  refine V_pop dJ4_append_cf468_5 rfl ?_
  refine V_aload_n dJ4_append_cf468_6 0 rfl ?_
  exact V_aret dJ4_append_cf468_7 rfl (Or.inl ⟨_, rfl⟩) ⟨Nat.le_of_ble_eq_true rfl, Nat.le_of_ble_eq_true rfl⟩ ⟨rfl, q1⟩
theorem c_J5_setLen0 {X : KX} (hxs : X.1.stackTraces = false) (hg : GX X) {h : AH} {a v : Nat} {L : List Int32} {ml : Int32} {n : Nat} (hS : SbV X h a v L ml (nI n)) (hn : n ≤ 128) : Ct X mJ5_setLength_d00df [.ref a, .int 0] h (zM none (fun h' => ∃ ml', SbV X h' a v L ml' 0 ∧ h'.1 = h.1 ∧ ∀ q, q ≠ a → h'.2 q = h.2 q)) := by
  refine Ct.of (by decide) rfl (Nat.le_of_ble_eq_true rfl) rfl hxs ?_
  refine V_iload_n dJ5_setLength_d00df_0 1 rfl ?_
  refine V_if_ge (tgt := 13) dJ5_setLength_d00df_1 (by decide) (fun _ => ?_) (fun c9 => absurd (by decide) c9)
  refine V_aload_n dJ5_setLength_d00df_13 0 rfl ?_
  refine V_iload_n dJ5_setLength_d00df_14 1 rfl ?_
  refine V_cVp hg.p (As := [.int 0]) (rest := []) dJ5_setLength_d00df_15 cpJ5_100z (Q := fun h1 => h1 = h) (c_ens0z hxs hg hS.1 hS.2.1 (q := 0) (by omega) (by have := hS.2.2.2.2.2.1; omega)) hS.1 rfl ⟨Nat.le_of_ble_eq_true rfl, Nat.le_of_ble_eq_true rfl, Nat.le_of_ble_eq_true rfl, Nat.le_of_ble_eq_true rfl⟩ (Nat.le_of_ble_eq_true rfl) rfl (fun h1 e1 => ?_)
  subst e1
  refine V_aload_n dJ5_setLength_d00df_18 0 rfl ?_
  refine gf_sb_count hS.1 dJ5_setLength_d00df_19 flJ5_79 ?_
  refine V_iload_n dJ5_setLength_d00df_22 1 rfl ?_
  refine V_icmp_ge (tgt := 63) dJ5_setLength_d00df_23 (by decide) (fun _ => ?_) (fun c9 => absurd (nI_pos' (by omega)) c9)
  refine V_aload_n dJ5_setLength_d00df_63 0 rfl ?_
  refine gf_sb_count hS.1 dJ5_setLength_d00df_64 flJ5_79 ?_
  refine V_iload_n dJ5_setLength_d00df_67 1 rfl ?_
  refine V_icmp_le (tgt := 76) dJ5_setLength_d00df_68 (by decide) (fun c1 => ?_) (fun c1 => ?_)
  · refine V_aload_n dJ5_setLength_d00df_76 0 rfl ?_
    refine V_iload_n dJ5_setLength_d00df_77 1 rfl ?_
    refine pf_sb_count hS.1 dJ5_setLength_d00df_78 flJ5_79 (fun h3 hS3 hF3 hz3 hk3 => ?_)
    exact V_vret dJ5_setLength_d00df_81 rfl ⟨Nat.le_of_ble_eq_true rfl, Nat.le_of_ble_eq_true rfl⟩ ⟨rfl, _, ⟨hS3, (hk3 v (Ne.symm hS.2.2.1)).trans hS.2.1, hS.2.2.1, by rw [hz3]; exact hS.2.2.2.1, by rw [hz3]; exact hS.2.2.2.2.1, hS.2.2.2.2.2⟩, hz3, fun q hq => (hk3 q hq)⟩
  · refine V_aload_n dJ5_setLength_d00df_71 0 rfl ?_
    refine V_iconst (v := 1) dJ5_setLength_d00df_72 (by decide) ?_
    refine pf_sb_maybeLatin1 hS.1 (Or.inr rfl) dJ5_setLength_d00df_73 flJ5_73 (fun h2 hS2 hF2 hz2 hk2 => ?_)
    refine V_aload_n dJ5_setLength_d00df_76 0 rfl ?_
    refine V_iload_n dJ5_setLength_d00df_77 1 rfl ?_
    refine pf_sb_count hS2 dJ5_setLength_d00df_78 flJ5_79 (fun h3 hS3 hF3 hz3 hk3 => ?_)
    exact V_vret dJ5_setLength_d00df_81 rfl ⟨Nat.le_of_ble_eq_true rfl, Nat.le_of_ble_eq_true rfl⟩ ⟨rfl, _, ⟨hS3, (hk3 v (Ne.symm hS.2.2.1)).trans ((hk2 v (Ne.symm hS.2.2.1)).trans hS.2.1), hS.2.2.1, by rw [hz3, hz2]; exact hS.2.2.2.1, by rw [hz3, hz2]; exact hS.2.2.2.2.1, hS.2.2.2.2.2⟩, hz3.trans hz2, fun q hq => (hk3 q hq).trans (hk2 q hq)⟩
set_option maxRecDepth 20000 in
set_option maxHeartbeats 1000000 in
theorem c_setLen0 {X : KX} (hxs : X.1.stackTraces = false) (hg : GX X) {h : AH} {a v : Nat} {L : List Int32} {ml : Int32} {n : Nat} (hS : SbV X h a v L ml (nI n)) (hn : n ≤ 128) : Ct X mJ4_setLength_d00df [.ref a, .int 0] h (zM none (fun h' => ∃ ml', SbV X h' a v L ml' 0 ∧ h'.1 = h.1 ∧ ∀ q, q ≠ a → h'.2 q = h.2 q)) := by
  refine Ct.of (by decide) rfl (Nat.le_of_ble_eq_true rfl) rfl hxs ?_
  refine V_aload_n dJ4_setLength_d00df_0 0 rfl ?_
  refine V_iload_n dJ4_setLength_d00df_1 1 rfl ?_
  refine V_cSU (As := [.int 0]) (rest := []) dJ4_setLength_d00df_2 csJ4_333 (c_J5_setLen0 hxs hg hS hn) hS.1 rfl ⟨Nat.le_of_ble_eq_true rfl, Nat.le_of_ble_eq_true rfl, Nat.le_of_ble_eq_true rfl, Nat.le_of_ble_eq_true rfl⟩ (Nat.le_of_ble_eq_true rfl) rfl (fun h1 q1 => ?_)
  exact V_vret dJ4_setLength_d00df_5 rfl ⟨Nat.le_of_ble_eq_true rfl, Nat.le_of_ble_eq_true rfl⟩ ⟨rfl, q1⟩
