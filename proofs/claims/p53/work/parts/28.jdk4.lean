/-! ===== letters that are read; strings, given ones and made ones ===== -/
section VGS
variable {X : KX} {M : MI} {F : FT} {k n pc : Nat} {lv lv' : List (Nat × Value)} {rest : List Value} {h : AH} {Z : ZT}
theorem V_getsq {C nm d : String} {idx : Nat} (hdg : decode (mcc M) pc = .ok (.getstatic idx, 3)) (hw : Cond.fieldLink (my M).cls idx C nm d ∈ GW) (hZ : ∀ U : State, kG X U → va_Zq C nm d (kFr X) U (kH X)) (k1 : V X M F k n (pc + 3) lv (.null :: rest) h) (k2 : ∀ t : Nat, V X M F k n (pc + 3) lv (.ref t :: rest) h) : V X M F k n pc lv rest h := fun p e s m args below meth c H locs ls hF hR hS hL => by
  rcases hZ s hF.kg with h1 | ⟨t, h1⟩
  · exact va_gets hF.1 hF.2.1 (h1.kept hF.old) hS hF.2.2.2.1 (hF.2.2.2.2.1 _ hw) (fun _ z => z) hdg (k1 p e s m args below meth c H locs ls hF hR hS hL)
  · exact va_gets hF.1 hF.2.1 (h1.kept hF.old) hS hF.2.2.2.1 (hF.2.2.2.2.1 _ hw) (fun _ z => z) hdg (k2 t p e s m args below meth c H locs ls hF hR hS hL)
end VGS
set_option maxRecDepth 20000 in
set_option maxHeartbeats 1000000 in
theorem c_chkn {X : KX} (hxs : X.1.stackTraces = false) {h : AH} {i n : Nat} (hi : i < n) (hn : n < 2 ^ 31) : Ct X mJ3_checkIndex_8e157 [.int (nI i), .int (nI n), .null] h (zR (some (.int (nI i))) h) := by
  refine Ct.of (by decide) rfl (Nat.le_of_ble_eq_true rfl) rfl hxs ?_
  refine V_iload_n dJ3_checkIndex_8e157_0 0 rfl ?_
  refine V_if_lt (tgt := 9) dJ3_checkIndex_8e157_1 (by decide) (fun c9 => absurd c9 (nI_pos (by omega))) (fun _ => ?_)
  refine V_iload_n dJ3_checkIndex_8e157_4 0 rfl ?_
  refine V_iload_n dJ3_checkIndex_8e157_5 1 rfl ?_
  refine V_icmp_lt (tgt := 16) dJ3_checkIndex_8e157_6 (by decide) (fun _ => ?_) (fun c9 => absurd (nI_lt hi hn) c9)
  refine V_iload_n dJ3_checkIndex_8e157_16 0 rfl ?_
  exact V_iret dJ3_checkIndex_8e157_17 rfl ⟨Nat.le_of_ble_eq_true rfl, Nat.le_of_ble_eq_true rfl⟩ ⟨rfl, rfl⟩
set_option maxRecDepth 20000 in
set_option maxHeartbeats 1000000 in
theorem c_chkr {X : KX} (hxs : X.1.stackTraces = false) {h : AH} {i n t : Nat} (hi : i < n) (hn : n < 2 ^ 31) : Ct X mJ3_checkIndex_8e157 [.int (nI i), .int (nI n), .ref t] h (zR (some (.int (nI i))) h) := by
  refine Ct.of (by decide) rfl (Nat.le_of_ble_eq_true rfl) rfl hxs ?_
  refine V_iload_n dJ3_checkIndex_8e157_0 0 rfl ?_
  refine V_if_lt (tgt := 9) dJ3_checkIndex_8e157_1 (by decide) (fun c9 => absurd c9 (nI_pos (by omega))) (fun _ => ?_)
  refine V_iload_n dJ3_checkIndex_8e157_4 0 rfl ?_
  refine V_iload_n dJ3_checkIndex_8e157_5 1 rfl ?_
  refine V_icmp_lt (tgt := 16) dJ3_checkIndex_8e157_6 (by decide) (fun _ => ?_) (fun c9 => absurd (nI_lt hi hn) c9)
  refine V_iload_n dJ3_checkIndex_8e157_16 0 rfl ?_
  exact V_iret dJ3_checkIndex_8e157_17 rfl ⟨Nat.le_of_ble_eq_true rfl, Nat.le_of_ble_eq_true rfl⟩ ⟨rfl, rfl⟩
set_option maxRecDepth 20000 in
set_option maxHeartbeats 1000000 in
theorem c_chkIdx {X : KX} (hxs : X.1.stackTraces = false) (hg : GX X) {h : AH} {i n : Nat} (hi : i < n) (hn : n < 2 ^ 31) : Ct X mJ0_checkIndex_df160 [.int (nI i), .int (nI n)] h (zR none h) := by
  refine Ct.of (by decide) rfl (Nat.le_of_ble_eq_true rfl) rfl hxs ?_
  refine V_iload_n dJ0_checkIndex_df160_0 0 rfl ?_
  refine V_iload_n dJ0_checkIndex_df160_1 1 rfl ?_
  refine V_getsq dJ0_checkIndex_df160_2 flJ0_1053 hg.2.2.2.2.2.2.1 ?_ (fun t => ?_)
  · refine V_cSi (As := [.int (nI i), .int (nI n), .null]) (rest := []) dJ0_checkIndex_df160_5 cvJ0_1059 (c_chkn hxs hi hn) ⟨Nat.le_of_ble_eq_true rfl, Nat.le_of_ble_eq_true rfl, Nat.le_of_ble_eq_true rfl, Nat.le_of_ble_eq_true rfl⟩ (Nat.le_of_ble_eq_true rfl) rfl ?_
    refine V_pop dJ0_checkIndex_df160_8 rfl ?_
    exact V_vret dJ0_checkIndex_df160_9 rfl ⟨Nat.le_of_ble_eq_true rfl, Nat.le_of_ble_eq_true rfl⟩ ⟨rfl, rfl⟩
  · refine V_cSi (As := [.int (nI i), .int (nI n), .ref t]) (rest := []) dJ0_checkIndex_df160_5 cvJ0_1059 (c_chkr hxs hi hn) ⟨Nat.le_of_ble_eq_true rfl, Nat.le_of_ble_eq_true rfl, Nat.le_of_ble_eq_true rfl, Nat.le_of_ble_eq_true rfl⟩ (Nat.le_of_ble_eq_true rfl) rfl ?_
    refine V_pop dJ0_checkIndex_df160_8 rfl ?_
    exact V_vret dJ0_checkIndex_df160_9 rfl ⟨Nat.le_of_ble_eq_true rfl, Nat.le_of_ble_eq_true rfl⟩ ⟨rfl, rfl⟩
set_option maxRecDepth 20000 in
set_option maxHeartbeats 1000000 in
theorem c_J5_charAt {X : KX} (hxs : X.1.stackTraces = false) (hg : GX X) {h : AH} {a v : Nat} {L : List Int32} {ml : Int32} {n i b : Nat} (hS : SbV X h a v L ml (nI n)) (hn : n ≤ L.length) (hi : i < n) (hb : b < 128) (hv : L.getD i 0 = nI b) : Ct X mJ5_charAt_5068e [.ref a, .int (nI i)] h (zR (some (.int (nI b))) h) := by
  have hl9 := hS.2.2.2.2.2.1
  refine Ct.of (by decide) rfl (Nat.le_of_ble_eq_true rfl) rfl hxs ?_
  refine V_aload_n dJ5_charAt_5068e_0 0 rfl ?_
  refine gf_sb_coder hS.1 dJ5_charAt_5068e_1 flJ5_22 ?_
  refine V_istore_n (lv' := [(2, .int 0), (0, .ref a), (1, .int (nI i))]) dJ5_charAt_5068e_4 rfl (by decide) rfl ?_
  refine V_aload_n dJ5_charAt_5068e_5 1 rfl ?_
  refine gf_sb_value hS.1 dJ5_charAt_5068e_6 flJ5_15 ?_
  refine V_astore_n (lv' := [(3, .ref v), (2, .int 0), (0, .ref a), (1, .int (nI i))]) dJ5_charAt_5068e_9 rfl (by decide) rfl ?_
  refine V_aload_n dJ5_charAt_5068e_10 2 rfl ?_
  refine gf_sb_count hS.1 dJ5_charAt_5068e_11 flJ5_79 ?_
  refine V_aload_n dJ5_charAt_5068e_14 0 rfl ?_
  refine V_alen (t := 2) (v := nI L.length) dJ5_charAt_5068e_15 rfl hS.2.1 rfl ?_
  refine V_iload_n dJ5_charAt_5068e_16 1 rfl ?_
  refine V_ishr dJ5_charAt_5068e_17 ?_
  rw [sb_shr0]
  refine V_mmin dJ5_charAt_5068e_18 mlJ5_138 wMin ⟨Nat.le_of_ble_eq_true rfl, Nat.le_of_ble_eq_true rfl, Nat.le_of_ble_eq_true rfl, Nat.le_of_ble_eq_true rfl⟩ ?_
  rw [iminN (by omega) (by omega), Nat.min_eq_left hn]
  refine V_istore (lv' := [(4, .int (nI n)), (3, .ref v), (2, .int 0), (0, .ref a), (1, .int (nI i))]) dJ5_charAt_5068e_21 (by decide) rfl ?_
  refine V_iload_n dJ5_charAt_5068e_23 4 rfl ?_
  refine V_iload dJ5_charAt_5068e_24 0 rfl ?_
  refine V_cSg (As := [.int (nI i), .int (nI n)]) (rest := []) (v := none) (Q := fun h1 => h1 = h) dJ5_charAt_5068e_26 cvJ5_144 (c_chkIdx hxs hg hi (by omega)) ⟨Nat.le_of_ble_eq_true rfl, Nat.le_of_ble_eq_true rfl, Nat.le_of_ble_eq_true rfl, Nat.le_of_ble_eq_true rfl⟩ (Nat.le_of_ble_eq_true rfl) rfl (fun h1 e1 => ?_)
  subst e1
  refine V_iload_n dJ5_charAt_5068e_29 2 rfl ?_
  refine V_if_ne (tgt := 42) dJ5_charAt_5068e_30 (by decide) (fun c9 => absurd c9 (fun q9 => q9 rfl)) (fun _ => ?_)
  refine V_aload_n dJ5_charAt_5068e_33 1 rfl ?_
  refine V_iload_n dJ5_charAt_5068e_34 4 rfl ?_
  refine V_bald dJ5_charAt_5068e_35 hS.2.1 (vp_in_nI (by omega) (by omega)) ?_
  rw [show rd L (nI i) = nI b by unfold rd; rw [nI_clamp (by omega)]; exact hv]
  refine V_sipush (v := 255) dJ5_charAt_5068e_36 (by decide) ?_
  refine V_iand dJ5_charAt_5068e_39 ?_
  rw [and_s b hb]
  refine V_i2c dJ5_charAt_5068e_40 (i2c_s b hb) ?_
  exact V_zret dJ5_charAt_5068e_41 rfl (narc_s b hb) ⟨Nat.le_of_ble_eq_true rfl, Nat.le_of_ble_eq_true rfl⟩ ⟨rfl, rfl⟩
set_option maxRecDepth 20000 in
set_option maxHeartbeats 1000000 in
theorem c_charAt {X : KX} (hxs : X.1.stackTraces = false) (hg : GX X) {h : AH} {a v : Nat} {L : List Int32} {ml : Int32} {n i b : Nat} (hS : SbV X h a v L ml (nI n)) (hn : n ≤ L.length) (hi : i < n) (hb : b < 128) (hv : L.getD i 0 = nI b) : Ct X mJ4_charAt_5068e [.ref a, .int (nI i)] h (zR (some (.int (nI b))) h) := by
  refine Ct.of (by decide) rfl (Nat.le_of_ble_eq_true rfl) rfl hxs ?_
  refine V_aload_n dJ4_charAt_5068e_0 0 rfl ?_
  refine V_iload_n dJ4_charAt_5068e_1 1 rfl ?_
  refine V_cSU (As := [.int (nI i)]) (rest := []) (Q := fun h1 => h1 = h) dJ4_charAt_5068e_2 csJ4_329 (c_J5_charAt hxs hg hS hn hi hb hv) hS.1 rfl ⟨Nat.le_of_ble_eq_true rfl, Nat.le_of_ble_eq_true rfl, Nat.le_of_ble_eq_true rfl, Nat.le_of_ble_eq_true rfl⟩ (Nat.le_of_ble_eq_true rfl) rfl (fun h1 e1 => ?_)
  subst e1
  exact V_zret dJ4_charAt_5068e_5 rfl (narc_s b hb) ⟨Nat.le_of_ble_eq_true rfl, Nat.le_of_ble_eq_true rfl⟩ ⟨rfl, rfl⟩
/-- a string of one byte a letter: a given one, or one that was made -/
def StrO (X : KX) (a : Nat) (t : List Int32) : Prop := ∃ i, i < 52 ∧ a = kad X i ∧ t = gT.getD i []
def StrN (X : KX) (h : AH) (a v : Nat) (t : List Int32) : Prop := ∃ hh z : Int32, h.2 a = some (.inr (0, [.ref v, .int 0, .int hh, .int z])) ∧ h.2 v = some (aL (kA X 2) t)
section VSN
variable {X : KX} {M : MI} {F : FT} {k n pc : Nat} {lv lv' : List (Nat × Value)} {rest : List Value} {h : AH} {Z : ZT} {a v : Nat} {t : List Int32}
theorem gf_sn_value {idx : Nat} (p : StrN X h a v t) (hdg : decode (mcc M) pc = .ok (.getfield idx, 3)) (hw : Cond.fieldLink (my M).cls idx "java/lang/String" "value" "[B" ∈ GW) (kk : V X M F k n (pc + 3) lv (.ref v :: rest) h) : V X M F k n pc lv (.ref a :: rest) h := by
  obtain ⟨hh, z, h1, h2⟩ := p
  exact V_get (T := TJ0) 0 hdg hw iGJ0 rfl (by decide) rfl h1 rfl kk
theorem gf_sn_coder {idx : Nat} (p : StrN X h a v t) (hdg : decode (mcc M) pc = .ok (.getfield idx, 3)) (hw : Cond.fieldLink (my M).cls idx "java/lang/String" "coder" "B" ∈ GW) (kk : V X M F k n (pc + 3) lv (.int 0 :: rest) h) : V X M F k n pc lv (.ref a :: rest) h := by
  obtain ⟨hh, z, h1, h2⟩ := p
  exact V_get (T := TJ0) 1 hdg hw iGJ0 rfl (by decide) rfl h1 rfl kk
end VSN
theorem gT_len : ∀ i, i < 52 → (gT.getD i []).length < 64 := by decide +kernel
theorem gT_chr : ∀ i, i < 52 → ∀ j, j < 64 → (gT.getD i []).getD j 0 = nI ((gT.getD i []).getD j 0).toNatClampNeg ∧ ((gT.getD i []).getD j 0).toNatClampNeg < 128 := by decide +kernel
set_option maxRecDepth 20000 in
set_option maxHeartbeats 1000000 in
theorem c_J0_coder_o {X : KX} (hxs : X.1.stackTraces = false) (hg : GX X) {h : AH} {i : Nat} (hi : i < 52) : Ct X mJ0_coder_7d493 [.ref (kad X i)] h (zR (some (.int 0)) h) := by
  refine Ct.of (by decide) rfl (Nat.le_of_ble_eq_true rfl) rfl hxs ?_
  refine V_gets dJ0_coder_7d493_0 flJ0_38 hg.2.2.1 ?_
  refine V_if_eq (tgt := 13) dJ0_coder_7d493_3 (by decide) (fun c9 => absurd c9 (by decide)) (fun _ => ?_)
  refine V_aload_n dJ0_coder_7d493_6 0 rfl ?_
  refine V_getO dJ0_coder_7d493_7 flJ0_15 (fun U hU => (hg.2.2.2.2.1 i hi U hU).2.1) ?_
  refine V_goto (tgt := 14) dJ0_coder_7d493_10 (by decide) ?_
  exact V_zret dJ0_coder_7d493_14 rfl (show narrow .byte (.int 0) = .int 0 from rfl) ⟨Nat.le_of_ble_eq_true rfl, Nat.le_of_ble_eq_true rfl⟩ ⟨rfl, rfl⟩
set_option maxRecDepth 20000 in
set_option maxHeartbeats 1000000 in
theorem c_J0_coder_n {X : KX} (hxs : X.1.stackTraces = false) (hg : GX X) {h : AH} {a v : Nat} {t : List Int32} (hS : StrN X h a v t) : Ct X mJ0_coder_7d493 [.ref a] h (zR (some (.int 0)) h) := by
  refine Ct.of (by decide) rfl (Nat.le_of_ble_eq_true rfl) rfl hxs ?_
  refine V_gets dJ0_coder_7d493_0 flJ0_38 hg.2.2.1 ?_
  refine V_if_eq (tgt := 13) dJ0_coder_7d493_3 (by decide) (fun c9 => absurd c9 (by decide)) (fun _ => ?_)
  refine V_aload_n dJ0_coder_7d493_6 0 rfl ?_
  refine gf_sn_coder hS dJ0_coder_7d493_7 flJ0_15 ?_
  refine V_goto (tgt := 14) dJ0_coder_7d493_10 (by decide) ?_
  exact V_zret dJ0_coder_7d493_14 rfl (show narrow .byte (.int 0) = .int 0 from rfl) ⟨Nat.le_of_ble_eq_true rfl, Nat.le_of_ble_eq_true rfl⟩ ⟨rfl, rfl⟩
set_option maxRecDepth 20000 in
set_option maxHeartbeats 1000000 in
theorem c_J0_isLatin1_o {X : KX} (hxs : X.1.stackTraces = false) (hg : GX X) {h : AH} {i : Nat} (hi : i < 52) : Ct X mJ0_isLatin1_aae02 [.ref (kad X i)] h (zR (some (.int 1)) h) := by
  refine Ct.of (by decide) rfl (Nat.le_of_ble_eq_true rfl) rfl hxs ?_
  refine V_gets dJ0_isLatin1_aae02_0 flJ0_38 hg.2.2.1 ?_
  refine V_if_eq (tgt := 17) dJ0_isLatin1_aae02_3 (by decide) (fun c9 => absurd c9 (by decide)) (fun _ => ?_)
  refine V_aload_n dJ0_isLatin1_aae02_6 0 rfl ?_
  refine V_getO dJ0_isLatin1_aae02_7 flJ0_15 (fun U hU => (hg.2.2.2.2.1 i hi U hU).2.1) ?_
  refine V_if_ne (tgt := 17) dJ0_isLatin1_aae02_10 (by decide) (fun c9 => absurd c9 (fun q9 => q9 rfl)) (fun _ => ?_)
  refine V_iconst (v := 1) dJ0_isLatin1_aae02_13 (by decide) ?_
  refine V_goto (tgt := 18) dJ0_isLatin1_aae02_14 (by decide) ?_
  exact V_zret dJ0_isLatin1_aae02_18 rfl bN1 ⟨Nat.le_of_ble_eq_true rfl, Nat.le_of_ble_eq_true rfl⟩ ⟨rfl, rfl⟩
set_option maxRecDepth 20000 in
set_option maxHeartbeats 1000000 in
theorem c_J0_isLatin1_n {X : KX} (hxs : X.1.stackTraces = false) (hg : GX X) {h : AH} {a v : Nat} {t : List Int32} (hS : StrN X h a v t) : Ct X mJ0_isLatin1_aae02 [.ref a] h (zR (some (.int 1)) h) := by
  refine Ct.of (by decide) rfl (Nat.le_of_ble_eq_true rfl) rfl hxs ?_
  refine V_gets dJ0_isLatin1_aae02_0 flJ0_38 hg.2.2.1 ?_
  refine V_if_eq (tgt := 17) dJ0_isLatin1_aae02_3 (by decide) (fun c9 => absurd c9 (by decide)) (fun _ => ?_)
  refine V_aload_n dJ0_isLatin1_aae02_6 0 rfl ?_
  refine gf_sn_coder hS dJ0_isLatin1_aae02_7 flJ0_15 ?_
  refine V_if_ne (tgt := 17) dJ0_isLatin1_aae02_10 (by decide) (fun c9 => absurd c9 (fun q9 => q9 rfl)) (fun _ => ?_)
  refine V_iconst (v := 1) dJ0_isLatin1_aae02_13 (by decide) ?_
  refine V_goto (tgt := 18) dJ0_isLatin1_aae02_14 (by decide) ?_
  exact V_zret dJ0_isLatin1_aae02_18 rfl bN1 ⟨Nat.le_of_ble_eq_true rfl, Nat.le_of_ble_eq_true rfl⟩ ⟨rfl, rfl⟩
set_option maxRecDepth 20000 in
set_option maxHeartbeats 1000000 in
theorem c_J0_length_o {X : KX} (hxs : X.1.stackTraces = false) (hg : GX X) {h : AH} {i : Nat} (hi : i < 52) : Ct X mJ0_length_8abf5 [.ref (kad X i)] h (zR (some (.int (nI (gT.getD i []).length))) h) := by
  refine Ct.of (by decide) rfl (Nat.le_of_ble_eq_true rfl) rfl hxs ?_
  refine V_aload_n dJ0_length_8abf5_0 0 rfl ?_
  refine V_getO dJ0_length_8abf5_1 flJ0_9 (fun U hU => (hg.2.2.2.2.1 i hi U hU).2.2.1) ?_
  refine V_tlen (v := nI (gT.getD i []).length) dJ0_length_8abf5_4 (fun U hU => (hg.2.2.2.2.1 i hi U hU).2.2.2) rfl ?_
  refine V_aload_n dJ0_length_8abf5_5 0 rfl ?_
  refine V_cVo (As := []) (rest := [.int (nI (gT.getD i []).length)]) (Q := fun h1 => h1 = h) dJ0_length_8abf5_6 cvJ0_335 (v := some (.int 0)) (c_J0_coder_o hxs hg hi) (fun U hU => (hg.2.2.2.2.1 i hi U hU).1) ⟨Nat.le_of_ble_eq_true rfl, Nat.le_of_ble_eq_true rfl, Nat.le_of_ble_eq_true rfl, Nat.le_of_ble_eq_true rfl⟩ (Nat.le_of_ble_eq_true rfl) rfl (fun h1 e1 => ?_)
  subst e1
  refine V_ishr dJ0_length_8abf5_9 ?_
  rw [sb_shr0]
  exact V_iret dJ0_length_8abf5_10 rfl ⟨Nat.le_of_ble_eq_true rfl, Nat.le_of_ble_eq_true rfl⟩ ⟨rfl, rfl⟩
set_option maxRecDepth 20000 in
set_option maxHeartbeats 1000000 in
theorem c_J1_charAt_o {X : KX} (hxs : X.1.stackTraces = false) (hg : GX X) {h : AH} {i : Nat} (hi : i < 52) {j b : Nat} (hj : j < (gT.getD i []).length) (hn : (gT.getD i []).length < 2 ^ 31) (hb : b < 128) (hv : (gT.getD i []).getD j 0 = nI b) : Ct X mJ1_charAt_3b067 [.ref (kad X (100 + i)), .int (nI j)] h (zR (some (.int (nI b))) h) := by
  refine Ct.of (by decide) rfl (Nat.le_of_ble_eq_true rfl) rfl hxs ?_
  refine V_iload_n dJ1_charAt_3b067_0 1 rfl ?_
  refine V_aload_n dJ1_charAt_3b067_1 0 rfl ?_
  refine V_tlen (v := nI (gT.getD i []).length) dJ1_charAt_3b067_2 (fun U hU => (hg.2.2.2.2.1 i hi U hU).2.2.2) rfl ?_
  refine V_cSg (As := [.int (nI j), .int (nI (gT.getD i []).length)]) (rest := []) (v := none) (Q := fun h1 => h1 = h) dJ1_charAt_3b067_3 cvJ1_9 (c_chkIdx hxs hg hj hn) ⟨Nat.le_of_ble_eq_true rfl, Nat.le_of_ble_eq_true rfl, Nat.le_of_ble_eq_true rfl, Nat.le_of_ble_eq_true rfl⟩ (Nat.le_of_ble_eq_true rfl) rfl (fun h1 e1 => ?_)
  subst e1
  refine V_aload_n dJ1_charAt_3b067_6 0 rfl ?_
  refine V_iload_n dJ1_charAt_3b067_7 1 rfl ?_
  refine V_tb dJ1_charAt_3b067_8 (fun U hU => (hg.2.2.2.2.1 i hi U hU).2.2.2) (vp_in_nI hj hn) (v := .int (nI b)) (by rw [nI_clamp (by omega)]; exact congrArg Value.int hv) ?_
  refine V_sipush (v := 255) dJ1_charAt_3b067_9 (by decide) ?_
  refine V_iand dJ1_charAt_3b067_12 ?_
  rw [and_s b hb]
  refine V_i2c dJ1_charAt_3b067_13 (i2c_s b hb) ?_
  exact V_zret dJ1_charAt_3b067_14 rfl (narc_s b hb) ⟨Nat.le_of_ble_eq_true rfl, Nat.le_of_ble_eq_true rfl⟩ ⟨rfl, rfl⟩
set_option maxRecDepth 20000 in
set_option maxHeartbeats 1000000 in
theorem c_J0_charAt_o {X : KX} (hxs : X.1.stackTraces = false) (hg : GX X) {h : AH} {i : Nat} (hi : i < 52) {j b : Nat} (hj : j < (gT.getD i []).length) (hn : (gT.getD i []).length < 2 ^ 31) (hb : b < 128) (hv : (gT.getD i []).getD j 0 = nI b) : Ct X mJ0_charAt_5068e [.ref (kad X i), .int (nI j)] h (zR (some (.int (nI b))) h) := by
  refine Ct.of (by decide) rfl (Nat.le_of_ble_eq_true rfl) rfl hxs ?_
  refine V_aload_n dJ0_charAt_5068e_0 0 rfl ?_
  refine V_cVo (As := []) (rest := []) (Q := fun h1 => h1 = h) dJ0_charAt_5068e_1 cvJ0_492 (v := some (.int 1)) (c_J0_isLatin1_o hxs hg hi) (fun U hU => (hg.2.2.2.2.1 i hi U hU).1) ⟨Nat.le_of_ble_eq_true rfl, Nat.le_of_ble_eq_true rfl, Nat.le_of_ble_eq_true rfl, Nat.le_of_ble_eq_true rfl⟩ (Nat.le_of_ble_eq_true rfl) rfl (fun h1 e1 => ?_)
  subst e1
  refine V_if_eq (tgt := 16) dJ0_charAt_5068e_4 (by decide) (fun c9 => absurd c9 (by decide)) (fun _ => ?_)
  refine V_aload_n dJ0_charAt_5068e_7 0 rfl ?_
  refine V_getO dJ0_charAt_5068e_8 flJ0_9 (fun U hU => (hg.2.2.2.2.1 i hi U hU).2.2.1) ?_
  refine V_iload_n dJ0_charAt_5068e_11 1 rfl ?_
  refine V_cSi (As := [.ref (kad X (100 + i)), .int (nI j)]) (rest := []) dJ0_charAt_5068e_12 cvJ0_495 (c_J1_charAt_o hxs hg hi hj hn hb hv) ⟨Nat.le_of_ble_eq_true rfl, Nat.le_of_ble_eq_true rfl, Nat.le_of_ble_eq_true rfl, Nat.le_of_ble_eq_true rfl⟩ (Nat.le_of_ble_eq_true rfl) rfl ?_
  exact V_zret dJ0_charAt_5068e_15 rfl (narc_s b hb) ⟨Nat.le_of_ble_eq_true rfl, Nat.le_of_ble_eq_true rfl⟩ ⟨rfl, rfl⟩
set_option maxRecDepth 20000 in
set_option maxHeartbeats 1000000 in
theorem c_J0_length_n {X : KX} (hxs : X.1.stackTraces = false) (hg : GX X) {h : AH} {a v : Nat} {t : List Int32} (hS : StrN X h a v t) : Ct X mJ0_length_8abf5 [.ref a] h (zR (some (.int (nI t.length))) h) := by
  refine Ct.of (by decide) rfl (Nat.le_of_ble_eq_true rfl) rfl hxs ?_
  refine V_aload_n dJ0_length_8abf5_0 0 rfl ?_
  refine gf_sn_value hS dJ0_length_8abf5_1 flJ0_9 ?_
  refine V_alen (t := 2) (v := nI t.length) dJ0_length_8abf5_4 rfl hS.choose_spec.choose_spec.2 rfl ?_
  refine V_aload_n dJ0_length_8abf5_5 0 rfl ?_
  refine V_cVg (As := []) (rest := [.int (nI t.length)]) (Q := fun h1 => h1 = h) dJ0_length_8abf5_6 cuJ0_335 (v := some (.int 0)) (c_J0_coder_n hxs hg hS) hS.choose_spec.choose_spec.1 rfl ⟨Nat.le_of_ble_eq_true rfl, Nat.le_of_ble_eq_true rfl, Nat.le_of_ble_eq_true rfl, Nat.le_of_ble_eq_true rfl⟩ (Nat.le_of_ble_eq_true rfl) rfl (fun h1 e1 => ?_)
  subst e1
  refine V_ishr dJ0_length_8abf5_9 ?_
  rw [sb_shr0]
  exact V_iret dJ0_length_8abf5_10 rfl ⟨Nat.le_of_ble_eq_true rfl, Nat.le_of_ble_eq_true rfl⟩ ⟨rfl, rfl⟩
set_option maxRecDepth 20000 in
set_option maxHeartbeats 1000000 in
theorem c_J1_charAt_n {X : KX} (hxs : X.1.stackTraces = false) (hg : GX X) {h : AH} {a v : Nat} {t : List Int32} (hS : StrN X h a v t) {j b : Nat} (hj : j < t.length) (hn : t.length < 2 ^ 31) (hb : b < 128) (hv : t.getD j 0 = nI b) : Ct X mJ1_charAt_3b067 [.ref v, .int (nI j)] h (zR (some (.int (nI b))) h) := by
  refine Ct.of (by decide) rfl (Nat.le_of_ble_eq_true rfl) rfl hxs ?_
  refine V_iload_n dJ1_charAt_3b067_0 1 rfl ?_
  refine V_aload_n dJ1_charAt_3b067_1 0 rfl ?_
  refine V_alen (t := 2) (v := nI t.length) dJ1_charAt_3b067_2 rfl hS.choose_spec.choose_spec.2 rfl ?_
  refine V_cSg (As := [.int (nI j), .int (nI t.length)]) (rest := []) (v := none) (Q := fun h1 => h1 = h) dJ1_charAt_3b067_3 cvJ1_9 (c_chkIdx hxs hg hj hn) ⟨Nat.le_of_ble_eq_true rfl, Nat.le_of_ble_eq_true rfl, Nat.le_of_ble_eq_true rfl, Nat.le_of_ble_eq_true rfl⟩ (Nat.le_of_ble_eq_true rfl) rfl (fun h1 e1 => ?_)
  subst e1
  refine V_aload_n dJ1_charAt_3b067_6 0 rfl ?_
  refine V_iload_n dJ1_charAt_3b067_7 1 rfl ?_
  refine V_bald dJ1_charAt_3b067_8 hS.choose_spec.choose_spec.2 (vp_in_nI hj hn) ?_
  rw [show rd t (nI j) = nI b by unfold rd; rw [nI_clamp (by omega)]; exact hv]
  refine V_sipush (v := 255) dJ1_charAt_3b067_9 (by decide) ?_
  refine V_iand dJ1_charAt_3b067_12 ?_
  rw [and_s b hb]
  refine V_i2c dJ1_charAt_3b067_13 (i2c_s b hb) ?_
  exact V_zret dJ1_charAt_3b067_14 rfl (narc_s b hb) ⟨Nat.le_of_ble_eq_true rfl, Nat.le_of_ble_eq_true rfl⟩ ⟨rfl, rfl⟩
set_option maxRecDepth 20000 in
set_option maxHeartbeats 1000000 in
theorem c_J0_charAt_n {X : KX} (hxs : X.1.stackTraces = false) (hg : GX X) {h : AH} {a v : Nat} {t : List Int32} (hS : StrN X h a v t) {j b : Nat} (hj : j < t.length) (hn : t.length < 2 ^ 31) (hb : b < 128) (hv : t.getD j 0 = nI b) : Ct X mJ0_charAt_5068e [.ref a, .int (nI j)] h (zR (some (.int (nI b))) h) := by
  refine Ct.of (by decide) rfl (Nat.le_of_ble_eq_true rfl) rfl hxs ?_
  refine V_aload_n dJ0_charAt_5068e_0 0 rfl ?_
  refine V_cVg (As := []) (rest := []) (Q := fun h1 => h1 = h) dJ0_charAt_5068e_1 cuJ0_492 (v := some (.int 1)) (c_J0_isLatin1_n hxs hg hS) hS.choose_spec.choose_spec.1 rfl ⟨Nat.le_of_ble_eq_true rfl, Nat.le_of_ble_eq_true rfl, Nat.le_of_ble_eq_true rfl, Nat.le_of_ble_eq_true rfl⟩ (Nat.le_of_ble_eq_true rfl) rfl (fun h1 e1 => ?_)
  subst e1
  refine V_if_eq (tgt := 16) dJ0_charAt_5068e_4 (by decide) (fun c9 => absurd c9 (by decide)) (fun _ => ?_)
  refine V_aload_n dJ0_charAt_5068e_7 0 rfl ?_
  refine gf_sn_value hS dJ0_charAt_5068e_8 flJ0_9 ?_
  refine V_iload_n dJ0_charAt_5068e_11 1 rfl ?_
  refine V_cSi (As := [.ref v, .int (nI j)]) (rest := []) dJ0_charAt_5068e_12 cvJ0_495 (c_J1_charAt_n hxs hg hS hj hn hb hv) ⟨Nat.le_of_ble_eq_true rfl, Nat.le_of_ble_eq_true rfl, Nat.le_of_ble_eq_true rfl, Nat.le_of_ble_eq_true rfl⟩ (Nat.le_of_ble_eq_true rfl) rfl ?_
  exact V_zret dJ0_charAt_5068e_15 rfl (narc_s b hb) ⟨Nat.le_of_ble_eq_true rfl, Nat.le_of_ble_eq_true rfl⟩ ⟨rfl, rfl⟩
