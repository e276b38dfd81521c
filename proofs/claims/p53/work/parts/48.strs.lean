/-! ===== strings that are made ===== -/
section VCG
variable {X : KX} {M : MI} {F : FT} {k n pc : Nat} {lv lv' : List (Nat × Value)} {rest : List Value} {h : AH} {Z : ZT}
theorem V_copyg {a0 a idx u v w : Nat} {L0 L1 : List Int32} {sp dp z : Int32} (hdg : decode (mcc M) pc = .ok (.invokestatic idx, 3)) (hw : Cond.methodLink (my M).cls idx arraycopyName ∈ GW) (hw2 : Cond.native arraycopyName ∈ GW ∧ Cond.static arraycopyName ∈ GW ∧ Cond.initialized "java/lang/System" ∈ GW) (hE : ∀ U : State, kG X U → va_T .byte a0 L0.length (fun j => .int (L0.getD j 0)) (kFr X) U (kH X)) (ha : h.2 a = some (aL (kA X 2) L1)) (hsp : sp = nI u) (hdp : dp = nI v) (hz : z = nI w) (h1 : u + w ≤ L0.length) (h2 : v + w ≤ L1.length) (hsm : L0.length < 2 ^ 31) (hsm2 : L1.length < 2 ^ 31) (hfit : ∀ i, fits .byte (.int (L0.getD i 0)) = true) (hroom : 1 ≤ (mR M).frames ∧ (rest.map fun v => v.category).sum + (nativeFrameWords "java/lang/System" "arraycopy" 5 + 11) ≤ (mR M).locals) (kk : V X M F k n (pc + 3) lv rest (hput h a (aL (kA X 2) (cpL L0 L1 u v w)))) : V X M F k n pc lv (.int z :: .int dp :: .ref a :: .int sp :: .ref a0 :: rest) h := by
  intro p e s m args below meth c H locs ls hF hR hS hL T hT X0
  obtain ⟨hx, hb, hml, hown, hts, hKS, -⟩ := id hF
  have hK := hKS.1
  obtain ⟨scr, hs1, hs2, hs3, hs4, -, hs5, hs7⟩ := (hE s hF.kg).kept hF.old
  have hc0 : H[a0]? = some scr := by rw [hS.2.1 a0 (Array.getElem?_eq_some_iff.mp hs1).1 hs7]; exact hs1
  have hc1 : H[a]? = some (vp_cell (kA X 2) (L1.length, .inl (fun j => L1.getD j 0))) := hR.cell ha
  have zu : sp.toNatClampNeg = u := by rw [hsp]; exact nI_clamp (by omega)
  have zv : dp.toNatClampNeg = v := by rw [hdp]; exact nI_clamp (by omega)
  have zw : z.toNatClampNeg = w := by rw [hz]; exact nI_clamp (by omega)
  have iu : sp.toInt = (u : Int) := by rw [hsp]; exact nI_toInt (by omega)
  have iv : dp.toInt = (v : Int) := by rw [hdp]; exact nI_toInt (by omega)
  have iw : z.toInt = (w : Int) := by rw [hz]; exact nI_toInt (by omega)
  obtain ⟨hs6, k0, hk0, cm0, hkk0⟩ := hs2
  obtain ⟨-, k1, hk1, cm1, hkk1⟩ := (hK.2 2 _ rfl).1 L1.length (fun j => .int (L1.getD j 0))
  obtain ⟨vm', X', step⟩ := X0.arraycopy hx hown (hts _ hw) (hts _ hw2.1) (hts _ hw2.2.1) (hts _ hw2.2.2) (src := a0) (dst := a) (cs := scr) (cd := vp_cell (kA X 2) (L1.length, .inl (fun j => L1.getD j 0))) (srcPos := sp) (destPos := dp) (n := z) (by rw [hT]; exact hc0) (by rw [hT]; exact hc1)
    hs6 (fun _ h => by cases h) hs3 (fun h => by cases h) hk0 hk1 hkk0 hkk1 (by simp [refKind]) (by rw [Int32.lt_iff_toInt_lt, iu, Int32.toInt_zero]; omega) (by rw [Int32.lt_iff_toInt_lt, iv, Int32.toInt_zero]; omega) (by rw [Int32.lt_iff_toInt_lt, iw, Int32.toInt_zero]; omega)
    (by rw [iu, iw]; omega)
    (by rw [iv, iw]; show ¬ _ > ((arrV (kA X 2) L1.length (fun j => .int (L1.getD j 0))).slots.size : Int); rw [arrV_size]; omega)
    (fun vm₁ _ i hi => by
      rw [zw] at hi
      have e : scr.slots.getD (sp.toNatClampNeg + i) .null = .int (L0.getD (u + i) 0) := by
        rw [zu, Array.getD_eq_getD_getElem?, hs5 _ (by omega)]
        rfl
      refine ⟨?_, ?_⟩
      · rw [e]
        exact hfit _
      · rw [e]
        exact trivial)
    (g := F0 m pc ls (.int z :: .int dp :: .ref a :: .int sp :: .ref a0 :: rest)) rfl (by rw [hml]; exact hL.1) (rest := rest) rfl (by rw [hb]; exact hdg) hroom.1 (by show 2 * 0 + _ + _ ≤ _; omega)
  have e1 : copied scr (vp_cell (kA X 2) (L1.length, .inl (fun j => L1.getD j 0))) sp dp z = vp_cell (kA X 2) ((cpL L0 L1 u v w).length, .inl (fun j => (cpL L0 L1 u v w).getD j 0)) := by
    have e2 : copied scr (vp_cell (kA X 2) (L1.length, .inl (fun j => L1.getD j 0))) sp dp z = vp_cell (kA X 2) (L1.length, .inl (va_cpy (fun j => L0.getD j 0) (fun j => L1.getD j 0) sp.toNatClampNeg dp.toNatClampNeg z.toNatClampNeg)) := va_copiedX (fun z => .int z) scr (kA X 2) (fun j => L0.getD j 0) (fun j => L1.getD j 0) hs5 (by rw [zu, zw]; omega)
    rw [e2, vp_cell_i, vp_cell_i]
    refine arrV_congr cpL_len.symm fun j hj => ?_
    rw [zu, zv, zw, cpL_getD hj]
    unfold va_cpy
    split <;> rfl
  rw [e1] at X' step
  have hl9 : a < H.size := (Array.getElem?_eq_some_iff.mp hc1).1
  have hheap : ((T.setVm vm').setCell a (vp_cell (kA X 2) ((cpL L0 L1 u v w).length, .inl (fun j => (cpL L0 L1 u v w).getD j 0)))).heap = H.setIfInBounds a (vp_cell (kA X 2) ((cpL L0 L1 u v w).length, .inl (fun j => (cpL L0 L1 u v w).getD j 0))) := by rw [← hT]; rfl
  have oq : ∀ q : Nat, q ≠ a → (H.setIfInBounds a (vp_cell (kA X 2) ((cpL L0 L1 u v w).length, .inl (fun j => (cpL L0 L1 u v w).getD j 0))))[q]? = H[q]? := fun q hq => by simp [Array.getElem?_setIfInBounds, Ne.symm hq]
  have hA := (hR.2.2.1 a _ ha).1
  obtain ⟨t9, a1, b1⟩ := kk p e s m args below meth c _ _ ls hF (hR.put ha (show (H.setIfInBounds a _)[a]? = some _ by simp [Array.getElem?_setIfInBounds, hl9]) (by simp) oq) ⟨by simp; exact hS.1, fun q g1 g2 => by
      rw [oq q (fun e => g2 (by rw [e]; exact hA))]
      exact hS.2.1 q g1 g2, fun q hq => by
      rcases List.mem_append.mp hq with h | h
      · exact hS.2.2 q h
      · obtain ⟨z, -, hz⟩ := List.mem_map.mp h
        rw [← hz]
        exact hA⟩ hL _ hheap X'
  exact ⟨t9, step t9 a1, b1⟩
end VCG
theorem gT_fit {i : Nat} (hi : i < 52) : ∀ j, fits .byte (.int ((gT.getD i []).getD j 0)) = true := fun j => by
  rcases Nat.lt_or_ge j 64 with g | g
  · have := gT_chr i hi j g
    rw [this.1]
    exact fit_s _ this.2
  · have hl := gT_len i hi
    have : (gT.getD i []).getD j 0 = 0 := by
      rw [List.getD_eq_getElem?_getD, List.getElem?_eq_none (by omega)]
      rfl
    rw [this]
    rfl
/-- a StringBuilder of the law's: its text t, room for some more -/
def TxB (X : KX) (h : AH) (a v : Nat) (t : List Int32) : Prop := ∃ (L : List Int32) (ml : Int32), SbV X h a v L ml (nI t.length) ∧ Txt L t ∧ (L.length = 16 ∨ L.length = 34)
theorem txt_app {L L' t d : List Int32} (hT : Txt L t) (hl : t.length + d.length ≤ L'.length) (h1 : ∀ j, j < t.length → L'.getD j 0 = L.getD j 0) (h2 : ∀ j, j < d.length → L'.getD (t.length + j) 0 = d.getD j 0) (hd : ∀ i, i < d.length → ∃ b : Nat, b < 128 ∧ d.getD i 0 = nI b) : Txt L' (t ++ d) := by
  have e1 : ∀ i, i < t.length → (t ++ d).getD i 0 = t.getD i 0 := fun i hi => by simp [List.getD_eq_getElem?_getD, List.getElem?_append_left hi]
  have e2 : ∀ i, t.length ≤ i → (t ++ d).getD i 0 = d.getD (i - t.length) 0 := fun i hi => by simp [List.getD_eq_getElem?_getD, List.getElem?_append_right hi]
  refine ⟨by rw [List.length_append]; exact hl, fun i hi => ?_, fun i hi => ?_⟩
  · rw [List.length_append] at hi
    rcases Nat.lt_or_ge i t.length with g | g
    · rw [e1 i g, h1 i g, hT.2.1 i g]
    · rw [e2 i g, ← h2 (i - t.length) (by omega), show t.length + (i - t.length) = i by omega]
  · rw [List.length_append] at hi
    rcases Nat.lt_or_ge i t.length with g | g
    · rw [e1 i g]; exact hT.2.2 i g
    · rw [e2 i g]; exact hd _ (by omega)
theorem cap34 {q m : Nat} (hm : m = 16 ∨ m = 34) (hq : q ≤ 34) : capN q m = 16 ∨ capN q m = 34 := by
  unfold capN
  split
  · exact hm
  · rcases hm with rfl | rfl
    · right; omega
    · omega
theorem cap128 {q m : Nat} (hm : m = 16 ∨ m = 34) (hq : q ≤ 34) : capN q m ≤ 128 := by rcases cap34 hm hq with e | e <;> omega
theorem gT_bd {i : Nat} (hi : i < 52) : ∀ j, j < (gT.getD i []).length → ∃ b : Nat, b < 128 ∧ (gT.getD i []).getD j 0 = nI b := fun j hj => by
  have hl := gT_len i hi
  have := gT_chr i hi j (by omega)
  exact ⟨_, this.2, this.1⟩
set_option maxRecDepth 20000 in
set_option maxHeartbeats 2000000 in
theorem c_getBytes {X : KX} (hxs : X.1.stackTraces = false) (hg : GX X) {h : AH} {i v n : Nat} {L : List Int32} (hi : i < 52) (hL : h.2 v = some (aL (kA X 2) L)) (hn : n + (gT.getD i []).length ≤ L.length) (hl9 : L.length ≤ 128) : Ct X mJ0_getBytes_840e7 [.ref (kad X i), .ref v, .int (nI n), .int 0] h (zM none (fun h' => h' = hput h v (aL (kA X 2) (cpL (gT.getD i []) L 0 n (gT.getD i []).length)))) := by
  have hl8 := gT_len i hi
  refine Ct.of (by decide) rfl (Nat.le_of_ble_eq_true rfl) rfl hxs ?_
  refine V_aload_n dJ0_getBytes_840e7_0 0 rfl ?_
  refine V_cVo (As := []) (rest := []) (Q := fun h1 => h1 = h) dJ0_getBytes_840e7_1 cvJ0_335 (c_J0_coder_o hxs hg hi) (fun U hU => (hg.2.2.2.2.1 i hi U hU).1) ⟨Nat.le_of_ble_eq_true rfl, Nat.le_of_ble_eq_true rfl, Nat.le_of_ble_eq_true rfl, Nat.le_of_ble_eq_true rfl⟩ (Nat.le_of_ble_eq_true rfl) rfl (fun h1 e1 => ?_)
  subst e1
  refine V_iload_n dJ0_getBytes_840e7_4 3 rfl ?_
  refine V_icmp_ne (tgt := 28) dJ0_getBytes_840e7_5 (by decide) (fun c9 => absurd c9 (fun q9 => q9 rfl)) (fun _ => ?_)
  refine V_aload_n dJ0_getBytes_840e7_8 0 rfl ?_
  refine V_getO dJ0_getBytes_840e7_9 flJ0_9 (fun U hU => (hg.2.2.2.2.1 i hi U hU).2.2.1) ?_
  refine V_iconst (v := 0) dJ0_getBytes_840e7_12 (by decide) ?_
  refine V_aload_n dJ0_getBytes_840e7_13 1 rfl ?_
  refine V_iload_n dJ0_getBytes_840e7_14 2 rfl ?_
  refine V_iload_n dJ0_getBytes_840e7_15 3 rfl ?_
  refine V_ishl dJ0_getBytes_840e7_16 ?_
  rw [sb_shl0]
  refine V_aload_n dJ0_getBytes_840e7_17 0 rfl ?_
  refine V_getO dJ0_getBytes_840e7_18 flJ0_9 (fun U hU => (hg.2.2.2.2.1 i hi U hU).2.2.1) ?_
  refine V_tlen (v := nI (gT.getD i []).length) dJ0_getBytes_840e7_21 (fun U hU => (hg.2.2.2.2.1 i hi U hU).2.2.2) rfl ?_
  refine V_copyg (u := 0) (v := n) (w := (gT.getD i []).length) dJ0_getBytes_840e7_22 mlJ0_212 wCpy (fun U hU => (hg.2.2.2.2.1 i hi U hU).2.2.2) hL nI_0.symm rfl rfl (by omega) hn (by omega) (by omega) (gT_fit hi) ⟨Nat.le_of_ble_eq_true rfl, Nat.le_of_ble_eq_true rfl⟩ ?_
  refine V_goto (tgt := 43) dJ0_getBytes_840e7_25 (by decide) ?_
  exact V_vret dJ0_getBytes_840e7_43 rfl ⟨Nat.le_of_ble_eq_true rfl, Nat.le_of_ble_eq_true rfl⟩ ⟨rfl, rfl⟩
set_option maxRecDepth 20000 in
set_option maxHeartbeats 2000000 in
theorem c_inflIf {X : KX} (hxs : X.1.stackTraces = false) (hg : GX X) {h : AH} {i a v : Nat} {ml c : Int32} (hi : i < 52) (hS : SbO h a v ml c) : Ct X mJ5_inflateIfNeededFor_a7421 [.ref a, .ref (kad X i)] h (zM none (fun h' => h' = h)) := by
  refine Ct.of (by decide) rfl (Nat.le_of_ble_eq_true rfl) rfl hxs ?_
  refine V_gets dJ5_inflateIfNeededFor_a7421_0 flJ5_18 hg.2.2.1 ?_
  refine V_if_eq (tgt := 21) dJ5_inflateIfNeededFor_a7421_3 (by decide) (fun c9 => absurd c9 (by decide)) (fun _ => ?_)
  refine V_aload_n dJ5_inflateIfNeededFor_a7421_6 0 rfl ?_
  refine gf_sb_coder hS dJ5_inflateIfNeededFor_a7421_7 flJ5_22 ?_
  refine V_aload_n dJ5_inflateIfNeededFor_a7421_10 1 rfl ?_
  refine V_cVo (As := []) (rest := [.int 0]) (Q := fun h1 => h1 = h) dJ5_inflateIfNeededFor_a7421_11 cvJ5_40 (c_J0_coder_o hxs hg hi) (fun U hU => (hg.2.2.2.2.1 i hi U hU).1) ⟨Nat.le_of_ble_eq_true rfl, Nat.le_of_ble_eq_true rfl, Nat.le_of_ble_eq_true rfl, Nat.le_of_ble_eq_true rfl⟩ (Nat.le_of_ble_eq_true rfl) rfl (fun h1 e1 => ?_)
  subst e1
  refine V_icmp_eq (tgt := 21) dJ5_inflateIfNeededFor_a7421_14 (by decide) (fun _ => ?_) (fun c9 => absurd rfl c9)
  exact V_vret dJ5_inflateIfNeededFor_a7421_21 rfl ⟨Nat.le_of_ble_eq_true rfl, Nat.le_of_ble_eq_true rfl⟩ ⟨rfl, rfl⟩
set_option maxRecDepth 20000 in
set_option maxHeartbeats 2000000 in
theorem c_putStr {X : KX} (hxs : X.1.stackTraces = false) (hg : GX X) {h : AH} {a v i : Nat} {L : List Int32} {ml : Int32} {n : Nat} (hS : SbV X h a v L ml (nI n)) (hi : i < 52) (hn : n + (gT.getD i []).length ≤ L.length) : Ct X mJ5_putStringAt_47b60 [.ref a, .int (nI n), .ref (kad X i)] h (zM none (fun h' => h' = hput h v (aL (kA X 2) (cpL (gT.getD i []) L 0 n (gT.getD i []).length)))) := by
  refine Ct.of (by decide) rfl (Nat.le_of_ble_eq_true rfl) rfl hxs ?_
  refine V_aload_n dJ5_putStringAt_47b60_0 0 rfl ?_
  refine V_aload_n dJ5_putStringAt_47b60_1 2 rfl ?_
  refine V_cVp hg.p (As := [.ref (kad X i)]) (rest := []) (v := none) (Q := fun h1 => h1 = h) dJ5_putStringAt_47b60_2 cpJ5_397 (c_inflIf hxs hg hi hS.1) hS.1 rfl ⟨Nat.le_of_ble_eq_true rfl, Nat.le_of_ble_eq_true rfl, Nat.le_of_ble_eq_true rfl, Nat.le_of_ble_eq_true rfl⟩ (Nat.le_of_ble_eq_true rfl) rfl (fun h1 e1 => ?_)
  subst e1
  refine V_aload_n dJ5_putStringAt_47b60_5 2 rfl ?_
  refine V_aload_n dJ5_putStringAt_47b60_6 0 rfl ?_
  refine gf_sb_value hS.1 dJ5_putStringAt_47b60_7 flJ5_15 ?_
  refine V_iload_n dJ5_putStringAt_47b60_10 1 rfl ?_
  refine V_aload_n dJ5_putStringAt_47b60_11 0 rfl ?_
  refine gf_sb_coder hS.1 dJ5_putStringAt_47b60_12 flJ5_22 ?_
  refine V_cVo (As := [.ref v, .int (nI n), .int 0]) (rest := []) dJ5_putStringAt_47b60_15 cvJ5_399 (c_getBytes hxs hg hi hS.2.1 hn hS.2.2.2.2.2.1) (fun U hU => (hg.2.2.2.2.1 i hi U hU).1) ⟨Nat.le_of_ble_eq_true rfl, Nat.le_of_ble_eq_true rfl, Nat.le_of_ble_eq_true rfl, Nat.le_of_ble_eq_true rfl⟩ (Nat.le_of_ble_eq_true rfl) rfl (fun h1 e1 => ?_)
  exact V_vret dJ5_putStringAt_47b60_18 rfl ⟨Nat.le_of_ble_eq_true rfl, Nat.le_of_ble_eq_true rfl⟩ ⟨rfl, e1⟩
set_option maxRecDepth 20000 in
set_option maxHeartbeats 4000000 in
theorem c_J5_appS {X : KX} (hxs : X.1.stackTraces = false) (hg : GX X) {h : AH} {a v i : Nat} {L : List Int32} {ml : Int32} {n : Nat} (hS : SbV X h a v L ml (nI n)) (hi : i < 52) (hn : n ≤ L.length) (hcap : capN (n + (gT.getD i []).length) L.length ≤ 128) : Ct X mJ5_append_cf1ce [.ref a, .ref (kad X i)] h (zM (some (.ref a)) (fun h' => ∃ v' L', SbV X h' a v' L' ml (nI (n + (gT.getD i []).length)) ∧ L'.length = capN (n + (gT.getD i []).length) L.length ∧ n + (gT.getD i []).length ≤ L'.length ∧ (∀ j, j < n → L'.getD j 0 = L.getD j 0) ∧ (∀ j, j < (gT.getD i []).length → L'.getD (n + j) 0 = (gT.getD i []).getD j 0) ∧ FrS h h' a v ∧ (v' = v ∨ h.1 ≤ v'))) := by
  have hl9 := hS.2.2.2.2.2.1
  have hl8 := gT_len i hi
  refine Ct.of (by decide) rfl (Nat.le_of_ble_eq_true rfl) rfl hxs ?_
  refine V_aload_n dJ5_append_cf1ce_0 1 rfl ?_
  refine V_ifnonnull (tgt := 9) dJ5_append_cf1ce_1 (by decide) ?_
  refine V_aload_n dJ5_append_cf1ce_9 1 rfl ?_
  refine V_cVo (As := []) (rest := []) (Q := fun h1 => h1 = h) dJ5_append_cf1ce_10 cvJ5_32 (c_J0_length_o hxs hg hi) (fun U hU => (hg.2.2.2.2.1 i hi U hU).1) ⟨Nat.le_of_ble_eq_true rfl, Nat.le_of_ble_eq_true rfl, Nat.le_of_ble_eq_true rfl, Nat.le_of_ble_eq_true rfl⟩ (Nat.le_of_ble_eq_true rfl) rfl (fun h1 e1 => ?_)
  have e1s := e1.symm
  subst e1s
  refine V_istore_n (lv' := [(2, .int (nI (gT.getD i []).length)), (0, .ref a), (1, .ref (kad X i))]) dJ5_append_cf1ce_13 rfl (by decide) rfl ?_
  refine V_aload_n dJ5_append_cf1ce_14 1 rfl ?_
  refine V_aload_n dJ5_append_cf1ce_15 1 rfl ?_
  refine gf_sb_count hS.1 dJ5_append_cf1ce_16 flJ5_79 ?_
  refine V_iload_n dJ5_append_cf1ce_19 0 rfl ?_
  refine V_iadd dJ5_append_cf1ce_20 ?_
  rw [nI_add]
  refine V_cVp hg.p (As := [.int (nI (n + (gT.getD i []).length))]) (rest := []) (v := none) dJ5_append_cf1ce_21 cpJ5_100 (c_ens hxs hg hS hcap (Z := fun _ h1 => ∃ v1 L1, SbV X h1 a v1 L1 ml (nI n) ∧ L1.length = capN (n + (gT.getD i []).length) L.length ∧ n + (gT.getD i []).length ≤ L1.length ∧ (∀ j, j < L.length → L1.getD j 0 = L.getD j 0) ∧ FrS h h1 a v ∧ (v1 = v ∧ n + (gT.getD i []).length ≤ L.length ∨ h.1 ≤ v1 ∧ L.length < n + (gT.getD i []).length)) (fun h1 v1 L1 z1 z2 z3 z4 z5 z6 => ⟨v1, L1, z1, z2, z3, z4, z5, z6⟩)) hS.1 rfl ⟨Nat.le_of_ble_eq_true rfl, Nat.le_of_ble_eq_true rfl, Nat.le_of_ble_eq_true rfl, Nat.le_of_ble_eq_true rfl⟩ (Nat.le_of_ble_eq_true rfl) rfl (fun h1 q1 => ?_)
  obtain ⟨v1, L1, hS1, hL1, hn1, hk1, hF1, hv1⟩ := q1
  refine V_aload_n dJ5_append_cf1ce_24 1 rfl ?_
  refine V_aload_n dJ5_append_cf1ce_25 1 rfl ?_
  refine gf_sb_count hS1.1 dJ5_append_cf1ce_26 flJ5_79 ?_
  refine V_aload_n dJ5_append_cf1ce_29 2 rfl ?_
  refine V_cVp hg.p (As := [.int (nI n), .ref (kad X i)]) (rest := []) (v := none) dJ5_append_cf1ce_30 cpJ5_208 (c_putStr hxs hg hS1 hi hn1) hS1.1 rfl ⟨Nat.le_of_ble_eq_true rfl, Nat.le_of_ble_eq_true rfl, Nat.le_of_ble_eq_true rfl, Nat.le_of_ble_eq_true rfl⟩ (Nat.le_of_ble_eq_true rfl) rfl (fun h2 e2 => ?_)
  have hS2 : SbO h2 a v1 ml (nI n) := by rw [e2]; exact (hput_ne hS1.2.2.1).trans hS1.1
  have hL2 : h2.2 v1 = some (aL (kA X 2) (cpL (gT.getD i []) L1 0 n (gT.getD i []).length)) := by rw [e2]; exact hput_at
  have hz2 : h2.1 = h1.1 := by rw [e2]; rfl
  have hF2 : FrS h1 h2 a v1 := by rw [e2]; exact FrS.put (Or.inr rfl)
  refine V_aload_n dJ5_append_cf1ce_33 1 rfl ?_
  refine V_dup dJ5_append_cf1ce_34 rfl ?_
  refine gf_sb_count hS2 dJ5_append_cf1ce_35 flJ5_79 ?_
  refine V_iload_n dJ5_append_cf1ce_38 0 rfl ?_
  refine V_iadd dJ5_append_cf1ce_39 ?_
  rw [nI_add]
  refine pf_sb_count hS2 dJ5_append_cf1ce_40 flJ5_79 (fun h3 hS3 hF3 hz3 hk3 => ?_)
  refine V_aload_n dJ5_append_cf1ce_43 1 rfl ?_
  have hl7 := hS1.2.2.2.2.2.1
  have hz31 : h3.1 = h1.1 := hz3.trans hz2
  exact V_aret dJ5_append_cf1ce_44 rfl (Or.inl ⟨_, rfl⟩) ⟨Nat.le_of_ble_eq_true rfl, Nat.le_of_ble_eq_true rfl⟩ ⟨rfl, v1, cpL (gT.getD i []) L1 0 n (gT.getD i []).length, ⟨hS3, (hk3 v1 (Ne.symm hS1.2.2.1)).trans hL2, hS1.2.2.1, by rw [hz31]; exact hS1.2.2.2.1, by rw [hz31]; exact hS1.2.2.2.2.1, by rw [cpL_len]; exact hl7, fitC (gT_fit hi) hS1.2.2.2.2.2.2⟩, by rw [cpL_len]; exact hL1, by rw [cpL_len]; exact hn1, fun j hj => by rw [cpL_getD (by omega), if_neg (by omega)]; exact hk1 j (by omega), fun j hj => by rw [cpL_getD (by omega), if_pos (by omega), show 0 + (n + j - n) = j by omega], hF1.tr (hF2.tr hF3 (Or.inl rfl)) (hv1.imp (fun z => z.1) (fun z => z.1)), hv1.imp (fun z => z.1) (fun z => z.1)⟩
set_option maxRecDepth 20000 in
set_option maxHeartbeats 2000000 in
theorem c_appS {X : KX} (hxs : X.1.stackTraces = false) (hg : GX X) {h : AH} {a v i : Nat} {L : List Int32} {ml : Int32} {n : Nat} (hS : SbV X h a v L ml (nI n)) (hi : i < 52) (hn : n ≤ L.length) (hcap : capN (n + (gT.getD i []).length) L.length ≤ 128) : Ct X mJ4_append_15ec4 [.ref a, .ref (kad X i)] h (zM (some (.ref a)) (fun h' => ∃ v' L', SbV X h' a v' L' ml (nI (n + (gT.getD i []).length)) ∧ L'.length = capN (n + (gT.getD i []).length) L.length ∧ n + (gT.getD i []).length ≤ L'.length ∧ (∀ j, j < n → L'.getD j 0 = L.getD j 0) ∧ (∀ j, j < (gT.getD i []).length → L'.getD (n + j) 0 = (gT.getD i []).getD j 0) ∧ FrS h h' a v ∧ (v' = v ∨ h.1 ≤ v'))) := by
  refine Ct.of (by decide) rfl (Nat.le_of_ble_eq_true rfl) rfl hxs ?_
  refine V_aload_n dJ4_append_15ec4_0 0 rfl ?_
  refine V_aload_n dJ4_append_15ec4_1 1 rfl ?_
  refine V_cSU (As := [.ref (kad X i)]) (rest := []) dJ4_append_15ec4_2 csJ4_29 (c_J5_appS hxs hg hS hi hn hcap) hS.1 rfl ⟨Nat.le_of_ble_eq_true rfl, Nat.le_of_ble_eq_true rfl, Nat.le_of_ble_eq_true rfl, Nat.le_of_ble_eq_true rfl⟩ (Nat.le_of_ble_eq_true rfl) rfl (fun h1 q1 => ?_)
  refine V_pop dJ4_append_15ec4_5 rfl ?_
  refine V_aload_n dJ4_append_15ec4_6 0 rfl ?_
  exact V_aret dJ4_append_15ec4_7 rfl (Or.inl ⟨_, rfl⟩) ⟨Nat.le_of_ble_eq_true rfl, Nat.le_of_ble_eq_true rfl⟩ ⟨rfl, q1⟩
theorem c_TxS {X : KX} (hxs : X.1.stackTraces = false) (hg : GX X) {h : AH} {a v i : Nat} {t : List Int32} (hB : TxB X h a v t) (hi : i < 52) (hq : t.length + (gT.getD i []).length ≤ 34) : Ct X mJ4_append_15ec4 [.ref a, .ref (kad X i)] h (zM (some (.ref a)) (fun h' => ∃ v', TxB X h' a v' (t ++ (gT.getD i [])) ∧ FrS h h' a v ∧ (v' = v ∨ h.1 ≤ v'))) := by
  obtain ⟨L, ml, hS, hT, hm⟩ := hB
  refine (c_appS hxs hg hS hi hT.1 (cap128 hm hq)).weak (fun o h' hz => ?_)
  obtain ⟨e, v', L', g1, g2, g3, g4, g5, g6, g7⟩ := hz
  exact ⟨e, v', ⟨L', ml, by rw [List.length_append]; exact g1, txt_app hT g3 g4 g5 (gT_bd hi), by rw [g2]; exact cap34 hm hq⟩, g6, g7⟩
set_option maxRecDepth 20000 in
set_option maxHeartbeats 4000000 in
theorem c_J5_appN {X : KX} (hxs : X.1.stackTraces = false) (hg : GX X) {h : AH} {a v : Nat} {L : List Int32} {ml : Int32} {n m : Nat} (hS : SbV X h a v L ml (nI n)) (hm : m < 10000) (hn : n ≤ L.length) (hcap : capN (n + (dec m).length) L.length ≤ 128) : Ct X mJ5_append_c97b9 [.ref a, .int (nI m)] h (zM (some (.ref a)) (fun h' => ∃ v' L', SbV X h' a v' L' ml (nI (n + (dec m).length)) ∧ L'.length = capN (n + (dec m).length) L.length ∧ n + (dec m).length ≤ L'.length ∧ (∀ j, j < n → L'.getD j 0 = L.getD j 0) ∧ (∀ j, j < (dec m).length → L'.getD (n + j) 0 = (dec m).getD j 0) ∧ FrS h h' a v ∧ (v' = v ∨ h.1 ≤ v'))) := by
  have hl9 := hS.2.2.2.2.2.1
  refine Ct.of (by decide) rfl (Nat.le_of_ble_eq_true rfl) rfl hxs ?_
  refine V_aload_n dJ5_append_c97b9_0 0 rfl ?_
  refine gf_sb_count hS.1 dJ5_append_c97b9_1 flJ5_79 ?_
  refine V_istore_n (lv' := [(2, .int (nI n)), (0, .ref a), (1, .int (nI m))]) dJ5_append_c97b9_4 rfl (by decide) rfl ?_
  refine V_iload_n dJ5_append_c97b9_5 0 rfl ?_
  refine V_iload_n dJ5_append_c97b9_6 2 rfl ?_
  refine V_cSi (As := [.int (nI m)]) (rest := [.int (nI n)]) dJ5_append_c97b9_7 cvJ5_245 (c_size hxs hm) ⟨Nat.le_of_ble_eq_true rfl, Nat.le_of_ble_eq_true rfl, Nat.le_of_ble_eq_true rfl, Nat.le_of_ble_eq_true rfl⟩ (Nat.le_of_ble_eq_true rfl) rfl ?_
  refine V_iadd dJ5_append_c97b9_10 ?_
  rw [nI_add]
  refine V_istore_n (lv' := [(3, .int (nI (n + (dec m).length))), (2, .int (nI n)), (0, .ref a), (1, .int (nI m))]) dJ5_append_c97b9_11 rfl (by decide) rfl ?_
  refine V_aload_n dJ5_append_c97b9_12 2 rfl ?_
  refine V_iload_n dJ5_append_c97b9_13 0 rfl ?_
  refine V_cVp hg.p (As := [.int (nI (n + (dec m).length))]) (rest := []) (v := none) dJ5_append_c97b9_14 cpJ5_100 (c_ens hxs hg hS hcap (Z := fun _ h1 => ∃ v1 L1, SbV X h1 a v1 L1 ml (nI n) ∧ L1.length = capN (n + (dec m).length) L.length ∧ n + (dec m).length ≤ L1.length ∧ (∀ j, j < L.length → L1.getD j 0 = L.getD j 0) ∧ FrS h h1 a v ∧ (v1 = v ∧ n + (dec m).length ≤ L.length ∨ h.1 ≤ v1 ∧ L.length < n + (dec m).length)) (fun h1 v1 L1 z1 z2 z3 z4 z5 z6 => ⟨v1, L1, z1, z2, z3, z4, z5, z6⟩)) hS.1 rfl ⟨Nat.le_of_ble_eq_true rfl, Nat.le_of_ble_eq_true rfl, Nat.le_of_ble_eq_true rfl, Nat.le_of_ble_eq_true rfl⟩ (Nat.le_of_ble_eq_true rfl) rfl (fun h1 q1 => ?_)
  obtain ⟨v1, L1, hS1, hL1, hn1, hk1, hF1, hv1⟩ := q1
  have hl7 := hS1.2.2.2.2.2.1
  refine V_aload_n dJ5_append_c97b9_17 2 rfl ?_
  refine V_cVg (As := []) (rest := []) dJ5_append_c97b9_18 cuJ5_83 (Q := fun h2 => h2 = h1) (c_J5_isLatin1_aae02 hxs hg hS1.1) hS1.1 rfl ⟨Nat.le_of_ble_eq_true rfl, Nat.le_of_ble_eq_true rfl, Nat.le_of_ble_eq_true rfl, Nat.le_of_ble_eq_true rfl⟩ (Nat.le_of_ble_eq_true rfl) rfl (fun h2 e2 => ?_)
  subst e2
  refine V_if_eq (tgt := 37) dJ5_append_c97b9_21 (by decide) (fun c9 => absurd c9 (by decide)) (fun _ => ?_)
  refine V_iload_n dJ5_append_c97b9_24 3 rfl ?_
  refine V_iload_n dJ5_append_c97b9_25 0 rfl ?_
  refine V_aload_n dJ5_append_c97b9_26 2 rfl ?_
  refine gf_sb_value hS1.1 dJ5_append_c97b9_27 flJ5_15 ?_
  refine V_cSg (As := [.int (nI m), .int (nI (n + (dec m).length)), .ref v1]) (rest := []) dJ5_append_c97b9_30 cvJ5_248 (c_chars hxs hg hS1.2.1 hm (q := n + (dec m).length) (by omega) hn1 (by omega) hS1.2.2.2.2.2.2) ⟨Nat.le_of_ble_eq_true rfl, Nat.le_of_ble_eq_true rfl, Nat.le_of_ble_eq_true rfl, Nat.le_of_ble_eq_true rfl⟩ (Nat.le_of_ble_eq_true rfl) rfl (fun h3 q3 => ?_)
  obtain ⟨L', e3, hP⟩ := q3
  subst e3
  rw [Nat.add_sub_cancel] at hP
  refine V_pop dJ5_append_c97b9_33 rfl ?_
  refine V_goto (tgt := 48) dJ5_append_c97b9_34 (by decide) ?_
  refine V_aload_n dJ5_append_c97b9_48 2 rfl ?_
  refine V_iload_n dJ5_append_c97b9_49 0 rfl ?_
  refine pf_sb_count (show SbO (hput _ v1 (aL (kA X 2) L')) a v1 ml (nI n) from (hput_ne hS1.2.2.1).trans hS1.1) dJ5_append_c97b9_50 flJ5_79 (fun h4 hS4 hF4 hz4 hk4 => ?_)
  refine V_aload_n dJ5_append_c97b9_53 2 rfl ?_
  exact V_aret dJ5_append_c97b9_54 rfl (Or.inl ⟨_, rfl⟩) ⟨Nat.le_of_ble_eq_true rfl, Nat.le_of_ble_eq_true rfl⟩ ⟨rfl, v1, L', ⟨hS4, (hk4 v1 (Ne.symm hS1.2.2.1)).trans hput_at, hS1.2.2.1, by rw [hz4]; exact hS1.2.2.2.1, by rw [hz4]; exact hS1.2.2.2.2.1, by rw [hP.1]; exact hl7, hP.2.1⟩, by rw [hP.1]; exact hL1, by rw [hP.1]; exact hn1, fun j hj => (hP.2.2.1 j hj).trans (hk1 j (by omega)), hP.2.2.2, hF1.tr (FrS.tr (FrS.put (Or.inr rfl)) hF4 (Or.inl rfl)) (hv1.imp (fun z => z.1) (fun z => z.1)), hv1.imp (fun z => z.1) (fun z => z.1)⟩
set_option maxRecDepth 20000 in
set_option maxHeartbeats 2000000 in
theorem c_appN {X : KX} (hxs : X.1.stackTraces = false) (hg : GX X) {h : AH} {a v : Nat} {L : List Int32} {ml : Int32} {n m : Nat} (hS : SbV X h a v L ml (nI n)) (hm : m < 10000) (hn : n ≤ L.length) (hcap : capN (n + (dec m).length) L.length ≤ 128) : Ct X mJ4_append_bf812 [.ref a, .int (nI m)] h (zM (some (.ref a)) (fun h' => ∃ v' L', SbV X h' a v' L' ml (nI (n + (dec m).length)) ∧ L'.length = capN (n + (dec m).length) L.length ∧ n + (dec m).length ≤ L'.length ∧ (∀ j, j < n → L'.getD j 0 = L.getD j 0) ∧ (∀ j, j < (dec m).length → L'.getD (n + j) 0 = (dec m).getD j 0) ∧ FrS h h' a v ∧ (v' = v ∨ h.1 ≤ v'))) := by
  refine Ct.of (by decide) rfl (Nat.le_of_ble_eq_true rfl) rfl hxs ?_
  refine V_aload_n dJ4_append_bf812_0 0 rfl ?_
  refine V_iload_n dJ4_append_bf812_1 1 rfl ?_
  refine V_cSU (As := [.int (nI m)]) (rest := []) dJ4_append_bf812_2 csJ4_53 (c_J5_appN hxs hg hS hm hn hcap) hS.1 rfl ⟨Nat.le_of_ble_eq_true rfl, Nat.le_of_ble_eq_true rfl, Nat.le_of_ble_eq_true rfl, Nat.le_of_ble_eq_true rfl⟩ (Nat.le_of_ble_eq_true rfl) rfl (fun h1 q1 => ?_)
  refine V_pop dJ4_append_bf812_5 rfl ?_
  refine V_aload_n dJ4_append_bf812_6 0 rfl ?_
  exact V_aret dJ4_append_bf812_7 rfl (Or.inl ⟨_, rfl⟩) ⟨Nat.le_of_ble_eq_true rfl, Nat.le_of_ble_eq_true rfl⟩ ⟨rfl, q1⟩
theorem c_TxN {X : KX} (hxs : X.1.stackTraces = false) (hg : GX X) {h : AH} {a v m : Nat} {t : List Int32} (hB : TxB X h a v t) (hm9 : m < 10000) (hq : t.length + (dec m).length ≤ 34) : Ct X mJ4_append_bf812 [.ref a, .int (nI m)] h (zM (some (.ref a)) (fun h' => ∃ v', TxB X h' a v' (t ++ dec m) ∧ FrS h h' a v ∧ (v' = v ∨ h.1 ≤ v'))) := by
  obtain ⟨L, ml, hS, hT, hm⟩ := hB
  refine (c_appN hxs hg hS hm9 hT.1 (cap128 hm hq)).weak (fun o h' hz => ?_)
  obtain ⟨e, v', L', g1, g2, g3, g4, g5, g6, g7⟩ := hz
  exact ⟨e, v', ⟨L', ml, by rw [List.length_append]; exact g1, txt_app hT g3 g4 g5 (dec_bd hm9), by rw [g2]; exact cap34 hm hq⟩, g6, g7⟩
set_option maxRecDepth 20000 in
set_option maxHeartbeats 2000000 in
theorem c_chkLen {X : KX} (hxs : X.1.stackTraces = false) {h : AH} {n : Nat} (hn : n ≤ 128) : Ct X mJ7_checkLength_df160 [.int 0, .int (nI n)] h (zM none (fun h' => h' = h)) := by
  refine Ct.of (by decide) rfl (Nat.le_of_ble_eq_true rfl) rfl hxs ?_
  refine V_iload_n dJ7_checkLength_df160_0 1 rfl ?_
  refine V_iload_n dJ7_checkLength_df160_1 0 rfl ?_
  refine V_icmp_ge (tgt := 37) dJ7_checkLength_df160_2 (by decide) (fun _ => ?_) (fun c9 => absurd (nI_pos' (by omega)) c9)
  exact V_vret dJ7_checkLength_df160_37 rfl ⟨Nat.le_of_ble_eq_true rfl, Nat.le_of_ble_eq_true rfl⟩ ⟨rfl, rfl⟩
set_option maxRecDepth 20000 in
set_option maxHeartbeats 2000000 in
theorem c_copyRB {X : KX} (hxs : X.1.stackTraces = false) (hg : GX X) {h : AH} {v n : Nat} {L : List Int32} (hL : h.2 v = some (aL (kA X 2) L)) (hv : v < h.1) (hn : n < L.length) (hl9 : L.length ≤ 128) (hf : ∀ j, fits .byte (.int (L.getD j 0)) = true) : Ct X mJ7_copyOfRangeByte_39247 [.ref v, .int 0, .int (nI n)] h (zM (some (.ref h.1)) (fun h' => h' = hput (hnew h (aL (kA X 2) (List.replicate n 0))) h.1 (aL (kA X 2) (cpL L (List.replicate n 0) 0 0 n)))) := by
  refine Ct.of (by decide) rfl (Nat.le_of_ble_eq_true rfl) rfl hxs ?_
  refine V_iload_n dJ7_copyOfRangeByte_39247_0 1 rfl ?_
  refine V_iload_n dJ7_copyOfRangeByte_39247_1 2 rfl ?_
  refine V_cSg (As := [.int 0, .int (nI n)]) (rest := []) (v := none) dJ7_copyOfRangeByte_39247_2 cvJ7_343 (c_chkLen hxs (by omega)) ⟨Nat.le_of_ble_eq_true rfl, Nat.le_of_ble_eq_true rfl, Nat.le_of_ble_eq_true rfl, Nat.le_of_ble_eq_true rfl⟩ (Nat.le_of_ble_eq_true rfl) rfl (fun h1 e1 => ?_)
  subst e1
  refine V_iload_n dJ7_copyOfRangeByte_39247_5 2 rfl ?_
  refine V_iload_n dJ7_copyOfRangeByte_39247_6 1 rfl ?_
  refine V_isub dJ7_copyOfRangeByte_39247_7 ?_
  rw [Int32.sub_zero]
  refine V_istore_n (lv' := [(3, .int (nI n)), (0, .ref v), (1, .int 0), (2, .int (nI n))]) dJ7_copyOfRangeByte_39247_8 rfl (by decide) rfl ?_
  refine V_iload_n dJ7_copyOfRangeByte_39247_9 0 rfl ?_
  refine V_newb (N := n) dJ7_copyOfRangeByte_39247_10 wAb (nI_pos (by omega)) (nI_clamp (by omega)) (by omega) ⟨by decide, by show 0 + n ≤ 128; omega⟩ ?_
  have hL1 : (hnew h1 (aL (kA X 2) (List.replicate n 0))).2 v = some (aL (kA X 2) L) := (if_neg (fun e => by omega)).trans hL
  refine V_astore (lv' := [(4, .ref h1.1), (3, .int (nI n)), (0, .ref v), (1, .int 0), (2, .int (nI n))]) dJ7_copyOfRangeByte_39247_12 (by decide) rfl ?_
  refine V_aload_n dJ7_copyOfRangeByte_39247_14 2 rfl ?_
  refine V_iload_n dJ7_copyOfRangeByte_39247_15 3 rfl ?_
  refine V_aload dJ7_copyOfRangeByte_39247_16 0 rfl ?_
  refine V_iconst (v := 0) dJ7_copyOfRangeByte_39247_18 (by decide) ?_
  refine V_aload_n dJ7_copyOfRangeByte_39247_19 2 rfl ?_
  refine V_alen (t := 2) (v := nI L.length) dJ7_copyOfRangeByte_39247_20 rfl hL1 rfl ?_
  refine V_iload_n dJ7_copyOfRangeByte_39247_21 3 rfl ?_
  refine V_isub dJ7_copyOfRangeByte_39247_22 ?_
  rw [Int32.sub_zero]
  refine V_iload_n dJ7_copyOfRangeByte_39247_23 1 rfl ?_
  refine V_mmin dJ7_copyOfRangeByte_39247_24 mlJ7_304 wMin ⟨Nat.le_of_ble_eq_true rfl, Nat.le_of_ble_eq_true rfl, Nat.le_of_ble_eq_true rfl, by show 0 + n ≤ 128; omega⟩ ?_
  rw [iminN (by omega) (by omega), Nat.min_eq_right (by omega)]
  refine V_copyp (t := 2) (ty := .byte) (u := 0) (v := 0) (w := n) dJ7_copyOfRangeByte_39247_27 mlJ7_150 wCpy rfl rfl hL1 (if_pos rfl) (by omega) nI_0.symm nI_0.symm rfl (by omega) (by rw [List.length_replicate]; omega) (by omega) (by rw [List.length_replicate]; omega) hf ⟨Nat.le_of_ble_eq_true rfl, Nat.le_of_ble_eq_true rfl⟩ ?_
  refine V_aload dJ7_copyOfRangeByte_39247_30 0 rfl ?_
  exact V_aret dJ7_copyOfRangeByte_39247_32 rfl (Or.inr ⟨_, rfl⟩) ⟨Nat.le_of_ble_eq_true rfl, by show 0 + n ≤ 128; omega⟩ ⟨rfl, rfl⟩
set_option maxRecDepth 20000 in
set_option maxHeartbeats 2000000 in
theorem c_copyR {X : KX} (hxs : X.1.stackTraces = false) (hg : GX X) {h : AH} {v n : Nat} {L : List Int32} (hL : h.2 v = some (aL (kA X 2) L)) (hv : v < h.1) (hn : n < L.length) (hl9 : L.length ≤ 128) (hf : ∀ j, fits .byte (.int (L.getD j 0)) = true) : Ct X mJ7_copyOfRange_39247 [.ref v, .int 0, .int (nI n)] h (zM (some (.ref h.1)) (fun h' => h' = hput (hnew h (aL (kA X 2) (List.replicate n 0))) h.1 (aL (kA X 2) (cpL L (List.replicate n 0) 0 0 n)))) := by
  refine Ct.of (by decide) rfl (Nat.le_of_ble_eq_true rfl) rfl hxs ?_
  refine V_iload_n dJ7_copyOfRange_39247_0 1 rfl ?_
  refine V_if_ne (tgt := 10) dJ7_copyOfRange_39247_1 (by decide) (fun c9 => absurd c9 (fun q9 => q9 rfl)) (fun _ => ?_)
  refine V_iload_n dJ7_copyOfRange_39247_4 2 rfl ?_
  refine V_aload_n dJ7_copyOfRange_39247_5 0 rfl ?_
  refine V_alen (t := 2) (v := nI L.length) dJ7_copyOfRange_39247_6 rfl hL rfl ?_
  refine V_icmp_eq (tgt := 17) dJ7_copyOfRange_39247_7 (by decide) (fun c9 => absurd c9 (fun c => by have := (nI_eq (by omega) (by omega)).mp c; omega)) (fun _ => ?_)
  refine V_aload_n dJ7_copyOfRange_39247_10 0 rfl ?_
  refine V_iload_n dJ7_copyOfRange_39247_11 1 rfl ?_
  refine V_iload_n dJ7_copyOfRange_39247_12 2 rfl ?_
  refine V_cSg (As := [.ref v, .int 0, .int (nI n)]) (rest := []) dJ7_copyOfRange_39247_13 cvJ7_339 (c_copyRB hxs hg hL hv hn hl9 hf) ⟨Nat.le_of_ble_eq_true rfl, Nat.le_of_ble_eq_true rfl, Nat.le_of_ble_eq_true rfl, Nat.le_of_ble_eq_true rfl⟩ (Nat.le_of_ble_eq_true rfl) rfl (fun h1 e1 => ?_)
  exact V_aret dJ7_copyOfRange_39247_16 rfl (Or.inr ⟨_, rfl⟩) ⟨Nat.le_of_ble_eq_true rfl, Nat.le_of_ble_eq_true rfl⟩ ⟨rfl, e1⟩
set_option maxRecDepth 20000 in
set_option maxHeartbeats 2000000 in
theorem c_getValue {X : KX} (hxs : X.1.stackTraces = false) {h : AH} {a v : Nat} {ml c : Int32} (hS : SbO h a v ml c) : Ct X mJ5_getValue_6d5f1 [.ref a] h (zM (some (.ref v)) (fun h' => h' = h)) := by
  refine Ct.of (by decide) rfl (Nat.le_of_ble_eq_true rfl) rfl hxs ?_
  refine V_aload_n dJ5_getValue_6d5f1_0 0 rfl ?_
  refine gf_sb_value hS dJ5_getValue_6d5f1_1 flJ5_15 ?_
  exact V_aret dJ5_getValue_6d5f1_4 rfl (Or.inr ⟨_, rfl⟩) ⟨Nat.le_of_ble_eq_true rfl, Nat.le_of_ble_eq_true rfl⟩ ⟨rfl, rfl⟩
theorem wObRJ0 : Cond.methodLink RJ0 1 Lib.objectInit ∈ GW ∧ Cond.instanceMethod Lib.objectInit ∈ GW ∧ Cond.code Lib.objectInit ⟨#[0xb1]⟩ 1 none ∈ GW := ⟨gw_tab 947 (by decide +kernel) (by decide +kernel), gw_tab 41 (by decide +kernel) (by decide +kernel), gw_tab 42 (by decide +kernel) (by decide +kernel)⟩
theorem cwJ0_549 : CallVU "java/lang/StringBuilder" "java/lang/AbstractStringBuilder" RJ0 549 ⟨"java/lang/AbstractStringBuilder", "length", "()I"⟩ mJ4_length_8abf5 0 := ⟨gw_tab 953 (by decide +kernel) (by decide +kernel), gw_tab 8 (by decide +kernel) (by decide +kernel), cdJ4_length_8abf5, by decide +kernel, by decide +kernel, by decide +kernel, rfl, gw_tab 681 (by decide +kernel) (by decide +kernel), ⟨_, _, _, show Cond.code yJ5_length_8abf5 cJ5_length_8abf5 1 (some .int) ∈ GW from cdJ5_length_8abf5⟩, gw_tab 1482 (by decide +kernel) (by decide +kernel), gw_tab 1494 (by decide +kernel) (by decide +kernel), gw_tab 677 (by decide +kernel) (by decide +kernel)⟩
theorem wNRJ4_18 : Cond.classLink RJ4 18 "java/lang/String" ∈ GW ∧ Cond.instantiable "java/lang/String" 4 ∈ GW ∧ Cond.initialized "java/lang/String" ∈ GW := ⟨gw_tab 940 (by decide +kernel) (by decide +kernel), gw_tab 443 (by decide +kernel) (by decide +kernel), gw_tab 9 (by decide +kernel) (by decide +kernel)⟩
theorem cp_txt {L t : List Int32} (hT : Txt L t) : cpL L (List.replicate t.length 0) 0 0 t.length = t := by
  apply List.ext_getElem
  · rw [cpL_len, List.length_replicate]
  · intro j h1 h2
    have h3 : (cpL L (List.replicate t.length 0) 0 0 t.length).getD j 0 = t.getD j 0 := by
      rw [cpL_getD (by rw [List.length_replicate]; exact h2), if_pos ⟨Nat.zero_le _, by omega⟩, show 0 + (j - 0) = j by omega]
      exact hT.2.1 j h2
    rw [List.getD_eq_getElem?_getD, List.getElem?_eq_getElem h1, List.getD_eq_getElem?_getD, List.getElem?_eq_getElem h2] at h3
    exact h3
set_option maxRecDepth 20000 in
set_option maxHeartbeats 4000000 in
theorem c_J0_init2 {X : KX} (hxs : X.1.stackTraces = false) (hg : GX X) {h : AH} {s a v : Nat} {L t : List Int32} {ml : Int32} (hS : SbV X h a v L ml (nI t.length)) (hT : Txt L t) (hn : t.length < L.length) (hs : s < h.1) (hsa : s ≠ a) (hsv : s ≠ v) (f_s : h.2 s = some (.inr (0, [.null, .int 0, .int 0, .int 0]))) : Ct X mJ0_init_db425 [.ref s, .ref a, .null] h (zM none (fun h' => StrN X h' s h.1 t ∧ h'.1 = h.1 + 1 ∧ ∀ q, q ≠ s → q ≠ h.1 → h'.2 q = h.2 q)) := by
  refine Ct.of (by decide) rfl (Nat.le_of_ble_eq_true rfl) rfl hxs ?_
  refine V_aload_n dJ0_init_db425_0 0 rfl ?_
  refine V_objInit dJ0_init_db425_1 wObRJ0 ⟨Nat.le_of_ble_eq_true rfl, Nat.le_of_ble_eq_true rfl⟩ ?_
  refine V_aload_n dJ0_init_db425_4 1 rfl ?_
  refine V_cVg (As := []) (rest := []) dJ0_init_db425_5 cuJ0_552 (c_getValue hxs hS.1) hS.1 rfl ⟨Nat.le_of_ble_eq_true rfl, Nat.le_of_ble_eq_true rfl, Nat.le_of_ble_eq_true rfl, Nat.le_of_ble_eq_true rfl⟩ (Nat.le_of_ble_eq_true rfl) rfl (fun h1 e1 => ?_)
  subst e1
  refine V_astore_n (lv' := [(3, .ref v), (0, .ref s), (1, .ref a), (2, .null)]) dJ0_init_db425_8 rfl (by decide) rfl ?_
  refine V_aload_n dJ0_init_db425_9 2 rfl ?_
  refine V_cVU (As := []) (rest := []) (Q := fun h2 => h2 = h1) dJ0_init_db425_10 cwJ0_549 (c_J4_length_8abf5 hxs hg hS.1) hS.1 rfl ⟨Nat.le_of_ble_eq_true rfl, Nat.le_of_ble_eq_true rfl, Nat.le_of_ble_eq_true rfl, Nat.le_of_ble_eq_true rfl⟩ (Nat.le_of_ble_eq_true rfl) rfl (fun h2 e2 => ?_)
  subst e2
  refine V_istore (lv' := [(4, .int (nI t.length)), (3, .ref v), (0, .ref s), (1, .ref a), (2, .null)]) dJ0_init_db425_13 (by decide) rfl ?_
  refine V_aload_n dJ0_init_db425_15 3 rfl ?_
  refine V_cVg (As := []) (rest := []) dJ0_init_db425_16 cuJ0_1047 (Q := fun h3 => h3 = h2) (c_J5_isLatin1_aae02 hxs hg hS.1) hS.1 rfl ⟨Nat.le_of_ble_eq_true rfl, Nat.le_of_ble_eq_true rfl, Nat.le_of_ble_eq_true rfl, Nat.le_of_ble_eq_true rfl⟩ (Nat.le_of_ble_eq_true rfl) rfl (fun h3 e3 => ?_)
  subst e3
  refine V_if_eq (tgt := 41) dJ0_init_db425_19 (by decide) (fun c9 => absurd c9 (by decide)) (fun _ => ?_)
  refine V_aload_n dJ0_init_db425_22 2 rfl ?_
  refine V_iconst (v := 0) dJ0_init_db425_23 (by decide) ?_
  refine V_putFB (T := TJ0) (fs' := [.null, .int 0, .int 0, .int 0]) 1 dJ0_init_db425_24 flJ0_15 iGJ0 tyJ0_ok nmJ0 rfl (by decide) rfl rfl rfl rfl rfl f_s rfl rfl (by simp) rfl (fun h4 hz4 f_s4 fk4 => ?_)
  have hL4 : h4.2 v = some (aL (kA X 2) L) := (fk4 v (Ne.symm hsv)).trans hS.2.1
  refine V_aload_n dJ0_init_db425_27 2 rfl ?_
  refine V_aload_n dJ0_init_db425_28 1 rfl ?_
  refine V_iconst (v := 0) dJ0_init_db425_29 (by decide) ?_
  refine V_iload dJ0_init_db425_30 0 rfl ?_
  refine V_cSg (As := [.ref v, .int 0, .int (nI t.length)]) (rest := [.ref s]) dJ0_init_db425_32 cvJ0_54 (c_copyR hxs hg hL4 (by rw [hz4]; exact hS.2.2.2.2.1) hn hS.2.2.2.2.2.1 hS.2.2.2.2.2.2) ⟨Nat.le_of_ble_eq_true rfl, Nat.le_of_ble_eq_true rfl, Nat.le_of_ble_eq_true rfl, Nat.le_of_ble_eq_true rfl⟩ (Nat.le_of_ble_eq_true rfl) rfl (fun h5 e5 => ?_)
  rw [cp_txt hT] at e5
  have f_s5 : h5.2 s = some (.inr (0, [.null, .int 0, .int 0, .int 0])) := by rw [e5]; exact ((hput_ne (by omega)).trans (if_neg (by omega))).trans f_s4
  refine V_putFB (T := TJ0) (fs' := [.ref h4.1, .int 0, .int 0, .int 0]) 0 dJ0_init_db425_35 flJ0_9 iGJ0 tyJ0_ok nmJ0 rfl (by decide) rfl rfl rfl rfl rfl f_s5 rfl rfl (by simp) rfl (fun h6 hz6 f_s6 fk6 => ?_)
  refine V_goto (tgt := 97) dJ0_init_db425_38 (by decide) ?_
  exact V_vret dJ0_init_db425_97 rfl ⟨Nat.le_of_ble_eq_true rfl, Nat.le_of_ble_eq_true rfl⟩ ⟨rfl, ⟨0, 0, by rw [← hz4]; exact f_s6, by rw [← hz4, fk6 _ (by omega), e5]; exact hput_at⟩, by rw [hz6, e5]; show h4.1 + 1 = _; rw [hz4], fun q g1 g2 => by rw [fk6 q g1, e5, hput_ne (by omega), ← fk4 q g1]; exact if_neg (by omega)⟩
set_option maxRecDepth 20000 in
set_option maxHeartbeats 4000000 in
theorem c_J0_init1 {X : KX} (hxs : X.1.stackTraces = false) (hg : GX X) {h : AH} {s a v : Nat} {L t : List Int32} {ml : Int32} (hS : SbV X h a v L ml (nI t.length)) (hT : Txt L t) (hn : t.length < L.length) (hs : s < h.1) (hsa : s ≠ a) (hsv : s ≠ v) (f_s : h.2 s = some (.inr (0, [.null, .int 0, .int 0, .int 0]))) : Ct X mJ0_init_81219 [.ref s, .ref a] h (zM none (fun h' => StrN X h' s h.1 t ∧ h'.1 = h.1 + 1 ∧ ∀ q, q ≠ s → q ≠ h.1 → h'.2 q = h.2 q)) := by
  refine Ct.of (by decide) rfl (Nat.le_of_ble_eq_true rfl) rfl hxs ?_
  refine V_aload_n dJ0_init_81219_0 0 rfl ?_
  refine V_aload_n dJ0_init_81219_1 1 rfl ?_
  refine V_null dJ0_init_81219_2 ?_
  refine V_cI (As := [.ref a, .null]) (rest := []) dJ0_init_81219_3 cvJ0_489 rfl rfl rfl (c_J0_init2 hxs hg hS hT hn hs hsa hsv f_s) ⟨Nat.le_of_ble_eq_true rfl, Nat.le_of_ble_eq_true rfl, Nat.le_of_ble_eq_true rfl, Nat.le_of_ble_eq_true rfl⟩ (Nat.le_of_ble_eq_true rfl) rfl (fun h1 q1 => ?_)
  exact V_vret dJ0_init_81219_6 rfl ⟨Nat.le_of_ble_eq_true rfl, Nat.le_of_ble_eq_true rfl⟩ ⟨rfl, q1⟩
set_option maxRecDepth 20000 in
set_option maxHeartbeats 4000000 in
theorem c_toString {X : KX} (hxs : X.1.stackTraces = false) (hg : GX X) {h : AH} {a v : Nat} {t : List Int32} (hB : TxB X h a v t) (ht : t.length < 34 ∧ 16 < t.length) : Ct X mJ4_toString_0e30d [.ref a] h (zM (some (.ref h.1)) (fun h' => StrN X h' h.1 (h.1 + 1) t ∧ h'.1 = h.1 + 2 ∧ ∀ q, q < h.1 → h'.2 q = h.2 q)) := by
  obtain ⟨L, ml, hS, hT, hm⟩ := hB
  have hn : t.length < L.length := by have := hT.1; omega
  refine Ct.of (by decide) rfl (Nat.le_of_ble_eq_true rfl) rfl hxs ?_
  refine V_newB (ci := 0) (N := 4) (b := h.1) (fs := [.null, .int 0, .int 0, .int 0]) rfl dJ4_toString_0e30d_0 wNRJ4_18 iGJ0 tyJ0_ok rfl (by decide) ⟨Nat.le_of_ble_eq_true rfl, Nat.le_of_ble_eq_true rfl⟩ (fun h1 he1 f_s fk1 => ?_)
  have hS1 : SbV X h1 a v L ml (nI t.length) := hS.keep (by omega) (fk1 a (by have := hS.2.2.2.1; omega)) (fk1 v (by have := hS.2.2.2.2.1; omega))
  refine V_dup dJ4_toString_0e30d_3 rfl ?_
  refine V_aload_n dJ4_toString_0e30d_4 0 rfl ?_
  refine V_cI (As := [.ref a]) (rest := [.ref h.1]) dJ4_toString_0e30d_5 cvJ4_137 rfl rfl rfl (c_J0_init1 hxs hg hS1 hT hn (by omega) (by have := hS.2.2.2.1; omega) (by have := hS.2.2.2.2.1; omega) f_s) ⟨Nat.le_of_ble_eq_true rfl, Nat.le_of_ble_eq_true rfl, Nat.le_of_ble_eq_true rfl, Nat.le_of_ble_eq_true rfl⟩ (Nat.le_of_ble_eq_true rfl) rfl (fun h2 q2 => ?_)
  obtain ⟨g1, g2, g3⟩ := q2
  exact V_aret dJ4_toString_0e30d_8 rfl (Or.inl ⟨_, rfl⟩) ⟨Nat.le_of_ble_eq_true rfl, Nat.le_of_ble_eq_true rfl⟩ ⟨rfl, by rw [← he1]; exact g1, by omega, fun q hq => (g3 q (by omega) (by omega)).trans (fk1 q (by omega))⟩
