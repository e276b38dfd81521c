/-! ===== at, some, asks ===== -/
def atS (X : KX) (k : Nat) : Int32 := if k < kL X then kxs X k else 0
def smI (a b : Int32) : Int32 := if 0 ≤ a - a / b * b then a - a / b * b else a - a / b * b + b
theorem c_L_at {X : KX} (hxs : X.1.stackTraces = false) {h : AH} {k : Nat} (hk : k < 1000) (hL : kL X ≤ 260) : Ct X mL_at [.ref (kb X), .int (nI k)] h (zM (some (.int (atS X k))) (fun h' => h' = h)) := by
  refine Ct.of (by decide) rfl (Nat.le_of_ble_eq_true rfl) rfl hxs ?_
  refine V_iload_n dL_at_0 1 rfl ?_
  refine V_aload_n dL_at_1 0 rfl ?_
  refine V_slen dL_at_2 ?_
  by_cases c : k < kL X
  · refine V_icmp_ge (tgt := 12) dL_at_3 (by decide) (fun c9 => absurd c9 (nI_ge c (by omega))) (fun _ => ?_)
    refine V_aload_n dL_at_6 0 rfl ?_
    refine V_iload_n dL_at_7 1 rfl ?_
    refine V_sld dL_at_8 (vp_in_nI c (by omega)) ?_
    rw [nI_clamp (by omega)]
    refine V_goto (tgt := 13) dL_at_9 (by decide) ?_
    exact V_iret dL_at_13 rfl ⟨Nat.le_of_ble_eq_true rfl, Nat.le_of_ble_eq_true rfl⟩ ⟨by unfold atS; rw [if_pos c], rfl⟩
  · refine V_icmp_ge (tgt := 12) dL_at_3 (by decide) (fun _ => ?_) (fun c9 => absurd (nI_le (by omega) (by omega)) c9)
    refine V_iconst (v := 0) dL_at_12 (by decide) ?_
    exact V_iret dL_at_13 rfl ⟨Nat.le_of_ble_eq_true rfl, Nat.le_of_ble_eq_true rfl⟩ ⟨by unfold atS; rw [if_neg c], rfl⟩
theorem c_L_some {X : KX} (hxs : X.1.stackTraces = false) {h : AH} (a b : Int32) (hb : ¬ b = 0) : Ct X mL_some [.int a, .int b] h (zM (some (.int (smI a b))) (fun h' => h' = h)) := by
  refine Ct.of (by decide) rfl (Nat.le_of_ble_eq_true rfl) rfl hxs ?_
  refine V_iload_n dL_some_0 0 rfl ?_
  refine V_iload_n dL_some_1 1 rfl ?_
  refine V_irem dL_some_2 hb ?_
  refine V_istore_n (lv' := [(2, .int (a - a / b * b)), (0, .int a), (1, .int b)]) dL_some_3 rfl (by decide) rfl ?_
  refine V_iload_n dL_some_4 0 rfl ?_
  refine V_if_ge (tgt := 14) dL_some_5 (by decide) (fun c => ?_) (fun c => ?_)
  · refine V_iload_n dL_some_14 0 rfl ?_
    exact V_iret dL_some_15 rfl ⟨Nat.le_of_ble_eq_true rfl, Nat.le_of_ble_eq_true rfl⟩ ⟨by unfold smI; rw [if_pos c], rfl⟩
  · refine V_iload_n dL_some_8 0 rfl ?_
    refine V_iload_n dL_some_9 2 rfl ?_
    refine V_iadd dL_some_10 ?_
    refine V_goto (tgt := 15) dL_some_11 (by decide) ?_
    exact V_iret dL_some_15 rfl ⟨Nat.le_of_ble_eq_true rfl, Nat.le_of_ble_eq_true rfl⟩ ⟨by unfold smI; rw [if_neg c], rfl⟩
theorem sm_bd (a : Int32) {m : Nat} (h0 : 0 < m) (hm : m < 2 ^ 30) : ∃ j : Nat, j < m ∧ smI a (nI m) = nI j := by
  have hM : (nI m).toInt = (m : Int) := nI_toInt (by omega)
  have hr : (a - a / nI m * nI m).toInt = a.toInt.tmod (m : Int) := by rw [rem_toInt, hM]
  have hb := tmod_bounds (a := a.toInt) (M := (m : Int)) (by omega)
  unfold smI
  by_cases c : 0 ≤ a - a / nI m * nI m
  · rw [if_pos c]
    have h1 : 0 ≤ (a - a / nI m * nI m).toInt := by simpa using Int32.le_iff_toInt_le.mp c
    refine ⟨(a - a / nI m * nI m).toInt.toNat, by omega, ?_⟩
    apply Int32.toInt_inj.mp
    rw [nI_toInt (by omega)]
    omega
  · rw [if_neg c]
    have h1 : ¬ 0 ≤ (a - a / nI m * nI m).toInt := fun z => c (Int32.le_iff_toInt_le.mpr (by simpa using z))
    refine ⟨((a - a / nI m * nI m).toInt + m).toNat, by omega, ?_⟩
    apply Int32.toInt_inj.mp
    rw [nI_toInt (by omega), Int32.toInt_add, hM, Int.bmod_eq_of_le (by omega) (by omega)]
    omega
theorem OpW.obj {X : KX} {h : AH} {x : Nat} {S : SH} {past : List SH} {N : SH} {hs le lc lf : Int32} {txt ln : List Int32} (p : OpW X h x S past N hs le lc lf txt ln) : h.2 x = some (.inr (9, opObj x hs le lc lf)) := by
  obtain ⟨pr, p⟩ := p
  exact p.1
theorem OpW.ln16 {X : KX} {h : AH} {x : Nat} {S : SH} {past : List SH} {N : SH} {hs le lc lf : Int32} {txt ln : List Int32} (p : OpW X h x S past N hs le lc lf txt ln) : ln.length ≤ 16 := by
  obtain ⟨pr, p⟩ := p
  obtain ⟨L, ml, h1, h2, h3⟩ := p.2.2.2.2.2.2.2.2.2
  have := h3.1
  omega
/-- the answers of asks, added up -/
def lsum (l : List Int32) : Nat → Nat → Int64 → Int64
  | 0, _, s => s
  | f + 1, i, s => lsum l f (i + 1) (31 * s + (rd l (nI i)).toInt64)
def aR (S : SH) (p : Int32) : Int32 := wI ([-1001] : List Int32) (T_X7_performerAtRank S p)
def aF (S : SH) (p : Int32) : Int32 := wI ([-1001, -1002] : List Int32) (T_X7_finesAfter S p 30)
def aI (S : SH) (c : Int32) : Int32 := wI ([-1001] : List Int32) (T_X7_cueAt S c)
def aL2 (S : SH) : Int32 := wI ([-1001] : List Int32) (T_X7_loudestBeat S)
def aP (S : SH) : Nat → Nat → Int64 → Int64
  | 0, _, s => s
  | f + 1, p, s => aP S f (p + 1) (lsum (dP S p) (dP S p).length 0 (31 * (31 * s + (aR S (nI p)).toInt64) + (aF S (nI p)).toInt64))
def aC (S : SH) : Nat → Nat → Int64 → Int64
  | 0, _, s => s
  | f + 1, c, s => aC S f (c + 1) (match dC S (aI S (nI c)) with | some l => lsum l l.length 0 s | none => s)
def aHd (S : SH) : Int32 := if T_X7_isHushed S (z_beat S) = 0 then 0 else 1
def a0 (S : SH) : Int64 := 31 * bitsD (mF S) + (bitsF (hF S)).toInt64
def a1 (S : SH) : Int64 := 31 * (31 * (31 * (31 * (31 * a0 S + (z_perf S).toInt64) + (z_count S).toInt64) + (z_beat S).toInt64) + (z_act S).toInt64) + (z_happ S).toInt64
def a2 (S : SH) : Int64 := 31 * (31 * (31 * (31 * a1 S + (z_clash S).toInt64) + (z_imp S).toInt64) + (z_paid S).toInt64) + (aL2 S).toInt64
def a3 (S : SH) : Int64 := 31 * (31 * a2 S + (T_X7_conflictCount S).toInt64) + (aHd S).toInt64
def Asks (S : SH) : Int64 := aC S (z_count S).toNatClampNeg 0 (aP S (z_perf S).toNatClampNeg 0 (a3 S))
theorem line_in {l : List Int32} {i : Nat} (hi : i < l.length) (hl : l.length < 2 ^ 31) : wI ([-1001] : List Int32) (T_X7_lineAt l (nI i)) = rd l (nI i) := by
  unfold T_X7_lineAt
  rw [if_neg (nI_pos (by omega)), if_pos (nI_lt hi (by omega))]
  rfl
set_option maxRecDepth 20000 in
set_option maxHeartbeats 4000000 in
theorem as_199 {X : KX} (hxs : X.1.stackTraces = false) (hg : GX X) {x : Nat} {S : SH} {past : List SH} {N : SH} {hs le lc lf : Int32} {txt : List Int32} {F : FT} {nn pp : Int32} {l : List Int32} {K M6 : Nat} (hK : K + 16 ≤ 2048) (hM : M6 + 96 ≤ 65536) (hl : l.length ≤ 16) : ∀ (g i : Nat) (s : Int64) (h0 : AH), i + g = l.length → OpW X h0 x S past N hs le lc lf txt l → (∀ h1, OpW X h1 x S past N hs le lc lf txt l → V X mL_asks F (K + l.length) (M6 + 6 * l.length) 226 [(0, .ref x), (1, .int nn), (2, .long (lsum l g i s)), (4, .int pp)] [] h1) → V X mL_asks F (K + i) (M6 + 6 * i) 199 [(0, .ref x), (1, .int nn), (2, .long s), (4, .int pp), (5, .int (nI l.length)), (6, .int (nI i))] [] h0 := by
  intro g
  induction g with
  | zero =>
    intro i s h0 hi hW kk
    have ei : i = l.length := by omega
    subst ei
    refine V_iload dL_asks_199 5 rfl ?_
    refine V_iload dL_asks_201 4 rfl ?_
    refine V_icmp_ge (tgt := 226) dL_asks_203 (by decide) (fun _ => ?_) (fun c9 => absurd (Int32.le_refl _) c9)
    refine V.loc [0, 1, 2, 3] rfl ?_
    exact kk h0 hW
  | succ g ih =>
    intro i s h0 hi hW kk
    have hi9 : i < l.length := by omega
    refine V_iload dL_asks_199 5 rfl ?_
    refine V_iload dL_asks_201 4 rfl ?_
    refine V_icmp_ge (tgt := 226) dL_asks_203 (by decide) (fun c9 => absurd c9 (nI_ge hi9 (by omega))) (fun _ => ?_)
    refine V_ldc2 dL_asks_206 kLongL_184 ?_
    refine V_lload_n dL_asks_209 2 rfl ?_
    refine V_lmul dL_asks_210 ?_
    refine V_aload_n dL_asks_211 0 rfl ?_
    refine V_iload dL_asks_212 5 rfl ?_
    refine V_cSHi (As := [.ref x, .int (nI i)]) (rest := [.long (31 * s)]) dL_asks_214 cvL_157 (c_L_lineAt hxs hg hW (nI i)) ⟨Nat.le_of_ble_eq_true rfl, Nat.le_of_ble_eq_true rfl, by show K + i + 1 ≤ 2048; omega, by show M6 + 6 * i + 6 ≤ 65536; omega⟩ (Nat.le_of_ble_eq_true rfl) rfl (fun h1 hW1 => ?_)
    rw [line_in hi9 (by omega)]
    refine V_i2l dL_asks_217 rfl ?_
    refine V_ladd dL_asks_218 ?_
    refine V_lstore_n (lv' := [(2, .long ((31 * s) + ((rd l (nI i))).toInt64)), (0, .ref x), (1, .int nn), (4, .int pp), (5, .int (nI l.length)), (6, .int (nI i))]) dL_asks_219 rfl (by decide) rfl ?_
    refine V_iinc (v := nI (i + 1)) (lv' := [(6, .int (nI (i + 1))), (2, .long (31 * s + (rd l (nI i)).toInt64)), (0, .ref x), (1, .int nn), (4, .int pp), (5, .int (nI l.length))]) dL_asks_220 5 rfl (iinc1 i) (by decide) rfl ?_
    refine V_goto (tgt := 199) dL_asks_223 (by decide) ?_
    refine V.loc [2, 3, 1, 4, 5, 0] rfl ?_
    refine V_recount (show K + i + 1 = K + (i + 1) by omega) (show M6 + 6 * i + 6 = M6 + 6 * (i + 1) by omega) ?_
    exact ih (i + 1) _ h1 (by omega) hW1 kk
set_option maxRecDepth 20000 in
set_option maxHeartbeats 4000000 in
theorem as_259 {X : KX} (hxs : X.1.stackTraces = false) (hg : GX X) {x : Nat} {S : SH} {past : List SH} {N : SH} {hs le lc lf : Int32} {txt : List Int32} {F : FT} {nn pp : Int32} {l : List Int32} {K M6 : Nat} (hK : K + 16 ≤ 2048) (hM : M6 + 96 ≤ 65536) (hl : l.length ≤ 16) : ∀ (g i : Nat) (s : Int64) (h0 : AH), i + g = l.length → OpW X h0 x S past N hs le lc lf txt l → (∀ h1, OpW X h1 x S past N hs le lc lf txt l → V X mL_asks F (K + l.length) (M6 + 6 * l.length) 286 [(0, .ref x), (1, .int nn), (2, .long (lsum l g i s)), (4, .int pp)] [] h1) → V X mL_asks F (K + i) (M6 + 6 * i) 259 [(0, .ref x), (1, .int nn), (2, .long s), (4, .int pp), (5, .int (nI l.length)), (6, .int (nI i))] [] h0 := by
  intro g
  induction g with
  | zero =>
    intro i s h0 hi hW kk
    have ei : i = l.length := by omega
    subst ei
    refine V_iload dL_asks_259 5 rfl ?_
    refine V_iload dL_asks_261 4 rfl ?_
    refine V_icmp_ge (tgt := 286) dL_asks_263 (by decide) (fun _ => ?_) (fun c9 => absurd (Int32.le_refl _) c9)
    refine V.loc [0, 1, 2, 3] rfl ?_
    exact kk h0 hW
  | succ g ih =>
    intro i s h0 hi hW kk
    have hi9 : i < l.length := by omega
    refine V_iload dL_asks_259 5 rfl ?_
    refine V_iload dL_asks_261 4 rfl ?_
    refine V_icmp_ge (tgt := 286) dL_asks_263 (by decide) (fun c9 => absurd c9 (nI_ge hi9 (by omega))) (fun _ => ?_)
    refine V_ldc2 dL_asks_266 kLongL_184 ?_
    refine V_lload_n dL_asks_269 2 rfl ?_
    refine V_lmul dL_asks_270 ?_
    refine V_aload_n dL_asks_271 0 rfl ?_
    refine V_iload dL_asks_272 5 rfl ?_
    refine V_cSHi (As := [.ref x, .int (nI i)]) (rest := [.long (31 * s)]) dL_asks_274 cvL_157 (c_L_lineAt hxs hg hW (nI i)) ⟨Nat.le_of_ble_eq_true rfl, Nat.le_of_ble_eq_true rfl, by show K + i + 1 ≤ 2048; omega, by show M6 + 6 * i + 6 ≤ 65536; omega⟩ (Nat.le_of_ble_eq_true rfl) rfl (fun h1 hW1 => ?_)
    rw [line_in hi9 (by omega)]
    refine V_i2l dL_asks_277 rfl ?_
    refine V_ladd dL_asks_278 ?_
    refine V_lstore_n (lv' := [(2, .long ((31 * s) + ((rd l (nI i))).toInt64)), (0, .ref x), (1, .int nn), (4, .int pp), (5, .int (nI l.length)), (6, .int (nI i))]) dL_asks_279 rfl (by decide) rfl ?_
    refine V_iinc (v := nI (i + 1)) (lv' := [(6, .int (nI (i + 1))), (2, .long (31 * s + (rd l (nI i)).toInt64)), (0, .ref x), (1, .int nn), (4, .int pp), (5, .int (nI l.length))]) dL_asks_280 5 rfl (iinc1 i) (by decide) rfl ?_
    refine V_goto (tgt := 259) dL_asks_283 (by decide) ?_
    refine V.loc [2, 3, 1, 4, 5, 0] rfl ?_
    refine V_recount (show K + i + 1 = K + (i + 1) by omega) (show M6 + 6 * i + 6 = M6 + 6 * (i + 1) by omega) ?_
    exact ih (i + 1) _ h1 (by omega) hW1 kk
set_option maxRecDepth 20000 in
set_option maxHeartbeats 4000000 in
theorem as_154 {X : KX} (hxs : X.1.stackTraces = false) (hg : GX X) {x : Nat} {S : SH} {past : List SH} {N : SH} {hs le lc lf : Int32} {txt : List Int32} {F : FT} {B K T n : Nat} (hI : Inv B K T S) (hB : B < 10000) (hK : K < 998) (hn : z_perf S = nI n) (hn6 : n ≤ 6) : ∀ (g p : Nat) (s : Int64) (h0 : AH), p + g = n → (∃ ln1, OpW X h0 x S past N hs le lc lf txt ln1) → (∀ h1, (∃ ln1, OpW X h1 x S past N hs le lc lf txt ln1) → V X mL_asks F (8 + 23 * n) (64 + 626 * n) 232 [(0, .ref x), (1, .int (nI n)), (2, .long (aP S g p s))] [] h1) → V X mL_asks F (8 + 23 * p) (64 + 626 * p) 154 [(0, .ref x), (1, .int (nI n)), (2, .long s), (4, .int (nI p))] [] h0 := by
  intro g
  induction g with
  | zero =>
    intro p s h0 hp hQ kk
    have ep : p = n := by omega
    subst ep
    refine V_iload dL_asks_154 3 rfl ?_
    refine V_iload_n dL_asks_156 1 rfl ?_
    refine V_icmp_ge (tgt := 232) dL_asks_157 (by decide) (fun _ => ?_) (fun c9 => absurd (Int32.le_refl _) c9)
    refine V.loc [0, 1, 2] rfl ?_
    exact kk h0 hQ
  | succ g ih =>
    intro p s h0 hp hQ kk
    have hp9 : p < n := by omega
    obtain ⟨ln1, hW⟩ := hQ
    refine V_iload dL_asks_154 3 rfl ?_
    refine V_iload_n dL_asks_156 1 rfl ?_
    refine V_icmp_ge (tgt := 232) dL_asks_157 (by decide) (fun c9 => absurd c9 (nI_ge hp9 (by omega))) (fun _ => ?_)
    refine V_ldc2 dL_asks_160 kLongL_184 ?_
    refine V_ldc2 dL_asks_163 kLongL_184 ?_
    refine V_lload_n dL_asks_166 2 rfl ?_
    refine V_lmul dL_asks_167 ?_
    refine V_aload_n dL_asks_168 0 rfl ?_
    refine V_iload dL_asks_169 3 rfl ?_
    refine V_cSHi (As := [.ref x, .int (nI p)]) (rest := [.long (31 * s), .long 31]) dL_asks_171 cvL_234 (c_L_atRank hxs hg hW (nI p)) ⟨Nat.le_of_ble_eq_true rfl, Nat.le_of_ble_eq_true rfl, by show 8 + 23 * p + 1 ≤ 2048; omega, by show 64 + 626 * p + 6 ≤ 65536; omega⟩ (Nat.le_of_ble_eq_true rfl) rfl (fun h1 hW1 => ?_)
    refine V_i2l dL_asks_174 rfl ?_
    refine V_ladd dL_asks_175 ?_
    refine V_lmul dL_asks_176 ?_
    refine V_aload_n dL_asks_177 0 rfl ?_
    refine V_iload dL_asks_178 3 rfl ?_
    refine V_bipush (v := 30) dL_asks_180 (by decide) ?_
    refine V_cSHi (As := [.ref x, .int (nI p), .int 30]) (rest := [.long (31 * ((31 * s) + ((aR S (nI p))).toInt64))]) dL_asks_182 cvL_237 (c_L_finesAfter hxs hg hW1 (nI p) 30) ⟨Nat.le_of_ble_eq_true rfl, Nat.le_of_ble_eq_true rfl, by show 8 + 23 * p + 1 + 1 ≤ 2048; omega, by show 64 + 626 * p + 6 + 6 ≤ 65536; omega⟩ (Nat.le_of_ble_eq_true rfl) rfl (fun h2 hW2 => ?_)
    refine V_i2l dL_asks_185 rfl ?_
    refine V_ladd dL_asks_186 ?_
    refine V_lstore_n (lv' := [(2, .long ((31 * ((31 * s) + ((aR S (nI p))).toInt64)) + ((aF S (nI p))).toInt64)), (0, .ref x), (1, .int (nI n)), (4, .int (nI p))]) dL_asks_187 rfl (by decide) rfl ?_
    refine V_aload_n dL_asks_188 1 rfl ?_
    refine V_iload dL_asks_189 3 rfl ?_
    refine V_cSHi (As := [.ref x, .int (nI p)]) (rest := []) dL_asks_191 cvL_239 (c_L_describePerformer hxs hg hW2 hI hB hn hn6 hp9) ⟨Nat.le_of_ble_eq_true rfl, Nat.le_of_ble_eq_true rfl, by show 8 + 23 * p + 1 + 1 + 5 ≤ 2048; omega, by show 64 + 626 * p + 6 + 6 + 518 ≤ 65536; omega⟩ (Nat.le_of_ble_eq_true rfl) rfl (fun h3 hW3 => ?_)
    refine V_istore (lv' := [(5, .int (nI (dP S p).length)), (2, .long ((31 * ((31 * s) + ((aR S (nI p))).toInt64)) + ((aF S (nI p))).toInt64)), (0, .ref x), (1, .int (nI n)), (4, .int (nI p))]) dL_asks_194 (by decide) rfl ?_
    refine V_iconst (v := 0) dL_asks_196 (by decide) ?_
    refine V_istore (lv' := [(6, .int 0), (5, .int (nI (dP S p).length)), (2, .long ((31 * ((31 * s) + ((aR S (nI p))).toInt64)) + ((aF S (nI p))).toInt64)), (0, .ref x), (1, .int (nI n)), (4, .int (nI p))]) dL_asks_197 (by decide) rfl ?_
    have hl := hW3.ln16
    refine V.loc [3, 4, 2, 5, 1, 0] rfl ?_
    refine V_recount (show 8 + 23 * p + 1 + 1 + 5 = (8 + 23 * p + 7) + 0 by omega) (show 64 + 626 * p + 6 + 6 + 518 = (64 + 626 * p + 530) + 6 * 0 by omega) ?_
    refine as_199 hxs hg (l := dP S p) (K := 8 + 23 * p + 7) (M6 := 64 + 626 * p + 530) (by omega) (by omega) hl (dP S p).length 0 (31 * (31 * s + (aR S (nI p)).toInt64) + (aF S (nI p)).toInt64) h3 (by omega) hW3 (fun h4 hW4 => ?_)
    refine V_iinc (v := nI (p + 1)) (lv' := [(4, .int (nI (p + 1))), (0, .ref x), (1, .int (nI n)), (2, .long (lsum (dP S p) (dP S p).length 0 (31 * (31 * s + (aR S (nI p)).toInt64) + (aF S (nI p)).toInt64)))]) dL_asks_226 3 rfl (iinc1 p) (by decide) rfl ?_
    refine V_goto (tgt := 154) dL_asks_229 (by decide) ?_
    refine V.loc [1, 2, 3, 0] rfl ?_
    refine V.wide (show 8 + 23 * p + 7 + (dP S p).length ≤ 8 + 23 * (p + 1) by omega) (show 64 + 626 * p + 530 + 6 * (dP S p).length ≤ 64 + 626 * (p + 1) by omega) ?_
    exact ih (p + 1) _ h4 (by omega) ⟨_, hW4⟩ kk
set_option maxRecDepth 20000 in
set_option maxHeartbeats 4000000 in
theorem as_235 {X : KX} (hxs : X.1.stackTraces = false) (hg : GX X) {x : Nat} {S : SH} {past : List SH} {N : SH} {hs le lc lf : Int32} {txt : List Int32} {F : FT} {q : Nat} (hq : z_count S = nI q) (hq6 : q ≤ 16) {B K T n : Nat} (hI : Inv B K T S) (hB : B < 10000) (hK : K < 998) (hn : z_perf S = nI n) (hn6 : n ≤ 6) : ∀ (g c : Nat) (s : Int64) (h0 : AH), c + g = q → (∃ ln1, OpW X h0 x S past N hs le lc lf txt ln1) → (∀ h1, (∃ ln1, OpW X h1 x S past N hs le lc lf txt ln1) → V X mL_asks F (146 + 26 * q) (3820 + 1132 * q) 292 [(0, .ref x), (1, .int (nI n)), (2, .long (aC S g c s))] [] h1) → V X mL_asks F (146 + 26 * c) (3820 + 1132 * c) 235 [(0, .ref x), (1, .int (nI n)), (2, .long s), (4, .int (nI c))] [] h0 := by
  intro g
  induction g with
  | zero =>
    intro c s h0 hc hQ kk
    have ec : c = q := by omega
    subst ec
    obtain ⟨ln1, hW⟩ := hQ
    refine V_iload dL_asks_235 3 rfl ?_
    refine V_aload_n dL_asks_237 0 rfl ?_
    refine V_cVmi (As := []) (rest := [.int (nI c)]) dL_asks_238 cvL_204 (c_X7_cueCount hxs hg hW) hW.obj rfl ⟨Nat.le_of_ble_eq_true rfl, Nat.le_of_ble_eq_true rfl, by show 146 + 26 * c + 0 ≤ 2048; omega, by show 3820 + 1132 * c + 0 ≤ 65536; omega⟩ (Nat.le_of_ble_eq_true rfl) rfl (fun h1 hW1 => ?_)
    rw [show T_X7_cueCount S = nI c from hq]
    refine V_icmp_ge (tgt := 292) dL_asks_241 (by decide) (fun _ => ?_) (fun c9 => absurd (Int32.le_refl _) c9)
    refine V.loc [0, 1, 2] rfl ?_
    exact kk h1 ⟨_, hW1⟩
  | succ g ih =>
    intro c s h0 hc hQ kk
    have hc9 : c < q := by omega
    obtain ⟨ln1, hW⟩ := hQ
    refine V_iload dL_asks_235 3 rfl ?_
    refine V_aload_n dL_asks_237 0 rfl ?_
    refine V_cVmi (As := []) (rest := [.int (nI c)]) dL_asks_238 cvL_204 (c_X7_cueCount hxs hg hW) hW.obj rfl ⟨Nat.le_of_ble_eq_true rfl, Nat.le_of_ble_eq_true rfl, by show 146 + 26 * c + 0 ≤ 2048; omega, by show 3820 + 1132 * c + 0 ≤ 65536; omega⟩ (Nat.le_of_ble_eq_true rfl) rfl (fun h1 hW1 => ?_)
    rw [show T_X7_cueCount S = nI q from hq]
    refine V_icmp_ge (tgt := 292) dL_asks_241 (by decide) (fun c9 => absurd c9 (nI_ge hc9 (by omega))) (fun _ => ?_)
    refine V_aload_n dL_asks_244 0 rfl ?_
    refine V_aload_n dL_asks_245 0 rfl ?_
    refine V_iload dL_asks_246 3 rfl ?_
    refine V_cSHi (As := [.ref x, .int (nI c)]) (rest := [.ref x]) dL_asks_248 cvL_241 (c_L_cueAt hxs hg hW1 (nI c)) ⟨Nat.le_of_ble_eq_true rfl, Nat.le_of_ble_eq_true rfl, by show 146 + 26 * c + 0 + 1 ≤ 2048; omega, by show 3820 + 1132 * c + 0 + 6 ≤ 65536; omega⟩ (Nat.le_of_ble_eq_true rfl) rfl (fun h2 hW2 => ?_)
    refine V_cSHi (As := [.ref x, .int (aI S (nI c))]) (rest := []) dL_asks_251 cvL_243 (c_L_describeCue hxs hg hW2 hI hK (aI S (nI c))) ⟨Nat.le_of_ble_eq_true rfl, Nat.le_of_ble_eq_true rfl, by show 146 + 26 * c + 0 + 1 + 9 ≤ 2048; omega, by show 3820 + 1132 * c + 0 + 6 + 1030 ≤ 65536; omega⟩ (Nat.le_of_ble_eq_true rfl) rfl (fun h3 hW3 => ?_)
    refine V_istore (lv' := [(5, .int (dCl S (aI S (nI c)))), (0, .ref x), (1, .int (nI n)), (2, .long s), (4, .int (nI c))]) dL_asks_254 (by decide) rfl ?_
    refine V_iconst (v := 0) dL_asks_256 (by decide) ?_
    refine V_istore (lv' := [(6, .int 0), (5, .int (dCl S (aI S (nI c)))), (0, .ref x), (1, .int (nI n)), (2, .long s), (4, .int (nI c))]) dL_asks_257 (by decide) rfl ?_
    unfold dCl
    rcases hd : dC S (aI S (nI c)) with _ | l
    · rw [hd] at hW3
      have hW3 : OpW X h3 x S past N hs le lc lf txt ln1 := hW3
      refine V.loc [2, 3, 4, 5, 1, 0] rfl ?_
      refine V_iload dL_asks_259 5 rfl ?_
      refine V_iload dL_asks_261 4 rfl ?_
      refine V_icmp_ge (tgt := 286) dL_asks_263 (by decide) (fun _ => ?_) (fun c9 => absurd (by decide) c9)
      refine V.loc [0, 1, 2, 3] rfl ?_
      refine V_iinc (v := nI (c + 1)) (lv' := [(4, .int (nI (c + 1))), (0, .ref x), (1, .int (nI n)), (2, .long s)]) dL_asks_286 3 rfl (iinc1 c) (by decide) rfl ?_
      refine V_goto (tgt := 235) dL_asks_289 (by decide) ?_
      refine V.loc [1, 2, 3, 0] rfl ?_
      refine V.wide (show 146 + 26 * c + 0 + 1 + 9 ≤ 146 + 26 * (c + 1) by omega) (show 3820 + 1132 * c + 0 + 6 + 1030 ≤ 3820 + 1132 * (c + 1) by omega) ?_
      refine ih (c + 1) s h3 (by omega) ⟨_, hW3⟩ ?_
      rw [aC, hd] at kk
      exact kk
    · rw [hd] at hW3
      have hW3 : OpW X h3 x S past N hs le lc lf txt l := hW3
      have hl := hW3.ln16
      refine V.loc [2, 3, 4, 5, 1, 0] rfl ?_
      refine V_recount (show 146 + 26 * c + 0 + 1 + 9 = (146 + 26 * c + 10) + 0 by omega) (show 3820 + 1132 * c + 0 + 6 + 1030 = (3820 + 1132 * c + 1036) + 6 * 0 by omega) ?_
      refine as_259 hxs hg (l := l) (K := 146 + 26 * c + 10) (M6 := 3820 + 1132 * c + 1036) (by omega) (by omega) hl l.length 0 s h3 (by omega) hW3 (fun h4 hW4 => ?_)
      refine V_iinc (v := nI (c + 1)) (lv' := [(4, .int (nI (c + 1))), (0, .ref x), (1, .int (nI n)), (2, .long (lsum l l.length 0 s))]) dL_asks_286 3 rfl (iinc1 c) (by decide) rfl ?_
      refine V_goto (tgt := 235) dL_asks_289 (by decide) ?_
      refine V.loc [1, 2, 3, 0] rfl ?_
      refine V.wide (show 146 + 26 * c + 10 + l.length ≤ 146 + 26 * (c + 1) by omega) (show 3820 + 1132 * c + 1036 + 6 * l.length ≤ 3820 + 1132 * (c + 1) by omega) ?_
      refine ih (c + 1) _ h4 (by omega) ⟨_, hW4⟩ ?_
      rw [aC, hd] at kk
      exact kk
set_option maxRecDepth 20000 in
set_option maxHeartbeats 4000000 in
theorem c_L_asks {X : KX} (hxs : X.1.stackTraces = false) (hg : GX X) {h : AH} {x : Nat} {S : SH} {past : List SH} {N : SH} {hs le lc lf : Int32} {txt : List Int32} {ln : List Int32} (hW : OpW X h x S past N hs le lc lf txt ln) {B K T n : Nat} (hI : Inv B K T S) (hB : B < 10000) (hK : K < 998) (hn : z_perf S = nI n) (hn6 : n ≤ 6) : Ct X mL_asks [.ref x] h (zM (some (.long (Asks S))) (fun h' => ∃ ln1, OpW X h' x S past N hs le lc lf txt ln1)) := by
  refine Ct.of (by decide) rfl (Nat.le_of_ble_eq_true rfl) rfl hxs ?_
  refine V_aload_n dL_asks_0 0 rfl ?_
  refine V_cVmi (As := []) (rest := []) dL_asks_1 cvL_181 (c_X7_performerCount hxs hg hW) hW.obj rfl ⟨Nat.le_of_ble_eq_true rfl, Nat.le_of_ble_eq_true rfl, Nat.le_of_ble_eq_true rfl, Nat.le_of_ble_eq_true rfl⟩ (Nat.le_of_ble_eq_true rfl) rfl (fun h1 hW1 => ?_)
  refine V_istore_n (lv' := [(1, .int (z_perf S)), (0, .ref x)]) dL_asks_4 rfl (by decide) rfl ?_
  refine V_ldc2 dL_asks_5 kLongL_184 ?_
  refine V_aload_n dL_asks_8 1 rfl ?_
  refine V_callSH (As := [.ref x]) (rest := [.long 31]) dL_asks_9 cvL_186 (c_L_meanFines hxs hg hW1) ⟨Nat.le_of_ble_eq_true rfl, Nat.le_of_ble_eq_true rfl, Nat.le_of_ble_eq_true rfl, Nat.le_of_ble_eq_true rfl⟩ (Nat.le_of_ble_eq_true rfl) rfl (fun v9 h2 q9 => ?_) (fun E9 h9 q9 => by cases q9.1)
  obtain ⟨e9, hW2⟩ := q9
  cases e9
  refine V_cSg (As := [.double (mF S)]) (rest := [.long 31]) dL_asks_12 cvL_189 (c_bitsD hxs (mF S)) ⟨Nat.le_of_ble_eq_true rfl, Nat.le_of_ble_eq_true rfl, Nat.le_of_ble_eq_true rfl, Nat.le_of_ble_eq_true rfl⟩ (Nat.le_of_ble_eq_true rfl) rfl (fun h9 e9 => ?_)
  subst e9
  refine V_lmul dL_asks_15 ?_
  refine V_aload_n dL_asks_16 1 rfl ?_
  refine V_callSH (As := [.ref x]) (rest := [.long (31 * (bitsD (mF S)))]) dL_asks_17 cvL_195 (c_L_hushedShare hxs hg hW2) ⟨Nat.le_of_ble_eq_true rfl, Nat.le_of_ble_eq_true rfl, Nat.le_of_ble_eq_true rfl, Nat.le_of_ble_eq_true rfl⟩ (Nat.le_of_ble_eq_true rfl) rfl (fun v9 h3 q9 => ?_) (fun E9 h9 q9 => by cases q9.1)
  obtain ⟨e9, hW3⟩ := q9
  cases e9
  refine V_cSg (As := [.float (hF S)]) (rest := [.long (31 * (bitsD (mF S)))]) dL_asks_20 cvL_198 (c_bitsF hxs (hF S)) ⟨Nat.le_of_ble_eq_true rfl, Nat.le_of_ble_eq_true rfl, Nat.le_of_ble_eq_true rfl, Nat.le_of_ble_eq_true rfl⟩ (Nat.le_of_ble_eq_true rfl) rfl (fun h9 e9 => ?_)
  subst e9
  refine V_i2l dL_asks_23 rfl ?_
  refine V_ladd dL_asks_24 ?_
  refine V_lstore_n (lv' := [(2, .long (a0 S)), (1, .int (z_perf S)), (0, .ref x)]) dL_asks_25 rfl (by decide) rfl ?_
  refine V_ldc2 dL_asks_26 kLongL_184 ?_
  refine V_ldc2 dL_asks_29 kLongL_184 ?_
  refine V_ldc2 dL_asks_32 kLongL_184 ?_
  refine V_ldc2 dL_asks_35 kLongL_184 ?_
  refine V_ldc2 dL_asks_38 kLongL_184 ?_
  refine V_lload_n dL_asks_41 0 rfl ?_
  refine V_lmul dL_asks_42 ?_
  refine V_iload_n dL_asks_43 1 rfl ?_
  refine V_i2l dL_asks_44 rfl ?_
  refine V_ladd dL_asks_45 ?_
  refine V_lmul dL_asks_46 ?_
  refine V_aload_n dL_asks_47 2 rfl ?_
  refine V_cVmi (As := []) (rest := [.long (31 * ((31 * (a0 S)) + ((z_perf S)).toInt64)), .long 31, .long 31, .long 31]) dL_asks_48 cvL_204 (c_X7_cueCount hxs hg hW3) hW3.obj rfl ⟨Nat.le_of_ble_eq_true rfl, Nat.le_of_ble_eq_true rfl, Nat.le_of_ble_eq_true rfl, Nat.le_of_ble_eq_true rfl⟩ (Nat.le_of_ble_eq_true rfl) rfl (fun h4 hW4 => ?_)
  refine V_i2l dL_asks_51 rfl ?_
  refine V_ladd dL_asks_52 ?_
  refine V_lmul dL_asks_53 ?_
  refine V_aload_n dL_asks_54 2 rfl ?_
  refine V_cVmi (As := []) (rest := [.long (31 * ((31 * ((31 * (a0 S)) + ((z_perf S)).toInt64)) + ((z_count S)).toInt64)), .long 31, .long 31]) dL_asks_55 cvL_207 (c_X7_now hxs hg hW4) hW4.obj rfl ⟨Nat.le_of_ble_eq_true rfl, Nat.le_of_ble_eq_true rfl, Nat.le_of_ble_eq_true rfl, Nat.le_of_ble_eq_true rfl⟩ (Nat.le_of_ble_eq_true rfl) rfl (fun h5 hW5 => ?_)
  refine V_i2l dL_asks_58 rfl ?_
  refine V_ladd dL_asks_59 ?_
  refine V_lmul dL_asks_60 ?_
  refine V_aload_n dL_asks_61 2 rfl ?_
  refine V_cVmi (As := []) (rest := [.long (31 * ((31 * ((31 * ((31 * (a0 S)) + ((z_perf S)).toInt64)) + ((z_count S)).toInt64)) + ((z_beat S)).toInt64)), .long 31]) dL_asks_62 cvL_210 (c_X7_act hxs hg hW5) hW5.obj rfl ⟨Nat.le_of_ble_eq_true rfl, Nat.le_of_ble_eq_true rfl, Nat.le_of_ble_eq_true rfl, Nat.le_of_ble_eq_true rfl⟩ (Nat.le_of_ble_eq_true rfl) rfl (fun h6 hW6 => ?_)
  refine V_i2l dL_asks_65 rfl ?_
  refine V_ladd dL_asks_66 ?_
  refine V_lmul dL_asks_67 ?_
  refine V_aload_n dL_asks_68 2 rfl ?_
  refine V_cVmi (As := []) (rest := [.long (31 * ((31 * ((31 * ((31 * ((31 * (a0 S)) + ((z_perf S)).toInt64)) + ((z_count S)).toInt64)) + ((z_beat S)).toInt64)) + ((z_act S)).toInt64))]) dL_asks_69 cvL_213 (c_X7_happenedCount hxs hg hW6) hW6.obj rfl ⟨Nat.le_of_ble_eq_true rfl, Nat.le_of_ble_eq_true rfl, Nat.le_of_ble_eq_true rfl, Nat.le_of_ble_eq_true rfl⟩ (Nat.le_of_ble_eq_true rfl) rfl (fun h7 hW7 => ?_)
  refine V_i2l dL_asks_72 rfl ?_
  refine V_ladd dL_asks_73 ?_
  refine V_lstore_n (lv' := [(2, .long (a1 S)), (1, .int (z_perf S)), (0, .ref x)]) dL_asks_74 rfl (by decide) rfl ?_
  refine V_ldc2 dL_asks_75 kLongL_184 ?_
  refine V_ldc2 dL_asks_78 kLongL_184 ?_
  refine V_ldc2 dL_asks_81 kLongL_184 ?_
  refine V_ldc2 dL_asks_84 kLongL_184 ?_
  refine V_lload_n dL_asks_87 0 rfl ?_
  refine V_lmul dL_asks_88 ?_
  refine V_aload_n dL_asks_89 2 rfl ?_
  refine V_cVmi (As := []) (rest := [.long (31 * (a1 S)), .long 31, .long 31, .long 31]) dL_asks_90 cvL_216 (c_X7_clashCount hxs hg hW7) hW7.obj rfl ⟨Nat.le_of_ble_eq_true rfl, Nat.le_of_ble_eq_true rfl, Nat.le_of_ble_eq_true rfl, Nat.le_of_ble_eq_true rfl⟩ (Nat.le_of_ble_eq_true rfl) rfl (fun h8 hW8 => ?_)
  refine V_i2l dL_asks_93 rfl ?_
  refine V_ladd dL_asks_94 ?_
  refine V_lmul dL_asks_95 ?_
  refine V_aload_n dL_asks_96 2 rfl ?_
  refine V_cVmi (As := []) (rest := [.long (31 * ((31 * (a1 S)) + ((z_clash S)).toInt64)), .long 31, .long 31]) dL_asks_97 cvL_219 (c_X7_imposedTotal hxs hg hW8) hW8.obj rfl ⟨Nat.le_of_ble_eq_true rfl, Nat.le_of_ble_eq_true rfl, Nat.le_of_ble_eq_true rfl, Nat.le_of_ble_eq_true rfl⟩ (Nat.le_of_ble_eq_true rfl) rfl (fun h9 hW9 => ?_)
  refine V_i2l dL_asks_100 rfl ?_
  refine V_ladd dL_asks_101 ?_
  refine V_lmul dL_asks_102 ?_
  refine V_aload_n dL_asks_103 2 rfl ?_
  refine V_cVmi (As := []) (rest := [.long (31 * ((31 * ((31 * (a1 S)) + ((z_clash S)).toInt64)) + ((z_imp S)).toInt64)), .long 31]) dL_asks_104 cvL_222 (c_X7_paidTotal hxs hg hW9) hW9.obj rfl ⟨Nat.le_of_ble_eq_true rfl, Nat.le_of_ble_eq_true rfl, Nat.le_of_ble_eq_true rfl, Nat.le_of_ble_eq_true rfl⟩ (Nat.le_of_ble_eq_true rfl) rfl (fun h10 hW10 => ?_)
  refine V_i2l dL_asks_107 rfl ?_
  refine V_ladd dL_asks_108 ?_
  refine V_lmul dL_asks_109 ?_
  refine V_aload_n dL_asks_110 2 rfl ?_
  refine V_cSHi (As := [.ref x]) (rest := [.long (31 * ((31 * ((31 * ((31 * (a1 S)) + ((z_clash S)).toInt64)) + ((z_imp S)).toInt64)) + ((z_paid S)).toInt64))]) dL_asks_111 cvL_225 (c_L_loudest hxs hg hW10) ⟨Nat.le_of_ble_eq_true rfl, Nat.le_of_ble_eq_true rfl, Nat.le_of_ble_eq_true rfl, Nat.le_of_ble_eq_true rfl⟩ (Nat.le_of_ble_eq_true rfl) rfl (fun h11 hW11 => ?_)
  refine V_i2l dL_asks_114 rfl ?_
  refine V_ladd dL_asks_115 ?_
  refine V_lstore_n (lv' := [(2, .long (a2 S)), (1, .int (z_perf S)), (0, .ref x)]) dL_asks_116 rfl (by decide) rfl ?_
  refine V_ldc2 dL_asks_117 kLongL_184 ?_
  refine V_ldc2 dL_asks_120 kLongL_184 ?_
  refine V_lload_n dL_asks_123 0 rfl ?_
  refine V_lmul dL_asks_124 ?_
  refine V_aload_n dL_asks_125 2 rfl ?_
  refine V_cVmi (As := []) (rest := [.long (31 * (a2 S)), .long 31]) dL_asks_126 cvL_228 (c_X7_conflictCount hxs hg hW11) hW11.obj rfl ⟨Nat.le_of_ble_eq_true rfl, Nat.le_of_ble_eq_true rfl, Nat.le_of_ble_eq_true rfl, Nat.le_of_ble_eq_true rfl⟩ (Nat.le_of_ble_eq_true rfl) rfl (fun h12 hW12 => ?_)
  refine V_i2l dL_asks_129 rfl ?_
  refine V_ladd dL_asks_130 ?_
  refine V_lmul dL_asks_131 ?_
  refine V_aload_n dL_asks_132 2 rfl ?_
  refine V_aload_n dL_asks_133 2 rfl ?_
  refine V_cVmi (As := []) (rest := [.ref x, .long (31 * ((31 * (a2 S)) + ((T_X7_conflictCount S)).toInt64))]) dL_asks_134 cvL_207 (c_X7_now hxs hg hW12) hW12.obj rfl ⟨Nat.le_of_ble_eq_true rfl, Nat.le_of_ble_eq_true rfl, Nat.le_of_ble_eq_true rfl, Nat.le_of_ble_eq_true rfl⟩ (Nat.le_of_ble_eq_true rfl) rfl (fun h13 hW13 => ?_)
  refine V_cVmi (As := [.int (z_beat S)]) (rest := [.long (31 * ((31 * (a2 S)) + ((T_X7_conflictCount S)).toInt64))]) dL_asks_137 cvL_231 (c_X7_isHushed hxs hg hW13 (z_beat S)) hW13.obj rfl ⟨Nat.le_of_ble_eq_true rfl, Nat.le_of_ble_eq_true rfl, Nat.le_of_ble_eq_true rfl, Nat.le_of_ble_eq_true rfl⟩ (Nat.le_of_ble_eq_true rfl) rfl (fun h14 hW14 => ?_)
  have tail : ∀ (v9 : Int32) (k9 n9 : Nat), v9 = aHd S → k9 ≤ 8 → n9 ≤ 64 → V X mL_asks (zF X mL_asks (zM (some (.long (Asks S))) (fun h' => ∃ ln1, OpW X h' x S past N hs le lc lf txt ln1))) k9 n9 148 [(2, .long (a2 S)), (1, .int (z_perf S)), (0, .ref x)] [.int v9, .long (31 * ((31 * (a2 S)) + ((T_X7_conflictCount S)).toInt64))] h14 := by
    intro v9 k9 n9 e9 hk9 hn9
    subst e9
    refine V_i2l dL_asks_148 rfl ?_
    refine V_ladd dL_asks_149 ?_
    refine V_lstore_n (lv' := [(2, .long (a3 S)), (1, .int (z_perf S)), (0, .ref x)]) dL_asks_150 rfl (by decide) rfl ?_
    refine V_iconst (v := 0) dL_asks_151 (by decide) ?_
    refine V_istore (lv' := [(4, .int 0), (2, .long (a3 S)), (1, .int (z_perf S)), (0, .ref x)]) dL_asks_152 (by decide) rfl ?_
    refine V.loc (lv' := [(0, .ref x), (1, .int (z_perf S)), (2, .long (a3 S)), (4, .int 0)]) [3, 2, 1, 0] rfl ?_
    rw [hn]
    refine V.wide (k' := 8 + 23 * 0) (n' := 64 + 626 * 0) hk9 hn9 ?_
    refine as_154 hxs hg hI hB hK hn hn6 n 0 (a3 S) h14 (by omega) ⟨_, hW14⟩ (fun h20 hQ20 => ?_)
    have hcnt := hI.2.2.2.2.2.2.2.2.2.2.2.2.2
    have hq16 : pend (z_kinds S) ≤ 16 := by
      have h9 := pend_le (L := z_kinds S)
      rw [hI.2.1] at h9
      exact h9
    refine V_iconst (v := 0) dL_asks_232 (by decide) ?_
    refine V_istore (lv' := [(4, .int 0), (0, .ref x), (1, .int (nI n)), (2, .long (aP S n 0 (a3 S)))]) dL_asks_233 (by decide) rfl ?_
    refine V.loc [1, 2, 3, 0] rfl ?_
    refine V.wide (k' := 146 + 26 * 0) (n' := 3820 + 1132 * 0) (by omega) (by omega) ?_
    refine as_235 hxs hg hcnt hq16 hI hB hK hn hn6 (pend (z_kinds S)) 0 _ h20 (by omega) hQ20 (fun h21 hQ21 => ?_)
    refine V_lload_n dL_asks_292 2 rfl ?_
    exact V_lret dL_asks_293 rfl ⟨by show 146 + 26 * pend (z_kinds S) ≤ 2048; omega, by show 3820 + 1132 * pend (z_kinds S) ≤ 65536; omega⟩ ⟨by unfold Asks; rw [hn, hcnt, nI_clamp (by omega), nI_clamp (by omega)], hQ21⟩
  by_cases d9 : T_X7_isHushed S (z_beat S) = 0
  · refine V_if_eq (tgt := 147) dL_asks_140 (by decide) (fun _ => ?_) (fun c9 => absurd d9 c9)
    refine V_iconst (v := 0) dL_asks_147 (by decide) ?_
    exact tail 0 _ _ (by unfold aHd; rw [if_pos d9]) (Nat.le_of_ble_eq_true rfl) (Nat.le_of_ble_eq_true rfl)
  · refine V_if_eq (tgt := 147) dL_asks_140 (by decide) (fun c9 => absurd c9 d9) (fun _ => ?_)
    refine V_iconst (v := 1) dL_asks_143 (by decide) ?_
    refine V_goto (tgt := 148) dL_asks_144 (by decide) ?_
    exact tail 1 _ _ (by unfold aHd; rw [if_neg d9]) (Nat.le_of_ble_eq_true rfl) (Nat.le_of_ble_eq_true rfl)
