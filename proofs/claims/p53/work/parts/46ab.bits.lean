/-! ===== the law's own methods: 46ab.bits ===== -/
section VX8
variable {X : KX} {M : MI} {F : FT} {k n pc : Nat} {lv lv' : List (Nat × Value)} {rest : List Value} {h : AH} {Z : ZT}
theorem V_ldc2d {idx : Nat} {v : UInt64} (hdg : decode (mcc M) pc = .ok (.ldc2_w idx, 3)) (hw : Cond.constantDouble (my M).cls idx v ∈ GW) (kk : V X M F k n (pc + 3) lv (.double v :: rest) h) : V X M F k n pc lv rest h := fun p e s m args below meth c H locs ls hF hR hS hL => lv_ldc2d hF.1 hF.2.1 hF.2.2.2.1 (hF.2.2.2.2.1 _ hw) hdg (kk p e s m args below meth c H locs ls hF hR hS hL)
theorem V_ldcf {idx : Nat} {v : UInt32} (hdg : decode (mcc M) pc = .ok (.ldc idx, 2)) (hw : Cond.constantFloat (my M).cls idx v ∈ GW) (kk : V X M F k n (pc + 2) lv (.float v :: rest) h) : V X M F k n pc lv rest h := fun p e s m args below meth c H locs ls hF hR hS hL => lv_ldcf hF.1 hF.2.1 hF.2.2.2.1 (hF.2.2.2.2.1 _ hw) hdg (kk p e s m args below meth c H locs ls hF hR hS hL)
theorem V_dcmp {x y : UInt64} {op : CmpOp} (hdg : decode (mcc M) pc = .ok (.dcmp op, 1)) (kk : V X M F k n (pc + 1) lv (.int (Op.cmpValue (FP.dcmp x y) op) :: rest) h) : V X M F k n pc lv (.double y :: .double x :: rest) h := fun p e s m args below meth c H locs ls hF hR hS hL => lv_dcmp hF.1 hF.2.1 hdg (kk p e s m args below meth c H locs ls hF hR hS hL)
theorem V_fcmp {x y : UInt32} {op : CmpOp} (hdg : decode (mcc M) pc = .ok (.fcmp op, 1)) (kk : V X M F k n (pc + 1) lv (.int (Op.cmpValue (FP.fcmp x y) op) :: rest) h) : V X M F k n pc lv (.float y :: .float x :: rest) h := fun p e s m args below meth c H locs ls hF hR hS hL => lv_fcmp hF.1 hF.2.1 hdg (kk p e s m args below meth c H locs ls hF hR hS hL)
theorem V_d2l {idx : Nat} {b : UInt64} (hdg : decode (mcc M) pc = .ok (.invokestatic idx, 3)) (hw : Cond.methodLink (my M).cls idx ⟨"java/lang/Double", "doubleToRawLongBits", "(D)J"⟩ ∈ GW ∧ Cond.native ⟨"java/lang/Double", "doubleToRawLongBits", "(D)J"⟩ ∈ GW ∧ Cond.static ⟨"java/lang/Double", "doubleToRawLongBits", "(D)J"⟩ ∈ GW ∧ Cond.initialized "java/lang/Double" ∈ GW) (hroom : 1 ≤ (mR M).frames ∧ (rest.map fun v => v.category).sum + 15 ≤ (mR M).locals) (kk : V X M F k n (pc + 3) lv (.long b.toInt64 :: rest) h) : V X M F k n pc lv (.double b :: rest) h := fun p e s m args below meth c H locs ls hF hR hS hL => vn_d2l hF.1 hF.2.1 (hF.2.2.1.trans hL.1.symm) hF.2.2.2.1 (hF.2.2.2.2.1 _ hw.1) (hF.2.2.2.2.1 _ hw.2.1) (hF.2.2.2.2.1 _ hw.2.2.1) (hF.2.2.2.2.1 _ hw.2.2.2) hroom.1 hroom.2 hdg (kk p e s m args below meth c H locs ls hF hR hS hL)
theorem V_f2i {idx : Nat} {b : UInt32} (hdg : decode (mcc M) pc = .ok (.invokestatic idx, 3)) (hw : Cond.methodLink (my M).cls idx ⟨"java/lang/Float", "floatToRawIntBits", "(F)I"⟩ ∈ GW ∧ Cond.native ⟨"java/lang/Float", "floatToRawIntBits", "(F)I"⟩ ∈ GW ∧ Cond.static ⟨"java/lang/Float", "floatToRawIntBits", "(F)I"⟩ ∈ GW ∧ Cond.initialized "java/lang/Float" ∈ GW) (hroom : 1 ≤ (mR M).frames ∧ (rest.map fun v => v.category).sum + 15 ≤ (mR M).locals) (kk : V X M F k n (pc + 3) lv (.int b.toInt32 :: rest) h) : V X M F k n pc lv (.float b :: rest) h := fun p e s m args below meth c H locs ls hF hR hS hL => vn_f2i hF.1 hF.2.1 (hF.2.2.1.trans hL.1.symm) hF.2.2.2.1 (hF.2.2.2.2.1 _ hw.1) (hF.2.2.2.2.1 _ hw.2.1) (hF.2.2.2.2.1 _ hw.2.2.1) (hF.2.2.2.2.1 _ hw.2.2.2) hroom.1 hroom.2 hdg (kk p e s m args below meth c H locs ls hF hR hS hL)
theorem Ct.ofF {A : List Value} {l0 : List (Nat × Value)} (hy : plainFor (my M) = true) (ht : mtab M = []) (hA : (lg_sl A).length ≤ mnL M) (hl : lv_args 0 A = l0) (hxs : X.1.stackTraces = false) (kk : V X M (zF X M Z) 0 0 0 l0 [] h) : Ct X M A h Z := by
  have hm : mcode M = Cond.code (my M) (mcc M) (mnL M) (mret M) := by unfold mcode; rw [ht]; rfl
  refine MetFree.of_bodySF (code := mcc M) (maxLocals := mnL M) (ret := mret M) hy ?_ ?_
  · intro args s m hb hn
    obtain ⟨meth, c, h1, h2, h3, h4, h5, h6, -, -⟩ := Cond.code_spec hn (hm ▸ atoms_spec (ws := mcode M :: GW) hb _ List.mem_cons_self)
    exact ⟨meth, c, h1, h2, h3, h4, h5, h6⟩
  · intro p e s m args below meth c s₁ B hml hv _
    obtain ⟨rfl, hR, hK⟩ := hv
    have hts := atoms_spec (ws := mcode M :: GW) B.pre
    have htl : c.exceptionTable.toList = tableOf (mtab M) := by
      obtain ⟨meth9, c9, h1, h2, -, -, -, -, h7, -⟩ := Cond.code_spec B.named (hm ▸ hts _ List.mem_cons_self)
      cases Option.some.inj (h1.symm.trans B.method)
      cases Option.some.inj (h2.symm.trans (Stand.of_body B).code)
      rw [Array.isEmpty_iff.mp h7, ht]
      rfl
    have hh0 : s₁.heap = s.heap := by rw [B.state]; rfl
    have hV := kk p e s m _ below meth c s.heap [] _ ⟨B.exec, B.bytes, hml, findClass_of_methodNamed B.named, fun w hw => hts w (List.mem_cons_of_mem _ hw), hK, B.returns, B.notSynchronized, (name_of_methodNamed B.named B.method).1, htl, hxs, by rw [hR.1]; exact hR.2.1, hR.2.2.2⟩ hR va_S.rf (hl ▸ lv_entry A hA)
    rw [lg_entry_eq]
    obtain ⟨t, a1, o, b1, b2, b3⟩ := hV s₁ hh0 (Stand.of_body B)
    exact ⟨t, o, a1, b1, b2, b3⟩
end VX8
/-! the bits of a double, of a float -/
theorem wD2l : Cond.methodLink "java/lang/Double" 134 ⟨"java/lang/Double", "doubleToRawLongBits", "(D)J"⟩ ∈ GW ∧ Cond.native ⟨"java/lang/Double", "doubleToRawLongBits", "(D)J"⟩ ∈ GW ∧ Cond.static ⟨"java/lang/Double", "doubleToRawLongBits", "(D)J"⟩ ∈ GW ∧ Cond.initialized "java/lang/Double" ∈ GW := ⟨gw_tab 1164 (by decide +kernel) (by decide +kernel), gw_tab 1166 (by decide +kernel) (by decide +kernel), gw_tab 1165 (by decide +kernel) (by decide +kernel), gw_tab 32 (by decide +kernel) (by decide +kernel)⟩
theorem wF2i : Cond.methodLink "java/lang/Float" 74 ⟨"java/lang/Float", "floatToRawIntBits", "(F)I"⟩ ∈ GW ∧ Cond.native ⟨"java/lang/Float", "floatToRawIntBits", "(F)I"⟩ ∈ GW ∧ Cond.static ⟨"java/lang/Float", "floatToRawIntBits", "(F)I"⟩ ∈ GW ∧ Cond.initialized "java/lang/Float" ∈ GW := ⟨gw_tab 1183 (by decide +kernel) (by decide +kernel), gw_tab 1185 (by decide +kernel) (by decide +kernel), gw_tab 1184 (by decide +kernel) (by decide +kernel), gw_tab 33 (by decide +kernel) (by decide +kernel)⟩
def nanD (v : UInt64) : Int32 := if Op.cmpValue (FP.dcmp v v) .l = 0 then 0 else 1
def bitsD (v : UInt64) : Int64 := if nanD v = 0 then v.toInt64 else 9221120237041090560
def nanF (v : UInt32) : Int32 := if Op.cmpValue (FP.fcmp v v) .l = 0 then 0 else 1
def bitsF (v : UInt32) : Int32 := if nanF v = 0 then v.toInt32 else 2143289344
theorem c_nanD {X : KX} (hxs : X.1.stackTraces = false) {h : AH} (v : UInt64) : Ct X mJxe99ae_isNaN_b9ae7 [.double v] h (zM (some (.int (nanD v))) (fun h' => h' = h)) := by
  refine Ct.of (by decide) rfl (Nat.le_of_ble_eq_true rfl) rfl hxs ?_
  refine V_dload_n dJxe99ae_isNaN_b9ae7_0 0 rfl ?_
  refine V_dload_n dJxe99ae_isNaN_b9ae7_1 0 rfl ?_
  refine V_dcmp dJxe99ae_isNaN_b9ae7_2 ?_
  refine V_if_eq (tgt := 10) dJxe99ae_isNaN_b9ae7_3 (by decide) (fun c1 => ?_) (fun c1 => ?_)
  · refine V_iconst (v := 0) dJxe99ae_isNaN_b9ae7_10 (by decide) ?_
    exact V_zret dJxe99ae_isNaN_b9ae7_11 rfl bN0 ⟨Nat.le_of_ble_eq_true rfl, Nat.le_of_ble_eq_true rfl⟩ ⟨by unfold nanD; rw [if_pos c1], rfl⟩
  · refine V_iconst (v := 1) dJxe99ae_isNaN_b9ae7_6 (by decide) ?_
    refine V_goto (tgt := 11) dJxe99ae_isNaN_b9ae7_7 (by decide) ?_
    exact V_zret dJxe99ae_isNaN_b9ae7_11 rfl bN1 ⟨Nat.le_of_ble_eq_true rfl, Nat.le_of_ble_eq_true rfl⟩ ⟨by unfold nanD; rw [if_neg c1], rfl⟩
theorem c_bitsD {X : KX} (hxs : X.1.stackTraces = false) {h : AH} (v : UInt64) : Ct X mJxe99ae_doubleToLongBits_ccdee [.double v] h (zM (some (.long (bitsD v))) (fun h' => h' = h)) := by
  refine Ct.of (by decide) rfl (Nat.le_of_ble_eq_true rfl) rfl hxs ?_
  refine V_dload_n dJxe99ae_doubleToLongBits_ccdee_0 0 rfl ?_
  refine V_cSg (As := [.double v]) (rest := []) dJxe99ae_doubleToLongBits_ccdee_1 cvJxe99ae_122 (c_nanD hxs v) ⟨Nat.le_of_ble_eq_true rfl, Nat.le_of_ble_eq_true rfl, Nat.le_of_ble_eq_true rfl, Nat.le_of_ble_eq_true rfl⟩ (Nat.le_of_ble_eq_true rfl) rfl (fun h1 e1 => ?_)
  subst e1
  by_cases c1 : nanD v = 0
  · refine V_if_ne (tgt := 12) dJxe99ae_doubleToLongBits_ccdee_4 (by decide) (fun c9 => absurd c1 c9) (fun _ => ?_)
    refine V_dload_n dJxe99ae_doubleToLongBits_ccdee_7 0 rfl ?_
    refine V_d2l dJxe99ae_doubleToLongBits_ccdee_8 wD2l ⟨Nat.le_of_ble_eq_true rfl, Nat.le_of_ble_eq_true rfl⟩ ?_
    exact V_lret dJxe99ae_doubleToLongBits_ccdee_11 rfl ⟨Nat.le_of_ble_eq_true rfl, Nat.le_of_ble_eq_true rfl⟩ ⟨by unfold bitsD; rw [if_pos c1], rfl⟩
  · refine V_if_ne (tgt := 12) dJxe99ae_doubleToLongBits_ccdee_4 (by decide) (fun _ => ?_) (fun c9 => absurd c9 c1)
    refine V_ldc2 dJxe99ae_doubleToLongBits_ccdee_12 kLongJxe99ae_137 ?_
    exact V_lret dJxe99ae_doubleToLongBits_ccdee_15 rfl ⟨Nat.le_of_ble_eq_true rfl, Nat.le_of_ble_eq_true rfl⟩ ⟨by unfold bitsD; rw [if_neg c1], rfl⟩
theorem c_nanF {X : KX} (hxs : X.1.stackTraces = false) {h : AH} (v : UInt32) : Ct X mJxf58ca_isNaN_12338 [.float v] h (zM (some (.int (nanF v))) (fun h' => h' = h)) := by
  refine Ct.ofF (by decide +kernel) rfl (Nat.le_of_ble_eq_true rfl) rfl hxs ?_
  refine V_fload_n dJxf58ca_isNaN_12338_0 0 rfl ?_
  refine V_fload_n dJxf58ca_isNaN_12338_1 0 rfl ?_
  refine V_fcmp dJxf58ca_isNaN_12338_2 ?_
  refine V_if_eq (tgt := 10) dJxf58ca_isNaN_12338_3 (by decide) (fun c1 => ?_) (fun c1 => ?_)
  · refine V_iconst (v := 0) dJxf58ca_isNaN_12338_10 (by decide) ?_
    exact V_zret dJxf58ca_isNaN_12338_11 rfl bN0 ⟨Nat.le_of_ble_eq_true rfl, Nat.le_of_ble_eq_true rfl⟩ ⟨by unfold nanF; rw [if_pos c1], rfl⟩
  · refine V_iconst (v := 1) dJxf58ca_isNaN_12338_6 (by decide) ?_
    refine V_goto (tgt := 11) dJxf58ca_isNaN_12338_7 (by decide) ?_
    exact V_zret dJxf58ca_isNaN_12338_11 rfl bN1 ⟨Nat.le_of_ble_eq_true rfl, Nat.le_of_ble_eq_true rfl⟩ ⟨by unfold nanF; rw [if_neg c1], rfl⟩
theorem c_bitsF {X : KX} (hxs : X.1.stackTraces = false) {h : AH} (v : UInt32) : Ct X mJxf58ca_floatToIntBits_5c35a [.float v] h (zM (some (.int (bitsF v))) (fun h' => h' = h)) := by
  refine Ct.ofF (by decide +kernel) rfl (Nat.le_of_ble_eq_true rfl) rfl hxs ?_
  refine V_fload_n dJxf58ca_floatToIntBits_5c35a_0 0 rfl ?_
  refine V_cSg (As := [.float v]) (rest := []) dJxf58ca_floatToIntBits_5c35a_1 cvJxf58ca_59 (c_nanF hxs v) ⟨Nat.le_of_ble_eq_true rfl, Nat.le_of_ble_eq_true rfl, Nat.le_of_ble_eq_true rfl, Nat.le_of_ble_eq_true rfl⟩ (Nat.le_of_ble_eq_true rfl) rfl (fun h1 e1 => ?_)
  subst e1
  by_cases c1 : nanF v = 0
  · refine V_if_ne (tgt := 12) dJxf58ca_floatToIntBits_5c35a_4 (by decide) (fun c9 => absurd c1 c9) (fun _ => ?_)
    refine V_fload_n dJxf58ca_floatToIntBits_5c35a_7 0 rfl ?_
    refine V_f2i dJxf58ca_floatToIntBits_5c35a_8 wF2i ⟨Nat.le_of_ble_eq_true rfl, Nat.le_of_ble_eq_true rfl⟩ ?_
    exact V_iret dJxf58ca_floatToIntBits_5c35a_11 rfl ⟨Nat.le_of_ble_eq_true rfl, Nat.le_of_ble_eq_true rfl⟩ ⟨by unfold bitsF; rw [if_pos c1], rfl⟩
  · refine V_if_ne (tgt := 12) dJxf58ca_floatToIntBits_5c35a_4 (by decide) (fun _ => ?_) (fun c9 => absurd c9 c1)
    refine V_ldci dJxf58ca_floatToIntBits_5c35a_12 kcJxf58ca_77 ?_
    exact V_iret dJxf58ca_floatToIntBits_5c35a_14 rfl ⟨Nat.le_of_ble_eq_true rfl, Nat.le_of_ble_eq_true rfl⟩ ⟨by unfold bitsF; rw [if_neg c1], rfl⟩
def mF (S : SH) : UInt64 := if z_perf S = 0 then 13875388141788987392 else FP.ddiv (FP.i2d (U_owedTotal S)) (FP.i2d (z_perf S))
def hF (S : SH) : UInt32 := if z_beat S = 0 then 3296346112 else FP.fdiv (FP.i2f (z_hbt S)) (FP.i2f (z_beat S))
set_option maxRecDepth 20000 in
set_option maxHeartbeats 1000000 in
theorem c_L_meanFines {X : KX} (hxs : X.1.stackTraces = false) (hg : GX X) {h : AH} {x : Nat} {S : SH} {past : List SH} {N : SH} {hs le lc lf : Int32} {txt ln : List Int32} (hW : OpW X h x S past N hs le lc lf txt ln) : Ct X mL_meanFines [.ref x] h (zM (some (.double (mF S))) (fun h' => OpW X h' x S past N hs le lc lf txt ln)) := by
  obtain ⟨pr9, hO9⟩ := id hW
  refine Ct.ofH (by decide) rfl (Nat.le_of_ble_eq_true rfl) rfl hxs ?_
  refine V_aload_n dL_meanFines_0 0 rfl ?_
  by_cases c1 : z_perf S = 0
  · refine V_cVt (As := []) (rest := []) dL_meanFines_1 cvL_122 (c_X7_meanFinesx hxs hg hW c1) hO9.1 rfl ⟨Nat.le_of_ble_eq_true rfl, Nat.le_of_ble_eq_true rfl, Nat.le_of_ble_eq_true rfl, Nat.le_of_ble_eq_true rfl⟩ (Nat.le_of_ble_eq_true rfl) rfl (fun v h1 e1 _ => by cases e1) (fun j h1 e1 q1 => ?_)
    cases e1
    refine VX_catch (E := "java/lang/ArithmeticException") (name := "java/lang/ArithmeticException") [] ⟨0, 4, 5, 126⟩ [] rfl (fun z hz => by cases hz) (by decide) (by decide) (gw_tab 1132 (by decide +kernel) (by decide +kernel)) (gp_tab 1144 (by decide +kernel) (by decide +kernel)) hg.p (fun q9 => ?_)
    refine V_astore_n (lv' := [(1, .ref q9), (0, .ref x)]) dL_meanFines_5 rfl (by decide) rfl ?_
    refine V_ldc2d dL_meanFines_6 kDoubleL_128 ?_
    exact V_dret dL_meanFines_9 rfl ⟨Nat.le_of_ble_eq_true rfl, Nat.le_of_ble_eq_true rfl⟩ ⟨by unfold mF; rw [if_pos c1], q1⟩
  · refine V_callV (As := []) (rest := []) dL_meanFines_1 cvL_122 (c_X7_meanFines hxs hg hW c1 (fn_ddiv c1)) hO9.1 rfl ⟨Nat.le_of_ble_eq_true rfl, Nat.le_of_ble_eq_true rfl, Nat.le_of_ble_eq_true rfl, Nat.le_of_ble_eq_true rfl⟩ (Nat.le_of_ble_eq_true rfl) rfl (fun v h1 hz => ?_) (fun E h1 hz => by cases hz.1)
    obtain ⟨e1, q1⟩ := hz
    cases e1
    exact V_dret dL_meanFines_4 rfl ⟨Nat.le_of_ble_eq_true rfl, Nat.le_of_ble_eq_true rfl⟩ ⟨by unfold mF; rw [if_neg c1], q1⟩
set_option maxRecDepth 20000 in
set_option maxHeartbeats 1000000 in
theorem c_L_hushedShare {X : KX} (hxs : X.1.stackTraces = false) (hg : GX X) {h : AH} {x : Nat} {S : SH} {past : List SH} {N : SH} {hs le lc lf : Int32} {txt ln : List Int32} (hW : OpW X h x S past N hs le lc lf txt ln) : Ct X mL_hushedShare [.ref x] h (zM (some (.float (hF S))) (fun h' => OpW X h' x S past N hs le lc lf txt ln)) := by
  obtain ⟨pr9, hO9⟩ := id hW
  refine Ct.ofH (by decide) rfl (Nat.le_of_ble_eq_true rfl) rfl hxs ?_
  refine V_aload_n dL_hushedShare_0 0 rfl ?_
  by_cases c1 : z_beat S = 0
  · refine V_cVt (As := []) (rest := []) dL_hushedShare_1 cvL_130 (c_X7_hushedSharex hxs hg hW c1) hO9.1 rfl ⟨Nat.le_of_ble_eq_true rfl, Nat.le_of_ble_eq_true rfl, Nat.le_of_ble_eq_true rfl, Nat.le_of_ble_eq_true rfl⟩ (Nat.le_of_ble_eq_true rfl) rfl (fun v h1 e1 _ => by cases e1) (fun j h1 e1 q1 => ?_)
    cases e1
    refine VX_catch (E := "java/lang/ArithmeticException") (name := "java/lang/ArithmeticException") [] ⟨0, 4, 5, 126⟩ [] rfl (fun z hz => by cases hz) (by decide) (by decide) (gw_tab 1132 (by decide +kernel) (by decide +kernel)) (gp_tab 1144 (by decide +kernel) (by decide +kernel)) hg.p (fun q9 => ?_)
    refine V_astore_n (lv' := [(1, .ref q9), (0, .ref x)]) dL_hushedShare_5 rfl (by decide) rfl ?_
    refine V_ldcf dL_hushedShare_6 kFloatL_134 ?_
    exact V_fret dL_hushedShare_8 rfl ⟨Nat.le_of_ble_eq_true rfl, Nat.le_of_ble_eq_true rfl⟩ ⟨by unfold hF; rw [if_pos c1], q1⟩
  · refine V_callV (As := []) (rest := []) dL_hushedShare_1 cvL_130 (c_X7_hushedShare hxs hg hW c1 (fn_fdiv c1)) hO9.1 rfl ⟨Nat.le_of_ble_eq_true rfl, Nat.le_of_ble_eq_true rfl, Nat.le_of_ble_eq_true rfl, Nat.le_of_ble_eq_true rfl⟩ (Nat.le_of_ble_eq_true rfl) rfl (fun v h1 hz => ?_) (fun E h1 hz => by cases hz.1)
    obtain ⟨e1, q1⟩ := hz
    cases e1
    exact V_fret dL_hushedShare_4 rfl ⟨Nat.le_of_ble_eq_true rfl, Nat.le_of_ble_eq_true rfl⟩ ⟨by unfold hF; rw [if_neg c1], q1⟩
