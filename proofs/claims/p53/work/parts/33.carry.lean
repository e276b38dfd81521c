/-! ===== commands that are carried out; run ===== -/
theorem cuX7_321 : CallVU "SilentOpera$Form" "java/lang/Enum" RX7 321 ⟨"SilentOpera$Form", "ordinal", "()I"⟩ mJx29ce0_ordinal_8abf5 0 := ⟨gw_tab 1034 (by decide +kernel) (by decide +kernel), gw_tab 12 (by decide +kernel) (by decide +kernel), cdJx29ce0_ordinal_8abf5, by decide +kernel, by decide +kernel, by decide +kernel, rfl, gw_tab 1038 (by decide +kernel) (by decide +kernel), ⟨_, _, _, show Cond.code yJx29ce0_ordinal_8abf5 cJx29ce0_ordinal_8abf5 1 (some .int) ∈ GW from cdJx29ce0_ordinal_8abf5⟩, gw_tab 1035 (by decide +kernel) (by decide +kernel), gw_tab 1037 (by decide +kernel) (by decide +kernel), gw_tab 1038 (by decide +kernel) (by decide +kernel)⟩
theorem c_ordinal {X : KX} (hxs : X.1.stackTraces = false) (hg : GX X) {h : AH} {j : Nat} (hj : j < 11) : Ct X mJx29ce0_ordinal_8abf5 [.ref (kad X (3000 + j))] h (zR (some (.int (nI j))) h) := by
  refine Ct.of (by decide) rfl (Nat.le_of_ble_eq_true rfl) rfl hxs ?_
  refine V_aload_n dJx29ce0_ordinal_8abf5_0 0 rfl ?_
  refine V_getO dJx29ce0_ordinal_8abf5_1 flJx29ce0_7 (fun U hU => ((hg.2.2.2.2.2.1 U hU).2.2.2.1 j hj).1) ?_
  exact V_iret dJx29ce0_ordinal_8abf5_4 rfl ⟨Nat.le_of_ble_eq_true rfl, Nat.le_of_ble_eq_true rfl⟩ ⟨rfl, rfl⟩
/-- the command f with the numbers a, b, c -/
def U_cmd (f : Nat) (a b c : Int32) (S : SH) : Int32 × SH := match f with
  | 0 => U_join S
  | 1 => U_pay S a b
  | 2 => U_hiss S a b
  | 3 => U_putPlayed S 109 a b c
  | 4 => U_putPlayed S 112 a b c
  | 5 => U_putHush S a b
  | 6 => U_cancel S a
  | 7 => U_move S a b
  | 8 => U_limitNoise S a
  | 9 => U_pass S a
  | _ => U_openAct S
theorem SI_cmd {f : Nat} {a b c : Int32} {S : SH} (h : SI S) : SI (U_cmd f a b c S).2 := by
  unfold U_cmd
  split
  · exact SI_join h
  · exact SI_pay h
  · exact SI_hiss h
  · exact SI_putPlayed h (by decide)
  · exact SI_putPlayed h (by decide)
  · exact SI_putHush h
  · exact SI_cancel h
  · exact SI_move h
  · exact SI_limitNoise h
  · exact SI_pass h
  · exact SI_openAct h
/-- the commands cm, from number i on, up to one that fails: the sheet, and which one failed with what -/
def U_all (cm : Nat → Nat × List Int32 × Int32) (cnt : Int32) : Nat → Nat → SH → SH × Option (Nat × Int32)
  | 0, _, S => (S, none)
  | g + 1, i, S => if cnt ≤ nI i then (S, none) else if 0 ≤ (U_cmd (cm i).1 (rd (cm i).2.1 0) (rd (cm i).2.1 1) (rd (cm i).2.1 2) S).1 then U_all cm cnt g (i + 1) (U_cmd (cm i).1 (rd (cm i).2.1 0) (rd (cm i).2.1 1) (rd (cm i).2.1 2) S).2 else ((U_cmd (cm i).1 (rd (cm i).2.1 0) (rd (cm i).2.1 1) (rd (cm i).2.1 2) S).2, some (i, (U_cmd (cm i).1 (rd (cm i).2.1 0) (rd (cm i).2.1 1) (rd (cm i).2.1 2) S).1))
def lcO (o : Option (Nat × Int32)) (l : Int32) : Int32 := match o with
  | none => l
  | some q => nI q.1
def lfO (o : Option (Nat × Int32)) (l : Int32) : Int32 := match o with
  | none => l
  | some q => -q.2
theorem OpAt.rd_upd {X : KX} {h h' : AH} {x : Nat} {S : SH} {past : List SH} {pr N : SH} {hs le lc lf : Int32} {txt txt' ln : List Int32} (p : OpAt X h x S past pr N hs le lc lf txt ln) (q : ∃ cm cnt pos, RdRaw X h' x cm cnt pos txt') (o : Outs h h' (x + 147) 36) : OpAt X h' x S past pr N hs le lc lf txt' ln := by
  obtain ⟨p1, p2, p3, p4, ⟨o5, p5⟩, ⟨T, o6, p6⟩, ⟨o7, p7⟩, p8, -, p10⟩ := p
  exact ⟨(o.2 x (by omega)).trans p1, by rw [o.1]; exact p2, p3, p4, ⟨o5, p5.out o (by omega)⟩, ⟨T, o6, p6.out o (by omega)⟩, ⟨o7, p7.out o (by omega)⟩, p8.out o (by omega), q, p10.out o (by omega)⟩
set_option maxRecDepth 20000 in
set_option maxHeartbeats 4000000 in
theorem c_X7_carryOut {X : KX} (hxs : X.1.stackTraces = false) (hg : GX X) {h : AH} {x : Nat} {S : SH} {past : List SH} {pr N : SH} {hs le lc lf : Int32} {txt ln : List Int32} (hO : OpAt X h x S past pr N hs le lc lf txt ln) {i : Nat} {C : Nat × List Int32 × Int32} (hC : CmdAt X h (x + 151 + 2 * i) C) : Ct X mX7_carryOut [.ref x, .ref (x + 151 + 2 * i)] h (zM (some (.int (U_cmd C.1 (rd C.2.1 0) (rd C.2.1 1) (rd C.2.1 2) S).1)) (fun h' => OpAt X h' x (U_cmd C.1 (rd C.2.1 0) (rd C.2.1 1) (rd C.2.1 2) S).2 past pr N hs le lc lf txt ln ∧ Outs h h' (x + 1) 12)) := by
  obtain ⟨j, L3, n3⟩ := C
  have hj : j < 11 := hC.2.1
  obtain ⟨oS, hS⟩ := hO.2.2.2.2.1
  refine Ct.of (by decide) rfl (Nat.le_of_ble_eq_true rfl) rfl hxs ?_
  refine V_aload_n dX7_carryOut_0 1 rfl ?_
  refine gf_cm_numbers hC dX7_carryOut_1 flX7_307 ?_
  refine V_iconst (v := 0) dX7_carryOut_4 (by decide) ?_
  refine ld_cm hC dX7_carryOut_5 (vp_in_nI (n := 0) (N := 3) (by decide) (by decide)) ?_
  refine V_istore_n (lv' := [(2, .int (rd L3 0)), (0, .ref x), (1, .ref (x + 151 + 2 * i))]) dX7_carryOut_6 rfl (by decide) rfl ?_
  refine V_aload_n dX7_carryOut_7 2 rfl ?_
  refine gf_cm_numbers hC dX7_carryOut_8 flX7_307 ?_
  refine V_iconst (v := 1) dX7_carryOut_11 (by decide) ?_
  refine ld_cm hC dX7_carryOut_12 (vp_in_nI (n := 1) (N := 3) (by decide) (by decide)) ?_
  refine V_istore_n (lv' := [(3, .int (rd L3 1)), (2, .int (rd L3 0)), (0, .ref x), (1, .ref (x + 151 + 2 * i))]) dX7_carryOut_13 rfl (by decide) rfl ?_
  refine V_aload_n dX7_carryOut_14 3 rfl ?_
  refine gf_cm_numbers hC dX7_carryOut_15 flX7_307 ?_
  refine V_iconst (v := 2) dX7_carryOut_18 (by decide) ?_
  refine ld_cm hC dX7_carryOut_19 (vp_in_nI (n := 2) (N := 3) (by decide) (by decide)) ?_
  refine V_istore (lv' := [(4, .int (rd L3 2)), (3, .int (rd L3 1)), (2, .int (rd L3 0)), (0, .ref x), (1, .ref (x + 151 + 2 * i))]) dX7_carryOut_20 (by decide) rfl ?_
  refine V_gets dX7_carryOut_22 flX7_312 (fun U hU => (hg.2.2.2.2.2.1 U hU).2.2.2.2.1) ?_
  refine V_aload_n dX7_carryOut_25 4 rfl ?_
  refine gf_cm_form hC dX7_carryOut_26 flX7_317 ?_
  refine V_cVUo (As := []) (rest := [.ref (kad X 2003)]) (Q := fun h1 => h1 = h) dX7_carryOut_29 cuX7_321 (c_ordinal hxs hg hj) (fun U hU => ((hg.2.2.2.2.2.1 U hU).2.2.2.1 j hj).2.1) ⟨Nat.le_of_ble_eq_true rfl, Nat.le_of_ble_eq_true rfl, Nat.le_of_ble_eq_true rfl, Nat.le_of_ble_eq_true rfl⟩ (Nat.le_of_ble_eq_true rfl) rfl (fun h1 e1 => ?_)
  rw [e1]
  refine V_ti (v := .int (if j < 10 then nI (j + 1) else 0)) dX7_carryOut_32 (fun U hU => (hg.2.2.2.2.2.1 U hU).2.2.2.2.2) (vp_in_nI hj (by decide)) (by rw [nI_clamp (by omega)]) ?_
  have hj11 : j = 0 ∨ j = 1 ∨ j = 2 ∨ j = 3 ∨ j = 4 ∨ j = 5 ∨ j = 6 ∨ j = 7 ∨ j = 8 ∨ j = 9 ∨ j = 10 := by omega
  rcases hj11 with rfl | rfl | rfl | rfl | rfl | rfl | rfl | rfl | rfl | rfl | rfl
  · refine V_tableIn (tgt := 88) (off := 55) dX7_carryOut_33 (by decide) (by decide) (by decide) (by decide) ?_
    refine V_aload_n dX7_carryOut_88 3 rfl ?_
    refine gf_op_sheet hO dX7_carryOut_89 flX7_12 ?_
    refine V_cVmi (As := []) (rest := []) dX7_carryOut_92 cvX7_61 (C_join hxs hS ) hS.1 rfl ⟨Nat.le_of_ble_eq_true rfl, Nat.le_of_ble_eq_true rfl, Nat.le_of_ble_eq_true rfl, Nat.le_of_ble_eq_true rfl⟩ (Nat.le_of_ble_eq_true rfl) rfl (fun h1 q1 => ?_)
    exact V_iret dX7_carryOut_95 rfl ⟨Nat.le_of_ble_eq_true rfl, Nat.le_of_ble_eq_true rfl⟩ ⟨rfl, hO.sheet_upd ⟨_, q1.1⟩ (SI_cmd (f := 0) (a := rd L3 0) (b := rd L3 1) (c := rd L3 2) hO.2.2.1) q1.2, q1.2⟩
  · refine V_tableIn (tgt := 96) (off := 63) dX7_carryOut_33 (by decide) (by decide) (by decide) (by decide) ?_
    refine V_aload_n dX7_carryOut_96 3 rfl ?_
    refine gf_op_sheet hO dX7_carryOut_97 flX7_12 ?_
    refine V_iload_n dX7_carryOut_100 2 rfl ?_
    refine V_iload_n dX7_carryOut_101 1 rfl ?_
    refine V_cVmi (As := [.int (rd L3 0), .int (rd L3 1)]) (rest := []) dX7_carryOut_102 cvX7_91 (C_pay hxs hS (rd L3 0) (rd L3 1)) hS.1 rfl ⟨Nat.le_of_ble_eq_true rfl, Nat.le_of_ble_eq_true rfl, Nat.le_of_ble_eq_true rfl, Nat.le_of_ble_eq_true rfl⟩ (Nat.le_of_ble_eq_true rfl) rfl (fun h1 q1 => ?_)
    exact V_iret dX7_carryOut_105 rfl ⟨Nat.le_of_ble_eq_true rfl, Nat.le_of_ble_eq_true rfl⟩ ⟨rfl, hO.sheet_upd ⟨_, q1.1⟩ (SI_cmd (f := 1) (a := rd L3 0) (b := rd L3 1) (c := rd L3 2) hO.2.2.1) q1.2, q1.2⟩
  · refine V_tableIn (tgt := 106) (off := 73) dX7_carryOut_33 (by decide) (by decide) (by decide) (by decide) ?_
    refine V_aload_n dX7_carryOut_106 3 rfl ?_
    refine gf_op_sheet hO dX7_carryOut_107 flX7_12 ?_
    refine V_iload_n dX7_carryOut_110 2 rfl ?_
    refine V_iload_n dX7_carryOut_111 1 rfl ?_
    refine V_cVmi (As := [.int (rd L3 0), .int (rd L3 1)]) (rest := []) dX7_carryOut_112 cvX7_108 (C_hiss hxs hS (rd L3 0) (rd L3 1)) hS.1 rfl ⟨Nat.le_of_ble_eq_true rfl, Nat.le_of_ble_eq_true rfl, Nat.le_of_ble_eq_true rfl, Nat.le_of_ble_eq_true rfl⟩ (Nat.le_of_ble_eq_true rfl) rfl (fun h1 q1 => ?_)
    exact V_iret dX7_carryOut_115 rfl ⟨Nat.le_of_ble_eq_true rfl, Nat.le_of_ble_eq_true rfl⟩ ⟨rfl, hO.sheet_upd ⟨_, q1.1⟩ (SI_cmd (f := 2) (a := rd L3 0) (b := rd L3 1) (c := rd L3 2) hO.2.2.1) q1.2, q1.2⟩
  · refine V_tableIn (tgt := 116) (off := 83) dX7_carryOut_33 (by decide) (by decide) (by decide) (by decide) ?_
    refine V_aload_n dX7_carryOut_116 3 rfl ?_
    refine gf_op_sheet hO dX7_carryOut_117 flX7_12 ?_
    refine V_bipush (v := 109) dX7_carryOut_120 (by decide) ?_
    refine V_iload_n dX7_carryOut_122 2 rfl ?_
    refine V_iload_n dX7_carryOut_123 1 rfl ?_
    refine V_iload dX7_carryOut_124 0 rfl ?_
    refine V_cVmi (As := [.int 109, .int (rd L3 0), .int (rd L3 1), .int (rd L3 2)]) (rest := []) dX7_carryOut_126 cvX7_126 (C_putPlayed hxs hS 109 (rd L3 0) (rd L3 1) (rd L3 2) (by decide)) hS.1 rfl ⟨Nat.le_of_ble_eq_true rfl, Nat.le_of_ble_eq_true rfl, Nat.le_of_ble_eq_true rfl, Nat.le_of_ble_eq_true rfl⟩ (Nat.le_of_ble_eq_true rfl) rfl (fun h1 q1 => ?_)
    exact V_iret dX7_carryOut_129 rfl ⟨Nat.le_of_ble_eq_true rfl, Nat.le_of_ble_eq_true rfl⟩ ⟨rfl, hO.sheet_upd ⟨_, q1.1⟩ (SI_cmd (f := 3) (a := rd L3 0) (b := rd L3 1) (c := rd L3 2) hO.2.2.1) q1.2, q1.2⟩
  · refine V_tableIn (tgt := 130) (off := 97) dX7_carryOut_33 (by decide) (by decide) (by decide) (by decide) ?_
    refine V_aload_n dX7_carryOut_130 3 rfl ?_
    refine gf_op_sheet hO dX7_carryOut_131 flX7_12 ?_
    refine V_bipush (v := 112) dX7_carryOut_134 (by decide) ?_
    refine V_iload_n dX7_carryOut_136 2 rfl ?_
    refine V_iload_n dX7_carryOut_137 1 rfl ?_
    refine V_iload dX7_carryOut_138 0 rfl ?_
    refine V_cVmi (As := [.int 112, .int (rd L3 0), .int (rd L3 1), .int (rd L3 2)]) (rest := []) dX7_carryOut_140 cvX7_126 (C_putPlayed hxs hS 112 (rd L3 0) (rd L3 1) (rd L3 2) (by decide)) hS.1 rfl ⟨Nat.le_of_ble_eq_true rfl, Nat.le_of_ble_eq_true rfl, Nat.le_of_ble_eq_true rfl, Nat.le_of_ble_eq_true rfl⟩ (Nat.le_of_ble_eq_true rfl) rfl (fun h1 q1 => ?_)
    exact V_iret dX7_carryOut_143 rfl ⟨Nat.le_of_ble_eq_true rfl, Nat.le_of_ble_eq_true rfl⟩ ⟨rfl, hO.sheet_upd ⟨_, q1.1⟩ (SI_cmd (f := 4) (a := rd L3 0) (b := rd L3 1) (c := rd L3 2) hO.2.2.1) q1.2, q1.2⟩
  · refine V_tableIn (tgt := 144) (off := 111) dX7_carryOut_33 (by decide) (by decide) (by decide) (by decide) ?_
    refine V_aload_n dX7_carryOut_144 3 rfl ?_
    refine gf_op_sheet hO dX7_carryOut_145 flX7_12 ?_
    refine V_iload_n dX7_carryOut_148 2 rfl ?_
    refine V_iload_n dX7_carryOut_149 1 rfl ?_
    refine V_cVmi (As := [.int (rd L3 0), .int (rd L3 1)]) (rest := []) dX7_carryOut_150 cvX7_133 (C_putHush hxs hS (rd L3 0) (rd L3 1)) hS.1 rfl ⟨Nat.le_of_ble_eq_true rfl, Nat.le_of_ble_eq_true rfl, Nat.le_of_ble_eq_true rfl, Nat.le_of_ble_eq_true rfl⟩ (Nat.le_of_ble_eq_true rfl) rfl (fun h1 q1 => ?_)
    exact V_iret dX7_carryOut_153 rfl ⟨Nat.le_of_ble_eq_true rfl, Nat.le_of_ble_eq_true rfl⟩ ⟨rfl, hO.sheet_upd ⟨_, q1.1⟩ (SI_cmd (f := 5) (a := rd L3 0) (b := rd L3 1) (c := rd L3 2) hO.2.2.1) q1.2, q1.2⟩
  · refine V_tableIn (tgt := 154) (off := 121) dX7_carryOut_33 (by decide) (by decide) (by decide) (by decide) ?_
    refine V_aload_n dX7_carryOut_154 3 rfl ?_
    refine gf_op_sheet hO dX7_carryOut_155 flX7_12 ?_
    refine V_iload_n dX7_carryOut_158 2 rfl ?_
    refine V_cVmi (As := [.int (rd L3 0)]) (rest := []) dX7_carryOut_159 cvX7_138 (C_cancel hxs hS (rd L3 0)) hS.1 rfl ⟨Nat.le_of_ble_eq_true rfl, Nat.le_of_ble_eq_true rfl, Nat.le_of_ble_eq_true rfl, Nat.le_of_ble_eq_true rfl⟩ (Nat.le_of_ble_eq_true rfl) rfl (fun h1 q1 => ?_)
    exact V_iret dX7_carryOut_162 rfl ⟨Nat.le_of_ble_eq_true rfl, Nat.le_of_ble_eq_true rfl⟩ ⟨rfl, hO.sheet_upd ⟨_, q1.1⟩ (SI_cmd (f := 6) (a := rd L3 0) (b := rd L3 1) (c := rd L3 2) hO.2.2.1) q1.2, q1.2⟩
  · refine V_tableIn (tgt := 163) (off := 130) dX7_carryOut_33 (by decide) (by decide) (by decide) (by decide) ?_
    refine V_aload_n dX7_carryOut_163 3 rfl ?_
    refine gf_op_sheet hO dX7_carryOut_164 flX7_12 ?_
    refine V_iload_n dX7_carryOut_167 2 rfl ?_
    refine V_iload_n dX7_carryOut_168 1 rfl ?_
    refine V_cVmi (As := [.int (rd L3 0), .int (rd L3 1)]) (rest := []) dX7_carryOut_169 cvX7_143 (C_move hxs hS (rd L3 0) (rd L3 1)) hS.1 rfl ⟨Nat.le_of_ble_eq_true rfl, Nat.le_of_ble_eq_true rfl, Nat.le_of_ble_eq_true rfl, Nat.le_of_ble_eq_true rfl⟩ (Nat.le_of_ble_eq_true rfl) rfl (fun h1 q1 => ?_)
    exact V_iret dX7_carryOut_172 rfl ⟨Nat.le_of_ble_eq_true rfl, Nat.le_of_ble_eq_true rfl⟩ ⟨rfl, hO.sheet_upd ⟨_, q1.1⟩ (SI_cmd (f := 7) (a := rd L3 0) (b := rd L3 1) (c := rd L3 2) hO.2.2.1) q1.2, q1.2⟩
  · refine V_tableIn (tgt := 173) (off := 140) dX7_carryOut_33 (by decide) (by decide) (by decide) (by decide) ?_
    refine V_aload_n dX7_carryOut_173 3 rfl ?_
    refine gf_op_sheet hO dX7_carryOut_174 flX7_12 ?_
    refine V_iload_n dX7_carryOut_177 2 rfl ?_
    refine V_cVmi (As := [.int (rd L3 0)]) (rest := []) dX7_carryOut_178 cvX7_204 (C_limitNoise hxs hS (rd L3 0)) hS.1 rfl ⟨Nat.le_of_ble_eq_true rfl, Nat.le_of_ble_eq_true rfl, Nat.le_of_ble_eq_true rfl, Nat.le_of_ble_eq_true rfl⟩ (Nat.le_of_ble_eq_true rfl) rfl (fun h1 q1 => ?_)
    exact V_iret dX7_carryOut_181 rfl ⟨Nat.le_of_ble_eq_true rfl, Nat.le_of_ble_eq_true rfl⟩ ⟨rfl, hO.sheet_upd ⟨_, q1.1⟩ (SI_cmd (f := 8) (a := rd L3 0) (b := rd L3 1) (c := rd L3 2) hO.2.2.1) q1.2, q1.2⟩
  · refine V_tableIn (tgt := 182) (off := 149) dX7_carryOut_33 (by decide) (by decide) (by decide) (by decide) ?_
    refine V_aload_n dX7_carryOut_182 3 rfl ?_
    refine gf_op_sheet hO dX7_carryOut_183 flX7_12 ?_
    refine V_iload_n dX7_carryOut_186 2 rfl ?_
    refine V_cVmi (As := [.int (rd L3 0)]) (rest := []) dX7_carryOut_187 cvX7_220 (C_pass hxs hS hO.2.2.1 (rd L3 0)) hS.1 rfl ⟨Nat.le_of_ble_eq_true rfl, Nat.le_of_ble_eq_true rfl, Nat.le_of_ble_eq_true rfl, Nat.le_of_ble_eq_true rfl⟩ (Nat.le_of_ble_eq_true rfl) rfl (fun h1 q1 => ?_)
    exact V_iret dX7_carryOut_190 rfl ⟨Nat.le_of_ble_eq_true rfl, Nat.le_of_ble_eq_true rfl⟩ ⟨rfl, hO.sheet_upd q1.1 (SI_cmd (f := 9) (a := rd L3 0) (b := rd L3 1) (c := rd L3 2) hO.2.2.1) q1.2, q1.2⟩
  · refine V_tableOut (tgt := 191) dX7_carryOut_33 (by decide) (by decide) ?_
    refine V_aload_n dX7_carryOut_191 3 rfl ?_
    refine gf_op_sheet hO dX7_carryOut_192 flX7_12 ?_
    refine V_cVmi (As := []) (rest := []) dX7_carryOut_195 cvX7_225 (C_openAct hxs hS ) hS.1 rfl ⟨Nat.le_of_ble_eq_true rfl, Nat.le_of_ble_eq_true rfl, Nat.le_of_ble_eq_true rfl, Nat.le_of_ble_eq_true rfl⟩ (Nat.le_of_ble_eq_true rfl) rfl (fun h1 q1 => ?_)
    exact V_iret dX7_carryOut_198 rfl ⟨Nat.le_of_ble_eq_true rfl, Nat.le_of_ble_eq_true rfl⟩ ⟨rfl, hO.sheet_upd ⟨_, q1.1⟩ (SI_cmd (f := 10) (a := rd L3 0) (b := rd L3 1) (c := rd L3 2) hO.2.2.1) q1.2, q1.2⟩
set_option maxRecDepth 20000 in
set_option maxHeartbeats 4000000 in
theorem c_X7_carryOutAll {X : KX} (hxs : X.1.stackTraces = false) (hg : GX X) {h : AH} {x : Nat} {S : SH} {past : List SH} {pr N : SH} {hs le lc lf : Int32} {txt ln : List Int32} (hO : OpAt X h x S past pr N hs le lc lf txt ln) {cm : Nat → Nat × List Int32 × Int32} {cnt pos : Int32} (hRd : RdRaw X h x cm cnt pos txt) {r : SH × Option (Nat × Int32)} (hr : U_all cm cnt 16 0 S = r) : Ct X mX7_carryOutAll [.ref x] h (zM (some (.int (if r.2.isNone then 1 else 0))) (fun h' => OpAt X h' x r.1 past pr N hs le (lcO r.2 lc) (lfO r.2 lf) txt ln ∧ (r.2 = none → RdRaw X h' x cm cnt pos txt))) := by
  refine Ct.of (by decide) rfl (Nat.le_of_ble_eq_true rfl) rfl hxs ?_
  have L2 : ∀ (g i : Nat) (h0 : AH) (S0 : SH), i + g = 16 → OpAt X h0 x S0 past pr N hs le lc lf txt ln → RdRaw X h0 x cm cnt pos txt → U_all cm cnt g i S0 = r → V X mX7_carryOutAll (zF X mX7_carryOutAll (zM (some (.int (if r.2.isNone then 1 else 0))) (fun h' => OpAt X h' x r.1 past pr N hs le (lcO r.2 lc) (lfO r.2 lf) txt ln ∧ (r.2 = none → RdRaw X h' x cm cnt pos txt)))) 0 0 2 [(0, .ref x), (1, .int (nI i))] [] h0 := by
    intro g
    induction g with
    | zero =>
      intro i h0 S0 hi hO0 hRd hr0
      subst hr0
      refine V_iload_n dX7_carryOutAll_2 1 rfl ?_
      refine V_aload_n dX7_carryOutAll_3 0 rfl ?_
      refine gf_op_reader hO0 dX7_carryOutAll_4 flX7_32 ?_
      refine gf_rd_count hRd dX7_carryOutAll_7 flX7_298 ?_
      refine V_icmp_ge (tgt := 56) dX7_carryOutAll_10 (by decide) (fun c1 => ?_) (fun c1 => ?_)
      · refine V_iconst (v := 1) dX7_carryOutAll_56 (by decide) ?_
        exact V_zret dX7_carryOutAll_57 rfl bN1 ⟨Nat.le_of_ble_eq_true rfl, Nat.le_of_ble_eq_true rfl⟩ ⟨rfl, hO0, fun _ => hRd⟩
      · refine V_iload_n dX7_carryOutAll_13 1 rfl ?_
        refine V_bipush (v := 16) dX7_carryOutAll_14 (by decide) ?_
        refine V_icmp_ge (tgt := 56) dX7_carryOutAll_16 (by decide) (fun _ => ?_) (fun c9 => absurd (nI_le (a := 16) (by omega) (by omega)) c9)
        refine V_iconst (v := 1) dX7_carryOutAll_56 (by decide) ?_
        exact V_zret dX7_carryOutAll_57 rfl bN1 ⟨Nat.le_of_ble_eq_true rfl, Nat.le_of_ble_eq_true rfl⟩ ⟨rfl, hO0, fun _ => hRd⟩
    | succ g ih =>
      intro i h0 S0 hi hO0 hRd hr0
      have hil : i < 16 := by omega
      rw [U_all] at hr0
      refine V_iload_n dX7_carryOutAll_2 1 rfl ?_
      refine V_aload_n dX7_carryOutAll_3 0 rfl ?_
      refine gf_op_reader hO0 dX7_carryOutAll_4 flX7_32 ?_
      refine gf_rd_count hRd dX7_carryOutAll_7 flX7_298 ?_
      refine V_icmp_ge (tgt := 56) dX7_carryOutAll_10 (by decide) (fun c1 => ?_) (fun c1 => ?_)
      · rw [if_pos c1] at hr0
        subst hr0
        refine V_iconst (v := 1) dX7_carryOutAll_56 (by decide) ?_
        exact V_zret dX7_carryOutAll_57 rfl bN1 ⟨Nat.le_of_ble_eq_true rfl, Nat.le_of_ble_eq_true rfl⟩ ⟨rfl, hO0, fun _ => hRd⟩
      · rw [if_neg c1] at hr0
        refine V_iload_n dX7_carryOutAll_13 1 rfl ?_
        refine V_bipush (v := 16) dX7_carryOutAll_14 (by decide) ?_
        refine V_icmp_ge (tgt := 56) dX7_carryOutAll_16 (by decide) (fun c9 => absurd c9 (nI_ge (b := 16) hil (by decide))) (fun _ => ?_)
        refine V_aload_n dX7_carryOutAll_19 0 rfl ?_
        refine V_aload_n dX7_carryOutAll_20 0 rfl ?_
        refine gf_op_reader hO0 dX7_carryOutAll_21 flX7_32 ?_
        refine gf_rd_commands hRd dX7_carryOutAll_24 flX7_299 ?_
        refine V_iload_n dX7_carryOutAll_27 1 rfl ?_
        refine ld_rd hRd hil dX7_carryOutAll_28 ?_
        have hC2 := c_X7_carryOut hxs hg hO0 (hRd.2.2.2 i hil)
        generalize U_cmd (cm i).1 (rd (cm i).2.1 0) (rd (cm i).2.1 1) (rd (cm i).2.1 2) S0 = q at hC2 hr0
        refine V_cVmi (As := [.ref (x + 151 + 2 * i)]) (rest := []) dX7_carryOutAll_29 cvX7_303 hC2 hO0.1 rfl ⟨Nat.le_of_ble_eq_true rfl, Nat.le_of_ble_eq_true rfl, Nat.le_of_ble_eq_true rfl, Nat.le_of_ble_eq_true rfl⟩ (Nat.le_of_ble_eq_true rfl) rfl (fun h2 q2 => ?_)
        obtain ⟨hO2, hR2⟩ := q2
        have hRd2 := hRd.out hR2 (by omega) (by omega)
        refine V_istore_n (lv' := [(2, .int q.1), (0, .ref x), (1, .int (nI i))]) dX7_carryOutAll_32 rfl (by decide) rfl ?_
        refine V_iload_n dX7_carryOutAll_33 0 rfl ?_
        refine V_if_ge (tgt := 50) dX7_carryOutAll_34 (by decide) (fun c2 => ?_) (fun c2 => ?_)
        · rw [if_pos c2] at hr0
          refine V_iinc (v := nI (i + 1)) (lv' := [(1, .int (nI (i + 1))), (2, .int q.1), (0, .ref x)]) dX7_carryOutAll_50 2 rfl (iinc1 i) (by decide) rfl ?_
          refine V_goto (tgt := 2) dX7_carryOutAll_53 (by decide) ?_
          refine V.loc [2, 0] rfl ?_
          exact ih (i + 1) h2 _ (by omega) hO2 hRd2 hr0
        · rw [if_neg c2] at hr0
          subst hr0
          refine V_aload_n dX7_carryOutAll_37 1 rfl ?_
          refine V_iload_n dX7_carryOutAll_38 2 rfl ?_
          refine pf_op_lc hO2 dX7_carryOutAll_39 flX7_51 (fun h3 hO3 => ?_)
          refine V_aload_n dX7_carryOutAll_42 1 rfl ?_
          refine V_iload_n dX7_carryOutAll_43 0 rfl ?_
          refine V_ineg dX7_carryOutAll_44 ?_
          refine pf_op_lf hO3 dX7_carryOutAll_45 flX7_54 (fun h4 hO4 => ?_)
          refine V_iconst (v := 0) dX7_carryOutAll_48 (by decide) ?_
          exact V_zret dX7_carryOutAll_49 rfl bN0 ⟨Nat.le_of_ble_eq_true rfl, Nat.le_of_ble_eq_true rfl⟩ ⟨rfl, hO4, fun e => (by cases e)⟩
  refine V_iconst (v := 0) dX7_carryOutAll_0 (by decide) ?_
  refine V_istore_n (lv' := [(1, .int 0), (0, .ref x)]) dX7_carryOutAll_1 rfl (by decide) rfl ?_
  refine V.loc [1, 0] rfl ?_
  exact L2 16 0 h S (by decide) hO hRd hr
def zRun (X : KX) (x : Nat) (S : SH) (past : List SH) (N : SH) (hs le lc lf : Int32) (txt ln : List Int32) : ZT := fun o h' => ∃ (c0 : Int32) (cm : Nat → Nat × List Int32 × Int32), RdC cm (rAll txt 16 [] 0 c0).2.2.2 ∧ ((rAll txt 16 [] 0 c0).1 = false ∧ o = .inr "java/lang/IllegalArgumentException" ∧ OpW X h' x S past N hs (nI (rAll txt 16 [] 0 c0).2.2.1) lc lf [] ln ∨ (rAll txt 16 [] 0 c0).1 = true ∧ ((U_all cm (rAll txt 16 [] 0 c0).2.1 16 0 S).2 = none ∧ o = .inl (some (.int (rAll txt 16 [] 0 c0).2.1)) ∧ OpW X h' x (U_all cm (rAll txt 16 [] 0 c0).2.1 16 0 S).1 ((S :: past).take 8) N hs le lc lf [] ln ∨ (∃ q, (U_all cm (rAll txt 16 [] 0 c0).2.1 16 0 S).2 = some q ∧ o = .inr "java/lang/IllegalStateException" ∧ OpW X h' x S past N hs le (nI q.1) (-q.2) [] ln)))
theorem Txt.len8 {X : KX} {h : AH} {x a : Nat} {txt : List Int32} (p : SbAt X h x a txt) : txt.length ≤ 128 := by
  obtain ⟨v, L, ml, h1, -, h3⟩ := p
  exact Nat.le_trans h3.1 h1.2.2.2.2.2.1
theorem RdRaw.len0 {X : KX} {h h' : AH} {x v : Nat} {cm : Nat → Nat × List Int32 × Int32} {cnt pos ml : Int32} {txt L : List Int32} (p : RdRaw X h x cm cnt pos txt) (hv : v = x + 148 + 1 ∨ x + 185 ≤ v) (hS : SbV X h' (x + 148) v L ml 0) (k : ∀ q, q ≠ x + 148 → h'.2 q = h.2 q) : RdRaw X h' x cm cnt pos [] := ⟨(k _ (by omega)).trans p.1, ⟨v, L, ml, hS, hv, ⟨Nat.zero_le _, fun i hi => absurd hi (Nat.not_lt_zero _), fun i hi => absurd hi (Nat.not_lt_zero _)⟩⟩, (k _ (by omega)).trans p.2.2.1, fun j hj => ⟨(k _ (by omega)).trans (p.2.2.2 j hj).1, (p.2.2.2 j hj).2.1, (k _ (by omega)).trans (p.2.2.2 j hj).2.2.1, (p.2.2.2 j hj).2.2.2⟩⟩
set_option maxRecDepth 20000 in
set_option maxHeartbeats 4000000 in
theorem c_X7_run {X : KX} (hxs : X.1.stackTraces = false) (hg : GX X) {h : AH} {x : Nat} {S : SH} {past : List SH} {N : SH} {hs le lc lf : Int32} {txt ln : List Int32} (hW : OpW X h x S past N hs le lc lf txt ln) : Ct X mX7_run [.ref x] h (zRun X x S past N hs le lc lf txt ln) := by
  obtain ⟨pr, hO⟩ := hW
  obtain ⟨cm, cnt, pos, hRd⟩ := id hO.2.2.2.2.2.2.2.2.1
  have ht := Txt.len8 hRd.2.1
  generalize hr : rAll txt 16 [] 0 cnt = r
  refine Ct.of (by decide) rfl (Nat.le_of_ble_eq_true rfl) rfl hxs ?_
  refine V_aload_n dX7_run_0 0 rfl ?_
  refine gf_op_reader hO dX7_run_1 flX7_32 ?_
  refine V_cVmi (As := []) (rest := []) dX7_run_4 cvX7_278 (c_X2_readAll hxs hg hRd ht hr) hRd.1 rfl ⟨Nat.le_of_ble_eq_true rfl, Nat.le_of_ble_eq_true rfl, Nat.le_of_ble_eq_true rfl, Nat.le_of_ble_eq_true rfl⟩ (Nat.le_of_ble_eq_true rfl) rfl (fun h1 q1 => ?_)
  obtain ⟨⟨cm1, hRd1, hC1⟩, hP1⟩ := q1
  have hO1 := hO.rd_upd ⟨_, _, _, hRd1⟩ hP1
  obtain ⟨v1, L1, ml1, hS1, hv1, hT1⟩ := id hRd1.2.1
  refine V_istore_n (lv' := [(1, .int (if r.1 then 1 else 0)), (0, .ref x)]) dX7_run_7 rfl (by decide) rfl ?_
  refine V_aload_n dX7_run_8 1 rfl ?_
  refine gf_op_reader hO1 dX7_run_9 flX7_32 ?_
  refine gf_rd_text hRd1 dX7_run_12 flX7_266 ?_
  refine V_iconst (v := 0) dX7_run_15 (by decide) ?_
  refine V_cVg (As := [.int 0]) (rest := []) dX7_run_16 cuX7_282 (c_setLen0 hxs hg hS1 ht) hS1.1 rfl ⟨Nat.le_of_ble_eq_true rfl, Nat.le_of_ble_eq_true rfl, Nat.le_of_ble_eq_true rfl, Nat.le_of_ble_eq_true rfl⟩ (Nat.le_of_ble_eq_true rfl) rfl (fun h2 q2 => ?_)
  obtain ⟨ml2, hS2, hz2, hk2⟩ := q2
  have hRd2 := hRd1.len0 hv1 hS2 hk2
  have hO2 := hO1.rd_upd ⟨_, _, _, hRd2⟩ ⟨hz2, fun q hq => hk2 q (by omega)⟩
  refine V_iload_n dX7_run_19 0 rfl ?_
  by_cases hok : r.1 = true
  · rw [if_pos hok]
    obtain ⟨o9, hS9⟩ := hO2.2.2.2.2.1
    obtain ⟨R9, j9, hj9, hl9, hc9, hi9, hp9, hq9⟩ := id hO2.2.2.2.2.2.2.2.1
    generalize hu : U_all cm1 r.2.1 16 0 S = u
    refine V_if_ne (tgt := 45) dX7_run_20 (by decide) (fun _ => ?_) (fun c9 => absurd c9 (by decide))
    refine V_aload_n dX7_run_45 1 rfl ?_
    refine gf_op_history hO2 dX7_run_46 flX7_25 ?_
    refine V_aload_n dX7_run_49 1 rfl ?_
    refine gf_op_sheet hO2 dX7_run_50 flX7_12 ?_
    refine V_cVmv (As := [.ref (x + 1)]) (rest := []) dX7_run_53 cvX7_57 (C_prepare hxs hO2.2.2.2.2.2.2.2.1 hS9 hO2.2.2.1 (by omega)) hc9.1 rfl ⟨Nat.le_of_ble_eq_true rfl, Nat.le_of_ble_eq_true rfl, Nat.le_of_ble_eq_true rfl, Nat.le_of_ble_eq_true rfl⟩ (Nat.le_of_ble_eq_true rfl) rfl (fun h3 q3 => ?_)
    obtain ⟨hH3, -, hR3⟩ := q3
    have hO3 := hO2.hist_upd hH3 hR3
    have hRd3 := hRd2.out hR3 (by omega) (by omega)
    refine V_aload_n dX7_run_56 1 rfl ?_
    refine V_cVmi (As := []) (rest := []) dX7_run_57 cvX7_290 (c_X7_carryOutAll hxs hg hO3 hRd3 hu) hO3.1 rfl ⟨Nat.le_of_ble_eq_true rfl, Nat.le_of_ble_eq_true rfl, Nat.le_of_ble_eq_true rfl, Nat.le_of_ble_eq_true rfl⟩ (Nat.le_of_ble_eq_true rfl) rfl (fun h4 q4 => ?_)
    obtain ⟨hO4, hRd4⟩ := q4
    obtain ⟨o8, hS8⟩ := hO4.2.2.2.2.1
    obtain ⟨R8, j8, hj8, hl8, hc8, hi8, hp8, hq8⟩ := id hO4.2.2.2.2.2.2.2.1
    rcases hu2 : u.2 with _ | q
    · try rw [hu2] at hO4
      try rw [hu2] at hRd4
      try rw [hu2]
      refine V_if_ne (tgt := 85) dX7_run_60 (by decide) (fun _ => ?_) (fun c9 => absurd c9 (by decide))
      refine V_aload_n dX7_run_85 1 rfl ?_
      refine gf_op_history hO4 dX7_run_86 flX7_25 ?_
      refine V_cVmv (As := []) (rest := []) dX7_run_89 cvX7_72 (C_keep hxs hO4.2.2.2.2.2.2.2.1) hc8.1 rfl ⟨Nat.le_of_ble_eq_true rfl, Nat.le_of_ble_eq_true rfl, Nat.le_of_ble_eq_true rfl, Nat.le_of_ble_eq_true rfl⟩ (Nat.le_of_ble_eq_true rfl) rfl (fun h5 q5 => ?_)
      obtain ⟨⟨pr5, hH5⟩, hR5⟩ := q5
      have hO5 := hO4.hist_upd hH5 hR5
      have hRd5 := (hRd4 rfl).out hR5 (by omega) (by omega)
      refine V_aload_n dX7_run_92 1 rfl ?_
      refine gf_op_reader hO5 dX7_run_93 flX7_32 ?_
      refine gf_rd_count hRd5 dX7_run_96 flX7_298 ?_
      exact V_iret dX7_run_99 rfl ⟨Nat.le_of_ble_eq_true rfl, Nat.le_of_ble_eq_true rfl⟩ ⟨cnt, cm1, by rw [hr]; exact hC1, by rw [hr]; exact Or.inr ⟨hok, Or.inl ⟨by rw [hu]; exact hu2, rfl, by rw [hu]; exact ⟨_, hO5⟩⟩⟩⟩
    · try rw [hu2] at hO4
      try rw [hu2]
      refine V_if_ne (tgt := 85) dX7_run_60 (by decide) (fun c9 => absurd c9 (fun q9 => q9 rfl)) (fun _ => ?_)
      refine V_aload_n dX7_run_63 1 rfl ?_
      refine gf_op_history hO4 dX7_run_64 flX7_25 ?_
      refine V_aload_n dX7_run_67 1 rfl ?_
      refine gf_op_sheet hO4 dX7_run_68 flX7_12 ?_
      refine V_cVmv (As := [.ref (x + 1)]) (rest := []) dX7_run_71 cvX7_293 (C_rollBack hxs hc8 hj8 hi8 hS8 (by omega)) hc8.1 rfl ⟨Nat.le_of_ble_eq_true rfl, Nat.le_of_ble_eq_true rfl, Nat.le_of_ble_eq_true rfl, Nat.le_of_ble_eq_true rfl⟩ (Nat.le_of_ble_eq_true rfl) rfl (fun h5 q5 => ?_)
      obtain ⟨hS5, hR5⟩ := q5
      have hO5 := hO4.sheet_upd (S' := S) ⟨_, by rw [← hp8]; exact hS5⟩ hO2.2.2.1 hR5
      exact V_throwSW (E := "java/lang/IllegalStateException") (names := ["java/lang/RuntimeException", "java/lang/Exception"]) rfl (by decide) (by decide) tk_65.1 tk_65.2 ta_69 hg.1 hg.p (hg.2.1 16 _ _ _ rfl) dX7_run_74 dX7_run_77 dX7_run_78 dX7_run_81 dX7_run_84 (Nat.le_of_ble_eq_true rfl) (Nat.le_of_ble_eq_true rfl) ⟨Nat.le_of_ble_eq_true rfl, Nat.le_of_ble_eq_true rfl⟩ (fun q7 hq7 => ⟨cnt, cm1, by rw [hr]; exact hC1, by rw [hr]; exact Or.inr ⟨hok, Or.inr ⟨q, by rw [hu]; exact hu2, rfl, _, hO5.bump hq7⟩⟩⟩)
  · rw [if_neg hok]
    refine V_if_ne (tgt := 45) dX7_run_20 (by decide) (fun c9 => absurd c9 (fun q9 => q9 rfl)) (fun _ => ?_)
    refine V_aload_n dX7_run_23 1 rfl ?_
    refine V_aload_n dX7_run_24 1 rfl ?_
    refine gf_op_reader hO2 dX7_run_25 flX7_32 ?_
    refine gf_rd_position hRd2 dX7_run_28 flX7_285 ?_
    refine pf_op_le hO2 dX7_run_31 flX7_47 (fun h3 hO3 => ?_)
    exact V_throwSW (E := "java/lang/IllegalArgumentException") (names := ["java/lang/RuntimeException", "java/lang/Exception"]) rfl (by decide) (by decide) tk_95.1 tk_95.2 ta_99 hg.1 hg.p (hg.2.1 15 _ _ _ rfl) dX7_run_34 dX7_run_37 dX7_run_38 dX7_run_41 dX7_run_44 (Nat.le_of_ble_eq_true rfl) (Nat.le_of_ble_eq_true rfl) ⟨Nat.le_of_ble_eq_true rfl, Nat.le_of_ble_eq_true rfl⟩ (fun q9 hq9 => ⟨cnt, cm1, by rw [hr]; exact hC1, by rw [hr]; exact Or.inl ⟨by simpa using hok, rfl, _, hO3.bump hq9⟩⟩)
