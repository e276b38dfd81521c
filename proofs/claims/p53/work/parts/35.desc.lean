/-! ===== the line: what is described ===== -/
theorem OpAt.line_upd {X : KX} {h h' : AH} {x : Nat} {S : SH} {past : List SH} {pr N : SH} {hs le lc lf : Int32} {txt ln ln' : List Int32} (p : OpAt X h x S past pr N hs le lc lf txt ln) (hF : FrS h h' (x + 183) (x + 183 + 1)) (hS : LnAt X h' (x + 183) ln') : OpAt X h' x S past pr N hs le lc lf txt ln' := by
  obtain ⟨p1, p2, p3, p4, ⟨o5, p5⟩, ⟨T, o6, p6⟩, ⟨o7, p7⟩, ⟨R, j, r1, r2, r3, r4, r5, r6⟩, ⟨cm, cnt, pos, q1, q2, q3, q4⟩, p10⟩ := p
  have k : ∀ q, x ≤ q → q < x + 183 → h'.2 q = h.2 q := fun q a b => hF.2 q (by omega) (by omega) (by omega)
  exact ⟨(k x (by omega) (by omega)).trans p1, Nat.le_trans p2 hF.1, p3, p4, ⟨o5, IsSheet.keep p5 (fun q a b => k q (by omega) (by omega))⟩, ⟨T, o6, IsSheet.keep p6 (fun q a b => k q (by omega) (by omega))⟩, ⟨o7, IsSheet.keep p7 (fun q a b => k q (by omega) (by omega))⟩, ⟨R, j, r1, r2, ⟨(k _ (by omega) (by omega)).trans r3.1, (k _ (by omega) (by omega)).trans r3.2.1, fun i hi => by
    obtain ⟨o, ho⟩ := r3.2.2 i hi
    exact ⟨o, IsSheet.keep ho (fun q a b => k q (by omega) (by omega))⟩⟩, r4, r5, r6⟩, ⟨cm, cnt, pos, (k _ (by omega) (by omega)).trans q1, q2.keep hF.1 (fun q a b => by
    rcases b with rfl | rfl | b
    · exact k _ (by omega) (by omega)
    · exact k _ (by omega) (by omega)
    · exact hF.2 q (by omega) (by omega) a), (k _ (by omega) (by omega)).trans q3, fun i hi => ⟨(k _ (by omega) (by omega)).trans (q4 i hi).1, (q4 i hi).2.1, (k _ (by omega) (by omega)).trans (q4 i hi).2.2.1, (q4 i hi).2.2.2⟩⟩, hS⟩
theorem dec_l1 {n : Nat} (h : n < 10) : (dec n).length = 1 := by
  unfold dec
  rw [if_pos h]
  rfl
theorem dec_l3 {n : Nat} (h : n < 1000) : (dec n).length ≤ 3 := by
  unfold dec
  split
  · simp
  · split
    · simp
    · rw [if_pos h]; simp
def D_perf (m w : Nat) (op : Int32) : List Int32 := [] ++ dec m ++ [nI (if op = 0 then 45 else 111)] ++ (if 0 < w then [nI 33] ++ dec w else [])
def D_cue (c k pl b z : Nat) : List Int32 := [] ++ [nI 35] ++ dec c ++ [nI k] ++ (if k = 104 then [] else dec pl) ++ [nI 64] ++ dec b ++ [nI 61] ++ dec z
set_option maxRecDepth 20000 in
set_option maxHeartbeats 4000000 in
theorem c_X7_describePerformer {X : KX} (hxs : X.1.stackTraces = false) (hg : GX X) {h0 : AH} {x : Nat} {S : SH} {past : List SH} {N : SH} {hs le lc lf : Int32} {txt ln : List Int32} (hW : OpW X h0 x S past N hs le lc lf txt ln) {m w : Nat} (hm : m < 6) (hw1 : rd (z_owed S) (nI m) = nI w) (hw : w < 10000) : Ct X mX7_describePerformer [.ref x, .int (nI m)] h0 (zT (["java/lang/IndexOutOfBoundsException"] : List String) (if U_hasPerformer S (nI m) = 0 then .inr 0 else .inl (nI (D_perf m w (U_isOpen S (nI m))).length)) (fun h' => OpW X h' x S past N hs le lc lf txt (if U_hasPerformer S (nI m) = 0 then ln else D_perf m w (U_isOpen S (nI m))))) := by
  obtain ⟨pr, hO0⟩ := hW
  obtain ⟨oS0, hS0⟩ := hO0.2.2.2.2.1
  refine Ct.of (by decide) rfl (Nat.le_of_ble_eq_true rfl) rfl hxs ?_
  by_cases hh : U_hasPerformer S (nI m) = 0
  · refine V_aload_n dX7_describePerformer_0 0 rfl ?_
    refine gf_op_sheet hO0 dX7_describePerformer_1 flX7_12 ?_
    refine V_iload_n dX7_describePerformer_4 1 rfl ?_
    refine V_cVi (As := [.int (nI m)]) (rest := []) dX7_describePerformer_5 cvX7_78 (C_hasPerformer hxs hS0 (nI m)) hS0.1 rfl ⟨Nat.le_of_ble_eq_true rfl, Nat.le_of_ble_eq_true rfl, Nat.le_of_ble_eq_true rfl, Nat.le_of_ble_eq_true rfl⟩ (Nat.le_of_ble_eq_true rfl) rfl ?_
    refine V_if_ne (tgt := 21) dX7_describePerformer_8 (by decide) (fun c9 => absurd c9 (fun q9 => q9 hh)) (fun _ => ?_)
    exact V_throwS (E := "java/lang/IndexOutOfBoundsException") (names := ["java/lang/RuntimeException", "java/lang/Exception"]) rfl (by decide) (by decide) tk_82.1 tk_82.2 ta_86 hg.1 hg.p (hg.2.1 1 _ _ _ rfl) dX7_describePerformer_11 dX7_describePerformer_14 dX7_describePerformer_15 dX7_describePerformer_17 dX7_describePerformer_20 (Nat.le_of_ble_eq_true rfl) (Nat.le_of_ble_eq_true rfl) ⟨Nat.le_of_ble_eq_true rfl, Nat.le_of_ble_eq_true rfl⟩ (fun q9 hq9 => ⟨by rw [if_pos hh]; rfl, _, by rw [if_pos hh]; exact hO0.bump hq9⟩)
  · have hL0 := hO0.2.2.2.2.2.2.2.2.2
    obtain ⟨B0, ml0, hb0, -⟩ := id hL0
    have hm1 := dec_l1 (show m < 10 by omega)
    have hw4 := dec_len (n := w) hw
    have hin := hasPerf_in hh
    refine V_aload_n dX7_describePerformer_0 0 rfl ?_
    refine gf_op_sheet hO0 dX7_describePerformer_1 flX7_12 ?_
    refine V_iload_n dX7_describePerformer_4 1 rfl ?_
    refine V_cVi (As := [.int (nI m)]) (rest := []) dX7_describePerformer_5 cvX7_78 (C_hasPerformer hxs hS0 (nI m)) hS0.1 rfl ⟨Nat.le_of_ble_eq_true rfl, Nat.le_of_ble_eq_true rfl, Nat.le_of_ble_eq_true rfl, Nat.le_of_ble_eq_true rfl⟩ (Nat.le_of_ble_eq_true rfl) rfl ?_
    refine V_if_ne (tgt := 21) dX7_describePerformer_8 (by decide) (fun _ => ?_) (fun c9 => absurd c9 hh)
    refine V_aload_n dX7_describePerformer_21 0 rfl ?_
    refine gf_op_line hO0 dX7_describePerformer_22 flX7_39 ?_
    refine V_iconst (v := 0) dX7_describePerformer_25 (by decide) ?_
    refine V_cVg (As := [.int 0]) (rest := []) dX7_describePerformer_26 cuX7_282 (l_len0 hxs hg hL0) hb0.1 rfl ⟨Nat.le_of_ble_eq_true rfl, Nat.le_of_ble_eq_true rfl, Nat.le_of_ble_eq_true rfl, Nat.le_of_ble_eq_true rfl⟩ (Nat.le_of_ble_eq_true rfl) rfl (fun h1 q1 => ?_)
    obtain ⟨hL1, hF1⟩ := q1
    have hO1 := hO0.line_upd hF1 hL1
    obtain ⟨B1, ml1, hb1, -⟩ := id hL1
    obtain ⟨oS1, hS1⟩ := hO1.2.2.2.2.1
    refine V_aload_n dX7_describePerformer_29 0 rfl ?_
    refine gf_op_line hO1 dX7_describePerformer_30 flX7_39 ?_
    refine V_iload_n dX7_describePerformer_33 1 rfl ?_
    refine V_cVg (As := [.int (nI m)]) (rest := []) dX7_describePerformer_34 cuX7_330 (l_appI hxs hg hL1 (m := m) (by omega) (by simp only [List.length_append, List.length_cons, List.length_nil]; omega)) hb1.1 rfl ⟨Nat.le_of_ble_eq_true rfl, Nat.le_of_ble_eq_true rfl, Nat.le_of_ble_eq_true rfl, Nat.le_of_ble_eq_true rfl⟩ (Nat.le_of_ble_eq_true rfl) rfl (fun h2 q2 => ?_)
    obtain ⟨hL2, hF2⟩ := q2
    have hO2 := hO1.line_upd hF2 hL2
    obtain ⟨B2, ml2, hb2, -⟩ := id hL2
    obtain ⟨oS2, hS2⟩ := hO2.2.2.2.2.1
    refine V_aload_n dX7_describePerformer_37 0 rfl ?_
    refine gf_op_sheet hO2 dX7_describePerformer_38 flX7_12 ?_
    refine V_iload_n dX7_describePerformer_41 1 rfl ?_
    refine V_cVi (As := [.int (nI m)]) (rest := [.ref (x + 183)]) dX7_describePerformer_42 cvX7_105 (C_isOpen hxs hS2 (nI m)) hS2.1 rfl ⟨Nat.le_of_ble_eq_true rfl, Nat.le_of_ble_eq_true rfl, Nat.le_of_ble_eq_true rfl, Nat.le_of_ble_eq_true rfl⟩ (Nat.le_of_ble_eq_true rfl) rfl ?_
    refine V_if_eq (tgt := 53) dX7_describePerformer_45 (by decide) (fun c1 => ?_) (fun c1 => ?_)
    · have hz9 : (if U_isOpen S (nI m) = 0 then 45 else 111 : Nat) = 45 := if_pos c1
      refine V_bipush (v := 45) dX7_describePerformer_53 (by decide) ?_
      refine V_cVg (As := [.int 45]) (rest := []) dX7_describePerformer_55 cuX7_274 (l_appC hxs hg hL2 (b := 45) (by decide) (by simp only [List.length_append, List.length_cons, List.length_nil]; omega)) hb2.1 rfl ⟨Nat.le_of_ble_eq_true rfl, Nat.le_of_ble_eq_true rfl, Nat.le_of_ble_eq_true rfl, Nat.le_of_ble_eq_true rfl⟩ (Nat.le_of_ble_eq_true rfl) rfl (fun h3 q3 => ?_)
      obtain ⟨hL3, hF3⟩ := q3
      have hO3 := hO2.line_upd hF3 hL3
      obtain ⟨B3, ml3, hb3, -⟩ := id hL3
      obtain ⟨oS3, hS3⟩ := hO3.2.2.2.2.1
      refine V_pop dX7_describePerformer_58 rfl ?_
      refine V_aload_n dX7_describePerformer_59 0 rfl ?_
      refine gf_op_sheet hO3 dX7_describePerformer_60 flX7_12 ?_
      refine gf_sheet_owed hS3 dX7_describePerformer_63 flX7_87 ?_
      refine V_iload_n dX7_describePerformer_66 1 rfl ?_
      refine ld_sheet_owed hS3 dX7_describePerformer_67 hin ?_
      rw [hw1]
      by_cases hp : 0 < w
      · refine V_if_le (tgt := 93) dX7_describePerformer_68 (by decide) (fun c9 => absurd c9 (nI_nle hp (by omega))) (fun _ => ?_)
        refine V_aload_n dX7_describePerformer_71 0 rfl ?_
        refine gf_op_line hO3 dX7_describePerformer_72 flX7_39 ?_
        refine V_bipush (v := 33) dX7_describePerformer_75 (by decide) ?_
        refine V_cVg (As := [.int 33]) (rest := []) dX7_describePerformer_77 cuX7_274 (l_appC hxs hg hL3 (b := 33) (by decide) (by simp only [List.length_append, List.length_cons, List.length_nil]; omega)) hb3.1 rfl ⟨Nat.le_of_ble_eq_true rfl, Nat.le_of_ble_eq_true rfl, Nat.le_of_ble_eq_true rfl, Nat.le_of_ble_eq_true rfl⟩ (Nat.le_of_ble_eq_true rfl) rfl (fun h4 q4 => ?_)
        obtain ⟨hL4, hF4⟩ := q4
        have hO4 := hO3.line_upd hF4 hL4
        obtain ⟨B4, ml4, hb4, -⟩ := id hL4
        obtain ⟨oS4, hS4⟩ := hO4.2.2.2.2.1
        refine V_aload_n dX7_describePerformer_80 0 rfl ?_
        refine gf_op_sheet hO4 dX7_describePerformer_81 flX7_12 ?_
        refine gf_sheet_owed hS4 dX7_describePerformer_84 flX7_87 ?_
        refine V_iload_n dX7_describePerformer_87 1 rfl ?_
        refine ld_sheet_owed hS4 dX7_describePerformer_88 hin ?_
        rw [hw1]
        refine V_cVg (As := [.int (nI w)]) (rest := []) dX7_describePerformer_89 cuX7_330 (l_appI hxs hg hL4 (m := w) hw (by simp only [List.length_append, List.length_cons, List.length_nil]; omega)) hb4.1 rfl ⟨Nat.le_of_ble_eq_true rfl, Nat.le_of_ble_eq_true rfl, Nat.le_of_ble_eq_true rfl, Nat.le_of_ble_eq_true rfl⟩ (Nat.le_of_ble_eq_true rfl) rfl (fun h5 q5 => ?_)
        obtain ⟨hL5, hF5⟩ := q5
        have hO5 := hO4.line_upd hF5 hL5
        obtain ⟨B5, ml5, hb5, -⟩ := id hL5
        obtain ⟨oS5, hS5⟩ := hO5.2.2.2.2.1
        refine V_pop dX7_describePerformer_92 rfl ?_
        refine V_aload_n dX7_describePerformer_93 0 rfl ?_
        refine gf_op_line hO5 dX7_describePerformer_94 flX7_39 ?_
        refine V_cVg (As := []) (rest := []) (Q := fun h9 => h9 = h5) dX7_describePerformer_97 cuX7_269 (c_J4_length_8abf5 hxs hg hb5.1) hb5.1 rfl ⟨Nat.le_of_ble_eq_true rfl, Nat.le_of_ble_eq_true rfl, Nat.le_of_ble_eq_true rfl, Nat.le_of_ble_eq_true rfl⟩ (Nat.le_of_ble_eq_true rfl) rfl (fun h9 e9 => ?_)
        rw [e9]
        refine V_iret dX7_describePerformer_100 rfl ⟨Nat.le_of_ble_eq_true rfl, Nat.le_of_ble_eq_true rfl⟩ ?_
        rw [List.append_assoc] at hO5
        exact ⟨by rw [if_neg hh]; unfold D_perf; rw [hz9]; rw [if_pos hp]; rfl, _, by rw [if_neg hh]; unfold D_perf; rw [hz9]; rw [if_pos hp]; exact hO5⟩
      · refine V_if_le (tgt := 93) dX7_describePerformer_68 (by decide) (fun _ => ?_) (fun c9 => absurd (nI_le (by omega) (by decide)) c9)
        refine V_aload_n dX7_describePerformer_93 0 rfl ?_
        refine gf_op_line hO3 dX7_describePerformer_94 flX7_39 ?_
        refine V_cVg (As := []) (rest := []) (Q := fun h9 => h9 = h3) dX7_describePerformer_97 cuX7_269 (c_J4_length_8abf5 hxs hg hb3.1) hb3.1 rfl ⟨Nat.le_of_ble_eq_true rfl, Nat.le_of_ble_eq_true rfl, Nat.le_of_ble_eq_true rfl, Nat.le_of_ble_eq_true rfl⟩ (Nat.le_of_ble_eq_true rfl) rfl (fun h9 e9 => ?_)
        rw [e9]
        refine V_iret dX7_describePerformer_100 rfl ⟨Nat.le_of_ble_eq_true rfl, Nat.le_of_ble_eq_true rfl⟩ ?_
        rw [← List.append_nil ([] ++ dec m ++ [nI 45])] at hO3
        exact ⟨by rw [if_neg hh]; unfold D_perf; rw [hz9]; rw [if_neg hp]; rfl, _, by rw [if_neg hh]; unfold D_perf; rw [hz9]; rw [if_neg hp]; exact hO3⟩
    · have hz9 : (if U_isOpen S (nI m) = 0 then 45 else 111 : Nat) = 111 := if_neg c1
      refine V_bipush (v := 111) dX7_describePerformer_48 (by decide) ?_
      refine V_goto (tgt := 55) dX7_describePerformer_50 (by decide) ?_
      refine V_cVg (As := [.int 111]) (rest := []) dX7_describePerformer_55 cuX7_274 (l_appC hxs hg hL2 (b := 111) (by decide) (by simp only [List.length_append, List.length_cons, List.length_nil]; omega)) hb2.1 rfl ⟨Nat.le_of_ble_eq_true rfl, Nat.le_of_ble_eq_true rfl, Nat.le_of_ble_eq_true rfl, Nat.le_of_ble_eq_true rfl⟩ (Nat.le_of_ble_eq_true rfl) rfl (fun h3 q3 => ?_)
      obtain ⟨hL3, hF3⟩ := q3
      have hO3 := hO2.line_upd hF3 hL3
      obtain ⟨B3, ml3, hb3, -⟩ := id hL3
      obtain ⟨oS3, hS3⟩ := hO3.2.2.2.2.1
      refine V_pop dX7_describePerformer_58 rfl ?_
      refine V_aload_n dX7_describePerformer_59 0 rfl ?_
      refine gf_op_sheet hO3 dX7_describePerformer_60 flX7_12 ?_
      refine gf_sheet_owed hS3 dX7_describePerformer_63 flX7_87 ?_
      refine V_iload_n dX7_describePerformer_66 1 rfl ?_
      refine ld_sheet_owed hS3 dX7_describePerformer_67 hin ?_
      rw [hw1]
      by_cases hp : 0 < w
      · refine V_if_le (tgt := 93) dX7_describePerformer_68 (by decide) (fun c9 => absurd c9 (nI_nle hp (by omega))) (fun _ => ?_)
        refine V_aload_n dX7_describePerformer_71 0 rfl ?_
        refine gf_op_line hO3 dX7_describePerformer_72 flX7_39 ?_
        refine V_bipush (v := 33) dX7_describePerformer_75 (by decide) ?_
        refine V_cVg (As := [.int 33]) (rest := []) dX7_describePerformer_77 cuX7_274 (l_appC hxs hg hL3 (b := 33) (by decide) (by simp only [List.length_append, List.length_cons, List.length_nil]; omega)) hb3.1 rfl ⟨Nat.le_of_ble_eq_true rfl, Nat.le_of_ble_eq_true rfl, Nat.le_of_ble_eq_true rfl, Nat.le_of_ble_eq_true rfl⟩ (Nat.le_of_ble_eq_true rfl) rfl (fun h4 q4 => ?_)
        obtain ⟨hL4, hF4⟩ := q4
        have hO4 := hO3.line_upd hF4 hL4
        obtain ⟨B4, ml4, hb4, -⟩ := id hL4
        obtain ⟨oS4, hS4⟩ := hO4.2.2.2.2.1
        refine V_aload_n dX7_describePerformer_80 0 rfl ?_
        refine gf_op_sheet hO4 dX7_describePerformer_81 flX7_12 ?_
        refine gf_sheet_owed hS4 dX7_describePerformer_84 flX7_87 ?_
        refine V_iload_n dX7_describePerformer_87 1 rfl ?_
        refine ld_sheet_owed hS4 dX7_describePerformer_88 hin ?_
        rw [hw1]
        refine V_cVg (As := [.int (nI w)]) (rest := []) dX7_describePerformer_89 cuX7_330 (l_appI hxs hg hL4 (m := w) hw (by simp only [List.length_append, List.length_cons, List.length_nil]; omega)) hb4.1 rfl ⟨Nat.le_of_ble_eq_true rfl, Nat.le_of_ble_eq_true rfl, Nat.le_of_ble_eq_true rfl, Nat.le_of_ble_eq_true rfl⟩ (Nat.le_of_ble_eq_true rfl) rfl (fun h5 q5 => ?_)
        obtain ⟨hL5, hF5⟩ := q5
        have hO5 := hO4.line_upd hF5 hL5
        obtain ⟨B5, ml5, hb5, -⟩ := id hL5
        obtain ⟨oS5, hS5⟩ := hO5.2.2.2.2.1
        refine V_pop dX7_describePerformer_92 rfl ?_
        refine V_aload_n dX7_describePerformer_93 0 rfl ?_
        refine gf_op_line hO5 dX7_describePerformer_94 flX7_39 ?_
        refine V_cVg (As := []) (rest := []) (Q := fun h9 => h9 = h5) dX7_describePerformer_97 cuX7_269 (c_J4_length_8abf5 hxs hg hb5.1) hb5.1 rfl ⟨Nat.le_of_ble_eq_true rfl, Nat.le_of_ble_eq_true rfl, Nat.le_of_ble_eq_true rfl, Nat.le_of_ble_eq_true rfl⟩ (Nat.le_of_ble_eq_true rfl) rfl (fun h9 e9 => ?_)
        rw [e9]
        refine V_iret dX7_describePerformer_100 rfl ⟨Nat.le_of_ble_eq_true rfl, Nat.le_of_ble_eq_true rfl⟩ ?_
        rw [List.append_assoc] at hO5
        exact ⟨by rw [if_neg hh]; unfold D_perf; rw [hz9]; rw [if_pos hp]; rfl, _, by rw [if_neg hh]; unfold D_perf; rw [hz9]; rw [if_pos hp]; exact hO5⟩
      · refine V_if_le (tgt := 93) dX7_describePerformer_68 (by decide) (fun _ => ?_) (fun c9 => absurd (nI_le (by omega) (by decide)) c9)
        refine V_aload_n dX7_describePerformer_93 0 rfl ?_
        refine gf_op_line hO3 dX7_describePerformer_94 flX7_39 ?_
        refine V_cVg (As := []) (rest := []) (Q := fun h9 => h9 = h3) dX7_describePerformer_97 cuX7_269 (c_J4_length_8abf5 hxs hg hb3.1) hb3.1 rfl ⟨Nat.le_of_ble_eq_true rfl, Nat.le_of_ble_eq_true rfl, Nat.le_of_ble_eq_true rfl, Nat.le_of_ble_eq_true rfl⟩ (Nat.le_of_ble_eq_true rfl) rfl (fun h9 e9 => ?_)
        rw [e9]
        refine V_iret dX7_describePerformer_100 rfl ⟨Nat.le_of_ble_eq_true rfl, Nat.le_of_ble_eq_true rfl⟩ ?_
        rw [← List.append_nil ([] ++ dec m ++ [nI 111])] at hO3
        exact ⟨by rw [if_neg hh]; unfold D_perf; rw [hz9]; rw [if_neg hp]; rfl, _, by rw [if_neg hh]; unfold D_perf; rw [hz9]; rw [if_neg hp]; exact hO3⟩
set_option maxRecDepth 20000 in
set_option maxHeartbeats 4000000 in
theorem c_X7_describePerformerx {X : KX} (hxs : X.1.stackTraces = false) (hg : GX X) {h0 : AH} {x : Nat} {S : SH} {past : List SH} {N : SH} {hs le lc lf : Int32} {txt ln : List Int32} (hW : OpW X h0 x S past N hs le lc lf txt ln) {p : Int32} (hh : U_hasPerformer S p = 0) : Ct X mX7_describePerformer [.ref x, .int p] h0 (zT (["java/lang/IndexOutOfBoundsException"] : List String) (.inr 0) (fun h' => OpW X h' x S past N hs le lc lf txt ln)) := by
  obtain ⟨pr, hO0⟩ := hW
  obtain ⟨oS0, hS0⟩ := hO0.2.2.2.2.1
  refine Ct.of (by decide) rfl (Nat.le_of_ble_eq_true rfl) rfl hxs ?_
  refine V_aload_n dX7_describePerformer_0 0 rfl ?_
  refine gf_op_sheet hO0 dX7_describePerformer_1 flX7_12 ?_
  refine V_iload_n dX7_describePerformer_4 1 rfl ?_
  refine V_cVi (As := [.int p]) (rest := []) dX7_describePerformer_5 cvX7_78 (C_hasPerformer hxs hS0 p) hS0.1 rfl ⟨Nat.le_of_ble_eq_true rfl, Nat.le_of_ble_eq_true rfl, Nat.le_of_ble_eq_true rfl, Nat.le_of_ble_eq_true rfl⟩ (Nat.le_of_ble_eq_true rfl) rfl ?_
  refine V_if_ne (tgt := 21) dX7_describePerformer_8 (by decide) (fun c9 => absurd c9 (fun q9 => q9 hh)) (fun _ => ?_)
  exact V_throwS (E := "java/lang/IndexOutOfBoundsException") (names := ["java/lang/RuntimeException", "java/lang/Exception"]) rfl (by decide) (by decide) tk_82.1 tk_82.2 ta_86 hg.1 hg.p (hg.2.1 1 _ _ _ rfl) dX7_describePerformer_11 dX7_describePerformer_14 dX7_describePerformer_15 dX7_describePerformer_17 dX7_describePerformer_20 (Nat.le_of_ble_eq_true rfl) (Nat.le_of_ble_eq_true rfl) ⟨Nat.le_of_ble_eq_true rfl, Nat.le_of_ble_eq_true rfl⟩ (fun q9 hq9 => ⟨rfl, _, hO0.bump hq9⟩)
