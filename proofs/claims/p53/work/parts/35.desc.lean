/-! ===== the line: what is described ===== -/
theorem OpAt.line_upd {X : KX} {h h' : AH} {x : Nat} {S : SH} {past : List SH} {pr N : SH} {hs le lc lf : Int32} {txt ln ln' : List Int32} (p : OpAt X h x S past pr N hs le lc lf txt ln) (hF : FrS h h' (x + 183) (x + 183 + 1)) (hS : LnAt X h' (x + 183) ln') : OpAt X h' x S past pr N hs le lc lf txt ln' := by
  obtain ⟨p1, p2, p3, p4, ⟨o5, p5⟩, ⟨T, o6, p6⟩, ⟨o7, p7⟩, ⟨R, j, r1, r2, r3, r4, r5, r6⟩, ⟨cm, cnt, pos, q1, q2, q3, q4⟩, p10⟩ := p
  have k : ∀ q, x ≤ q → q < x + 183 → h'.2 q = h.2 q := fun q a b => hF.2 q (by omega) (by omega) (by omega)
  exact ⟨(k x (by omega) (by omega)).trans p1, Nat.le_trans p2 hF.1, p3, p4, ⟨o5, IsSheet.keep p5 (fun q a b => k q (by omega) (by omega))⟩, ⟨T, o6, IsSheet.keep p6 (fun q a b => k q (by omega) (by omega))⟩, ⟨o7, IsSheet.keep p7 (fun q a b => k q (by omega) (by omega))⟩, ⟨R, j, r1, r2, ⟨(k _ (by omega) (by omega)).trans r3.1, (k _ (by omega) (by omega)).trans r3.2.1, fun i hi => by
    obtain ⟨o, ho⟩ := r3.2.2 i hi
    exact ⟨o, IsSheet.keep ho (fun q a b => k q (by omega) (by omega))⟩⟩, r4, r5, r6⟩, ⟨cm, cnt, pos, (k _ (by omega) (by omega)).trans q1, q2.keep hF.1 (fun q a b => by
    rcases b with rfl | rfl | b
    · exact k _ (by omega) (by omega)
    · exact k _ (by omega) (by omega)
    · exact hF.2 q (by omega) (by omega) a), (k _ (by omega) (by omega)).trans q3, fun i hi => ⟨(k _ (by omega) (by omega)).trans (q4 i hi).1, (q4 i hi).2.1, (k _ (by omega) (by omega)).trans (q4 i hi).2.2.1, (q4 i hi).2.2.2⟩⟩, hS⟩
theorem dec_l1 {n : Nat} (h : n < 10) : (dec n).length = 1 := by
  unfold dec
  rw [if_pos h]
  rfl
theorem dec_l3 {n : Nat} (h : n < 1000) : (dec n).length ≤ 3 := by
  unfold dec
  split
  · simp
  · split
    · simp
    · first
      | simp
      | (rw [if_pos h]; simp)
def D_perf (m w : Nat) (op : Int32) : List Int32 := [] ++ dec m ++ [nI (if op = 0 then 45 else 111)] ++ (if 0 < w then [nI 33] ++ dec w else [])
def D_cue (c k pl b z : Nat) : List Int32 := [] ++ [nI 35] ++ dec c ++ [nI k] ++ (if k = 104 then [] else dec pl) ++ [nI 64] ++ dec b ++ [nI 61] ++ dec z
set_option maxRecDepth 20000 in
set_option maxHeartbeats 4000000 in
theorem c_X7_describePerformer {X : KX} (hxs : X.1.stackTraces = false) (hg : GX X) {h0 : AH} {x : Nat} {S : SH} {past : List SH} {N : SH} {hs le lc lf : Int32} {txt ln : List Int32} (hW : OpW X h0 x S past N hs le lc lf txt ln) {m w : Nat} (hm : m < 6) (hw1 : rd (z_owed S) (nI m) = nI w) (hw : w < 10000) : Ct X mX7_describePerformer [.ref x, .int (nI m)] h0 (zT (["java/lang/IndexOutOfBoundsException"] : List String) (if U_hasPerformer S (nI m) = 0 then .inr 0 else .inl (nI (D_perf m w (U_isOpen S (nI m))).length)) (fun h' => OpW X h' x S past N hs le lc lf txt (if U_hasPerformer S (nI m) = 0 then ln else D_perf m w (U_isOpen S (nI m))))) := by
  obtain ⟨pr, hO0⟩ := hW
  obtain ⟨oS0, hS0⟩ := hO0.2.2.2.2.1
  refine Ct.of (by decide) rfl (Nat.le_of_ble_eq_true rfl) rfl hxs ?_
  by_cases hh : U_hasPerformer S (nI m) = 0
  · refine V_aload_n dX7_describePerformer_0 0 rfl ?_
    refine gf_op_sheet hO0 dX7_describePerformer_1 flX7_12 ?_
    refine V_iload_n dX7_describePerformer_4 1 rfl ?_
    refine V_cVi (As := [.int (nI m)]) (rest := []) dX7_describePerformer_5 cvX7_78 (C_hasPerformer hxs hS0 (nI m)) hS0.1 rfl ⟨Nat.le_of_ble_eq_true rfl, Nat.le_of_ble_eq_true rfl, Nat.le_of_ble_eq_true rfl, Nat.le_of_ble_eq_true rfl⟩ (Nat.le_of_ble_eq_true rfl) rfl ?_
    refine V_if_ne (tgt := 21) dX7_describePerformer_8 (by decide) (fun c9 => absurd c9 (fun q9 => q9 hh)) (fun _ => ?_)
    exact V_throwS (E := "java/lang/IndexOutOfBoundsException") (names := ["java/lang/RuntimeException", "java/lang/Exception"]) rfl (by decide) (by decide) tk_82.1 tk_82.2 ta_86 hg.1 hg.p (hg.2.1 1 _ _ _ rfl) dX7_describePerformer_11 dX7_describePerformer_14 dX7_describePerformer_15 dX7_describePerformer_17 dX7_describePerformer_20 (Nat.le_of_ble_eq_true rfl) (Nat.le_of_ble_eq_true rfl) ⟨Nat.le_of_ble_eq_true rfl, Nat.le_of_ble_eq_true rfl⟩ (fun q9 hq9 => ⟨by rw [if_pos hh]; rfl, _, by rw [if_pos hh]; exact hO0.bump hq9⟩)
  · have hL0 := hO0.2.2.2.2.2.2.2.2.2
    obtain ⟨B0, ml0, hb0, -⟩ := id hL0
    have hm1 := dec_l1 (show m < 10 by omega)
    have hw4 := dec_len (n := w) hw
    have hin := hasPerf_in hh
    refine V_aload_n dX7_describePerformer_0 0 rfl ?_
    refine gf_op_sheet hO0 dX7_describePerformer_1 flX7_12 ?_
    refine V_iload_n dX7_describePerformer_4 1 rfl ?_
    refine V_cVi (As := [.int (nI m)]) (rest := []) dX7_describePerformer_5 cvX7_78 (C_hasPerformer hxs hS0 (nI m)) hS0.1 rfl ⟨Nat.le_of_ble_eq_true rfl, Nat.le_of_ble_eq_true rfl, Nat.le_of_ble_eq_true rfl, Nat.le_of_ble_eq_true rfl⟩ (Nat.le_of_ble_eq_true rfl) rfl ?_
    refine V_if_ne (tgt := 21) dX7_describePerformer_8 (by decide) (fun _ => ?_) (fun c9 => absurd c9 hh)
    refine V_aload_n dX7_describePerformer_21 0 rfl ?_
    refine gf_op_line hO0 dX7_describePerformer_22 flX7_39 ?_
    refine V_iconst (v := 0) dX7_describePerformer_25 (by decide) ?_
    refine V_cVg (As := [.int 0]) (rest := []) dX7_describePerformer_26 cuX7_282 (l_len0 hxs hg hL0) hb0.1 rfl ⟨Nat.le_of_ble_eq_true rfl, Nat.le_of_ble_eq_true rfl, Nat.le_of_ble_eq_true rfl, Nat.le_of_ble_eq_true rfl⟩ (Nat.le_of_ble_eq_true rfl) rfl (fun h1 q1 => ?_)
    obtain ⟨hL1, hF1⟩ := q1
    have hO1 := hO0.line_upd hF1 hL1
    obtain ⟨B1, ml1, hb1, -⟩ := id hL1
    obtain ⟨oS1, hS1⟩ := hO1.2.2.2.2.1
    refine V_aload_n dX7_describePerformer_29 0 rfl ?_
    refine gf_op_line hO1 dX7_describePerformer_30 flX7_39 ?_
    refine V_iload_n dX7_describePerformer_33 1 rfl ?_
    refine V_cVg (As := [.int (nI m)]) (rest := []) dX7_describePerformer_34 cuX7_330 (l_appI hxs hg hL1 (m := m) (by omega) (by simp only [List.length_append, List.length_cons, List.length_nil]; omega)) hb1.1 rfl ⟨Nat.le_of_ble_eq_true rfl, Nat.le_of_ble_eq_true rfl, Nat.le_of_ble_eq_true rfl, Nat.le_of_ble_eq_true rfl⟩ (Nat.le_of_ble_eq_true rfl) rfl (fun h2 q2 => ?_)
    obtain ⟨hL2, hF2⟩ := q2
    have hO2 := hO1.line_upd hF2 hL2
    obtain ⟨B2, ml2, hb2, -⟩ := id hL2
    obtain ⟨oS2, hS2⟩ := hO2.2.2.2.2.1
    refine V_aload_n dX7_describePerformer_37 0 rfl ?_
    refine gf_op_sheet hO2 dX7_describePerformer_38 flX7_12 ?_
    refine V_iload_n dX7_describePerformer_41 1 rfl ?_
    refine V_cVi (As := [.int (nI m)]) (rest := [.ref (x + 183)]) dX7_describePerformer_42 cvX7_105 (C_isOpen hxs hS2 (nI m)) hS2.1 rfl ⟨Nat.le_of_ble_eq_true rfl, Nat.le_of_ble_eq_true rfl, Nat.le_of_ble_eq_true rfl, Nat.le_of_ble_eq_true rfl⟩ (Nat.le_of_ble_eq_true rfl) rfl ?_
    refine V_if_eq (tgt := 53) dX7_describePerformer_45 (by decide) (fun c1 => ?_) (fun c1 => ?_)
    · have hz9 : (if U_isOpen S (nI m) = 0 then 45 else 111 : Nat) = 45 := if_pos c1
      refine V_bipush (v := 45) dX7_describePerformer_53 (by decide) ?_
      refine V_cVg (As := [.int 45]) (rest := []) dX7_describePerformer_55 cuX7_274 (l_appC hxs hg hL2 (b := 45) (by decide) (by simp only [List.length_append, List.length_cons, List.length_nil]; omega)) hb2.1 rfl ⟨Nat.le_of_ble_eq_true rfl, Nat.le_of_ble_eq_true rfl, Nat.le_of_ble_eq_true rfl, Nat.le_of_ble_eq_true rfl⟩ (Nat.le_of_ble_eq_true rfl) rfl (fun h3 q3 => ?_)
      obtain ⟨hL3, hF3⟩ := q3
      have hO3 := hO2.line_upd hF3 hL3
      obtain ⟨B3, ml3, hb3, -⟩ := id hL3
      obtain ⟨oS3, hS3⟩ := hO3.2.2.2.2.1
      refine V_pop dX7_describePerformer_58 rfl ?_
      refine V_aload_n dX7_describePerformer_59 0 rfl ?_
      refine gf_op_sheet hO3 dX7_describePerformer_60 flX7_12 ?_
      refine gf_sheet_owed hS3 dX7_describePerformer_63 flX7_87 ?_
      refine V_iload_n dX7_describePerformer_66 1 rfl ?_
      refine ld_sheet_owed hS3 dX7_describePerformer_67 hin ?_
      rw [hw1]
      by_cases hp : 0 < w
      · refine V_if_le (tgt := 93) dX7_describePerformer_68 (by decide) (fun c9 => absurd c9 (nI_nle hp (by omega))) (fun _ => ?_)
        refine V_aload_n dX7_describePerformer_71 0 rfl ?_
        refine gf_op_line hO3 dX7_describePerformer_72 flX7_39 ?_
        refine V_bipush (v := 33) dX7_describePerformer_75 (by decide) ?_
        refine V_cVg (As := [.int 33]) (rest := []) dX7_describePerformer_77 cuX7_274 (l_appC hxs hg hL3 (b := 33) (by decide) (by simp only [List.length_append, List.length_cons, List.length_nil]; omega)) hb3.1 rfl ⟨Nat.le_of_ble_eq_true rfl, Nat.le_of_ble_eq_true rfl, Nat.le_of_ble_eq_true rfl, Nat.le_of_ble_eq_true rfl⟩ (Nat.le_of_ble_eq_true rfl) rfl (fun h4 q4 => ?_)
        obtain ⟨hL4, hF4⟩ := q4
        have hO4 := hO3.line_upd hF4 hL4
        obtain ⟨B4, ml4, hb4, -⟩ := id hL4
        obtain ⟨oS4, hS4⟩ := hO4.2.2.2.2.1
        refine V_aload_n dX7_describePerformer_80 0 rfl ?_
        refine gf_op_sheet hO4 dX7_describePerformer_81 flX7_12 ?_
        refine gf_sheet_owed hS4 dX7_describePerformer_84 flX7_87 ?_
        refine V_iload_n dX7_describePerformer_87 1 rfl ?_
        refine ld_sheet_owed hS4 dX7_describePerformer_88 hin ?_
        rw [hw1]
        refine V_cVg (As := [.int (nI w)]) (rest := []) dX7_describePerformer_89 cuX7_330 (l_appI hxs hg hL4 (m := w) hw (by simp only [List.length_append, List.length_cons, List.length_nil]; omega)) hb4.1 rfl ⟨Nat.le_of_ble_eq_true rfl, Nat.le_of_ble_eq_true rfl, Nat.le_of_ble_eq_true rfl, Nat.le_of_ble_eq_true rfl⟩ (Nat.le_of_ble_eq_true rfl) rfl (fun h5 q5 => ?_)
        obtain ⟨hL5, hF5⟩ := q5
        have hO5 := hO4.line_upd hF5 hL5
        obtain ⟨B5, ml5, hb5, -⟩ := id hL5
        obtain ⟨oS5, hS5⟩ := hO5.2.2.2.2.1
        refine V_pop dX7_describePerformer_92 rfl ?_
        refine V_aload_n dX7_describePerformer_93 0 rfl ?_
        refine gf_op_line hO5 dX7_describePerformer_94 flX7_39 ?_
        refine V_cVg (As := []) (rest := []) (Q := fun hy => hy = h5) dX7_describePerformer_97 cuX7_269 (c_J4_length_8abf5 hxs hg hb5.1) hb5.1 rfl ⟨Nat.le_of_ble_eq_true rfl, Nat.le_of_ble_eq_true rfl, Nat.le_of_ble_eq_true rfl, Nat.le_of_ble_eq_true rfl⟩ (Nat.le_of_ble_eq_true rfl) rfl (fun hy ey => ?_)
        rw [ey]
        refine V_iret dX7_describePerformer_100 rfl ⟨Nat.le_of_ble_eq_true rfl, Nat.le_of_ble_eq_true rfl⟩ ?_
        have hD : D_perf m w (U_isOpen S (nI m)) = ([] : List Int32) ++ dec m ++ [nI 45] ++ [nI 33] ++ dec w := by unfold D_perf; rw [hz9, if_pos hp]; exact (List.append_assoc _ _ _).symm
        exact ⟨by rw [if_neg hh, hD] <;> rfl, _, by rw [if_neg hh, hD]; exact hO5⟩
      · refine V_if_le (tgt := 93) dX7_describePerformer_68 (by decide) (fun _ => ?_) (fun c9 => absurd (nI_le (by omega) (by decide)) c9)
        refine V_aload_n dX7_describePerformer_93 0 rfl ?_
        refine gf_op_line hO3 dX7_describePerformer_94 flX7_39 ?_
        refine V_cVg (As := []) (rest := []) (Q := fun hy => hy = h3) dX7_describePerformer_97 cuX7_269 (c_J4_length_8abf5 hxs hg hb3.1) hb3.1 rfl ⟨Nat.le_of_ble_eq_true rfl, Nat.le_of_ble_eq_true rfl, Nat.le_of_ble_eq_true rfl, Nat.le_of_ble_eq_true rfl⟩ (Nat.le_of_ble_eq_true rfl) rfl (fun hy ey => ?_)
        rw [ey]
        refine V_iret dX7_describePerformer_100 rfl ⟨Nat.le_of_ble_eq_true rfl, Nat.le_of_ble_eq_true rfl⟩ ?_
        have hD : D_perf m w (U_isOpen S (nI m)) = ([] : List Int32) ++ dec m ++ [nI 45] := by unfold D_perf; rw [hz9, if_neg hp]; exact List.append_nil _
        exact ⟨by rw [if_neg hh, hD] <;> rfl, _, by rw [if_neg hh, hD]; exact hO3⟩
    · have hz9 : (if U_isOpen S (nI m) = 0 then 45 else 111 : Nat) = 111 := if_neg c1
      refine V_bipush (v := 111) dX7_describePerformer_48 (by decide) ?_
      refine V_goto (tgt := 55) dX7_describePerformer_50 (by decide) ?_
      refine V_cVg (As := [.int 111]) (rest := []) dX7_describePerformer_55 cuX7_274 (l_appC hxs hg hL2 (b := 111) (by decide) (by simp only [List.length_append, List.length_cons, List.length_nil]; omega)) hb2.1 rfl ⟨Nat.le_of_ble_eq_true rfl, Nat.le_of_ble_eq_true rfl, Nat.le_of_ble_eq_true rfl, Nat.le_of_ble_eq_true rfl⟩ (Nat.le_of_ble_eq_true rfl) rfl (fun h3 q3 => ?_)
      obtain ⟨hL3, hF3⟩ := q3
      have hO3 := hO2.line_upd hF3 hL3
      obtain ⟨B3, ml3, hb3, -⟩ := id hL3
      obtain ⟨oS3, hS3⟩ := hO3.2.2.2.2.1
      refine V_pop dX7_describePerformer_58 rfl ?_
      refine V_aload_n dX7_describePerformer_59 0 rfl ?_
      refine gf_op_sheet hO3 dX7_describePerformer_60 flX7_12 ?_
      refine gf_sheet_owed hS3 dX7_describePerformer_63 flX7_87 ?_
      refine V_iload_n dX7_describePerformer_66 1 rfl ?_
      refine ld_sheet_owed hS3 dX7_describePerformer_67 hin ?_
      rw [hw1]
      by_cases hp : 0 < w
      · refine V_if_le (tgt := 93) dX7_describePerformer_68 (by decide) (fun c9 => absurd c9 (nI_nle hp (by omega))) (fun _ => ?_)
        refine V_aload_n dX7_describePerformer_71 0 rfl ?_
        refine gf_op_line hO3 dX7_describePerformer_72 flX7_39 ?_
        refine V_bipush (v := 33) dX7_describePerformer_75 (by decide) ?_
        refine V_cVg (As := [.int 33]) (rest := []) dX7_describePerformer_77 cuX7_274 (l_appC hxs hg hL3 (b := 33) (by decide) (by simp only [List.length_append, List.length_cons, List.length_nil]; omega)) hb3.1 rfl ⟨Nat.le_of_ble_eq_true rfl, Nat.le_of_ble_eq_true rfl, Nat.le_of_ble_eq_true rfl, Nat.le_of_ble_eq_true rfl⟩ (Nat.le_of_ble_eq_true rfl) rfl (fun h4 q4 => ?_)
        obtain ⟨hL4, hF4⟩ := q4
        have hO4 := hO3.line_upd hF4 hL4
        obtain ⟨B4, ml4, hb4, -⟩ := id hL4
        obtain ⟨oS4, hS4⟩ := hO4.2.2.2.2.1
        refine V_aload_n dX7_describePerformer_80 0 rfl ?_
        refine gf_op_sheet hO4 dX7_describePerformer_81 flX7_12 ?_
        refine gf_sheet_owed hS4 dX7_describePerformer_84 flX7_87 ?_
        refine V_iload_n dX7_describePerformer_87 1 rfl ?_
        refine ld_sheet_owed hS4 dX7_describePerformer_88 hin ?_
        rw [hw1]
        refine V_cVg (As := [.int (nI w)]) (rest := []) dX7_describePerformer_89 cuX7_330 (l_appI hxs hg hL4 (m := w) hw (by simp only [List.length_append, List.length_cons, List.length_nil]; omega)) hb4.1 rfl ⟨Nat.le_of_ble_eq_true rfl, Nat.le_of_ble_eq_true rfl, Nat.le_of_ble_eq_true rfl, Nat.le_of_ble_eq_true rfl⟩ (Nat.le_of_ble_eq_true rfl) rfl (fun h5 q5 => ?_)
        obtain ⟨hL5, hF5⟩ := q5
        have hO5 := hO4.line_upd hF5 hL5
        obtain ⟨B5, ml5, hb5, -⟩ := id hL5
        obtain ⟨oS5, hS5⟩ := hO5.2.2.2.2.1
        refine V_pop dX7_describePerformer_92 rfl ?_
        refine V_aload_n dX7_describePerformer_93 0 rfl ?_
        refine gf_op_line hO5 dX7_describePerformer_94 flX7_39 ?_
        refine V_cVg (As := []) (rest := []) (Q := fun hy => hy = h5) dX7_describePerformer_97 cuX7_269 (c_J4_length_8abf5 hxs hg hb5.1) hb5.1 rfl ⟨Nat.le_of_ble_eq_true rfl, Nat.le_of_ble_eq_true rfl, Nat.le_of_ble_eq_true rfl, Nat.le_of_ble_eq_true rfl⟩ (Nat.le_of_ble_eq_true rfl) rfl (fun hy ey => ?_)
        rw [ey]
        refine V_iret dX7_describePerformer_100 rfl ⟨Nat.le_of_ble_eq_true rfl, Nat.le_of_ble_eq_true rfl⟩ ?_
        have hD : D_perf m w (U_isOpen S (nI m)) = ([] : List Int32) ++ dec m ++ [nI 111] ++ [nI 33] ++ dec w := by unfold D_perf; rw [hz9, if_pos hp]; exact (List.append_assoc _ _ _).symm
        exact ⟨by rw [if_neg hh, hD] <;> rfl, _, by rw [if_neg hh, hD]; exact hO5⟩
      · refine V_if_le (tgt := 93) dX7_describePerformer_68 (by decide) (fun _ => ?_) (fun c9 => absurd (nI_le (by omega) (by decide)) c9)
        refine V_aload_n dX7_describePerformer_93 0 rfl ?_
        refine gf_op_line hO3 dX7_describePerformer_94 flX7_39 ?_
        refine V_cVg (As := []) (rest := []) (Q := fun hy => hy = h3) dX7_describePerformer_97 cuX7_269 (c_J4_length_8abf5 hxs hg hb3.1) hb3.1 rfl ⟨Nat.le_of_ble_eq_true rfl, Nat.le_of_ble_eq_true rfl, Nat.le_of_ble_eq_true rfl, Nat.le_of_ble_eq_true rfl⟩ (Nat.le_of_ble_eq_true rfl) rfl (fun hy ey => ?_)
        rw [ey]
        refine V_iret dX7_describePerformer_100 rfl ⟨Nat.le_of_ble_eq_true rfl, Nat.le_of_ble_eq_true rfl⟩ ?_
        have hD : D_perf m w (U_isOpen S (nI m)) = ([] : List Int32) ++ dec m ++ [nI 111] := by unfold D_perf; rw [hz9, if_neg hp]; exact List.append_nil _
        exact ⟨by rw [if_neg hh, hD] <;> rfl, _, by rw [if_neg hh, hD]; exact hO3⟩
set_option maxRecDepth 20000 in
set_option maxHeartbeats 4000000 in
theorem c_X7_describePerformerx {X : KX} (hxs : X.1.stackTraces = false) (hg : GX X) {h0 : AH} {x : Nat} {S : SH} {past : List SH} {N : SH} {hs le lc lf : Int32} {txt ln : List Int32} (hW : OpW X h0 x S past N hs le lc lf txt ln) {p : Int32} (hh : U_hasPerformer S p = 0) : Ct X mX7_describePerformer [.ref x, .int p] h0 (zT (["java/lang/IndexOutOfBoundsException"] : List String) (.inr 0) (fun h' => OpW X h' x S past N hs le lc lf txt ln)) := by
  obtain ⟨pr, hO0⟩ := hW
  obtain ⟨oS0, hS0⟩ := hO0.2.2.2.2.1
  refine Ct.of (by decide) rfl (Nat.le_of_ble_eq_true rfl) rfl hxs ?_
  refine V_aload_n dX7_describePerformer_0 0 rfl ?_
  refine gf_op_sheet hO0 dX7_describePerformer_1 flX7_12 ?_
  refine V_iload_n dX7_describePerformer_4 1 rfl ?_
  refine V_cVi (As := [.int p]) (rest := []) dX7_describePerformer_5 cvX7_78 (C_hasPerformer hxs hS0 p) hS0.1 rfl ⟨Nat.le_of_ble_eq_true rfl, Nat.le_of_ble_eq_true rfl, Nat.le_of_ble_eq_true rfl, Nat.le_of_ble_eq_true rfl⟩ (Nat.le_of_ble_eq_true rfl) rfl ?_
  refine V_if_ne (tgt := 21) dX7_describePerformer_8 (by decide) (fun c9 => absurd c9 (fun q9 => q9 hh)) (fun _ => ?_)
  exact V_throwS (E := "java/lang/IndexOutOfBoundsException") (names := ["java/lang/RuntimeException", "java/lang/Exception"]) rfl (by decide) (by decide) tk_82.1 tk_82.2 ta_86 hg.1 hg.p (hg.2.1 1 _ _ _ rfl) dX7_describePerformer_11 dX7_describePerformer_14 dX7_describePerformer_15 dX7_describePerformer_17 dX7_describePerformer_20 (Nat.le_of_ble_eq_true rfl) (Nat.le_of_ble_eq_true rfl) ⟨Nat.le_of_ble_eq_true rfl, Nat.le_of_ble_eq_true rfl⟩ (fun q9 hq9 => ⟨rfl, _, hO0.bump hq9⟩)
set_option maxRecDepth 20000 in
set_option maxHeartbeats 4000000 in
theorem c_X7_describeCue {X : KX} (hxs : X.1.stackTraces = false) (hg : GX X) {ha : AH} {x : Nat} {S : SH} {past : List SH} {N : SH} {hs le lc lf : Int32} {txt ln : List Int32} (hW : OpW X ha x S past N hs le lc lf txt ln) {cue slot : Int32} (hps : T_X7_pendingSlot S cue = .inl slot) {c k pl b z : Nat} (hc : cue = nI c) (hc2 : c < 1000) (hk : rd (z_kinds S) slot = nI k) (hk2 : k < 128) (hpl : rd (z_players S) slot = nI pl) (hpl2 : k ≠ 104 → pl < 10) (hb : rd (z_beats S) slot = nI b) (hb2 : b < 1000) (hz : rd (z_sizes S) slot = nI z) (hz2 : z < 10) : Ct X mX7_describeCue [.ref x, .int cue] ha (zT (["java/util/NoSuchElementException"] : List String) (.inl (nI (D_cue c k pl b z).length)) (fun h' => OpW X h' x S past N hs le lc lf txt (D_cue c k pl b z))) := by
  obtain ⟨pr, hOa⟩ := hW
  have hin := t_pend_in hps
  subst hc
  refine Ct.of (by decide) rfl (Nat.le_of_ble_eq_true rfl) rfl hxs ?_
  have l1 := dec_l3 hc2
  have l2 := dec_l3 hb2
  have l3 := dec_l1 hz2
  refine V_aload_n dX7_describeCue_0 0 rfl ?_
  refine V_iload_n dX7_describeCue_1 1 rfl ?_
  refine V_cVt (As := [.int (nI c)]) (rest := []) dX7_describeCue_2 cvX7_180 (c_X7_pendingSlot hxs hg ⟨_, hOa⟩ (nI c)) hOa.1 rfl ⟨Nat.le_of_ble_eq_true rfl, Nat.le_of_ble_eq_true rfl, Nat.le_of_ble_eq_true rfl, Nat.le_of_ble_eq_true rfl⟩ (Nat.le_of_ble_eq_true rfl) rfl (fun v9 h0 e9 q9 => ?_) (fun j9 h0 e9 q9 => ?_)
  · rw [hps] at e9
    cases e9
    obtain ⟨pr0, hO0⟩ := q9
    obtain ⟨oS0, hS0⟩ := hO0.2.2.2.2.1
    have hL0 := hO0.2.2.2.2.2.2.2.2.2
    obtain ⟨B0, ml0, hb0, -⟩ := id hL0
    refine V_istore_n (lv' := [(2, .int slot), (0, .ref x), (1, .int (nI c))]) dX7_describeCue_5 rfl (by decide) rfl ?_
    refine V_aload_n dX7_describeCue_6 1 rfl ?_
    refine gf_op_sheet hO0 dX7_describeCue_7 flX7_12 ?_
    refine gf_sheet_cues hS0 dX7_describeCue_10 flX7_148 ?_
    refine V_astore_n (lv' := [(3, .ref (x + 1 + 1)), (2, .int slot), (0, .ref x), (1, .int (nI c))]) dX7_describeCue_13 rfl (by decide) rfl ?_
    refine V_aload_n dX7_describeCue_14 2 rfl ?_
    refine gf_op_line hO0 dX7_describeCue_15 flX7_39 ?_
    refine V_iconst (v := 0) dX7_describeCue_18 (by decide) ?_
    refine V_cVg (As := [.int 0]) (rest := []) dX7_describeCue_19 cuX7_282 (l_len0 hxs hg hL0) hb0.1 rfl ⟨Nat.le_of_ble_eq_true rfl, Nat.le_of_ble_eq_true rfl, Nat.le_of_ble_eq_true rfl, Nat.le_of_ble_eq_true rfl⟩ (Nat.le_of_ble_eq_true rfl) rfl (fun h1 q1 => ?_)
    obtain ⟨hL1, hF1⟩ := q1
    have hO1 := hO0.line_upd hF1 hL1
    obtain ⟨B1, ml1, hb1, -⟩ := id hL1
    obtain ⟨oS1, hS1⟩ := hO1.2.2.2.2.1
    refine V_aload_n dX7_describeCue_22 2 rfl ?_
    refine gf_op_line hO1 dX7_describeCue_23 flX7_39 ?_
    refine V_bipush (v := 35) dX7_describeCue_26 (by decide) ?_
    refine V_cVg (As := [.int 35]) (rest := []) dX7_describeCue_28 cuX7_274 (l_appC hxs hg hL1 (b := 35) (by decide) (by simp only [List.length_append, List.length_cons, List.length_nil]; omega)) hb1.1 rfl ⟨Nat.le_of_ble_eq_true rfl, Nat.le_of_ble_eq_true rfl, Nat.le_of_ble_eq_true rfl, Nat.le_of_ble_eq_true rfl⟩ (Nat.le_of_ble_eq_true rfl) rfl (fun h2 q2 => ?_)
    obtain ⟨hL2, hF2⟩ := q2
    have hO2 := hO1.line_upd hF2 hL2
    obtain ⟨B2, ml2, hb2, -⟩ := id hL2
    obtain ⟨oS2, hS2⟩ := hO2.2.2.2.2.1
    refine V_iload_n dX7_describeCue_31 3 rfl ?_
    refine V_cVg (As := [.int (nI c)]) (rest := []) dX7_describeCue_32 cuX7_330 (l_appI hxs hg hL2 (m := c) (by omega) (by simp only [List.length_append, List.length_cons, List.length_nil]; omega)) hb2.1 rfl ⟨Nat.le_of_ble_eq_true rfl, Nat.le_of_ble_eq_true rfl, Nat.le_of_ble_eq_true rfl, Nat.le_of_ble_eq_true rfl⟩ (Nat.le_of_ble_eq_true rfl) rfl (fun h3 q3 => ?_)
    obtain ⟨hL3, hF3⟩ := q3
    have hO3 := hO2.line_upd hF3 hL3
    obtain ⟨B3, ml3, hb3, -⟩ := id hL3
    obtain ⟨oS3, hS3⟩ := hO3.2.2.2.2.1
    refine V_aload_n dX7_describeCue_35 0 rfl ?_
    refine gf_tree_kinds hS3.2.1 dX7_describeCue_36 flX7_183 ?_
    refine V_iload_n dX7_describeCue_39 1 rfl ?_
    refine ld_tree_kinds hS3.2.1 dX7_describeCue_40 hin ?_
    rw [hk]
    refine V_cVg (As := [.int (nI k)]) (rest := []) dX7_describeCue_41 cuX7_274 (l_appC hxs hg hL3 (b := k) hk2 (by simp only [List.length_append, List.length_cons, List.length_nil]; omega)) hb3.1 rfl ⟨Nat.le_of_ble_eq_true rfl, Nat.le_of_ble_eq_true rfl, Nat.le_of_ble_eq_true rfl, Nat.le_of_ble_eq_true rfl⟩ (Nat.le_of_ble_eq_true rfl) rfl (fun h4 q4 => ?_)
    obtain ⟨hL4, hF4⟩ := q4
    have hO4 := hO3.line_upd hF4 hL4
    obtain ⟨B4, ml4, hb4, -⟩ := id hL4
    obtain ⟨oS4, hS4⟩ := hO4.2.2.2.2.1
    refine V_pop dX7_describeCue_44 rfl ?_
    refine V_aload_n dX7_describeCue_45 0 rfl ?_
    refine gf_tree_kinds hS4.2.1 dX7_describeCue_46 flX7_183 ?_
    refine V_iload_n dX7_describeCue_49 1 rfl ?_
    refine ld_tree_kinds hS4.2.1 dX7_describeCue_50 hin ?_
    rw [hk]
    refine V_bipush (v := 104) dX7_describeCue_51 (by decide) ?_
    by_cases h104 : k = 104
    · refine V_icmp_eq (tgt := 70) dX7_describeCue_53 (by decide) (fun _ => ?_) (fun c9 => absurd (congrArg nI h104) c9)
      refine V_aload_n dX7_describeCue_70 2 rfl ?_
      refine gf_op_line hO4 dX7_describeCue_71 flX7_39 ?_
      refine V_bipush (v := 64) dX7_describeCue_74 (by decide) ?_
      refine V_cVg (As := [.int 64]) (rest := []) dX7_describeCue_76 cuX7_274 (l_appC hxs hg hL4 (b := 64) (by decide) (by simp only [List.length_append, List.length_cons, List.length_nil]; omega)) hb4.1 rfl ⟨Nat.le_of_ble_eq_true rfl, Nat.le_of_ble_eq_true rfl, Nat.le_of_ble_eq_true rfl, Nat.le_of_ble_eq_true rfl⟩ (Nat.le_of_ble_eq_true rfl) rfl (fun h5 q5 => ?_)
      obtain ⟨hL5, hF5⟩ := q5
      have hO5 := hO4.line_upd hF5 hL5
      obtain ⟨B5, ml5, hb5, -⟩ := id hL5
      obtain ⟨oS5, hS5⟩ := hO5.2.2.2.2.1
      refine V_aload_n dX7_describeCue_79 0 rfl ?_
      refine gf_tree_beats hS5.2.1 dX7_describeCue_80 flX7_177 ?_
      refine V_iload_n dX7_describeCue_83 1 rfl ?_
      refine ld_tree_beats hS5.2.1 dX7_describeCue_84 hin ?_
      rw [hb]
      refine V_cVg (As := [.int (nI b)]) (rest := []) dX7_describeCue_85 cuX7_330 (l_appI hxs hg hL5 (m := b) (by omega) (by simp only [List.length_append, List.length_cons, List.length_nil]; omega)) hb5.1 rfl ⟨Nat.le_of_ble_eq_true rfl, Nat.le_of_ble_eq_true rfl, Nat.le_of_ble_eq_true rfl, Nat.le_of_ble_eq_true rfl⟩ (Nat.le_of_ble_eq_true rfl) rfl (fun h6 q6 => ?_)
      obtain ⟨hL6, hF6⟩ := q6
      have hO6 := hO5.line_upd hF6 hL6
      obtain ⟨B6, ml6, hb6, -⟩ := id hL6
      obtain ⟨oS6, hS6⟩ := hO6.2.2.2.2.1
      refine V_bipush (v := 61) dX7_describeCue_88 (by decide) ?_
      refine V_cVg (As := [.int 61]) (rest := []) dX7_describeCue_90 cuX7_274 (l_appC hxs hg hL6 (b := 61) (by decide) (by simp only [List.length_append, List.length_cons, List.length_nil]; omega)) hb6.1 rfl ⟨Nat.le_of_ble_eq_true rfl, Nat.le_of_ble_eq_true rfl, Nat.le_of_ble_eq_true rfl, Nat.le_of_ble_eq_true rfl⟩ (Nat.le_of_ble_eq_true rfl) rfl (fun h7 q7 => ?_)
      obtain ⟨hL7, hF7⟩ := q7
      have hO7 := hO6.line_upd hF7 hL7
      obtain ⟨B7, ml7, hb7, -⟩ := id hL7
      obtain ⟨oS7, hS7⟩ := hO7.2.2.2.2.1
      refine V_aload_n dX7_describeCue_93 0 rfl ?_
      refine gf_tree_sizes hS7.2.1 dX7_describeCue_94 flX7_187 ?_
      refine V_iload_n dX7_describeCue_97 1 rfl ?_
      refine ld_tree_sizes hS7.2.1 dX7_describeCue_98 hin ?_
      rw [hz]
      refine V_cVg (As := [.int (nI z)]) (rest := []) dX7_describeCue_99 cuX7_330 (l_appI hxs hg hL7 (m := z) (by omega) (by simp only [List.length_append, List.length_cons, List.length_nil]; omega)) hb7.1 rfl ⟨Nat.le_of_ble_eq_true rfl, Nat.le_of_ble_eq_true rfl, Nat.le_of_ble_eq_true rfl, Nat.le_of_ble_eq_true rfl⟩ (Nat.le_of_ble_eq_true rfl) rfl (fun h8 q8 => ?_)
      obtain ⟨hL8, hF8⟩ := q8
      have hO8 := hO7.line_upd hF8 hL8
      obtain ⟨B8, ml8, hb8, -⟩ := id hL8
      obtain ⟨oS8, hS8⟩ := hO8.2.2.2.2.1
      refine V_pop dX7_describeCue_102 rfl ?_
      refine V_aload_n dX7_describeCue_103 2 rfl ?_
      refine gf_op_line hO8 dX7_describeCue_104 flX7_39 ?_
      refine V_cVg (As := []) (rest := []) (Q := fun hy => hy = h8) dX7_describeCue_107 cuX7_269 (c_J4_length_8abf5 hxs hg hb8.1) hb8.1 rfl ⟨Nat.le_of_ble_eq_true rfl, Nat.le_of_ble_eq_true rfl, Nat.le_of_ble_eq_true rfl, Nat.le_of_ble_eq_true rfl⟩ (Nat.le_of_ble_eq_true rfl) rfl (fun hy ey => ?_)
      rw [ey]
      refine V_iret dX7_describeCue_110 rfl ⟨Nat.le_of_ble_eq_true rfl, Nat.le_of_ble_eq_true rfl⟩ ?_
      have hD : D_cue c k pl b z = ([] : List Int32) ++ [nI 35] ++ dec c ++ [nI k] ++ [nI 64] ++ dec b ++ [nI 61] ++ dec z := by unfold D_cue; rw [if_pos h104, List.append_nil]
      exact ⟨by rw [hD] <;> rfl, _, by rw [hD]; exact hO8⟩
    · have l4 := dec_l1 (hpl2 h104)
      have hpl3 := hpl2 h104
      refine V_icmp_eq (tgt := 70) dX7_describeCue_53 (by decide) (fun c9 => absurd c9 (fun e9 => h104 ((nI_eq (by omega) (by decide)).mp e9))) (fun _ => ?_)
      refine V_aload_n dX7_describeCue_56 2 rfl ?_
      refine gf_op_line hO4 dX7_describeCue_57 flX7_39 ?_
      refine V_aload_n dX7_describeCue_60 0 rfl ?_
      refine gf_tree_players hS4.2.1 dX7_describeCue_61 flX7_192 ?_
      refine V_iload_n dX7_describeCue_64 1 rfl ?_
      refine ld_tree_players hS4.2.1 dX7_describeCue_65 hin ?_
      rw [hpl]
      refine V_cVg (As := [.int (nI pl)]) (rest := []) dX7_describeCue_66 cuX7_330 (l_appI hxs hg hL4 (m := pl) (by omega) (by simp only [List.length_append, List.length_cons, List.length_nil]; omega)) hb4.1 rfl ⟨Nat.le_of_ble_eq_true rfl, Nat.le_of_ble_eq_true rfl, Nat.le_of_ble_eq_true rfl, Nat.le_of_ble_eq_true rfl⟩ (Nat.le_of_ble_eq_true rfl) rfl (fun h5 q5 => ?_)
      obtain ⟨hL5, hF5⟩ := q5
      have hO5 := hO4.line_upd hF5 hL5
      obtain ⟨B5, ml5, hb5, -⟩ := id hL5
      obtain ⟨oS5, hS5⟩ := hO5.2.2.2.2.1
      refine V_pop dX7_describeCue_69 rfl ?_
      refine V_aload_n dX7_describeCue_70 2 rfl ?_
      refine gf_op_line hO5 dX7_describeCue_71 flX7_39 ?_
      refine V_bipush (v := 64) dX7_describeCue_74 (by decide) ?_
      refine V_cVg (As := [.int 64]) (rest := []) dX7_describeCue_76 cuX7_274 (l_appC hxs hg hL5 (b := 64) (by decide) (by simp only [List.length_append, List.length_cons, List.length_nil]; omega)) hb5.1 rfl ⟨Nat.le_of_ble_eq_true rfl, Nat.le_of_ble_eq_true rfl, Nat.le_of_ble_eq_true rfl, Nat.le_of_ble_eq_true rfl⟩ (Nat.le_of_ble_eq_true rfl) rfl (fun h6 q6 => ?_)
      obtain ⟨hL6, hF6⟩ := q6
      have hO6 := hO5.line_upd hF6 hL6
      obtain ⟨B6, ml6, hb6, -⟩ := id hL6
      obtain ⟨oS6, hS6⟩ := hO6.2.2.2.2.1
      refine V_aload_n dX7_describeCue_79 0 rfl ?_
      refine gf_tree_beats hS6.2.1 dX7_describeCue_80 flX7_177 ?_
      refine V_iload_n dX7_describeCue_83 1 rfl ?_
      refine ld_tree_beats hS6.2.1 dX7_describeCue_84 hin ?_
      rw [hb]
      refine V_cVg (As := [.int (nI b)]) (rest := []) dX7_describeCue_85 cuX7_330 (l_appI hxs hg hL6 (m := b) (by omega) (by simp only [List.length_append, List.length_cons, List.length_nil]; omega)) hb6.1 rfl ⟨Nat.le_of_ble_eq_true rfl, Nat.le_of_ble_eq_true rfl, Nat.le_of_ble_eq_true rfl, Nat.le_of_ble_eq_true rfl⟩ (Nat.le_of_ble_eq_true rfl) rfl (fun h7 q7 => ?_)
      obtain ⟨hL7, hF7⟩ := q7
      have hO7 := hO6.line_upd hF7 hL7
      obtain ⟨B7, ml7, hb7, -⟩ := id hL7
      obtain ⟨oS7, hS7⟩ := hO7.2.2.2.2.1
      refine V_bipush (v := 61) dX7_describeCue_88 (by decide) ?_
      refine V_cVg (As := [.int 61]) (rest := []) dX7_describeCue_90 cuX7_274 (l_appC hxs hg hL7 (b := 61) (by decide) (by simp only [List.length_append, List.length_cons, List.length_nil]; omega)) hb7.1 rfl ⟨Nat.le_of_ble_eq_true rfl, Nat.le_of_ble_eq_true rfl, Nat.le_of_ble_eq_true rfl, Nat.le_of_ble_eq_true rfl⟩ (Nat.le_of_ble_eq_true rfl) rfl (fun h8 q8 => ?_)
      obtain ⟨hL8, hF8⟩ := q8
      have hO8 := hO7.line_upd hF8 hL8
      obtain ⟨B8, ml8, hb8, -⟩ := id hL8
      obtain ⟨oS8, hS8⟩ := hO8.2.2.2.2.1
      refine V_aload_n dX7_describeCue_93 0 rfl ?_
      refine gf_tree_sizes hS8.2.1 dX7_describeCue_94 flX7_187 ?_
      refine V_iload_n dX7_describeCue_97 1 rfl ?_
      refine ld_tree_sizes hS8.2.1 dX7_describeCue_98 hin ?_
      rw [hz]
      refine V_cVg (As := [.int (nI z)]) (rest := []) dX7_describeCue_99 cuX7_330 (l_appI hxs hg hL8 (m := z) (by omega) (by simp only [List.length_append, List.length_cons, List.length_nil]; omega)) hb8.1 rfl ⟨Nat.le_of_ble_eq_true rfl, Nat.le_of_ble_eq_true rfl, Nat.le_of_ble_eq_true rfl, Nat.le_of_ble_eq_true rfl⟩ (Nat.le_of_ble_eq_true rfl) rfl (fun h9 q9 => ?_)
      obtain ⟨hL9, hF9⟩ := q9
      have hO9 := hO8.line_upd hF9 hL9
      obtain ⟨B9, ml9, hb9, -⟩ := id hL9
      obtain ⟨oS9, hS9⟩ := hO9.2.2.2.2.1
      refine V_pop dX7_describeCue_102 rfl ?_
      refine V_aload_n dX7_describeCue_103 2 rfl ?_
      refine gf_op_line hO9 dX7_describeCue_104 flX7_39 ?_
      refine V_cVg (As := []) (rest := []) (Q := fun hy => hy = h9) dX7_describeCue_107 cuX7_269 (c_J4_length_8abf5 hxs hg hb9.1) hb9.1 rfl ⟨Nat.le_of_ble_eq_true rfl, Nat.le_of_ble_eq_true rfl, Nat.le_of_ble_eq_true rfl, Nat.le_of_ble_eq_true rfl⟩ (Nat.le_of_ble_eq_true rfl) rfl (fun hy ey => ?_)
      rw [ey]
      refine V_iret dX7_describeCue_110 rfl ⟨Nat.le_of_ble_eq_true rfl, Nat.le_of_ble_eq_true rfl⟩ ?_
      have hD : D_cue c k pl b z = ([] : List Int32) ++ [nI 35] ++ dec c ++ [nI k] ++ dec pl ++ [nI 64] ++ dec b ++ [nI 61] ++ dec z := by unfold D_cue; rw [if_neg h104]
      exact ⟨by rw [hD] <;> rfl, _, by rw [hD]; exact hO9⟩
  · rw [hps] at e9
    cases e9
set_option maxRecDepth 20000 in
set_option maxHeartbeats 4000000 in
theorem c_X7_describeCuex {X : KX} (hxs : X.1.stackTraces = false) (hg : GX X) {ha : AH} {x : Nat} {S : SH} {past : List SH} {N : SH} {hs le lc lf : Int32} {txt ln : List Int32} (hW : OpW X ha x S past N hs le lc lf txt ln) {cue : Int32} {j : Nat} (hps : T_X7_pendingSlot S cue = .inr j) : Ct X mX7_describeCue [.ref x, .int cue] ha (zT (["java/util/NoSuchElementException"] : List String) (.inr j) (fun h' => OpW X h' x S past N hs le lc lf txt ln)) := by
  obtain ⟨pr, hOa⟩ := hW
  refine Ct.of (by decide) rfl (Nat.le_of_ble_eq_true rfl) rfl hxs ?_
  refine V_aload_n dX7_describeCue_0 0 rfl ?_
  refine V_iload_n dX7_describeCue_1 1 rfl ?_
  refine V_cVt (As := [.int cue]) (rest := []) dX7_describeCue_2 cvX7_180 (c_X7_pendingSlot hxs hg ⟨_, hOa⟩ cue) hOa.1 rfl ⟨Nat.le_of_ble_eq_true rfl, Nat.le_of_ble_eq_true rfl, Nat.le_of_ble_eq_true rfl, Nat.le_of_ble_eq_true rfl⟩ (Nat.le_of_ble_eq_true rfl) rfl (fun v9 h0 e9 q9 => ?_) (fun j9 h0 e9 q9 => ?_)
  · rw [hps] at e9
    cases e9
  · rw [hps] at e9
    cases e9
    exact VX_out rfl ⟨Nat.le_of_ble_eq_true rfl, Nat.le_of_ble_eq_true rfl⟩ ⟨rfl, q9⟩
def T_X7_lineAt (ln : List Int32) (i : Int32) : Int32 ⊕ Nat := if i < 0 then .inr 0 else if i < nI ln.length then .inl (rd ln i) else .inr 0
set_option maxRecDepth 20000 in
set_option maxHeartbeats 4000000 in
theorem c_X7_lineAt {X : KX} (hxs : X.1.stackTraces = false) (hg : GX X) {ha : AH} {x : Nat} {S : SH} {past : List SH} {N : SH} {hs le lc lf : Int32} {txt ln : List Int32} (hW : OpW X ha x S past N hs le lc lf txt ln) (i : Int32) : Ct X mX7_lineAt [.ref x, .int i] ha (zT (["java/lang/IndexOutOfBoundsException"] : List String) (T_X7_lineAt ln i) (fun h' => OpW X h' x S past N hs le lc lf txt ln)) := by
  obtain ⟨pr, hO0⟩ := hW
  have hL0 := hO0.2.2.2.2.2.2.2.2.2
  obtain ⟨B0, ml0, hb0, hB0, hT0⟩ := id hL0
  have hl9 := hT0.1
  refine Ct.of (by decide) rfl (Nat.le_of_ble_eq_true rfl) rfl hxs ?_
  by_cases h1 : i < 0
  · refine V_iload_n dX7_lineAt_0 1 rfl ?_
    refine V_if_lt (tgt := 15) dX7_lineAt_1 (by decide) (fun _ => ?_) (fun c9 => absurd h1 c9)
    exact V_throwSW (E := "java/lang/IndexOutOfBoundsException") (names := ["java/lang/RuntimeException", "java/lang/Exception"]) rfl (by decide) (by decide) tk_82.1 tk_82.2 ta_86 hg.1 hg.p (hg.2.1 26 _ _ _ rfl) dX7_lineAt_15 dX7_lineAt_18 dX7_lineAt_19 dX7_lineAt_22 dX7_lineAt_25 (Nat.le_of_ble_eq_true rfl) (Nat.le_of_ble_eq_true rfl) ⟨Nat.le_of_ble_eq_true rfl, Nat.le_of_ble_eq_true rfl⟩ (fun q9 hq9 => ⟨by unfold T_X7_lineAt; rw [if_pos h1]; rfl, _, hO0.bump hq9⟩)
  · obtain ⟨j, hj, rfl⟩ := nI_of h1
    by_cases h2 : j < ln.length
    · refine V_iload_n dX7_lineAt_0 1 rfl ?_
      refine V_if_lt (tgt := 15) dX7_lineAt_1 (by decide) (fun c9 => absurd c9 h1) (fun _ => ?_)
      refine V_iload_n dX7_lineAt_4 1 rfl ?_
      refine V_aload_n dX7_lineAt_5 0 rfl ?_
      refine gf_op_line hO0 dX7_lineAt_6 flX7_39 ?_
      refine V_cVg (As := []) (rest := [.int (nI j)]) (Q := fun hy => hy = ha) dX7_lineAt_9 cuX7_269 (c_J4_length_8abf5 hxs hg hb0.1) hb0.1 rfl ⟨Nat.le_of_ble_eq_true rfl, Nat.le_of_ble_eq_true rfl, Nat.le_of_ble_eq_true rfl, Nat.le_of_ble_eq_true rfl⟩ (Nat.le_of_ble_eq_true rfl) rfl (fun hy ey => ?_)
      rw [ey]
      refine V_icmp_lt (tgt := 26) dX7_lineAt_12 (by decide) (fun _ => ?_) (fun c9 => absurd (nI_lt h2 (by omega)) c9)
      refine V_aload_n dX7_lineAt_26 0 rfl ?_
      refine gf_op_line hO0 dX7_lineAt_27 flX7_39 ?_
      refine V_iload_n dX7_lineAt_30 1 rfl ?_
      obtain ⟨q0, hq0, e0⟩ := hT0.2.2 j h2
      refine V_cVg (As := [.int (nI j)]) (rest := []) (Q := fun h9 => h9 = ha) dX7_lineAt_31 cuX7_335 (c_charAt hxs hg hb0 hl9 h2 hq0 ((hT0.2.1 j h2).trans e0)) hb0.1 rfl ⟨Nat.le_of_ble_eq_true rfl, Nat.le_of_ble_eq_true rfl, Nat.le_of_ble_eq_true rfl, Nat.le_of_ble_eq_true rfl⟩ (Nat.le_of_ble_eq_true rfl) rfl (fun h9 e9 => ?_)
      rw [e9]
      exact V_zret dX7_lineAt_34 rfl (narc_s q0 hq0) ⟨Nat.le_of_ble_eq_true rfl, Nat.le_of_ble_eq_true rfl⟩ ⟨by unfold T_X7_lineAt; rw [if_neg h1, if_pos (nI_lt h2 (by omega)), show rd ln (nI j) = nI q0 by unfold rd; rw [nI_clamp (by omega)]; exact e0]; rfl, _, hO0⟩
    · refine V_iload_n dX7_lineAt_0 1 rfl ?_
      refine V_if_lt (tgt := 15) dX7_lineAt_1 (by decide) (fun c9 => absurd c9 h1) (fun _ => ?_)
      refine V_iload_n dX7_lineAt_4 1 rfl ?_
      refine V_aload_n dX7_lineAt_5 0 rfl ?_
      refine gf_op_line hO0 dX7_lineAt_6 flX7_39 ?_
      refine V_cVg (As := []) (rest := [.int (nI j)]) (Q := fun hy => hy = ha) dX7_lineAt_9 cuX7_269 (c_J4_length_8abf5 hxs hg hb0.1) hb0.1 rfl ⟨Nat.le_of_ble_eq_true rfl, Nat.le_of_ble_eq_true rfl, Nat.le_of_ble_eq_true rfl, Nat.le_of_ble_eq_true rfl⟩ (Nat.le_of_ble_eq_true rfl) rfl (fun hy ey => ?_)
      rw [ey]
      refine V_icmp_lt (tgt := 26) dX7_lineAt_12 (by decide) (fun c9 => absurd c9 (nI_nlt (Nat.le_of_not_lt h2) hj)) (fun _ => ?_)
      exact V_throwSW (E := "java/lang/IndexOutOfBoundsException") (names := ["java/lang/RuntimeException", "java/lang/Exception"]) rfl (by decide) (by decide) tk_82.1 tk_82.2 ta_86 hg.1 hg.p (hg.2.1 26 _ _ _ rfl) dX7_lineAt_15 dX7_lineAt_18 dX7_lineAt_19 dX7_lineAt_22 dX7_lineAt_25 (Nat.le_of_ble_eq_true rfl) (Nat.le_of_ble_eq_true rfl) ⟨Nat.le_of_ble_eq_true rfl, Nat.le_of_ble_eq_true rfl⟩ (fun q9 hq9 => ⟨by unfold T_X7_lineAt; rw [if_neg h1, if_neg (nI_nlt (Nat.le_of_not_lt h2) hj)]; rfl, _, hO0.bump hq9⟩)
set_option maxRecDepth 20000 in
set_option maxHeartbeats 4000000 in
theorem c_X7_meanFinesx {X : KX} (hxs : X.1.stackTraces = false) (hg : GX X) {h : AH} {x : Nat} {S : SH} {past : List SH} {N : SH} {hs le lc lf : Int32} {txt ln : List Int32} (hW : OpW X h x S past N hs le lc lf txt ln) (hp : z_perf S = 0) : Ct X mX7_meanFines [.ref x] h (zT (["java/lang/ArithmeticException"] : List String) (.inr 0) (fun h' => OpW X h' x S past N hs le lc lf txt ln)) := by
  obtain ⟨pr, hO⟩ := hW
  obtain ⟨oS, hS⟩ := hO.2.2.2.2.1
  refine Ct.of (by decide) rfl (Nat.le_of_ble_eq_true rfl) rfl hxs ?_
  refine V_aload_n dX7_meanFines_0 0 rfl ?_
  refine gf_op_sheet hO dX7_meanFines_1 flX7_12 ?_
  refine gf_sheet_perf hS dX7_meanFines_4 flX7_75 ?_
  refine V_if_ne (tgt := 21) dX7_meanFines_7 (by decide) (fun c9 => absurd c9 (fun q9 => q9 hp)) (fun _ => ?_)
  exact V_throwSW (E := "java/lang/ArithmeticException") (names := ["java/lang/RuntimeException", "java/lang/Exception"]) rfl (by decide) (by decide) tk_339.1 tk_339.2 ta_343 hg.1 hg.p (hg.2.1 21 _ _ _ rfl) dX7_meanFines_10 dX7_meanFines_13 dX7_meanFines_14 dX7_meanFines_17 dX7_meanFines_20 (Nat.le_of_ble_eq_true rfl) (Nat.le_of_ble_eq_true rfl) ⟨Nat.le_of_ble_eq_true rfl, Nat.le_of_ble_eq_true rfl⟩ (fun q9 hq9 => ⟨rfl, _, hO.bump hq9⟩)
set_option maxRecDepth 20000 in
set_option maxHeartbeats 4000000 in
theorem c_X7_meanFines {X : KX} (hxs : X.1.stackTraces = false) (hg : GX X) {h : AH} {x : Nat} {S : SH} {past : List SH} {N : SH} {hs le lc lf : Int32} {txt ln : List Int32} (hW : OpW X h x S past N hs le lc lf txt ln) (hp : ¬ z_perf S = 0) (hne : vf_n64 (FP.ddiv (FP.i2d (U_owedTotal S)) (FP.i2d (z_perf S)))) : Ct X mX7_meanFines [.ref x] h (zM (some (.double (FP.ddiv (FP.i2d (U_owedTotal S)) (FP.i2d (z_perf S))))) (fun h' => OpW X h' x S past N hs le lc lf txt ln)) := by
  obtain ⟨pr, hO⟩ := hW
  obtain ⟨oS, hS⟩ := hO.2.2.2.2.1
  refine Ct.of (by decide) rfl (Nat.le_of_ble_eq_true rfl) rfl hxs ?_
  refine V_aload_n dX7_meanFines_0 0 rfl ?_
  refine gf_op_sheet hO dX7_meanFines_1 flX7_12 ?_
  refine gf_sheet_perf hS dX7_meanFines_4 flX7_75 ?_
  refine V_if_ne (tgt := 21) dX7_meanFines_7 (by decide) (fun _ => ?_) (fun c9 => absurd c9 hp)
  refine V_aload_n dX7_meanFines_21 0 rfl ?_
  refine gf_op_sheet hO dX7_meanFines_22 flX7_12 ?_
  refine V_cVi (As := []) (rest := []) dX7_meanFines_25 cvX7_344 (C_owedTotal hxs hS) hS.1 rfl ⟨Nat.le_of_ble_eq_true rfl, Nat.le_of_ble_eq_true rfl, Nat.le_of_ble_eq_true rfl, Nat.le_of_ble_eq_true rfl⟩ (Nat.le_of_ble_eq_true rfl) rfl ?_
  refine V_i2d dX7_meanFines_28 ?_
  refine V_aload_n dX7_meanFines_29 0 rfl ?_
  refine gf_op_sheet hO dX7_meanFines_30 flX7_12 ?_
  refine gf_sheet_perf hS dX7_meanFines_33 flX7_75 ?_
  refine V_i2d dX7_meanFines_36 ?_
  refine V_ddiv dX7_meanFines_37 hne ?_
  exact V_dret dX7_meanFines_38 rfl ⟨Nat.le_of_ble_eq_true rfl, Nat.le_of_ble_eq_true rfl⟩ ⟨rfl, _, hO⟩
set_option maxRecDepth 20000 in
set_option maxHeartbeats 4000000 in
theorem c_X7_hushedSharex {X : KX} (hxs : X.1.stackTraces = false) (hg : GX X) {h : AH} {x : Nat} {S : SH} {past : List SH} {N : SH} {hs le lc lf : Int32} {txt ln : List Int32} (hW : OpW X h x S past N hs le lc lf txt ln) (hp : z_beat S = 0) : Ct X mX7_hushedShare [.ref x] h (zT (["java/lang/ArithmeticException"] : List String) (.inr 0) (fun h' => OpW X h' x S past N hs le lc lf txt ln)) := by
  obtain ⟨pr, hO⟩ := hW
  obtain ⟨oS, hS⟩ := hO.2.2.2.2.1
  refine Ct.of (by decide) rfl (Nat.le_of_ble_eq_true rfl) rfl hxs ?_
  refine V_aload_n dX7_hushedShare_0 0 rfl ?_
  refine gf_op_sheet hO dX7_hushedShare_1 flX7_12 ?_
  refine gf_sheet_beat hS dX7_hushedShare_4 flX7_230 ?_
  refine V_if_ne (tgt := 21) dX7_hushedShare_7 (by decide) (fun c9 => absurd c9 (fun q9 => q9 hp)) (fun _ => ?_)
  exact V_throwSW (E := "java/lang/ArithmeticException") (names := ["java/lang/RuntimeException", "java/lang/Exception"]) rfl (by decide) (by decide) tk_339.1 tk_339.2 ta_343 hg.1 hg.p (hg.2.1 22 _ _ _ rfl) dX7_hushedShare_10 dX7_hushedShare_13 dX7_hushedShare_14 dX7_hushedShare_17 dX7_hushedShare_20 (Nat.le_of_ble_eq_true rfl) (Nat.le_of_ble_eq_true rfl) ⟨Nat.le_of_ble_eq_true rfl, Nat.le_of_ble_eq_true rfl⟩ (fun q9 hq9 => ⟨rfl, _, hO.bump hq9⟩)
set_option maxRecDepth 20000 in
set_option maxHeartbeats 4000000 in
theorem c_X7_hushedShare {X : KX} (hxs : X.1.stackTraces = false) (hg : GX X) {h : AH} {x : Nat} {S : SH} {past : List SH} {N : SH} {hs le lc lf : Int32} {txt ln : List Int32} (hW : OpW X h x S past N hs le lc lf txt ln) (hp : ¬ z_beat S = 0) (hne : vf_n32 (FP.fdiv (FP.i2f (z_hbt S)) (FP.i2f (z_beat S)))) : Ct X mX7_hushedShare [.ref x] h (zM (some (.float (FP.fdiv (FP.i2f (z_hbt S)) (FP.i2f (z_beat S))))) (fun h' => OpW X h' x S past N hs le lc lf txt ln)) := by
  obtain ⟨pr, hO⟩ := hW
  obtain ⟨oS, hS⟩ := hO.2.2.2.2.1
  refine Ct.of (by decide) rfl (Nat.le_of_ble_eq_true rfl) rfl hxs ?_
  refine V_aload_n dX7_hushedShare_0 0 rfl ?_
  refine gf_op_sheet hO dX7_hushedShare_1 flX7_12 ?_
  refine gf_sheet_beat hS dX7_hushedShare_4 flX7_230 ?_
  refine V_if_ne (tgt := 21) dX7_hushedShare_7 (by decide) (fun _ => ?_) (fun c9 => absurd c9 hp)
  refine V_aload_n dX7_hushedShare_21 0 rfl ?_
  refine gf_op_sheet hO dX7_hushedShare_22 flX7_12 ?_
  refine gf_sheet_hbt hS dX7_hushedShare_25 flX7_349 ?_
  refine V_i2f dX7_hushedShare_28 ?_
  refine V_aload_n dX7_hushedShare_29 0 rfl ?_
  refine gf_op_sheet hO dX7_hushedShare_30 flX7_12 ?_
  refine gf_sheet_beat hS dX7_hushedShare_33 flX7_230 ?_
  refine V_i2f dX7_hushedShare_36 ?_
  refine V_fdiv dX7_hushedShare_37 hne ?_
  exact V_fret dX7_hushedShare_38 rfl ⟨Nat.le_of_ble_eq_true rfl, Nat.le_of_ble_eq_true rfl⟩ ⟨rfl, _, hO⟩
