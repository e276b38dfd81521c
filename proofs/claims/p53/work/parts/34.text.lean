/-! ===== the command text grows ===== -/
theorem OpAt.text_upd {X : KX} {h h' : AH} {x v : Nat} {S : SH} {past : List SH} {pr N : SH} {hs le lc lf : Int32} {txt txt' ln : List Int32} (p : OpAt X h x S past pr N hs le lc lf txt ln) (hv : v = x + 148 + 1 ∨ x + 185 ≤ v) (hF : FrS h h' (x + 148) v) (hS : SbAt X h' x (x + 148) txt') : OpAt X h' x S past pr N hs le lc lf txt' ln := by
  obtain ⟨p1, p2, p3, p4, ⟨o5, p5⟩, ⟨T, o6, p6⟩, ⟨o7, p7⟩, ⟨R, j, r1, r2, r3, r4, r5, r6⟩, ⟨cm, cnt, pos, q1, -, q3, q4⟩, p10⟩ := p
  have k : ∀ q, x ≤ q → q < x + 185 → q ≠ x + 148 → q ≠ x + 149 → h'.2 q = h.2 q := fun q a b c d => hF.2 q c (by omega) (by omega)
  exact ⟨(k x (by omega) (by omega) (by omega) (by omega)).trans p1, Nat.le_trans p2 hF.1, p3, p4, ⟨o5, IsSheet.keep p5 (fun q a b => k q (by omega) (by omega) (by omega) (by omega))⟩, ⟨T, o6, IsSheet.keep p6 (fun q a b => k q (by omega) (by omega) (by omega) (by omega))⟩, ⟨o7, IsSheet.keep p7 (fun q a b => k q (by omega) (by omega) (by omega) (by omega))⟩, ⟨R, j, r1, r2, ⟨(k _ (by omega) (by omega) (by omega) (by omega)).trans r3.1, (k _ (by omega) (by omega) (by omega) (by omega)).trans r3.2.1, fun i hi => by
    obtain ⟨o, ho⟩ := r3.2.2 i hi
    exact ⟨o, IsSheet.keep ho (fun q a b => k q (by omega) (by omega) (by omega) (by omega))⟩⟩, r4, r5, r6⟩, ⟨cm, cnt, pos, (k _ (by omega) (by omega) (by omega) (by omega)).trans q1, hS, (k _ (by omega) (by omega) (by omega) (by omega)).trans q3, fun i hi => ⟨(k _ (by omega) (by omega) (by omega) (by omega)).trans (q4 i hi).1, (q4 i hi).2.1, (k _ (by omega) (by omega) (by omega) (by omega)).trans (q4 i hi).2.2.1, (q4 i hi).2.2.2⟩⟩, p10.keep hF.1 (fun q hq => k q (by omega) (by omega) (by omega) (by omega))⟩
def T_X7_append (txt : List Int32) (b : Nat) : Int32 ⊕ Nat := if 32 ≤ b then (if b ≤ 126 then (if txt.length < 60 then .inl (nI (txt.length + 1)) else .inr 1) else .inr 0) else .inr 0
def A_txt (txt : List Int32) (b : Nat) : List Int32 := if 32 ≤ b then (if b ≤ 126 then (if txt.length < 60 then txt ++ [nI b] else txt) else txt) else txt
set_option maxRecDepth 20000 in
set_option maxHeartbeats 4000000 in
theorem c_X7_append {X : KX} (hxs : X.1.stackTraces = false) (hg : GX X) {h : AH} {x : Nat} {S : SH} {past : List SH} {N : SH} {hs le lc lf : Int32} {txt ln : List Int32} (hW : OpW X h x S past N hs le lc lf txt ln) {b : Nat} (hb : b < 65536) : Ct X mX7_append [.ref x, .int (nI b)] h (zT (["java/lang/IllegalArgumentException", "java/lang/IllegalStateException"] : List String) (T_X7_append txt b) (fun h' => OpW X h' x S past N hs le lc lf (A_txt txt b) ln)) := by
  obtain ⟨pr, hO⟩ := hW
  obtain ⟨cm, cnt, pos, hRd⟩ := id hO.2.2.2.2.2.2.2.2.1
  obtain ⟨v, L9, ml, hS, hv, hT⟩ := id hRd.2.1
  have hl9 := hS.2.2.2.2.2.1
  have hl8 := hT.1
  have hx9 := hO.2.1
  refine Ct.of (by decide) rfl (Nat.le_of_ble_eq_true rfl) rfl hxs ?_
  by_cases d1 : 32 ≤ b
  · by_cases d2 : b ≤ 126
    · by_cases d3 : txt.length < 60
      · have hcap : capN (txt.length + 1) L9.length ≤ 128 := by
          unfold capN
          split <;> omega
        refine V_iload_n dX7_append_0 1 rfl ?_
        refine V_bipush (v := 32) dX7_append_1 (by decide) ?_
        refine V_icmp_lt (tgt := 12) dX7_append_3 (by decide) (fun c9 => absurd c9 (nI_nlt (b := 32) d1 (by omega))) (fun _ => ?_)
        refine V_iload_n dX7_append_6 1 rfl ?_
        refine V_bipush (v := 126) dX7_append_7 (by decide) ?_
        refine V_icmp_le (tgt := 23) dX7_append_9 (by decide) (fun _ => ?_) (fun c9 => absurd (nI_le (b := 126) d2 (by decide)) c9)
        refine V_aload_n dX7_append_23 0 rfl ?_
        refine gf_op_reader hO dX7_append_24 flX7_32 ?_
        refine gf_rd_text hRd dX7_append_27 flX7_266 ?_
        refine V_cVg (As := []) (rest := []) (Q := fun h1 => h1 = h) dX7_append_30 cuX7_269 (c_J4_length_8abf5 hxs hg hS.1) hS.1 rfl ⟨Nat.le_of_ble_eq_true rfl, Nat.le_of_ble_eq_true rfl, Nat.le_of_ble_eq_true rfl, Nat.le_of_ble_eq_true rfl⟩ (Nat.le_of_ble_eq_true rfl) rfl (fun h1 e1 => ?_)
        rw [e1]
        refine V_bipush (v := 60) dX7_append_33 (by decide) ?_
        refine V_icmp_lt (tgt := 49) dX7_append_35 (by decide) (fun _ => ?_) (fun c9 => absurd (nI_lt (b := 60) d3 (by decide)) c9)
        refine V_aload_n dX7_append_49 0 rfl ?_
        refine gf_op_reader hO dX7_append_50 flX7_32 ?_
        refine gf_rd_text hRd dX7_append_53 flX7_266 ?_
        refine V_iload_n dX7_append_56 1 rfl ?_
        refine V_cVg (As := [.int (nI b)]) (rest := []) dX7_append_57 cuX7_274 (c_appC hxs hg hS (b := b) (by omega) hl8 hcap) hS.1 rfl ⟨Nat.le_of_ble_eq_true rfl, Nat.le_of_ble_eq_true rfl, Nat.le_of_ble_eq_true rfl, Nat.le_of_ble_eq_true rfl⟩ (Nat.le_of_ble_eq_true rfl) rfl (fun h2 q2 => ?_)
        obtain ⟨v', L', hS2, hl2, hl3, hk2, hn2, hF2, hv2⟩ := q2
        have hO2 := hO.text_upd (txt' := txt ++ [nI b]) hv hF2 ⟨v', L', ml, by rw [List.length_append]; exact hS2, by omega, hT.app (by omega) hl3 hk2 hn2⟩
        obtain ⟨cm2, cnt2, pos2, hRd2⟩ := id hO2.2.2.2.2.2.2.2.2.1
        obtain ⟨v3, L3, ml3, hS3, -, -⟩ := id hRd2.2.1
        refine V_pop dX7_append_60 rfl ?_
        refine V_aload_n dX7_append_61 0 rfl ?_
        refine gf_op_reader hO2 dX7_append_62 flX7_32 ?_
        refine gf_rd_text hRd2 dX7_append_65 flX7_266 ?_
        refine V_cVg (As := []) (rest := []) (Q := fun h1 => h1 = h2) dX7_append_68 cuX7_269 (c_J4_length_8abf5 hxs hg hS3.1) hS3.1 rfl ⟨Nat.le_of_ble_eq_true rfl, Nat.le_of_ble_eq_true rfl, Nat.le_of_ble_eq_true rfl, Nat.le_of_ble_eq_true rfl⟩ (Nat.le_of_ble_eq_true rfl) rfl (fun h1 e1 => ?_)
        rw [e1]
        exact V_iret dX7_append_71 rfl ⟨Nat.le_of_ble_eq_true rfl, Nat.le_of_ble_eq_true rfl⟩ ⟨by unfold T_X7_append; rw [if_pos d1, if_pos d2, if_pos d3, List.length_append]; rfl, _, by unfold A_txt; rw [if_pos d1, if_pos d2, if_pos d3]; exact hO2⟩
      · refine V_iload_n dX7_append_0 1 rfl ?_
        refine V_bipush (v := 32) dX7_append_1 (by decide) ?_
        refine V_icmp_lt (tgt := 12) dX7_append_3 (by decide) (fun c9 => absurd c9 (nI_nlt (b := 32) d1 (by omega))) (fun _ => ?_)
        refine V_iload_n dX7_append_6 1 rfl ?_
        refine V_bipush (v := 126) dX7_append_7 (by decide) ?_
        refine V_icmp_le (tgt := 23) dX7_append_9 (by decide) (fun _ => ?_) (fun c9 => absurd (nI_le (b := 126) d2 (by decide)) c9)
        refine V_aload_n dX7_append_23 0 rfl ?_
        refine gf_op_reader hO dX7_append_24 flX7_32 ?_
        refine gf_rd_text hRd dX7_append_27 flX7_266 ?_
        refine V_cVg (As := []) (rest := []) (Q := fun h1 => h1 = h) dX7_append_30 cuX7_269 (c_J4_length_8abf5 hxs hg hS.1) hS.1 rfl ⟨Nat.le_of_ble_eq_true rfl, Nat.le_of_ble_eq_true rfl, Nat.le_of_ble_eq_true rfl, Nat.le_of_ble_eq_true rfl⟩ (Nat.le_of_ble_eq_true rfl) rfl (fun h1 e1 => ?_)
        rw [e1]
        refine V_bipush (v := 60) dX7_append_33 (by decide) ?_
        refine V_icmp_lt (tgt := 49) dX7_append_35 (by decide) (fun c9 => absurd c9 (nI_nlt (b := 60) (Nat.le_of_not_lt d3) (by omega))) (fun _ => ?_)
        exact V_throwSW (E := "java/lang/IllegalStateException") (names := ["java/lang/RuntimeException", "java/lang/Exception"]) rfl (by decide) (by decide) tk_65.1 tk_65.2 ta_69 hg.1 hg.p (hg.2.1 8 _ _ _ rfl) dX7_append_38 dX7_append_41 dX7_append_42 dX7_append_45 dX7_append_48 (Nat.le_of_ble_eq_true rfl) (Nat.le_of_ble_eq_true rfl) ⟨Nat.le_of_ble_eq_true rfl, Nat.le_of_ble_eq_true rfl⟩ (fun q9 hq9 => ⟨by unfold T_X7_append; rw [if_pos d1, if_pos d2, if_neg d3]; rfl, _, by unfold A_txt; rw [if_pos d1, if_pos d2, if_neg d3]; exact hO.bump hq9⟩)
    · refine V_iload_n dX7_append_0 1 rfl ?_
      refine V_bipush (v := 32) dX7_append_1 (by decide) ?_
      refine V_icmp_lt (tgt := 12) dX7_append_3 (by decide) (fun c9 => absurd c9 (nI_nlt (b := 32) d1 (by omega))) (fun _ => ?_)
      refine V_iload_n dX7_append_6 1 rfl ?_
      refine V_bipush (v := 126) dX7_append_7 (by decide) ?_
      refine V_icmp_le (tgt := 23) dX7_append_9 (by decide) (fun c9 => absurd c9 (show ¬ nI b ≤ nI 126 from nI_ge (by omega) (by omega))) (fun _ => ?_)
      exact V_throwSW (E := "java/lang/IllegalArgumentException") (names := ["java/lang/RuntimeException", "java/lang/Exception"]) rfl (by decide) (by decide) tk_95.1 tk_95.2 ta_99 hg.1 hg.p (hg.2.1 7 _ _ _ rfl) dX7_append_12 dX7_append_15 dX7_append_16 dX7_append_19 dX7_append_22 (Nat.le_of_ble_eq_true rfl) (Nat.le_of_ble_eq_true rfl) ⟨Nat.le_of_ble_eq_true rfl, Nat.le_of_ble_eq_true rfl⟩ (fun q9 hq9 => ⟨by unfold T_X7_append; rw [if_pos d1, if_neg d2]; rfl, _, by unfold A_txt; rw [if_pos d1, if_neg d2]; exact hO.bump hq9⟩)
  · refine V_iload_n dX7_append_0 1 rfl ?_
    refine V_bipush (v := 32) dX7_append_1 (by decide) ?_
    refine V_icmp_lt (tgt := 12) dX7_append_3 (by decide) (fun _ => ?_) (fun c9 => absurd (nI_lt (b := 32) (by omega) (by decide)) c9)
    exact V_throwSW (E := "java/lang/IllegalArgumentException") (names := ["java/lang/RuntimeException", "java/lang/Exception"]) rfl (by decide) (by decide) tk_95.1 tk_95.2 ta_99 hg.1 hg.p (hg.2.1 7 _ _ _ rfl) dX7_append_12 dX7_append_15 dX7_append_16 dX7_append_19 dX7_append_22 (Nat.le_of_ble_eq_true rfl) (Nat.le_of_ble_eq_true rfl) ⟨Nat.le_of_ble_eq_true rfl, Nat.le_of_ble_eq_true rfl⟩ (fun q9 hq9 => ⟨by unfold T_X7_append; rw [if_neg d1]; rfl, _, by unfold A_txt; rw [if_neg d1]; exact hO.bump hq9⟩)
