/-! ===== runs ===== -/
/-- letters that a command text takes -/
def Lts (t : List Int32) : Prop := t.length ≤ 30 ∧ ∀ j, j < t.length → ∃ b : Nat, 32 ≤ b ∧ b ≤ 126 ∧ t.getD j 0 = nI b
theorem take_nx {t : List Int32} {j b : Nat} (hj : j < t.length) (hb : t.getD j 0 = nI b) : t.take j ++ [nI b] = t.take (j + 1) := by
  rw [List.take_add_one, ← hb, List.getD_eq_getElem?_getD, List.getElem?_eq_getElem hj]
  rfl
theorem app_ok {t : List Int32} {j b : Nat} (hj : j < t.length) (hl : t.length ≤ 30) (h1 : 32 ≤ b) (h2 : b ≤ 126) (hb : t.getD j 0 = nI b) : wI ([-1001, -1002] : List Int32) (T_X7_append (t.take j) b) = nI (j + 1) ∧ A_txt (t.take j) b = t.take (j + 1) := by
  have hlen : (t.take j).length = j := by rw [List.length_take]; omega
  unfold T_X7_append A_txt
  rw [if_pos h1, if_pos h2, if_pos (by omega), if_pos h1, if_pos h2, if_pos (by omega), hlen, take_nx hj hb]
  exact ⟨rfl, rfl⟩
set_option maxRecDepth 20000 in
set_option maxHeartbeats 4000000 in
theorem c_L_runs {X : KX} (hxs : X.1.stackTraces = false) (hg : GX X) {h : AH} {x : Nat} {S : SH} {past : List SH} {N : SH} {hs le lc lf : Int32} {ln : List Int32} {i : Nat} (hi : i < 52) (hL : Lts (gT.getD i [])) (hW : OpW X h x S past N hs le lc lf [] ln) : Ct X mL_runs [.ref x, .ref (kad X i)] h (zLRun X x S past N hs le lc lf (gT.getD i []) ln) := by
  have hl30 := hL.1
  have L2 : ∀ (g j : Nat) (h0 : AH), j + g = (gT.getD i []).length → OpW X h0 x S past N hs le lc lf ((gT.getD i []).take j) ln → V X mL_runs (zF X mL_runs (zLRun X x S past N hs le lc lf (gT.getD i []) ln)) (2 * j) (134 * j) 2 [(0, .ref x), (1, .ref (kad X i)), (2, .int (nI j))] [] h0 := by
    intro g
    induction g with
    | zero =>
      intro j h0 hj hI
      have ej : j = (gT.getD i []).length := by omega
      refine V_iload_n dL_runs_2 2 rfl ?_
      refine V_aload_n dL_runs_3 1 rfl ?_
      refine V_cVo (As := []) (rest := [.int (nI j)]) (Q := fun h1 => h1 = h0) dL_runs_4 cvL_141 (c_J0_length_o hxs hg hi) (fun U hU => (hg.2.2.2.2.1 i hi U hU).1) ⟨Nat.le_of_ble_eq_true rfl, Nat.le_of_ble_eq_true rfl, by show 2 * j + 0 ≤ 64; omega, by show 134 * j + 0 ≤ 8200; omega⟩ (Nat.le_of_ble_eq_true rfl) rfl (fun h1 e1 => ?_)
      subst e1
      refine V_icmp_ge (tgt := 35) dL_runs_7 (by decide) (fun _ => ?_) (fun c9 => absurd (by rw [ej]; exact Int32.le_refl _) c9)
      refine V_aload_n dL_runs_35 0 rfl ?_
      have et : (gT.getD i []).take j = (gT.getD i []) := List.take_of_length_le (by omega)
      rw [et] at hI
      refine V_callSH (As := [.ref x]) (rest := []) dL_runs_36 cvL_154 (c_L_run hxs hg hI) ⟨Nat.le_of_ble_eq_true rfl, Nat.le_of_ble_eq_true rfl, by show 2 * j + 0 + 1 ≤ 64; omega, by show 134 * j + 0 + 6 ≤ 8200; omega⟩ (Nat.le_of_ble_eq_true rfl) rfl (fun v h1 hz => ?_) (fun E h1 hz => ?_)
      · obtain ⟨c0, cm, hC, (⟨e1, e2, q⟩ | ⟨e1, (⟨e2, e3, q⟩ | ⟨r, e2, e3, q⟩)⟩)⟩ := id hz
        · cases e2
          exact V_iret dL_runs_39 rfl ⟨by show 2 * j + 0 + 1 ≤ 64; omega, by show 134 * j + 0 + 6 ≤ 8200; omega⟩ hz
        · cases e3
          exact V_iret dL_runs_39 rfl ⟨by show 2 * j + 0 + 1 ≤ 64; omega, by show 134 * j + 0 + 6 ≤ 8200; omega⟩ hz
        · cases e3
          exact V_iret dL_runs_39 rfl ⟨by show 2 * j + 0 + 1 ≤ 64; omega, by show 134 * j + 0 + 6 ≤ 8200; omega⟩ hz
      · obtain ⟨c0, cm, hC, (⟨e1, e2, q⟩ | ⟨e1, (⟨e2, e3, q⟩ | ⟨r, e2, e3, q⟩)⟩)⟩ := hz
        · cases e2
        · cases e3
        · cases e3
    | succ g ih =>
      intro j h0 hj hI
      have hj9 : j < (gT.getD i []).length := by omega
      obtain ⟨b, b1, b2, eb⟩ := hL.2 j hj9
      refine V_iload_n dL_runs_2 2 rfl ?_
      refine V_aload_n dL_runs_3 1 rfl ?_
      refine V_cVo (As := []) (rest := [.int (nI j)]) (Q := fun h1 => h1 = h0) dL_runs_4 cvL_141 (c_J0_length_o hxs hg hi) (fun U hU => (hg.2.2.2.2.1 i hi U hU).1) ⟨Nat.le_of_ble_eq_true rfl, Nat.le_of_ble_eq_true rfl, by show 2 * j + 0 ≤ 64; omega, by show 134 * j + 0 ≤ 8200; omega⟩ (Nat.le_of_ble_eq_true rfl) rfl (fun h1 e1 => ?_)
      subst e1
      refine V_icmp_ge (tgt := 35) dL_runs_7 (by decide) (fun c9 => absurd c9 (nI_ge hj9 (by omega))) (fun _ => ?_)
      refine V_aload_n dL_runs_10 0 rfl ?_
      refine V_aload_n dL_runs_11 1 rfl ?_
      refine V_iload_n dL_runs_12 2 rfl ?_
      refine V_cVo (As := [.int (nI j)]) (rest := [.ref x]) (Q := fun h2 => h2 = h1) dL_runs_13 cvL_146 (c_J0_charAt_o hxs hg hi hj9 (by omega) (by omega) eb) (fun U hU => (hg.2.2.2.2.1 i hi U hU).1) ⟨Nat.le_of_ble_eq_true rfl, Nat.le_of_ble_eq_true rfl, by show 2 * j + 0 ≤ 64; omega, by show 134 * j + 0 ≤ 8200; omega⟩ (Nat.le_of_ble_eq_true rfl) rfl (fun h2 e2 => ?_)
      subst e2
      refine V_cSHi (As := [.ref x, .int (nI b)]) (rest := []) dL_runs_16 cvL_149 (c_L_append hxs hg hI (by omega)) ⟨Nat.le_of_ble_eq_true rfl, Nat.le_of_ble_eq_true rfl, by show 2 * j + 2 ≤ 64; omega, by show 134 * j + 134 ≤ 8200; omega⟩ (Nat.le_of_ble_eq_true rfl) rfl (fun h3 q3 => ?_)
      rw [(app_ok hj9 hL.1 b1 b2 eb).2] at q3
      rw [(app_ok hj9 hL.1 b1 b2 eb).1]
      refine V_iload_n dL_runs_19 2 rfl ?_
      refine V_iconst (v := 1) dL_runs_20 (by decide) ?_
      refine V_iadd dL_runs_21 ?_
      rw [nI_1]
      refine V_icmp_eq (tgt := 29) dL_runs_22 (by decide) (fun _ => ?_) (fun c9 => absurd rfl c9)
      refine V_iinc (v := nI (j + 1)) (lv' := [(2, .int (nI (j + 1))), (0, .ref x), (1, .ref (kad X i))]) dL_runs_29 2 rfl (iinc1 j) (by decide) rfl ?_
      refine V_goto (tgt := 2) dL_runs_32 (by decide) ?_
      refine V.loc [1, 2, 0] rfl ?_
      refine V_recount (show 2 * j + 0 + 0 + 2 = 2 * (j + 1) by omega) (show 134 * j + 0 + 0 + 134 = 134 * (j + 1) by omega) ?_
      exact ih (j + 1) h3 (by omega) q3
  refine Ct.of (by decide) rfl (Nat.le_of_ble_eq_true rfl) rfl hxs ?_
  refine V_iconst (v := 0) dL_runs_0 (by decide) ?_
  refine V_istore_n (lv' := [(2, .int 0), (0, .ref x), (1, .ref (kad X i))]) dL_runs_1 rfl (by decide) rfl ?_
  refine V.loc [1, 2, 0] rfl ?_
  exact L2 (gT.getD i []).length 0 h (by omega) hW
set_option maxRecDepth 20000 in
set_option maxHeartbeats 4000000 in
theorem c_L_runsN {X : KX} (hxs : X.1.stackTraces = false) (hg : GX X) {h : AH} {x : Nat} {S : SH} {past : List SH} {N : SH} {hs le lc lf : Int32} {ln : List Int32} (hg2 : GP2 X) {P : Nat → Bool} {a w : Nat} {t : List Int32} (hL : Lts t) (hW : OpW X h x S past N hs le lc lf [] ln) (hF : OpF X P h x S past N hs le lc lf [] ln) (hS : StrN X h a w t) (hPa : P a = true) (hPw : P w = true) (hl : ∀ q, P q = true → q < h.1) (hx : ∀ q, P q = true → x + 185 ≤ q) : Ct X mL_runs [.ref x, .ref a] h (zLRun X x S past N hs le lc lf t ln) := by
  have hl30 := hL.1
  have L2 : ∀ (g j : Nat) (h0 : AH), j + g = t.length → OpW X h0 x S past N hs le lc lf (t.take j) ln ∧ OpF X P h0 x S past N hs le lc lf (t.take j) ln ∧ StrN X h0 a w t ∧ (∀ q, P q = true → q < h0.1) → V X mL_runs (zF X mL_runs (zLRun X x S past N hs le lc lf t ln)) (2 * j) (134 * j) 2 [(0, .ref x), (1, .ref a), (2, .int (nI j))] [] h0 := by
    intro g
    induction g with
    | zero =>
      intro j h0 hj hI
      have ej : j = t.length := by omega
      obtain ⟨hh9, z9, hSa, -⟩ := id hI.2.2.1
      refine V_iload_n dL_runs_2 2 rfl ?_
      refine V_aload_n dL_runs_3 1 rfl ?_
      refine V_cVg (As := []) (rest := [.int (nI j)]) (Q := fun h1 => h1 = h0) dL_runs_4 cuL_141 (c_J0_length_n hxs hg hI.2.2.1) hSa rfl ⟨Nat.le_of_ble_eq_true rfl, Nat.le_of_ble_eq_true rfl, by show 2 * j + 0 ≤ 64; omega, by show 134 * j + 0 ≤ 8200; omega⟩ (Nat.le_of_ble_eq_true rfl) rfl (fun h1 e1 => ?_)
      subst e1
      refine V_icmp_ge (tgt := 35) dL_runs_7 (by decide) (fun _ => ?_) (fun c9 => absurd (by rw [ej]; exact Int32.le_refl _) c9)
      refine V_aload_n dL_runs_35 0 rfl ?_
      have et : t.take j = t := List.take_of_length_le (by omega)
      rw [et] at hI
      refine V_callSH (As := [.ref x]) (rest := []) dL_runs_36 cvL_154 (c_L_run hxs hg hI.1) ⟨Nat.le_of_ble_eq_true rfl, Nat.le_of_ble_eq_true rfl, by show 2 * j + 0 + 1 ≤ 64; omega, by show 134 * j + 0 + 6 ≤ 8200; omega⟩ (Nat.le_of_ble_eq_true rfl) rfl (fun v h1 hz => ?_) (fun E h1 hz => ?_)
      · obtain ⟨c0, cm, hC, (⟨e1, e2, q⟩ | ⟨e1, (⟨e2, e3, q⟩ | ⟨r, e2, e3, q⟩)⟩)⟩ := id hz
        · cases e2
          exact V_iret dL_runs_39 rfl ⟨by show 2 * j + 0 + 1 ≤ 64; omega, by show 134 * j + 0 + 6 ≤ 8200; omega⟩ hz
        · cases e3
          exact V_iret dL_runs_39 rfl ⟨by show 2 * j + 0 + 1 ≤ 64; omega, by show 134 * j + 0 + 6 ≤ 8200; omega⟩ hz
        · cases e3
          exact V_iret dL_runs_39 rfl ⟨by show 2 * j + 0 + 1 ≤ 64; omega, by show 134 * j + 0 + 6 ≤ 8200; omega⟩ hz
      · obtain ⟨c0, cm, hC, (⟨e1, e2, q⟩ | ⟨e1, (⟨e2, e3, q⟩ | ⟨r, e2, e3, q⟩)⟩)⟩ := hz
        · cases e2
        · cases e3
        · cases e3
    | succ g ih =>
      intro j h0 hj hI
      have hj9 : j < t.length := by omega
      obtain ⟨b, b1, b2, eb⟩ := hL.2 j hj9
      obtain ⟨hh9, z9, hSa, -⟩ := id hI.2.2.1
      refine V_iload_n dL_runs_2 2 rfl ?_
      refine V_aload_n dL_runs_3 1 rfl ?_
      refine V_cVg (As := []) (rest := [.int (nI j)]) (Q := fun h1 => h1 = h0) dL_runs_4 cuL_141 (c_J0_length_n hxs hg hI.2.2.1) hSa rfl ⟨Nat.le_of_ble_eq_true rfl, Nat.le_of_ble_eq_true rfl, by show 2 * j + 0 ≤ 64; omega, by show 134 * j + 0 ≤ 8200; omega⟩ (Nat.le_of_ble_eq_true rfl) rfl (fun h1 e1 => ?_)
      subst e1
      refine V_icmp_ge (tgt := 35) dL_runs_7 (by decide) (fun c9 => absurd c9 (nI_ge hj9 (by omega))) (fun _ => ?_)
      refine V_aload_n dL_runs_10 0 rfl ?_
      refine V_aload_n dL_runs_11 1 rfl ?_
      refine V_iload_n dL_runs_12 2 rfl ?_
      refine V_cVg (As := [.int (nI j)]) (rest := [.ref x]) (Q := fun h2 => h2 = h1) dL_runs_13 cuL_146 (c_J0_charAt_n hxs hg hI.2.2.1 hj9 (by omega) (by omega) eb) hSa rfl ⟨Nat.le_of_ble_eq_true rfl, Nat.le_of_ble_eq_true rfl, by show 2 * j + 0 ≤ 64; omega, by show 134 * j + 0 ≤ 8200; omega⟩ (Nat.le_of_ble_eq_true rfl) rfl (fun h2 e2 => ?_)
      subst e2
      refine V_cSHi (As := [.ref x, .int (nI b)]) (rest := []) dL_runs_16 cvL_149 (Ct.opM hg hg2 hI.2.1 hI.2.2.2 hx (fun X' h7 e1 e2 e3 e4 => c_L_append (by rw [e1]; exact hxs) e2 e4 (by omega))) ⟨Nat.le_of_ble_eq_true rfl, Nat.le_of_ble_eq_true rfl, by show 2 * j + 2 ≤ 64; omega, by show 134 * j + 134 ≤ 8200; omega⟩ (Nat.le_of_ble_eq_true rfl) rfl (fun h3 q3 => ?_)
      rw [(app_ok hj9 hL.1 b1 b2 eb).2] at q3
      rw [(app_ok hj9 hL.1 b1 b2 eb).1]
      obtain ⟨r1, r2, r3, r4⟩ := q3
      have hS3 : StrN X h3 a w t := by
        obtain ⟨hh, z, s1, s2⟩ := hI.2.2.1
        exact ⟨hh, z, (r4 a hPa).trans s1, (r4 w hPw).trans s2⟩
      refine V_iload_n dL_runs_19 2 rfl ?_
      refine V_iconst (v := 1) dL_runs_20 (by decide) ?_
      refine V_iadd dL_runs_21 ?_
      rw [nI_1]
      refine V_icmp_eq (tgt := 29) dL_runs_22 (by decide) (fun _ => ?_) (fun c9 => absurd rfl c9)
      refine V_iinc (v := nI (j + 1)) (lv' := [(2, .int (nI (j + 1))), (0, .ref x), (1, .ref a)]) dL_runs_29 2 rfl (iinc1 j) (by decide) rfl ?_
      refine V_goto (tgt := 2) dL_runs_32 (by decide) ?_
      refine V.loc [1, 2, 0] rfl ?_
      refine V_recount (show 2 * j + 0 + 0 + 2 = 2 * (j + 1) by omega) (show 134 * j + 0 + 0 + 134 = 134 * (j + 1) by omega) ?_
      exact ih (j + 1) h3 (by omega) ⟨r2, r1, hS3, fun q hq => Nat.lt_of_lt_of_le (hI.2.2.2 q hq) r3⟩
  refine Ct.of (by decide) rfl (Nat.le_of_ble_eq_true rfl) rfl hxs ?_
  refine V_iconst (v := 0) dL_runs_0 (by decide) ?_
  refine V_istore_n (lv' := [(2, .int 0), (0, .ref x), (1, .ref a)]) dL_runs_1 rfl (by decide) rfl ?_
  refine V.loc [1, 2, 0] rfl ?_
  exact L2 t.length 0 h (by omega) ⟨hW, hF, hS, hl⟩
