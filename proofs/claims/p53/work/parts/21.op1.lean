/-! ===== the opera, first: changes ===== -/
def T_X7_addPerformer (S : SH) (past : List SH) : (Int32 ⊕ Nat) × SH × List SH := (let r5 := U_join S; (if r5.1 = (-1) then ((.inr 0), r5.2, past) else ((.inl r5.1), r5.2, ((S :: past).take 8))))
set_option maxRecDepth 20000 in
set_option maxHeartbeats 2000000 in
theorem w_X7_addPerformer {X : KX} (hxs : X.1.stackTraces = false) (hg : GX X) {h : AH} {x : Nat} {S : SH} {past : List SH} {N : SH} {hs le lc lf : Int32} {txt ln : List Int32} (hW : OpW X h x S past N hs le lc lf txt ln) {Z : ZT} {K : (Int32 ⊕ Nat) × SH × List SH → Prop} (hK : ∀ (r : (Int32 ⊕ Nat) × SH × List SH) (h' : AH), OpW X h' x r.2.1 r.2.2 N hs le lc lf txt ln → K r → Z (outT (["java/lang/IllegalStateException"] : List String) r.1) h') (hz : K (T_X7_addPerformer S past)) : Ct X mX7_addPerformer [.ref x] h Z := by
  refine Ct.of (by decide) rfl (Nat.le_of_ble_eq_true rfl) rfl hxs ?_
  unfold T_X7_addPerformer at hz
  try dsimp only [tb] at hz
  obtain ⟨pr, hO⟩ := hW
  obtain ⟨oS1, hS1⟩ := hO.2.2.2.2.1
  refine V_aload_n dX7_addPerformer_0 0 rfl ?_
  refine gf_op_history hO dX7_addPerformer_1 flX7_25 ?_
  refine V_aload_n dX7_addPerformer_4 0 rfl ?_
  refine gf_op_sheet hO dX7_addPerformer_5 flX7_12 ?_
  obtain ⟨Rhc3, jhc3, hjhc3, hlhc3, hc3, hihc3, hphc3, hqhc3⟩ := id hO.2.2.2.2.2.2.2.1
  refine V_cVmv (As := [.ref (x + 1)]) (rest := []) dX7_addPerformer_8 cvX7_57 (C_prepare hxs hO.2.2.2.2.2.2.2.1 hS1 hO.2.2.1 (by omega)) hc3.1 rfl ⟨Nat.le_of_ble_eq_true rfl, Nat.le_of_ble_eq_true rfl, Nat.le_of_ble_eq_true rfl, Nat.le_of_ble_eq_true rfl⟩ (Nat.le_of_ble_eq_true rfl) rfl (fun h2 q2 => ?_)
  obtain ⟨hT2, -, hR2⟩ := q2
  have hO2 := hO.hist_upd hT2 hR2
  obtain ⟨oS4, hS4⟩ := hO2.2.2.2.2.1
  refine V_aload_n dX7_addPerformer_11 0 rfl ?_
  refine gf_op_sheet hO2 dX7_addPerformer_12 flX7_12 ?_
  refine V_cVmi (As := []) (rest := []) dX7_addPerformer_15 cvX7_61 (C_join hxs hS4  ) hS4.1 rfl ⟨Nat.le_of_ble_eq_true rfl, Nat.le_of_ble_eq_true rfl, Nat.le_of_ble_eq_true rfl, Nat.le_of_ble_eq_true rfl⟩ (Nat.le_of_ble_eq_true rfl) rfl (fun h5 q5 => ?_)
  obtain ⟨hT5, hR5⟩ := q5
  replace hT5 : ∃ o, IsSh X h5 (x + 1) (U_join S).2 o := ⟨_, hT5⟩
  have hI5 : SI (U_join S).2 := SI_join hO2.2.2.1
  generalize U_join S = r5 at hT5 hI5 hz ⊢
  have hO5 := hO2.sheet_upd hT5 hI5 hR5
  obtain ⟨oS6, hS6⟩ := hO5.2.2.2.2.1
  refine V_istore_n (lv' := [(1, .int r5.1), (0, .ref x)]) dX7_addPerformer_18 rfl (by decide) rfl ?_
  refine V_iload_n dX7_addPerformer_19 0 rfl ?_
  refine V_iconst (v := (-1)) dX7_addPerformer_20 (by decide) ?_
  refine V_icmp_ne (tgt := 34) dX7_addPerformer_21 (by decide) (fun c7 => ?_) (fun c7 => ?_)
  · rw [if_neg c7] at hz
    refine V_aload_n dX7_addPerformer_34 1 rfl ?_
    refine gf_op_history hO5 dX7_addPerformer_35 flX7_25 ?_
    obtain ⟨Rhc9, jhc9, hjhc9, hlhc9, hc9, hihc9, hphc9, hqhc9⟩ := id hO5.2.2.2.2.2.2.2.1
    refine V_cVmv (As := []) (rest := []) dX7_addPerformer_38 cvX7_72 (C_keep hxs hO5.2.2.2.2.2.2.2.1) hc9.1 rfl ⟨Nat.le_of_ble_eq_true rfl, Nat.le_of_ble_eq_true rfl, Nat.le_of_ble_eq_true rfl, Nat.le_of_ble_eq_true rfl⟩ (Nat.le_of_ble_eq_true rfl) rfl (fun h8 q8 => ?_)
    obtain ⟨⟨pr8, hT8⟩, hR8⟩ := q8
    have hO8 := hO5.hist_upd hT8 hR8
    obtain ⟨oS10, hS10⟩ := hO8.2.2.2.2.1
    refine V_iload_n dX7_addPerformer_41 0 rfl ?_
    exact V_iret dX7_addPerformer_42 rfl ⟨Nat.le_of_ble_eq_true rfl, Nat.le_of_ble_eq_true rfl⟩ (hK ((.inl r5.1), r5.2, ((S :: past).take 8)) _ ⟨_, hO8⟩ hz)
  · rw [if_pos c7] at hz
    exact V_throwS (E := "java/lang/IllegalStateException") (names := ["java/lang/RuntimeException", "java/lang/Exception"]) rfl (by decide) (by decide) tk_65.1 tk_65.2 ta_69 hg.1 hg.p (hg.2.1 0 _ _ _ rfl) dX7_addPerformer_24 dX7_addPerformer_27 dX7_addPerformer_28 dX7_addPerformer_30 dX7_addPerformer_33 (Nat.le_of_ble_eq_true rfl) (Nat.le_of_ble_eq_true rfl) ⟨Nat.le_of_ble_eq_true rfl, Nat.le_of_ble_eq_true rfl⟩ (fun q9 hq9 => hK ((.inr 0), r5.2, past) _ ⟨_, hO5.bump hq9⟩ hz)
theorem c_X7_addPerformer {X : KX} (hxs : X.1.stackTraces = false) (hg : GX X) {h : AH} {x : Nat} {S : SH} {past : List SH} {N : SH} {hs le lc lf : Int32} {txt ln : List Int32} (hW : OpW X h x S past N hs le lc lf txt ln) : Ct X mX7_addPerformer [.ref x] h (zT (["java/lang/IllegalStateException"] : List String) (T_X7_addPerformer S past).1 (fun h' => OpW X h' x (T_X7_addPerformer S past).2.1 (T_X7_addPerformer S past).2.2 N hs le lc lf txt ln)) := w_X7_addPerformer hxs hg hW   (K := fun r => r = T_X7_addPerformer S past) (fun r h' a e => by subst e; exact ⟨rfl, a⟩) rfl
def T_X7_payFine (S : SH) (past : List SH) (performer : Int32) (coins : Int32) : (Int32 ⊕ Nat) × SH × List SH := (let r5 := U_pay S performer coins; (if r5.1 = (-1) then ((.inr 0), r5.2, past) else (if r5.1 = (-2) then ((.inr 1), r5.2, past) else (if r5.1 = (-3) then ((.inr 2), r5.2, past) else ((.inl r5.1), r5.2, ((S :: past).take 8))))))
set_option maxRecDepth 20000 in
set_option maxHeartbeats 2000000 in
theorem w_X7_payFine {X : KX} (hxs : X.1.stackTraces = false) (hg : GX X) {h : AH} {x : Nat} {S : SH} {past : List SH} {N : SH} {hs le lc lf : Int32} {txt ln : List Int32} (hW : OpW X h x S past N hs le lc lf txt ln) (performer : Int32) (coins : Int32) {Z : ZT} {K : (Int32 ⊕ Nat) × SH × List SH → Prop} (hK : ∀ (r : (Int32 ⊕ Nat) × SH × List SH) (h' : AH), OpW X h' x r.2.1 r.2.2 N hs le lc lf txt ln → K r → Z (outT (["java/lang/IndexOutOfBoundsException", "java/lang/IllegalArgumentException", "java/lang/UnsupportedOperationException"] : List String) r.1) h') (hz : K (T_X7_payFine S past performer coins)) : Ct X mX7_payFine [.ref x, .int performer, .int coins] h Z := by
  refine Ct.of (by decide) rfl (Nat.le_of_ble_eq_true rfl) rfl hxs ?_
  unfold T_X7_payFine at hz
  try dsimp only [tb] at hz
  obtain ⟨pr, hO⟩ := hW
  obtain ⟨oS1, hS1⟩ := hO.2.2.2.2.1
  refine V_aload_n dX7_payFine_0 0 rfl ?_
  refine gf_op_history hO dX7_payFine_1 flX7_25 ?_
  refine V_aload_n dX7_payFine_4 0 rfl ?_
  refine gf_op_sheet hO dX7_payFine_5 flX7_12 ?_
  obtain ⟨Rhc3, jhc3, hjhc3, hlhc3, hc3, hihc3, hphc3, hqhc3⟩ := id hO.2.2.2.2.2.2.2.1
  refine V_cVmv (As := [.ref (x + 1)]) (rest := []) dX7_payFine_8 cvX7_57 (C_prepare hxs hO.2.2.2.2.2.2.2.1 hS1 hO.2.2.1 (by omega)) hc3.1 rfl ⟨Nat.le_of_ble_eq_true rfl, Nat.le_of_ble_eq_true rfl, Nat.le_of_ble_eq_true rfl, Nat.le_of_ble_eq_true rfl⟩ (Nat.le_of_ble_eq_true rfl) rfl (fun h2 q2 => ?_)
  obtain ⟨hT2, -, hR2⟩ := q2
  have hO2 := hO.hist_upd hT2 hR2
  obtain ⟨oS4, hS4⟩ := hO2.2.2.2.2.1
  refine V_aload_n dX7_payFine_11 0 rfl ?_
  refine gf_op_sheet hO2 dX7_payFine_12 flX7_12 ?_
  refine V_iload_n dX7_payFine_15 1 rfl ?_
  refine V_iload_n dX7_payFine_16 2 rfl ?_
  refine V_cVmi (As := [.int performer, .int coins]) (rest := []) dX7_payFine_17 cvX7_91 (C_pay hxs hS4 performer coins ) hS4.1 rfl ⟨Nat.le_of_ble_eq_true rfl, Nat.le_of_ble_eq_true rfl, Nat.le_of_ble_eq_true rfl, Nat.le_of_ble_eq_true rfl⟩ (Nat.le_of_ble_eq_true rfl) rfl (fun h5 q5 => ?_)
  obtain ⟨hT5, hR5⟩ := q5
  replace hT5 : ∃ o, IsSh X h5 (x + 1) (U_pay S performer coins).2 o := ⟨_, hT5⟩
  have hI5 : SI (U_pay S performer coins).2 := SI_pay hO2.2.2.1
  generalize U_pay S performer coins = r5 at hT5 hI5 hz ⊢
  have hO5 := hO2.sheet_upd hT5 hI5 hR5
  obtain ⟨oS6, hS6⟩ := hO5.2.2.2.2.1
  refine V_istore_n (lv' := [(3, .int r5.1), (0, .ref x), (1, .int performer), (2, .int coins)]) dX7_payFine_20 rfl (by decide) rfl ?_
  refine V_iload_n dX7_payFine_21 0 rfl ?_
  refine V_iconst (v := (-1)) dX7_payFine_22 (by decide) ?_
  refine V_icmp_ne (tgt := 36) dX7_payFine_23 (by decide) (fun c7 => ?_) (fun c7 => ?_)
  · rw [if_neg c7] at hz
    refine V_iload_n dX7_payFine_36 0 rfl ?_
    refine V_bipush (v := (-2)) dX7_payFine_37 (by decide) ?_
    refine V_icmp_ne (tgt := 52) dX7_payFine_39 (by decide) (fun c8 => ?_) (fun c8 => ?_)
    · rw [if_neg c8] at hz
      refine V_iload_n dX7_payFine_52 0 rfl ?_
      refine V_bipush (v := (-3)) dX7_payFine_53 (by decide) ?_
      refine V_icmp_ne (tgt := 68) dX7_payFine_55 (by decide) (fun c9 => ?_) (fun c9 => ?_)
      · rw [if_neg c9] at hz
        refine V_aload_n dX7_payFine_68 1 rfl ?_
        refine gf_op_history hO5 dX7_payFine_69 flX7_25 ?_
        obtain ⟨Rhc11, jhc11, hjhc11, hlhc11, hc11, hihc11, hphc11, hqhc11⟩ := id hO5.2.2.2.2.2.2.2.1
        refine V_cVmv (As := []) (rest := []) dX7_payFine_72 cvX7_72 (C_keep hxs hO5.2.2.2.2.2.2.2.1) hc11.1 rfl ⟨Nat.le_of_ble_eq_true rfl, Nat.le_of_ble_eq_true rfl, Nat.le_of_ble_eq_true rfl, Nat.le_of_ble_eq_true rfl⟩ (Nat.le_of_ble_eq_true rfl) rfl (fun h10 q10 => ?_)
        obtain ⟨⟨pr10, hT10⟩, hR10⟩ := q10
        have hO10 := hO5.hist_upd hT10 hR10
        obtain ⟨oS12, hS12⟩ := hO10.2.2.2.2.1
        refine V_iload_n dX7_payFine_75 0 rfl ?_
        exact V_iret dX7_payFine_76 rfl ⟨Nat.le_of_ble_eq_true rfl, Nat.le_of_ble_eq_true rfl⟩ (hK ((.inl r5.1), r5.2, ((S :: past).take 8)) _ ⟨_, hO10⟩ hz)
      · rw [if_pos c9] at hz
        exact V_throwS (E := "java/lang/UnsupportedOperationException") (names := ["java/lang/RuntimeException", "java/lang/Exception"]) rfl (by decide) (by decide) tk_100.1 tk_100.2 ta_104 hg.1 hg.p (hg.2.1 28 _ _ _ rfl) dX7_payFine_58 dX7_payFine_61 dX7_payFine_62 dX7_payFine_64 dX7_payFine_67 (Nat.le_of_ble_eq_true rfl) (Nat.le_of_ble_eq_true rfl) ⟨Nat.le_of_ble_eq_true rfl, Nat.le_of_ble_eq_true rfl⟩ (fun q9 hq9 => hK ((.inr 2), r5.2, past) _ ⟨_, hO5.bump hq9⟩ hz)
    · rw [if_pos c8] at hz
      exact V_throwS (E := "java/lang/IllegalArgumentException") (names := ["java/lang/RuntimeException", "java/lang/Exception"]) rfl (by decide) (by decide) tk_95.1 tk_95.2 ta_99 hg.1 hg.p (hg.2.1 27 _ _ _ rfl) dX7_payFine_42 dX7_payFine_45 dX7_payFine_46 dX7_payFine_48 dX7_payFine_51 (Nat.le_of_ble_eq_true rfl) (Nat.le_of_ble_eq_true rfl) ⟨Nat.le_of_ble_eq_true rfl, Nat.le_of_ble_eq_true rfl⟩ (fun q9 hq9 => hK ((.inr 1), r5.2, past) _ ⟨_, hO5.bump hq9⟩ hz)
  · rw [if_pos c7] at hz
    exact V_throwS (E := "java/lang/IndexOutOfBoundsException") (names := ["java/lang/RuntimeException", "java/lang/Exception"]) rfl (by decide) (by decide) tk_82.1 tk_82.2 ta_86 hg.1 hg.p (hg.2.1 1 _ _ _ rfl) dX7_payFine_26 dX7_payFine_29 dX7_payFine_30 dX7_payFine_32 dX7_payFine_35 (Nat.le_of_ble_eq_true rfl) (Nat.le_of_ble_eq_true rfl) ⟨Nat.le_of_ble_eq_true rfl, Nat.le_of_ble_eq_true rfl⟩ (fun q9 hq9 => hK ((.inr 0), r5.2, past) _ ⟨_, hO5.bump hq9⟩ hz)
theorem c_X7_payFine {X : KX} (hxs : X.1.stackTraces = false) (hg : GX X) {h : AH} {x : Nat} {S : SH} {past : List SH} {N : SH} {hs le lc lf : Int32} {txt ln : List Int32} (hW : OpW X h x S past N hs le lc lf txt ln) (performer : Int32) (coins : Int32) : Ct X mX7_payFine [.ref x, .int performer, .int coins] h (zT (["java/lang/IndexOutOfBoundsException", "java/lang/IllegalArgumentException", "java/lang/UnsupportedOperationException"] : List String) (T_X7_payFine S past performer coins).1 (fun h' => OpW X h' x (T_X7_payFine S past performer coins).2.1 (T_X7_payFine S past performer coins).2.2 N hs le lc lf txt ln)) := w_X7_payFine hxs hg hW performer coins  (K := fun r => r = T_X7_payFine S past performer coins) (fun r h' a e => by subst e; exact ⟨rfl, a⟩) rfl
def T_X7_whisper (S : SH) (past : List SH) (performer : Int32) (loudness : Int32) : (Int32 ⊕ Nat) × SH × List SH := (let r5 := U_hiss S performer loudness; (if r5.1 = (-1) then ((.inr 0), r5.2, past) else (if r5.1 = (-2) then ((.inr 1), r5.2, past) else ((.inl r5.1), r5.2, ((S :: past).take 8)))))
set_option maxRecDepth 20000 in
set_option maxHeartbeats 2000000 in
theorem w_X7_whisper {X : KX} (hxs : X.1.stackTraces = false) (hg : GX X) {h : AH} {x : Nat} {S : SH} {past : List SH} {N : SH} {hs le lc lf : Int32} {txt ln : List Int32} (hW : OpW X h x S past N hs le lc lf txt ln) (performer : Int32) (loudness : Int32) {Z : ZT} {K : (Int32 ⊕ Nat) × SH × List SH → Prop} (hK : ∀ (r : (Int32 ⊕ Nat) × SH × List SH) (h' : AH), OpW X h' x r.2.1 r.2.2 N hs le lc lf txt ln → K r → Z (outT (["java/lang/IndexOutOfBoundsException", "java/lang/IllegalArgumentException"] : List String) r.1) h') (hz : K (T_X7_whisper S past performer loudness)) : Ct X mX7_whisper [.ref x, .int performer, .int loudness] h Z := by
  refine Ct.of (by decide) rfl (Nat.le_of_ble_eq_true rfl) rfl hxs ?_
  unfold T_X7_whisper at hz
  try dsimp only [tb] at hz
  obtain ⟨pr, hO⟩ := hW
  obtain ⟨oS1, hS1⟩ := hO.2.2.2.2.1
  refine V_aload_n dX7_whisper_0 0 rfl ?_
  refine gf_op_history hO dX7_whisper_1 flX7_25 ?_
  refine V_aload_n dX7_whisper_4 0 rfl ?_
  refine gf_op_sheet hO dX7_whisper_5 flX7_12 ?_
  obtain ⟨Rhc3, jhc3, hjhc3, hlhc3, hc3, hihc3, hphc3, hqhc3⟩ := id hO.2.2.2.2.2.2.2.1
  refine V_cVmv (As := [.ref (x + 1)]) (rest := []) dX7_whisper_8 cvX7_57 (C_prepare hxs hO.2.2.2.2.2.2.2.1 hS1 hO.2.2.1 (by omega)) hc3.1 rfl ⟨Nat.le_of_ble_eq_true rfl, Nat.le_of_ble_eq_true rfl, Nat.le_of_ble_eq_true rfl, Nat.le_of_ble_eq_true rfl⟩ (Nat.le_of_ble_eq_true rfl) rfl (fun h2 q2 => ?_)
  obtain ⟨hT2, -, hR2⟩ := q2
  have hO2 := hO.hist_upd hT2 hR2
  obtain ⟨oS4, hS4⟩ := hO2.2.2.2.2.1
  refine V_aload_n dX7_whisper_11 0 rfl ?_
  refine gf_op_sheet hO2 dX7_whisper_12 flX7_12 ?_
  refine V_iload_n dX7_whisper_15 1 rfl ?_
  refine V_iload_n dX7_whisper_16 2 rfl ?_
  refine V_cVmi (As := [.int performer, .int loudness]) (rest := []) dX7_whisper_17 cvX7_108 (C_hiss hxs hS4 performer loudness ) hS4.1 rfl ⟨Nat.le_of_ble_eq_true rfl, Nat.le_of_ble_eq_true rfl, Nat.le_of_ble_eq_true rfl, Nat.le_of_ble_eq_true rfl⟩ (Nat.le_of_ble_eq_true rfl) rfl (fun h5 q5 => ?_)
  obtain ⟨hT5, hR5⟩ := q5
  replace hT5 : ∃ o, IsSh X h5 (x + 1) (U_hiss S performer loudness).2 o := ⟨_, hT5⟩
  have hI5 : SI (U_hiss S performer loudness).2 := SI_hiss hO2.2.2.1
  generalize U_hiss S performer loudness = r5 at hT5 hI5 hz ⊢
  have hO5 := hO2.sheet_upd hT5 hI5 hR5
  obtain ⟨oS6, hS6⟩ := hO5.2.2.2.2.1
  refine V_istore_n (lv' := [(3, .int r5.1), (0, .ref x), (1, .int performer), (2, .int loudness)]) dX7_whisper_20 rfl (by decide) rfl ?_
  refine V_iload_n dX7_whisper_21 0 rfl ?_
  refine V_iconst (v := (-1)) dX7_whisper_22 (by decide) ?_
  refine V_icmp_ne (tgt := 36) dX7_whisper_23 (by decide) (fun c7 => ?_) (fun c7 => ?_)
  · rw [if_neg c7] at hz
    refine V_iload_n dX7_whisper_36 0 rfl ?_
    refine V_bipush (v := (-2)) dX7_whisper_37 (by decide) ?_
    refine V_icmp_ne (tgt := 52) dX7_whisper_39 (by decide) (fun c8 => ?_) (fun c8 => ?_)
    · rw [if_neg c8] at hz
      refine V_aload_n dX7_whisper_52 1 rfl ?_
      refine gf_op_history hO5 dX7_whisper_53 flX7_25 ?_
      obtain ⟨Rhc10, jhc10, hjhc10, hlhc10, hc10, hihc10, hphc10, hqhc10⟩ := id hO5.2.2.2.2.2.2.2.1
      refine V_cVmv (As := []) (rest := []) dX7_whisper_56 cvX7_72 (C_keep hxs hO5.2.2.2.2.2.2.2.1) hc10.1 rfl ⟨Nat.le_of_ble_eq_true rfl, Nat.le_of_ble_eq_true rfl, Nat.le_of_ble_eq_true rfl, Nat.le_of_ble_eq_true rfl⟩ (Nat.le_of_ble_eq_true rfl) rfl (fun h9 q9 => ?_)
      obtain ⟨⟨pr9, hT9⟩, hR9⟩ := q9
      have hO9 := hO5.hist_upd hT9 hR9
      obtain ⟨oS11, hS11⟩ := hO9.2.2.2.2.1
      refine V_iload_n dX7_whisper_59 0 rfl ?_
      exact V_iret dX7_whisper_60 rfl ⟨Nat.le_of_ble_eq_true rfl, Nat.le_of_ble_eq_true rfl⟩ (hK ((.inl r5.1), r5.2, ((S :: past).take 8)) _ ⟨_, hO9⟩ hz)
    · rw [if_pos c8] at hz
      exact V_throwS (E := "java/lang/IllegalArgumentException") (names := ["java/lang/RuntimeException", "java/lang/Exception"]) rfl (by decide) (by decide) tk_95.1 tk_95.2 ta_99 hg.1 hg.p (hg.2.1 29 _ _ _ rfl) dX7_whisper_42 dX7_whisper_45 dX7_whisper_46 dX7_whisper_48 dX7_whisper_51 (Nat.le_of_ble_eq_true rfl) (Nat.le_of_ble_eq_true rfl) ⟨Nat.le_of_ble_eq_true rfl, Nat.le_of_ble_eq_true rfl⟩ (fun q9 hq9 => hK ((.inr 1), r5.2, past) _ ⟨_, hO5.bump hq9⟩ hz)
  · rw [if_pos c7] at hz
    exact V_throwS (E := "java/lang/IndexOutOfBoundsException") (names := ["java/lang/RuntimeException", "java/lang/Exception"]) rfl (by decide) (by decide) tk_82.1 tk_82.2 ta_86 hg.1 hg.p (hg.2.1 1 _ _ _ rfl) dX7_whisper_26 dX7_whisper_29 dX7_whisper_30 dX7_whisper_32 dX7_whisper_35 (Nat.le_of_ble_eq_true rfl) (Nat.le_of_ble_eq_true rfl) ⟨Nat.le_of_ble_eq_true rfl, Nat.le_of_ble_eq_true rfl⟩ (fun q9 hq9 => hK ((.inr 0), r5.2, past) _ ⟨_, hO5.bump hq9⟩ hz)
theorem c_X7_whisper {X : KX} (hxs : X.1.stackTraces = false) (hg : GX X) {h : AH} {x : Nat} {S : SH} {past : List SH} {N : SH} {hs le lc lf : Int32} {txt ln : List Int32} (hW : OpW X h x S past N hs le lc lf txt ln) (performer : Int32) (loudness : Int32) : Ct X mX7_whisper [.ref x, .int performer, .int loudness] h (zT (["java/lang/IndexOutOfBoundsException", "java/lang/IllegalArgumentException"] : List String) (T_X7_whisper S past performer loudness).1 (fun h' => OpW X h' x (T_X7_whisper S past performer loudness).2.1 (T_X7_whisper S past performer loudness).2.2 N hs le lc lf txt ln)) := w_X7_whisper hxs hg hW performer loudness  (K := fun r => r = T_X7_whisper S past performer loudness) (fun r h' a e => by subst e; exact ⟨rfl, a⟩) rfl
def T_X7_addPlayed (S : SH) (past : List SH) (kind : Int32) (performer : Int32) (cueBeat : Int32) (size : Int32) : (Int32 ⊕ Nat) × SH × List SH := (let r5 := U_putPlayed S kind performer cueBeat size; (if r5.1 = (-1) then ((.inr 0), r5.2, past) else (if r5.1 = (-2) then ((.inr 1), r5.2, past) else (if r5.1 = (-3) then ((.inr 2), r5.2, past) else ((.inl r5.1), r5.2, ((S :: past).take 8))))))
set_option maxRecDepth 20000 in
set_option maxHeartbeats 2000000 in
theorem w_X7_addPlayed {X : KX} (hxs : X.1.stackTraces = false) (hg : GX X) {h : AH} {x : Nat} {S : SH} {past : List SH} {N : SH} {hs le lc lf : Int32} {txt ln : List Int32} (hW : OpW X h x S past N hs le lc lf txt ln) (kind : Int32) (performer : Int32) (cueBeat : Int32) (size : Int32) (hk : vp_nar .char kind = kind) (hkf : fits .char (.int kind) = true) {Z : ZT} {K : (Int32 ⊕ Nat) × SH × List SH → Prop} (hK : ∀ (r : (Int32 ⊕ Nat) × SH × List SH) (h' : AH), OpW X h' x r.2.1 r.2.2 N hs le lc lf txt ln → K r → Z (outT (["java/lang/IndexOutOfBoundsException", "java/lang/IllegalArgumentException", "java/lang/IllegalStateException"] : List String) r.1) h') (hz : K (T_X7_addPlayed S past kind performer cueBeat size)) : Ct X mX7_addPlayed [.ref x, .int kind, .int performer, .int cueBeat, .int size] h Z := by
  refine Ct.of (by decide) rfl (Nat.le_of_ble_eq_true rfl) rfl hxs ?_
  unfold T_X7_addPlayed at hz
  try dsimp only [tb] at hz
  obtain ⟨pr, hO⟩ := hW
  obtain ⟨oS1, hS1⟩ := hO.2.2.2.2.1
  refine V_aload_n dX7_addPlayed_0 0 rfl ?_
  refine gf_op_history hO dX7_addPlayed_1 flX7_25 ?_
  refine V_aload_n dX7_addPlayed_4 0 rfl ?_
  refine gf_op_sheet hO dX7_addPlayed_5 flX7_12 ?_
  obtain ⟨Rhc3, jhc3, hjhc3, hlhc3, hc3, hihc3, hphc3, hqhc3⟩ := id hO.2.2.2.2.2.2.2.1
  refine V_cVmv (As := [.ref (x + 1)]) (rest := []) dX7_addPlayed_8 cvX7_57 (C_prepare hxs hO.2.2.2.2.2.2.2.1 hS1 hO.2.2.1 (by omega)) hc3.1 rfl ⟨Nat.le_of_ble_eq_true rfl, Nat.le_of_ble_eq_true rfl, Nat.le_of_ble_eq_true rfl, Nat.le_of_ble_eq_true rfl⟩ (Nat.le_of_ble_eq_true rfl) rfl (fun h2 q2 => ?_)
  obtain ⟨hT2, -, hR2⟩ := q2
  have hO2 := hO.hist_upd hT2 hR2
  obtain ⟨oS4, hS4⟩ := hO2.2.2.2.2.1
  refine V_aload_n dX7_addPlayed_11 0 rfl ?_
  refine gf_op_sheet hO2 dX7_addPlayed_12 flX7_12 ?_
  refine V_iload_n dX7_addPlayed_15 1 rfl ?_
  refine V_iload_n dX7_addPlayed_16 2 rfl ?_
  refine V_iload_n dX7_addPlayed_17 3 rfl ?_
  refine V_iload dX7_addPlayed_18 4 rfl ?_
  refine V_cVmi (As := [.int kind, .int performer, .int cueBeat, .int size]) (rest := []) dX7_addPlayed_20 cvX7_126 (C_putPlayed hxs hS4 kind performer cueBeat size hk) hS4.1 rfl ⟨Nat.le_of_ble_eq_true rfl, Nat.le_of_ble_eq_true rfl, Nat.le_of_ble_eq_true rfl, Nat.le_of_ble_eq_true rfl⟩ (Nat.le_of_ble_eq_true rfl) rfl (fun h5 q5 => ?_)
  obtain ⟨hT5, hR5⟩ := q5
  replace hT5 : ∃ o, IsSh X h5 (x + 1) (U_putPlayed S kind performer cueBeat size).2 o := ⟨_, hT5⟩
  have hI5 : SI (U_putPlayed S kind performer cueBeat size).2 := SI_putPlayed hO2.2.2.1 hkf
  generalize U_putPlayed S kind performer cueBeat size = r5 at hT5 hI5 hz ⊢
  have hO5 := hO2.sheet_upd hT5 hI5 hR5
  obtain ⟨oS6, hS6⟩ := hO5.2.2.2.2.1
  refine V_istore (lv' := [(5, .int r5.1), (0, .ref x), (1, .int kind), (2, .int performer), (3, .int cueBeat), (4, .int size)]) dX7_addPlayed_23 (by decide) rfl ?_
  refine V_iload dX7_addPlayed_25 0 rfl ?_
  refine V_iconst (v := (-1)) dX7_addPlayed_27 (by decide) ?_
  refine V_icmp_ne (tgt := 41) dX7_addPlayed_28 (by decide) (fun c7 => ?_) (fun c7 => ?_)
  · rw [if_neg c7] at hz
    refine V_iload dX7_addPlayed_41 0 rfl ?_
    refine V_bipush (v := (-2)) dX7_addPlayed_43 (by decide) ?_
    refine V_icmp_ne (tgt := 58) dX7_addPlayed_45 (by decide) (fun c8 => ?_) (fun c8 => ?_)
    · rw [if_neg c8] at hz
      refine V_iload dX7_addPlayed_58 0 rfl ?_
      refine V_bipush (v := (-3)) dX7_addPlayed_60 (by decide) ?_
      refine V_icmp_ne (tgt := 75) dX7_addPlayed_62 (by decide) (fun c9 => ?_) (fun c9 => ?_)
      · rw [if_neg c9] at hz
        refine V_aload_n dX7_addPlayed_75 1 rfl ?_
        refine gf_op_history hO5 dX7_addPlayed_76 flX7_25 ?_
        obtain ⟨Rhc11, jhc11, hjhc11, hlhc11, hc11, hihc11, hphc11, hqhc11⟩ := id hO5.2.2.2.2.2.2.2.1
        refine V_cVmv (As := []) (rest := []) dX7_addPlayed_79 cvX7_72 (C_keep hxs hO5.2.2.2.2.2.2.2.1) hc11.1 rfl ⟨Nat.le_of_ble_eq_true rfl, Nat.le_of_ble_eq_true rfl, Nat.le_of_ble_eq_true rfl, Nat.le_of_ble_eq_true rfl⟩ (Nat.le_of_ble_eq_true rfl) rfl (fun h10 q10 => ?_)
        obtain ⟨⟨pr10, hT10⟩, hR10⟩ := q10
        have hO10 := hO5.hist_upd hT10 hR10
        obtain ⟨oS12, hS12⟩ := hO10.2.2.2.2.1
        refine V_iload dX7_addPlayed_82 0 rfl ?_
        exact V_iret dX7_addPlayed_84 rfl ⟨Nat.le_of_ble_eq_true rfl, Nat.le_of_ble_eq_true rfl⟩ (hK ((.inl r5.1), r5.2, ((S :: past).take 8)) _ ⟨_, hO10⟩ hz)
      · rw [if_pos c9] at hz
        exact V_throwS (E := "java/lang/IllegalStateException") (names := ["java/lang/RuntimeException", "java/lang/Exception"]) rfl (by decide) (by decide) tk_65.1 tk_65.2 ta_69 hg.1 hg.p (hg.2.1 3 _ _ _ rfl) dX7_addPlayed_65 dX7_addPlayed_68 dX7_addPlayed_69 dX7_addPlayed_71 dX7_addPlayed_74 (Nat.le_of_ble_eq_true rfl) (Nat.le_of_ble_eq_true rfl) ⟨Nat.le_of_ble_eq_true rfl, Nat.le_of_ble_eq_true rfl⟩ (fun q9 hq9 => hK ((.inr 2), r5.2, past) _ ⟨_, hO5.bump hq9⟩ hz)
    · rw [if_pos c8] at hz
      exact V_throwS (E := "java/lang/IllegalArgumentException") (names := ["java/lang/RuntimeException", "java/lang/Exception"]) rfl (by decide) (by decide) tk_95.1 tk_95.2 ta_99 hg.1 hg.p (hg.2.1 2 _ _ _ rfl) dX7_addPlayed_48 dX7_addPlayed_51 dX7_addPlayed_52 dX7_addPlayed_54 dX7_addPlayed_57 (Nat.le_of_ble_eq_true rfl) (Nat.le_of_ble_eq_true rfl) ⟨Nat.le_of_ble_eq_true rfl, Nat.le_of_ble_eq_true rfl⟩ (fun q9 hq9 => hK ((.inr 1), r5.2, past) _ ⟨_, hO5.bump hq9⟩ hz)
  · rw [if_pos c7] at hz
    exact V_throwS (E := "java/lang/IndexOutOfBoundsException") (names := ["java/lang/RuntimeException", "java/lang/Exception"]) rfl (by decide) (by decide) tk_82.1 tk_82.2 ta_86 hg.1 hg.p (hg.2.1 1 _ _ _ rfl) dX7_addPlayed_31 dX7_addPlayed_34 dX7_addPlayed_35 dX7_addPlayed_37 dX7_addPlayed_40 (Nat.le_of_ble_eq_true rfl) (Nat.le_of_ble_eq_true rfl) ⟨Nat.le_of_ble_eq_true rfl, Nat.le_of_ble_eq_true rfl⟩ (fun q9 hq9 => hK ((.inr 0), r5.2, past) _ ⟨_, hO5.bump hq9⟩ hz)
theorem c_X7_addPlayed {X : KX} (hxs : X.1.stackTraces = false) (hg : GX X) {h : AH} {x : Nat} {S : SH} {past : List SH} {N : SH} {hs le lc lf : Int32} {txt ln : List Int32} (hW : OpW X h x S past N hs le lc lf txt ln) (kind : Int32) (performer : Int32) (cueBeat : Int32) (size : Int32) (hk : vp_nar .char kind = kind) (hkf : fits .char (.int kind) = true) : Ct X mX7_addPlayed [.ref x, .int kind, .int performer, .int cueBeat, .int size] h (zT (["java/lang/IndexOutOfBoundsException", "java/lang/IllegalArgumentException", "java/lang/IllegalStateException"] : List String) (T_X7_addPlayed S past kind performer cueBeat size).1 (fun h' => OpW X h' x (T_X7_addPlayed S past kind performer cueBeat size).2.1 (T_X7_addPlayed S past kind performer cueBeat size).2.2 N hs le lc lf txt ln)) := w_X7_addPlayed hxs hg hW kind performer cueBeat size hk hkf (K := fun r => r = T_X7_addPlayed S past kind performer cueBeat size) (fun r h' a e => by subst e; exact ⟨rfl, a⟩) rfl
def T_X7_cueHush (S : SH) (past : List SH) (cueBeat : Int32) (length : Int32) : (Int32 ⊕ Nat) × SH × List SH := (let r5 := U_putHush S cueBeat length; (if r5.1 = (-1) then ((.inr 0), r5.2, past) else (if r5.1 = (-2) then ((.inr 1), r5.2, past) else ((.inl r5.1), r5.2, ((S :: past).take 8)))))
set_option maxRecDepth 20000 in
set_option maxHeartbeats 2000000 in
theorem w_X7_cueHush {X : KX} (hxs : X.1.stackTraces = false) (hg : GX X) {h : AH} {x : Nat} {S : SH} {past : List SH} {N : SH} {hs le lc lf : Int32} {txt ln : List Int32} (hW : OpW X h x S past N hs le lc lf txt ln) (cueBeat : Int32) (length : Int32) {Z : ZT} {K : (Int32 ⊕ Nat) × SH × List SH → Prop} (hK : ∀ (r : (Int32 ⊕ Nat) × SH × List SH) (h' : AH), OpW X h' x r.2.1 r.2.2 N hs le lc lf txt ln → K r → Z (outT (["java/lang/IllegalArgumentException", "java/lang/IllegalStateException"] : List String) r.1) h') (hz : K (T_X7_cueHush S past cueBeat length)) : Ct X mX7_cueHush [.ref x, .int cueBeat, .int length] h Z := by
  refine Ct.of (by decide) rfl (Nat.le_of_ble_eq_true rfl) rfl hxs ?_
  unfold T_X7_cueHush at hz
  try dsimp only [tb] at hz
  obtain ⟨pr, hO⟩ := hW
  obtain ⟨oS1, hS1⟩ := hO.2.2.2.2.1
  refine V_aload_n dX7_cueHush_0 0 rfl ?_
  refine gf_op_history hO dX7_cueHush_1 flX7_25 ?_
  refine V_aload_n dX7_cueHush_4 0 rfl ?_
  refine gf_op_sheet hO dX7_cueHush_5 flX7_12 ?_
  obtain ⟨Rhc3, jhc3, hjhc3, hlhc3, hc3, hihc3, hphc3, hqhc3⟩ := id hO.2.2.2.2.2.2.2.1
  refine V_cVmv (As := [.ref (x + 1)]) (rest := []) dX7_cueHush_8 cvX7_57 (C_prepare hxs hO.2.2.2.2.2.2.2.1 hS1 hO.2.2.1 (by omega)) hc3.1 rfl ⟨Nat.le_of_ble_eq_true rfl, Nat.le_of_ble_eq_true rfl, Nat.le_of_ble_eq_true rfl, Nat.le_of_ble_eq_true rfl⟩ (Nat.le_of_ble_eq_true rfl) rfl (fun h2 q2 => ?_)
  obtain ⟨hT2, -, hR2⟩ := q2
  have hO2 := hO.hist_upd hT2 hR2
  obtain ⟨oS4, hS4⟩ := hO2.2.2.2.2.1
  refine V_aload_n dX7_cueHush_11 0 rfl ?_
  refine gf_op_sheet hO2 dX7_cueHush_12 flX7_12 ?_
  refine V_iload_n dX7_cueHush_15 1 rfl ?_
  refine V_iload_n dX7_cueHush_16 2 rfl ?_
  refine V_cVmi (As := [.int cueBeat, .int length]) (rest := []) dX7_cueHush_17 cvX7_133 (C_putHush hxs hS4 cueBeat length ) hS4.1 rfl ⟨Nat.le_of_ble_eq_true rfl, Nat.le_of_ble_eq_true rfl, Nat.le_of_ble_eq_true rfl, Nat.le_of_ble_eq_true rfl⟩ (Nat.le_of_ble_eq_true rfl) rfl (fun h5 q5 => ?_)
  obtain ⟨hT5, hR5⟩ := q5
  replace hT5 : ∃ o, IsSh X h5 (x + 1) (U_putHush S cueBeat length).2 o := ⟨_, hT5⟩
  have hI5 : SI (U_putHush S cueBeat length).2 := SI_putHush hO2.2.2.1
  generalize U_putHush S cueBeat length = r5 at hT5 hI5 hz ⊢
  have hO5 := hO2.sheet_upd hT5 hI5 hR5
  obtain ⟨oS6, hS6⟩ := hO5.2.2.2.2.1
  refine V_istore_n (lv' := [(3, .int r5.1), (0, .ref x), (1, .int cueBeat), (2, .int length)]) dX7_cueHush_20 rfl (by decide) rfl ?_
  refine V_iload_n dX7_cueHush_21 0 rfl ?_
  refine V_iconst (v := (-1)) dX7_cueHush_22 (by decide) ?_
  refine V_icmp_ne (tgt := 36) dX7_cueHush_23 (by decide) (fun c7 => ?_) (fun c7 => ?_)
  · rw [if_neg c7] at hz
    refine V_iload_n dX7_cueHush_36 0 rfl ?_
    refine V_bipush (v := (-2)) dX7_cueHush_37 (by decide) ?_
    refine V_icmp_ne (tgt := 52) dX7_cueHush_39 (by decide) (fun c8 => ?_) (fun c8 => ?_)
    · rw [if_neg c8] at hz
      refine V_aload_n dX7_cueHush_52 1 rfl ?_
      refine gf_op_history hO5 dX7_cueHush_53 flX7_25 ?_
      obtain ⟨Rhc10, jhc10, hjhc10, hlhc10, hc10, hihc10, hphc10, hqhc10⟩ := id hO5.2.2.2.2.2.2.2.1
      refine V_cVmv (As := []) (rest := []) dX7_cueHush_56 cvX7_72 (C_keep hxs hO5.2.2.2.2.2.2.2.1) hc10.1 rfl ⟨Nat.le_of_ble_eq_true rfl, Nat.le_of_ble_eq_true rfl, Nat.le_of_ble_eq_true rfl, Nat.le_of_ble_eq_true rfl⟩ (Nat.le_of_ble_eq_true rfl) rfl (fun h9 q9 => ?_)
      obtain ⟨⟨pr9, hT9⟩, hR9⟩ := q9
      have hO9 := hO5.hist_upd hT9 hR9
      obtain ⟨oS11, hS11⟩ := hO9.2.2.2.2.1
      refine V_iload_n dX7_cueHush_59 0 rfl ?_
      exact V_iret dX7_cueHush_60 rfl ⟨Nat.le_of_ble_eq_true rfl, Nat.le_of_ble_eq_true rfl⟩ (hK ((.inl r5.1), r5.2, ((S :: past).take 8)) _ ⟨_, hO9⟩ hz)
    · rw [if_pos c8] at hz
      exact V_throwS (E := "java/lang/IllegalStateException") (names := ["java/lang/RuntimeException", "java/lang/Exception"]) rfl (by decide) (by decide) tk_65.1 tk_65.2 ta_69 hg.1 hg.p (hg.2.1 3 _ _ _ rfl) dX7_cueHush_42 dX7_cueHush_45 dX7_cueHush_46 dX7_cueHush_48 dX7_cueHush_51 (Nat.le_of_ble_eq_true rfl) (Nat.le_of_ble_eq_true rfl) ⟨Nat.le_of_ble_eq_true rfl, Nat.le_of_ble_eq_true rfl⟩ (fun q9 hq9 => hK ((.inr 1), r5.2, past) _ ⟨_, hO5.bump hq9⟩ hz)
  · rw [if_pos c7] at hz
    exact V_throwS (E := "java/lang/IllegalArgumentException") (names := ["java/lang/RuntimeException", "java/lang/Exception"]) rfl (by decide) (by decide) tk_95.1 tk_95.2 ta_99 hg.1 hg.p (hg.2.1 4 _ _ _ rfl) dX7_cueHush_26 dX7_cueHush_29 dX7_cueHush_30 dX7_cueHush_32 dX7_cueHush_35 (Nat.le_of_ble_eq_true rfl) (Nat.le_of_ble_eq_true rfl) ⟨Nat.le_of_ble_eq_true rfl, Nat.le_of_ble_eq_true rfl⟩ (fun q9 hq9 => hK ((.inr 0), r5.2, past) _ ⟨_, hO5.bump hq9⟩ hz)
theorem c_X7_cueHush {X : KX} (hxs : X.1.stackTraces = false) (hg : GX X) {h : AH} {x : Nat} {S : SH} {past : List SH} {N : SH} {hs le lc lf : Int32} {txt ln : List Int32} (hW : OpW X h x S past N hs le lc lf txt ln) (cueBeat : Int32) (length : Int32) : Ct X mX7_cueHush [.ref x, .int cueBeat, .int length] h (zT (["java/lang/IllegalArgumentException", "java/lang/IllegalStateException"] : List String) (T_X7_cueHush S past cueBeat length).1 (fun h' => OpW X h' x (T_X7_cueHush S past cueBeat length).2.1 (T_X7_cueHush S past cueBeat length).2.2 N hs le lc lf txt ln)) := w_X7_cueHush hxs hg hW cueBeat length  (K := fun r => r = T_X7_cueHush S past cueBeat length) (fun r h' a e => by subst e; exact ⟨rfl, a⟩) rfl
def T_X7_cancelCue (S : SH) (past : List SH) (cue : Int32) : (Int32 ⊕ Nat) × SH × List SH := (let r5 := U_cancel S cue; (if r5.1 = (-1) then ((.inr 0), r5.2, past) else ((.inl r5.1), r5.2, ((S :: past).take 8))))
set_option maxRecDepth 20000 in
set_option maxHeartbeats 2000000 in
theorem w_X7_cancelCue {X : KX} (hxs : X.1.stackTraces = false) (hg : GX X) {h : AH} {x : Nat} {S : SH} {past : List SH} {N : SH} {hs le lc lf : Int32} {txt ln : List Int32} (hW : OpW X h x S past N hs le lc lf txt ln) (cue : Int32) {Z : ZT} {K : (Int32 ⊕ Nat) × SH × List SH → Prop} (hK : ∀ (r : (Int32 ⊕ Nat) × SH × List SH) (h' : AH), OpW X h' x r.2.1 r.2.2 N hs le lc lf txt ln → K r → Z (outT (["java/util/NoSuchElementException"] : List String) r.1) h') (hz : K (T_X7_cancelCue S past cue)) : Ct X mX7_cancelCue [.ref x, .int cue] h Z := by
  refine Ct.of (by decide) rfl (Nat.le_of_ble_eq_true rfl) rfl hxs ?_
  unfold T_X7_cancelCue at hz
  try dsimp only [tb] at hz
  obtain ⟨pr, hO⟩ := hW
  obtain ⟨oS1, hS1⟩ := hO.2.2.2.2.1
  refine V_aload_n dX7_cancelCue_0 0 rfl ?_
  refine gf_op_history hO dX7_cancelCue_1 flX7_25 ?_
  refine V_aload_n dX7_cancelCue_4 0 rfl ?_
  refine gf_op_sheet hO dX7_cancelCue_5 flX7_12 ?_
  obtain ⟨Rhc3, jhc3, hjhc3, hlhc3, hc3, hihc3, hphc3, hqhc3⟩ := id hO.2.2.2.2.2.2.2.1
  refine V_cVmv (As := [.ref (x + 1)]) (rest := []) dX7_cancelCue_8 cvX7_57 (C_prepare hxs hO.2.2.2.2.2.2.2.1 hS1 hO.2.2.1 (by omega)) hc3.1 rfl ⟨Nat.le_of_ble_eq_true rfl, Nat.le_of_ble_eq_true rfl, Nat.le_of_ble_eq_true rfl, Nat.le_of_ble_eq_true rfl⟩ (Nat.le_of_ble_eq_true rfl) rfl (fun h2 q2 => ?_)
  obtain ⟨hT2, -, hR2⟩ := q2
  have hO2 := hO.hist_upd hT2 hR2
  obtain ⟨oS4, hS4⟩ := hO2.2.2.2.2.1
  refine V_aload_n dX7_cancelCue_11 0 rfl ?_
  refine gf_op_sheet hO2 dX7_cancelCue_12 flX7_12 ?_
  refine V_iload_n dX7_cancelCue_15 1 rfl ?_
  refine V_cVmi (As := [.int cue]) (rest := []) dX7_cancelCue_16 cvX7_138 (C_cancel hxs hS4 cue ) hS4.1 rfl ⟨Nat.le_of_ble_eq_true rfl, Nat.le_of_ble_eq_true rfl, Nat.le_of_ble_eq_true rfl, Nat.le_of_ble_eq_true rfl⟩ (Nat.le_of_ble_eq_true rfl) rfl (fun h5 q5 => ?_)
  obtain ⟨hT5, hR5⟩ := q5
  replace hT5 : ∃ o, IsSh X h5 (x + 1) (U_cancel S cue).2 o := ⟨_, hT5⟩
  have hI5 : SI (U_cancel S cue).2 := SI_cancel hO2.2.2.1
  generalize U_cancel S cue = r5 at hT5 hI5 hz ⊢
  have hO5 := hO2.sheet_upd hT5 hI5 hR5
  obtain ⟨oS6, hS6⟩ := hO5.2.2.2.2.1
  refine V_istore_n (lv' := [(2, .int r5.1), (0, .ref x), (1, .int cue)]) dX7_cancelCue_19 rfl (by decide) rfl ?_
  refine V_iload_n dX7_cancelCue_20 0 rfl ?_
  refine V_iconst (v := (-1)) dX7_cancelCue_21 (by decide) ?_
  refine V_icmp_ne (tgt := 35) dX7_cancelCue_22 (by decide) (fun c7 => ?_) (fun c7 => ?_)
  · rw [if_neg c7] at hz
    refine V_aload_n dX7_cancelCue_35 1 rfl ?_
    refine gf_op_history hO5 dX7_cancelCue_36 flX7_25 ?_
    obtain ⟨Rhc9, jhc9, hjhc9, hlhc9, hc9, hihc9, hphc9, hqhc9⟩ := id hO5.2.2.2.2.2.2.2.1
    refine V_cVmv (As := []) (rest := []) dX7_cancelCue_39 cvX7_72 (C_keep hxs hO5.2.2.2.2.2.2.2.1) hc9.1 rfl ⟨Nat.le_of_ble_eq_true rfl, Nat.le_of_ble_eq_true rfl, Nat.le_of_ble_eq_true rfl, Nat.le_of_ble_eq_true rfl⟩ (Nat.le_of_ble_eq_true rfl) rfl (fun h8 q8 => ?_)
    obtain ⟨⟨pr8, hT8⟩, hR8⟩ := q8
    have hO8 := hO5.hist_upd hT8 hR8
    obtain ⟨oS10, hS10⟩ := hO8.2.2.2.2.1
    refine V_iload_n dX7_cancelCue_42 0 rfl ?_
    exact V_iret dX7_cancelCue_43 rfl ⟨Nat.le_of_ble_eq_true rfl, Nat.le_of_ble_eq_true rfl⟩ (hK ((.inl r5.1), r5.2, ((S :: past).take 8)) _ ⟨_, hO8⟩ hz)
  · rw [if_pos c7] at hz
    exact V_throwG (E := "java/util/NoSuchElementException") (Y1 := "java/lang/RuntimeException") (names := ["java/lang/Exception"]) nb_0 nb_1 nb_2 nb_5 rfl (by decide) (by decide) (by decide) tk_117.1 tk_117.2 ta_121 hg.1 hg.p (hg.2.1 5 _ _ _ rfl) dX7_cancelCue_25 dX7_cancelCue_28 dX7_cancelCue_29 dX7_cancelCue_31 dX7_cancelCue_34 (Nat.le_of_ble_eq_true rfl) (Nat.le_of_ble_eq_true rfl) ⟨Nat.le_of_ble_eq_true rfl, Nat.le_of_ble_eq_true rfl⟩ (fun q9 hq9 => hK ((.inr 0), r5.2, past) _ ⟨_, hO5.bump hq9⟩ hz)
theorem c_X7_cancelCue {X : KX} (hxs : X.1.stackTraces = false) (hg : GX X) {h : AH} {x : Nat} {S : SH} {past : List SH} {N : SH} {hs le lc lf : Int32} {txt ln : List Int32} (hW : OpW X h x S past N hs le lc lf txt ln) (cue : Int32) : Ct X mX7_cancelCue [.ref x, .int cue] h (zT (["java/util/NoSuchElementException"] : List String) (T_X7_cancelCue S past cue).1 (fun h' => OpW X h' x (T_X7_cancelCue S past cue).2.1 (T_X7_cancelCue S past cue).2.2 N hs le lc lf txt ln)) := w_X7_cancelCue hxs hg hW cue  (K := fun r => r = T_X7_cancelCue S past cue) (fun r h' a e => by subst e; exact ⟨rfl, a⟩) rfl
def T_X7_moveCue (S : SH) (past : List SH) (cue : Int32) (cueBeat : Int32) : (Int32 ⊕ Nat) × SH × List SH := (let r5 := U_move S cue cueBeat; (if r5.1 = (-1) then ((.inr 0), r5.2, past) else (if r5.1 = (-2) then ((.inr 1), r5.2, past) else ((.inl r5.1), r5.2, ((S :: past).take 8)))))
set_option maxRecDepth 20000 in
set_option maxHeartbeats 2000000 in
theorem w_X7_moveCue {X : KX} (hxs : X.1.stackTraces = false) (hg : GX X) {h : AH} {x : Nat} {S : SH} {past : List SH} {N : SH} {hs le lc lf : Int32} {txt ln : List Int32} (hW : OpW X h x S past N hs le lc lf txt ln) (cue : Int32) (cueBeat : Int32) {Z : ZT} {K : (Int32 ⊕ Nat) × SH × List SH → Prop} (hK : ∀ (r : (Int32 ⊕ Nat) × SH × List SH) (h' : AH), OpW X h' x r.2.1 r.2.2 N hs le lc lf txt ln → K r → Z (outT (["java/util/NoSuchElementException", "java/lang/IllegalArgumentException"] : List String) r.1) h') (hz : K (T_X7_moveCue S past cue cueBeat)) : Ct X mX7_moveCue [.ref x, .int cue, .int cueBeat] h Z := by
  refine Ct.of (by decide) rfl (Nat.le_of_ble_eq_true rfl) rfl hxs ?_
  unfold T_X7_moveCue at hz
  try dsimp only [tb] at hz
  obtain ⟨pr, hO⟩ := hW
  obtain ⟨oS1, hS1⟩ := hO.2.2.2.2.1
  refine V_aload_n dX7_moveCue_0 0 rfl ?_
  refine gf_op_history hO dX7_moveCue_1 flX7_25 ?_
  refine V_aload_n dX7_moveCue_4 0 rfl ?_
  refine gf_op_sheet hO dX7_moveCue_5 flX7_12 ?_
  obtain ⟨Rhc3, jhc3, hjhc3, hlhc3, hc3, hihc3, hphc3, hqhc3⟩ := id hO.2.2.2.2.2.2.2.1
  refine V_cVmv (As := [.ref (x + 1)]) (rest := []) dX7_moveCue_8 cvX7_57 (C_prepare hxs hO.2.2.2.2.2.2.2.1 hS1 hO.2.2.1 (by omega)) hc3.1 rfl ⟨Nat.le_of_ble_eq_true rfl, Nat.le_of_ble_eq_true rfl, Nat.le_of_ble_eq_true rfl, Nat.le_of_ble_eq_true rfl⟩ (Nat.le_of_ble_eq_true rfl) rfl (fun h2 q2 => ?_)
  obtain ⟨hT2, -, hR2⟩ := q2
  have hO2 := hO.hist_upd hT2 hR2
  obtain ⟨oS4, hS4⟩ := hO2.2.2.2.2.1
  refine V_aload_n dX7_moveCue_11 0 rfl ?_
  refine gf_op_sheet hO2 dX7_moveCue_12 flX7_12 ?_
  refine V_iload_n dX7_moveCue_15 1 rfl ?_
  refine V_iload_n dX7_moveCue_16 2 rfl ?_
  refine V_cVmi (As := [.int cue, .int cueBeat]) (rest := []) dX7_moveCue_17 cvX7_143 (C_move hxs hS4 cue cueBeat ) hS4.1 rfl ⟨Nat.le_of_ble_eq_true rfl, Nat.le_of_ble_eq_true rfl, Nat.le_of_ble_eq_true rfl, Nat.le_of_ble_eq_true rfl⟩ (Nat.le_of_ble_eq_true rfl) rfl (fun h5 q5 => ?_)
  obtain ⟨hT5, hR5⟩ := q5
  replace hT5 : ∃ o, IsSh X h5 (x + 1) (U_move S cue cueBeat).2 o := ⟨_, hT5⟩
  have hI5 : SI (U_move S cue cueBeat).2 := SI_move hO2.2.2.1
  generalize U_move S cue cueBeat = r5 at hT5 hI5 hz ⊢
  have hO5 := hO2.sheet_upd hT5 hI5 hR5
  obtain ⟨oS6, hS6⟩ := hO5.2.2.2.2.1
  refine V_istore_n (lv' := [(3, .int r5.1), (0, .ref x), (1, .int cue), (2, .int cueBeat)]) dX7_moveCue_20 rfl (by decide) rfl ?_
  refine V_iload_n dX7_moveCue_21 0 rfl ?_
  refine V_iconst (v := (-1)) dX7_moveCue_22 (by decide) ?_
  refine V_icmp_ne (tgt := 36) dX7_moveCue_23 (by decide) (fun c7 => ?_) (fun c7 => ?_)
  · rw [if_neg c7] at hz
    refine V_iload_n dX7_moveCue_36 0 rfl ?_
    refine V_bipush (v := (-2)) dX7_moveCue_37 (by decide) ?_
    refine V_icmp_ne (tgt := 52) dX7_moveCue_39 (by decide) (fun c8 => ?_) (fun c8 => ?_)
    · rw [if_neg c8] at hz
      refine V_aload_n dX7_moveCue_52 1 rfl ?_
      refine gf_op_history hO5 dX7_moveCue_53 flX7_25 ?_
      obtain ⟨Rhc10, jhc10, hjhc10, hlhc10, hc10, hihc10, hphc10, hqhc10⟩ := id hO5.2.2.2.2.2.2.2.1
      refine V_cVmv (As := []) (rest := []) dX7_moveCue_56 cvX7_72 (C_keep hxs hO5.2.2.2.2.2.2.2.1) hc10.1 rfl ⟨Nat.le_of_ble_eq_true rfl, Nat.le_of_ble_eq_true rfl, Nat.le_of_ble_eq_true rfl, Nat.le_of_ble_eq_true rfl⟩ (Nat.le_of_ble_eq_true rfl) rfl (fun h9 q9 => ?_)
      obtain ⟨⟨pr9, hT9⟩, hR9⟩ := q9
      have hO9 := hO5.hist_upd hT9 hR9
      obtain ⟨oS11, hS11⟩ := hO9.2.2.2.2.1
      refine V_iload_n dX7_moveCue_59 0 rfl ?_
      exact V_iret dX7_moveCue_60 rfl ⟨Nat.le_of_ble_eq_true rfl, Nat.le_of_ble_eq_true rfl⟩ (hK ((.inl r5.1), r5.2, ((S :: past).take 8)) _ ⟨_, hO9⟩ hz)
    · rw [if_pos c8] at hz
      exact V_throwS (E := "java/lang/IllegalArgumentException") (names := ["java/lang/RuntimeException", "java/lang/Exception"]) rfl (by decide) (by decide) tk_95.1 tk_95.2 ta_99 hg.1 hg.p (hg.2.1 30 _ _ _ rfl) dX7_moveCue_42 dX7_moveCue_45 dX7_moveCue_46 dX7_moveCue_48 dX7_moveCue_51 (Nat.le_of_ble_eq_true rfl) (Nat.le_of_ble_eq_true rfl) ⟨Nat.le_of_ble_eq_true rfl, Nat.le_of_ble_eq_true rfl⟩ (fun q9 hq9 => hK ((.inr 1), r5.2, past) _ ⟨_, hO5.bump hq9⟩ hz)
  · rw [if_pos c7] at hz
    exact V_throwG (E := "java/util/NoSuchElementException") (Y1 := "java/lang/RuntimeException") (names := ["java/lang/Exception"]) nb_0 nb_1 nb_2 nb_5 rfl (by decide) (by decide) (by decide) tk_117.1 tk_117.2 ta_121 hg.1 hg.p (hg.2.1 5 _ _ _ rfl) dX7_moveCue_26 dX7_moveCue_29 dX7_moveCue_30 dX7_moveCue_32 dX7_moveCue_35 (Nat.le_of_ble_eq_true rfl) (Nat.le_of_ble_eq_true rfl) ⟨Nat.le_of_ble_eq_true rfl, Nat.le_of_ble_eq_true rfl⟩ (fun q9 hq9 => hK ((.inr 0), r5.2, past) _ ⟨_, hO5.bump hq9⟩ hz)
theorem c_X7_moveCue {X : KX} (hxs : X.1.stackTraces = false) (hg : GX X) {h : AH} {x : Nat} {S : SH} {past : List SH} {N : SH} {hs le lc lf : Int32} {txt ln : List Int32} (hW : OpW X h x S past N hs le lc lf txt ln) (cue : Int32) (cueBeat : Int32) : Ct X mX7_moveCue [.ref x, .int cue, .int cueBeat] h (zT (["java/util/NoSuchElementException", "java/lang/IllegalArgumentException"] : List String) (T_X7_moveCue S past cue cueBeat).1 (fun h' => OpW X h' x (T_X7_moveCue S past cue cueBeat).2.1 (T_X7_moveCue S past cue cueBeat).2.2 N hs le lc lf txt ln)) := w_X7_moveCue hxs hg hW cue cueBeat  (K := fun r => r = T_X7_moveCue S past cue cueBeat) (fun r h' a e => by subst e; exact ⟨rfl, a⟩) rfl
def T_X7_setLimit (S : SH) (past : List SH) (newLimit : Int32) : (Int32 ⊕ Nat) × SH × List SH := (let r5 := U_limitNoise S newLimit; (if r5.1 = (-1) then ((.inr 0), r5.2, past) else ((.inl r5.1), r5.2, ((S :: past).take 8))))
set_option maxRecDepth 20000 in
set_option maxHeartbeats 2000000 in
theorem w_X7_setLimit {X : KX} (hxs : X.1.stackTraces = false) (hg : GX X) {h : AH} {x : Nat} {S : SH} {past : List SH} {N : SH} {hs le lc lf : Int32} {txt ln : List Int32} (hW : OpW X h x S past N hs le lc lf txt ln) (newLimit : Int32) {Z : ZT} {K : (Int32 ⊕ Nat) × SH × List SH → Prop} (hK : ∀ (r : (Int32 ⊕ Nat) × SH × List SH) (h' : AH), OpW X h' x r.2.1 r.2.2 N hs le lc lf txt ln → K r → Z (outT (["java/lang/IllegalArgumentException"] : List String) r.1) h') (hz : K (T_X7_setLimit S past newLimit)) : Ct X mX7_setLimit [.ref x, .int newLimit] h Z := by
  refine Ct.of (by decide) rfl (Nat.le_of_ble_eq_true rfl) rfl hxs ?_
  unfold T_X7_setLimit at hz
  try dsimp only [tb] at hz
  obtain ⟨pr, hO⟩ := hW
  obtain ⟨oS1, hS1⟩ := hO.2.2.2.2.1
  refine V_aload_n dX7_setLimit_0 0 rfl ?_
  refine gf_op_history hO dX7_setLimit_1 flX7_25 ?_
  refine V_aload_n dX7_setLimit_4 0 rfl ?_
  refine gf_op_sheet hO dX7_setLimit_5 flX7_12 ?_
  obtain ⟨Rhc3, jhc3, hjhc3, hlhc3, hc3, hihc3, hphc3, hqhc3⟩ := id hO.2.2.2.2.2.2.2.1
  refine V_cVmv (As := [.ref (x + 1)]) (rest := []) dX7_setLimit_8 cvX7_57 (C_prepare hxs hO.2.2.2.2.2.2.2.1 hS1 hO.2.2.1 (by omega)) hc3.1 rfl ⟨Nat.le_of_ble_eq_true rfl, Nat.le_of_ble_eq_true rfl, Nat.le_of_ble_eq_true rfl, Nat.le_of_ble_eq_true rfl⟩ (Nat.le_of_ble_eq_true rfl) rfl (fun h2 q2 => ?_)
  obtain ⟨hT2, -, hR2⟩ := q2
  have hO2 := hO.hist_upd hT2 hR2
  obtain ⟨oS4, hS4⟩ := hO2.2.2.2.2.1
  refine V_aload_n dX7_setLimit_11 0 rfl ?_
  refine gf_op_sheet hO2 dX7_setLimit_12 flX7_12 ?_
  refine V_iload_n dX7_setLimit_15 1 rfl ?_
  refine V_cVmi (As := [.int newLimit]) (rest := []) dX7_setLimit_16 cvX7_204 (C_limitNoise hxs hS4 newLimit ) hS4.1 rfl ⟨Nat.le_of_ble_eq_true rfl, Nat.le_of_ble_eq_true rfl, Nat.le_of_ble_eq_true rfl, Nat.le_of_ble_eq_true rfl⟩ (Nat.le_of_ble_eq_true rfl) rfl (fun h5 q5 => ?_)
  obtain ⟨hT5, hR5⟩ := q5
  replace hT5 : ∃ o, IsSh X h5 (x + 1) (U_limitNoise S newLimit).2 o := ⟨_, hT5⟩
  have hI5 : SI (U_limitNoise S newLimit).2 := SI_limitNoise hO2.2.2.1
  generalize U_limitNoise S newLimit = r5 at hT5 hI5 hz ⊢
  have hO5 := hO2.sheet_upd hT5 hI5 hR5
  obtain ⟨oS6, hS6⟩ := hO5.2.2.2.2.1
  refine V_istore_n (lv' := [(2, .int r5.1), (0, .ref x), (1, .int newLimit)]) dX7_setLimit_19 rfl (by decide) rfl ?_
  refine V_iload_n dX7_setLimit_20 0 rfl ?_
  refine V_iconst (v := (-1)) dX7_setLimit_21 (by decide) ?_
  refine V_icmp_ne (tgt := 35) dX7_setLimit_22 (by decide) (fun c7 => ?_) (fun c7 => ?_)
  · rw [if_neg c7] at hz
    refine V_aload_n dX7_setLimit_35 1 rfl ?_
    refine gf_op_history hO5 dX7_setLimit_36 flX7_25 ?_
    obtain ⟨Rhc9, jhc9, hjhc9, hlhc9, hc9, hihc9, hphc9, hqhc9⟩ := id hO5.2.2.2.2.2.2.2.1
    refine V_cVmv (As := []) (rest := []) dX7_setLimit_39 cvX7_72 (C_keep hxs hO5.2.2.2.2.2.2.2.1) hc9.1 rfl ⟨Nat.le_of_ble_eq_true rfl, Nat.le_of_ble_eq_true rfl, Nat.le_of_ble_eq_true rfl, Nat.le_of_ble_eq_true rfl⟩ (Nat.le_of_ble_eq_true rfl) rfl (fun h8 q8 => ?_)
    obtain ⟨⟨pr8, hT8⟩, hR8⟩ := q8
    have hO8 := hO5.hist_upd hT8 hR8
    obtain ⟨oS10, hS10⟩ := hO8.2.2.2.2.1
    refine V_iload_n dX7_setLimit_42 0 rfl ?_
    exact V_iret dX7_setLimit_43 rfl ⟨Nat.le_of_ble_eq_true rfl, Nat.le_of_ble_eq_true rfl⟩ (hK ((.inl r5.1), r5.2, ((S :: past).take 8)) _ ⟨_, hO8⟩ hz)
  · rw [if_pos c7] at hz
    exact V_throwS (E := "java/lang/IllegalArgumentException") (names := ["java/lang/RuntimeException", "java/lang/Exception"]) rfl (by decide) (by decide) tk_95.1 tk_95.2 ta_99 hg.1 hg.p (hg.2.1 20 _ _ _ rfl) dX7_setLimit_25 dX7_setLimit_28 dX7_setLimit_29 dX7_setLimit_31 dX7_setLimit_34 (Nat.le_of_ble_eq_true rfl) (Nat.le_of_ble_eq_true rfl) ⟨Nat.le_of_ble_eq_true rfl, Nat.le_of_ble_eq_true rfl⟩ (fun q9 hq9 => hK ((.inr 0), r5.2, past) _ ⟨_, hO5.bump hq9⟩ hz)
theorem c_X7_setLimit {X : KX} (hxs : X.1.stackTraces = false) (hg : GX X) {h : AH} {x : Nat} {S : SH} {past : List SH} {N : SH} {hs le lc lf : Int32} {txt ln : List Int32} (hW : OpW X h x S past N hs le lc lf txt ln) (newLimit : Int32) : Ct X mX7_setLimit [.ref x, .int newLimit] h (zT (["java/lang/IllegalArgumentException"] : List String) (T_X7_setLimit S past newLimit).1 (fun h' => OpW X h' x (T_X7_setLimit S past newLimit).2.1 (T_X7_setLimit S past newLimit).2.2 N hs le lc lf txt ln)) := w_X7_setLimit hxs hg hW newLimit  (K := fun r => r = T_X7_setLimit S past newLimit) (fun r h' a e => by subst e; exact ⟨rfl, a⟩) rfl
def T_X7_advance (S : SH) (past : List SH) (b : Int32) : (Int32 ⊕ Nat) × SH × List SH := (let r5 := U_pass S b; (if r5.1 = (-1) then ((.inr 0), r5.2, past) else ((.inl r5.1), r5.2, ((S :: past).take 8))))
set_option maxRecDepth 20000 in
set_option maxHeartbeats 2000000 in
theorem w_X7_advance {X : KX} (hxs : X.1.stackTraces = false) (hg : GX X) {h : AH} {x : Nat} {S : SH} {past : List SH} {N : SH} {hs le lc lf : Int32} {txt ln : List Int32} (hW : OpW X h x S past N hs le lc lf txt ln) (b : Int32) {Z : ZT} {K : (Int32 ⊕ Nat) × SH × List SH → Prop} (hK : ∀ (r : (Int32 ⊕ Nat) × SH × List SH) (h' : AH), OpW X h' x r.2.1 r.2.2 N hs le lc lf txt ln → K r → Z (outT (["java/lang/IllegalArgumentException"] : List String) r.1) h') (hz : K (T_X7_advance S past b)) : Ct X mX7_advance [.ref x, .int b] h Z := by
  refine Ct.of (by decide) rfl (Nat.le_of_ble_eq_true rfl) rfl hxs ?_
  unfold T_X7_advance at hz
  try dsimp only [tb] at hz
  obtain ⟨pr, hO⟩ := hW
  obtain ⟨oS1, hS1⟩ := hO.2.2.2.2.1
  refine V_aload_n dX7_advance_0 0 rfl ?_
  refine gf_op_history hO dX7_advance_1 flX7_25 ?_
  refine V_aload_n dX7_advance_4 0 rfl ?_
  refine gf_op_sheet hO dX7_advance_5 flX7_12 ?_
  obtain ⟨Rhc3, jhc3, hjhc3, hlhc3, hc3, hihc3, hphc3, hqhc3⟩ := id hO.2.2.2.2.2.2.2.1
  refine V_cVmv (As := [.ref (x + 1)]) (rest := []) dX7_advance_8 cvX7_57 (C_prepare hxs hO.2.2.2.2.2.2.2.1 hS1 hO.2.2.1 (by omega)) hc3.1 rfl ⟨Nat.le_of_ble_eq_true rfl, Nat.le_of_ble_eq_true rfl, Nat.le_of_ble_eq_true rfl, Nat.le_of_ble_eq_true rfl⟩ (Nat.le_of_ble_eq_true rfl) rfl (fun h2 q2 => ?_)
  obtain ⟨hT2, -, hR2⟩ := q2
  have hO2 := hO.hist_upd hT2 hR2
  obtain ⟨oS4, hS4⟩ := hO2.2.2.2.2.1
  refine V_aload_n dX7_advance_11 0 rfl ?_
  refine gf_op_sheet hO2 dX7_advance_12 flX7_12 ?_
  refine V_iload_n dX7_advance_15 1 rfl ?_
  refine V_cVmi (As := [.int b]) (rest := []) dX7_advance_16 cvX7_220 (C_pass hxs hS4 hO2.2.2.1 b) hS4.1 rfl ⟨Nat.le_of_ble_eq_true rfl, Nat.le_of_ble_eq_true rfl, Nat.le_of_ble_eq_true rfl, Nat.le_of_ble_eq_true rfl⟩ (Nat.le_of_ble_eq_true rfl) rfl (fun h5 q5 => ?_)
  obtain ⟨hT5, hR5⟩ := q5
  have hI5 : SI (U_pass S b).2 := SI_pass hO2.2.2.1
  generalize U_pass S b = r5 at hT5 hI5 hz ⊢
  have hO5 := hO2.sheet_upd hT5 hI5 hR5
  obtain ⟨oS6, hS6⟩ := hO5.2.2.2.2.1
  refine V_istore_n (lv' := [(2, .int r5.1), (0, .ref x), (1, .int b)]) dX7_advance_19 rfl (by decide) rfl ?_
  refine V_iload_n dX7_advance_20 0 rfl ?_
  refine V_iconst (v := (-1)) dX7_advance_21 (by decide) ?_
  refine V_icmp_ne (tgt := 35) dX7_advance_22 (by decide) (fun c7 => ?_) (fun c7 => ?_)
  · rw [if_neg c7] at hz
    refine V_aload_n dX7_advance_35 1 rfl ?_
    refine gf_op_history hO5 dX7_advance_36 flX7_25 ?_
    obtain ⟨Rhc9, jhc9, hjhc9, hlhc9, hc9, hihc9, hphc9, hqhc9⟩ := id hO5.2.2.2.2.2.2.2.1
    refine V_cVmv (As := []) (rest := []) dX7_advance_39 cvX7_72 (C_keep hxs hO5.2.2.2.2.2.2.2.1) hc9.1 rfl ⟨Nat.le_of_ble_eq_true rfl, Nat.le_of_ble_eq_true rfl, Nat.le_of_ble_eq_true rfl, Nat.le_of_ble_eq_true rfl⟩ (Nat.le_of_ble_eq_true rfl) rfl (fun h8 q8 => ?_)
    obtain ⟨⟨pr8, hT8⟩, hR8⟩ := q8
    have hO8 := hO5.hist_upd hT8 hR8
    obtain ⟨oS10, hS10⟩ := hO8.2.2.2.2.1
    refine V_iload_n dX7_advance_42 0 rfl ?_
    exact V_iret dX7_advance_43 rfl ⟨Nat.le_of_ble_eq_true rfl, Nat.le_of_ble_eq_true rfl⟩ (hK ((.inl r5.1), r5.2, ((S :: past).take 8)) _ ⟨_, hO8⟩ hz)
  · rw [if_pos c7] at hz
    exact V_throwS (E := "java/lang/IllegalArgumentException") (names := ["java/lang/RuntimeException", "java/lang/Exception"]) rfl (by decide) (by decide) tk_95.1 tk_95.2 ta_99 hg.1 hg.p (hg.2.1 6 _ _ _ rfl) dX7_advance_25 dX7_advance_28 dX7_advance_29 dX7_advance_31 dX7_advance_34 (Nat.le_of_ble_eq_true rfl) (Nat.le_of_ble_eq_true rfl) ⟨Nat.le_of_ble_eq_true rfl, Nat.le_of_ble_eq_true rfl⟩ (fun q9 hq9 => hK ((.inr 0), r5.2, past) _ ⟨_, hO5.bump hq9⟩ hz)
theorem c_X7_advance {X : KX} (hxs : X.1.stackTraces = false) (hg : GX X) {h : AH} {x : Nat} {S : SH} {past : List SH} {N : SH} {hs le lc lf : Int32} {txt ln : List Int32} (hW : OpW X h x S past N hs le lc lf txt ln) (b : Int32) : Ct X mX7_advance [.ref x, .int b] h (zT (["java/lang/IllegalArgumentException"] : List String) (T_X7_advance S past b).1 (fun h' => OpW X h' x (T_X7_advance S past b).2.1 (T_X7_advance S past b).2.2 N hs le lc lf txt ln)) := w_X7_advance hxs hg hW b  (K := fun r => r = T_X7_advance S past b) (fun r h' a e => by subst e; exact ⟨rfl, a⟩) rfl
def T_X7_turnAct (S : SH) (past : List SH) : (Int32 ⊕ Nat) × SH × List SH := (let r5 := U_openAct S; (if r5.1 = (-1) then ((.inr 0), r5.2, past) else ((.inl r5.1), r5.2, ((S :: past).take 8))))
set_option maxRecDepth 20000 in
set_option maxHeartbeats 2000000 in
theorem w_X7_turnAct {X : KX} (hxs : X.1.stackTraces = false) (hg : GX X) {h : AH} {x : Nat} {S : SH} {past : List SH} {N : SH} {hs le lc lf : Int32} {txt ln : List Int32} (hW : OpW X h x S past N hs le lc lf txt ln) {Z : ZT} {K : (Int32 ⊕ Nat) × SH × List SH → Prop} (hK : ∀ (r : (Int32 ⊕ Nat) × SH × List SH) (h' : AH), OpW X h' x r.2.1 r.2.2 N hs le lc lf txt ln → K r → Z (outT (["java/lang/IllegalStateException"] : List String) r.1) h') (hz : K (T_X7_turnAct S past)) : Ct X mX7_turnAct [.ref x] h Z := by
  refine Ct.of (by decide) rfl (Nat.le_of_ble_eq_true rfl) rfl hxs ?_
  unfold T_X7_turnAct at hz
  try dsimp only [tb] at hz
  obtain ⟨pr, hO⟩ := hW
  obtain ⟨oS1, hS1⟩ := hO.2.2.2.2.1
  refine V_aload_n dX7_turnAct_0 0 rfl ?_
  refine gf_op_history hO dX7_turnAct_1 flX7_25 ?_
  refine V_aload_n dX7_turnAct_4 0 rfl ?_
  refine gf_op_sheet hO dX7_turnAct_5 flX7_12 ?_
  obtain ⟨Rhc3, jhc3, hjhc3, hlhc3, hc3, hihc3, hphc3, hqhc3⟩ := id hO.2.2.2.2.2.2.2.1
  refine V_cVmv (As := [.ref (x + 1)]) (rest := []) dX7_turnAct_8 cvX7_57 (C_prepare hxs hO.2.2.2.2.2.2.2.1 hS1 hO.2.2.1 (by omega)) hc3.1 rfl ⟨Nat.le_of_ble_eq_true rfl, Nat.le_of_ble_eq_true rfl, Nat.le_of_ble_eq_true rfl, Nat.le_of_ble_eq_true rfl⟩ (Nat.le_of_ble_eq_true rfl) rfl (fun h2 q2 => ?_)
  obtain ⟨hT2, -, hR2⟩ := q2
  have hO2 := hO.hist_upd hT2 hR2
  obtain ⟨oS4, hS4⟩ := hO2.2.2.2.2.1
  refine V_aload_n dX7_turnAct_11 0 rfl ?_
  refine gf_op_sheet hO2 dX7_turnAct_12 flX7_12 ?_
  refine V_cVmi (As := []) (rest := []) dX7_turnAct_15 cvX7_225 (C_openAct hxs hS4  ) hS4.1 rfl ⟨Nat.le_of_ble_eq_true rfl, Nat.le_of_ble_eq_true rfl, Nat.le_of_ble_eq_true rfl, Nat.le_of_ble_eq_true rfl⟩ (Nat.le_of_ble_eq_true rfl) rfl (fun h5 q5 => ?_)
  obtain ⟨hT5, hR5⟩ := q5
  replace hT5 : ∃ o, IsSh X h5 (x + 1) (U_openAct S).2 o := ⟨_, hT5⟩
  have hI5 : SI (U_openAct S).2 := SI_openAct hO2.2.2.1
  generalize U_openAct S = r5 at hT5 hI5 hz ⊢
  have hO5 := hO2.sheet_upd hT5 hI5 hR5
  obtain ⟨oS6, hS6⟩ := hO5.2.2.2.2.1
  refine V_istore_n (lv' := [(1, .int r5.1), (0, .ref x)]) dX7_turnAct_18 rfl (by decide) rfl ?_
  refine V_iload_n dX7_turnAct_19 0 rfl ?_
  refine V_iconst (v := (-1)) dX7_turnAct_20 (by decide) ?_
  refine V_icmp_ne (tgt := 34) dX7_turnAct_21 (by decide) (fun c7 => ?_) (fun c7 => ?_)
  · rw [if_neg c7] at hz
    refine V_aload_n dX7_turnAct_34 1 rfl ?_
    refine gf_op_history hO5 dX7_turnAct_35 flX7_25 ?_
    obtain ⟨Rhc9, jhc9, hjhc9, hlhc9, hc9, hihc9, hphc9, hqhc9⟩ := id hO5.2.2.2.2.2.2.2.1
    refine V_cVmv (As := []) (rest := []) dX7_turnAct_38 cvX7_72 (C_keep hxs hO5.2.2.2.2.2.2.2.1) hc9.1 rfl ⟨Nat.le_of_ble_eq_true rfl, Nat.le_of_ble_eq_true rfl, Nat.le_of_ble_eq_true rfl, Nat.le_of_ble_eq_true rfl⟩ (Nat.le_of_ble_eq_true rfl) rfl (fun h8 q8 => ?_)
    obtain ⟨⟨pr8, hT8⟩, hR8⟩ := q8
    have hO8 := hO5.hist_upd hT8 hR8
    obtain ⟨oS10, hS10⟩ := hO8.2.2.2.2.1
    refine V_iload_n dX7_turnAct_41 0 rfl ?_
    exact V_iret dX7_turnAct_42 rfl ⟨Nat.le_of_ble_eq_true rfl, Nat.le_of_ble_eq_true rfl⟩ (hK ((.inl r5.1), r5.2, ((S :: past).take 8)) _ ⟨_, hO8⟩ hz)
  · rw [if_pos c7] at hz
    exact V_throwS (E := "java/lang/IllegalStateException") (names := ["java/lang/RuntimeException", "java/lang/Exception"]) rfl (by decide) (by decide) tk_65.1 tk_65.2 ta_69 hg.1 hg.p (hg.2.1 31 _ _ _ rfl) dX7_turnAct_24 dX7_turnAct_27 dX7_turnAct_28 dX7_turnAct_30 dX7_turnAct_33 (Nat.le_of_ble_eq_true rfl) (Nat.le_of_ble_eq_true rfl) ⟨Nat.le_of_ble_eq_true rfl, Nat.le_of_ble_eq_true rfl⟩ (fun q9 hq9 => hK ((.inr 0), r5.2, past) _ ⟨_, hO5.bump hq9⟩ hz)
theorem c_X7_turnAct {X : KX} (hxs : X.1.stackTraces = false) (hg : GX X) {h : AH} {x : Nat} {S : SH} {past : List SH} {N : SH} {hs le lc lf : Int32} {txt ln : List Int32} (hW : OpW X h x S past N hs le lc lf txt ln) : Ct X mX7_turnAct [.ref x] h (zT (["java/lang/IllegalStateException"] : List String) (T_X7_turnAct S past).1 (fun h' => OpW X h' x (T_X7_turnAct S past).2.1 (T_X7_turnAct S past).2.2 N hs le lc lf txt ln)) := w_X7_turnAct hxs hg hW   (K := fun r => r = T_X7_turnAct S past) (fun r h' a e => by subst e; exact ⟨rfl, a⟩) rfl
