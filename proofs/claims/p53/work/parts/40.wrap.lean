/-! ===== the law: its small methods ===== -/
def zG (L : List String) (P : Int32 → AH → Prop) (R : Nat → AH → Prop) : ZT := fun o h' => (∃ v : Int32, o = .inl (some (.int v)) ∧ P v h') ∨ ∃ j, j < L.length ∧ o = .inr (L.getD j "") ∧ R j h'
def zH (cs : List Int32) (P : Int32 → AH → Prop) (R : Nat → AH → Prop) : ZT := fun o h' => ∃ v : Int32, o = .inl (some (.int v)) ∧ (P v h' ∨ ∃ j, j < cs.length ∧ v = cs.getD j 0 ∧ R j h')
theorem zT_G {L : List String} {r : Int32 ⊕ Nat} {Q : AH → Prop} (hr : ∀ j, r = .inr j → j < L.length) : ∀ (o : Out) (h' : AH), zT L r Q o h' → zG L (fun v h' => r = .inl v ∧ Q h') (fun j h' => r = .inr j ∧ Q h') o h' := fun o h' hz => by
  obtain ⟨e, q⟩ := hz
  cases r with
  | inl v => exact Or.inl ⟨v, e, rfl, q⟩
  | inr j => exact Or.inr ⟨j, hr j rfl, e, rfl, q⟩
def wI (cs : List Int32) : Int32 ⊕ Nat → Int32
  | .inl v => v
  | .inr j => cs.getD j 0
theorem zH_M {cs : List Int32} {r : Int32 ⊕ Nat} {Q : AH → Prop} : ∀ (o : Out) (h' : AH), zH cs (fun v h' => r = .inl v ∧ Q h') (fun j h' => r = .inr j ∧ Q h') o h' → zM (some (.int (wI cs r))) Q o h' := fun o h' hz => by
  obtain ⟨v, e, (⟨e1, q⟩ | ⟨j, -, e2, e1, q⟩)⟩ := hz
  · rw [e1]
    exact ⟨e, q⟩
  · rw [e1, e]
    exact ⟨by rw [e2]; rfl, q⟩
abbrev mL_addPerformer : MI := (yL_addPerformer, cL_addPerformer, 2, (Option.some Jvm.ClassFile.FieldType.int), [((0 : Nat), (4 : Nat), (5 : Nat), (13 : Nat))], { frames := 16, cells := 1, slots := 6, locals := 384 })
theorem cdL_addPerformer : mcode mL_addPerformer ∈ GW := gw_tab 324 (by decide +kernel) (by decide +kernel)
theorem cvL_7 : CallV RL 7 mX7_addPerformer 0 := ⟨⟨gw_tab 326 (by decide +kernel) (by decide +kernel), gw_tab 1 (by decide +kernel) (by decide +kernel), cdX7_addPerformer, by decide +kernel, by decide +kernel, by decide +kernel⟩, rfl, gw_tab 327 (by decide +kernel) (by decide +kernel), gw_tab 328 (by decide +kernel) (by decide +kernel)⟩
set_option maxRecDepth 20000 in
set_option maxHeartbeats 2000000 in
theorem g_L_addPerformer {X : KX} (hxs : X.1.stackTraces = false) (hg : GX X) {h : AH} {x : Nat} {fs : List Value} (hb : h.2 x = some (.inr (9, fs))) {P : Int32 → AH → Prop} {R : Nat → AH → Prop} (hC : Ct X mX7_addPerformer [.ref x] h (zG (["java/lang/IllegalStateException"] : List String) P R)) : Ct X mL_addPerformer [.ref x] h (zH ([-1001] : List Int32) P R) := by
  refine Ct.ofH (by decide) rfl (Nat.le_of_ble_eq_true rfl) rfl hxs ?_
  refine V_aload_n dL_addPerformer_0 0 rfl ?_
  refine V_callV (As := []) (rest := []) dL_addPerformer_1 cvL_7 hC hb rfl ⟨Nat.le_of_ble_eq_true rfl, Nat.le_of_ble_eq_true rfl, Nat.le_of_ble_eq_true rfl, Nat.le_of_ble_eq_true rfl⟩ (Nat.le_of_ble_eq_true rfl) rfl (fun v h1 hz => ?_) (fun E h1 hz => ?_)
  · rcases hz with ⟨v1, e1, q1⟩ | ⟨j, hj, e1, q1⟩
    · cases e1
      exact V_iret dL_addPerformer_4 rfl ⟨Nat.le_of_ble_eq_true rfl, Nat.le_of_ble_eq_true rfl⟩ ⟨v1, rfl, Or.inl q1⟩
    · cases e1
  · rcases hz with ⟨v1, e1, q1⟩ | ⟨j, hj, e1, q1⟩
    · cases e1
    · have e2 := Sum.inr.inj e1
      subst e2
      have e3 : j = 0 := by have : j < 1 := hj; omega
      subst e3
      refine VX_catch (E := "java/lang/IllegalStateException") (name := "java/lang/IllegalStateException") [] ⟨0, 4, 5, 13⟩ [] rfl (fun z hz => by cases hz) (by decide) (by decide) (gw_tab 325 (by decide +kernel) (by decide +kernel)) (gp_tab 344 (by decide +kernel) (by decide +kernel)) hg.p (fun q9 => ?_)
      refine V_astore_n (lv' := [(1, .ref q9), (0, .ref x)]) dL_addPerformer_5 rfl (by decide) rfl ?_
      refine V_sipush (v := (-1001)) dL_addPerformer_6 (by decide) ?_
      exact V_iret dL_addPerformer_9 rfl ⟨Nat.le_of_ble_eq_true rfl, Nat.le_of_ble_eq_true rfl⟩ ⟨_, rfl, Or.inr ⟨0, by decide, rfl, q1⟩⟩
abbrev mL_fines : MI := (yL_fines, cL_fines, 3, (Option.some Jvm.ClassFile.FieldType.int), [((0 : Nat), (5 : Nat), (6 : Nat), (19 : Nat))], { frames := 13, cells := 1, slots := 6, locals := 321 })
theorem cdL_fines : mcode mL_fines ∈ GW := gw_tab 423 (by decide +kernel) (by decide +kernel)
theorem cvL_15 : CallV RL 15 mX7_fines 1 := ⟨⟨gw_tab 448 (by decide +kernel) (by decide +kernel), gw_tab 1 (by decide +kernel) (by decide +kernel), cdX7_fines, by decide +kernel, by decide +kernel, by decide +kernel⟩, rfl, gw_tab 449 (by decide +kernel) (by decide +kernel), gw_tab 450 (by decide +kernel) (by decide +kernel)⟩
set_option maxRecDepth 20000 in
set_option maxHeartbeats 2000000 in
theorem g_L_fines {X : KX} (hxs : X.1.stackTraces = false) (hg : GX X) {h : AH} {x : Nat} {fs : List Value} (hb : h.2 x = some (.inr (9, fs))) {a1 : Int32} {P : Int32 → AH → Prop} {R : Nat → AH → Prop} (hC : Ct X mX7_fines [.ref x, .int a1] h (zG (["java/lang/IndexOutOfBoundsException"] : List String) P R)) : Ct X mL_fines [.ref x, .int a1] h (zH ([-1001] : List Int32) P R) := by
  refine Ct.ofH (by decide) rfl (Nat.le_of_ble_eq_true rfl) rfl hxs ?_
  refine V_aload_n dL_fines_0 0 rfl ?_
  refine V_iload_n dL_fines_1 1 rfl ?_
  refine V_callV (As := [.int a1]) (rest := []) dL_fines_2 cvL_15 hC hb rfl ⟨Nat.le_of_ble_eq_true rfl, Nat.le_of_ble_eq_true rfl, Nat.le_of_ble_eq_true rfl, Nat.le_of_ble_eq_true rfl⟩ (Nat.le_of_ble_eq_true rfl) rfl (fun v h1 hz => ?_) (fun E h1 hz => ?_)
  · rcases hz with ⟨v1, e1, q1⟩ | ⟨j, hj, e1, q1⟩
    · cases e1
      exact V_iret dL_fines_5 rfl ⟨Nat.le_of_ble_eq_true rfl, Nat.le_of_ble_eq_true rfl⟩ ⟨v1, rfl, Or.inl q1⟩
    · cases e1
  · rcases hz with ⟨v1, e1, q1⟩ | ⟨j, hj, e1, q1⟩
    · cases e1
    · have e2 := Sum.inr.inj e1
      subst e2
      have e3 : j = 0 := by have : j < 1 := hj; omega
      subst e3
      refine VX_catch (E := "java/lang/IndexOutOfBoundsException") (name := "java/lang/IndexOutOfBoundsException") [] ⟨0, 5, 6, 19⟩ [] rfl (fun z hz => by cases hz) (by decide) (by decide) (gw_tab 424 (by decide +kernel) (by decide +kernel)) (gp_tab 458 (by decide +kernel) (by decide +kernel)) hg.p (fun q9 => ?_)
      refine V_astore_n (lv' := [(2, .ref q9), (0, .ref x), (1, .int a1)]) dL_fines_6 rfl (by decide) rfl ?_
      refine V_sipush (v := (-1001)) dL_fines_7 (by decide) ?_
      exact V_iret dL_fines_10 rfl ⟨Nat.le_of_ble_eq_true rfl, Nat.le_of_ble_eq_true rfl⟩ ⟨_, rfl, Or.inr ⟨0, by decide, rfl, q1⟩⟩
abbrev mL_pay : MI := (yL_pay, cL_pay, 4, (Option.some Jvm.ClassFile.FieldType.int), [((0 : Nat), (6 : Nat), (7 : Nat), (19 : Nat)), ((0 : Nat), (6 : Nat), (12 : Nat), (25 : Nat)), ((0 : Nat), (6 : Nat), (17 : Nat), (27 : Nat))], { frames := 16, cells := 1, slots := 6, locals := 386 })
theorem cdL_pay : mcode mL_pay ∈ GW := gw_tab 1325 (by decide +kernel) (by decide +kernel)
theorem cvL_21 : CallV RL 21 mX7_payFine 2 := ⟨⟨gw_tab 1327 (by decide +kernel) (by decide +kernel), gw_tab 1 (by decide +kernel) (by decide +kernel), cdX7_payFine, by decide +kernel, by decide +kernel, by decide +kernel⟩, rfl, gw_tab 1328 (by decide +kernel) (by decide +kernel), gw_tab 1329 (by decide +kernel) (by decide +kernel)⟩
set_option maxRecDepth 20000 in
set_option maxHeartbeats 2000000 in
theorem g_L_pay {X : KX} (hxs : X.1.stackTraces = false) (hg : GX X) {h : AH} {x : Nat} {fs : List Value} (hb : h.2 x = some (.inr (9, fs))) {a1 a2 : Int32} {P : Int32 → AH → Prop} {R : Nat → AH → Prop} (hC : Ct X mX7_payFine [.ref x, .int a1, .int a2] h (zG (["java/lang/IndexOutOfBoundsException", "java/lang/IllegalArgumentException", "java/lang/UnsupportedOperationException"] : List String) P R)) : Ct X mL_pay [.ref x, .int a1, .int a2] h (zH ([-1001, -1002, -1003] : List Int32) P R) := by
  refine Ct.ofH (by decide) rfl (Nat.le_of_ble_eq_true rfl) rfl hxs ?_
  refine V_aload_n dL_pay_0 0 rfl ?_
  refine V_iload_n dL_pay_1 1 rfl ?_
  refine V_iload_n dL_pay_2 2 rfl ?_
  refine V_callV (As := [.int a1, .int a2]) (rest := []) dL_pay_3 cvL_21 hC hb rfl ⟨Nat.le_of_ble_eq_true rfl, Nat.le_of_ble_eq_true rfl, Nat.le_of_ble_eq_true rfl, Nat.le_of_ble_eq_true rfl⟩ (Nat.le_of_ble_eq_true rfl) rfl (fun v h1 hz => ?_) (fun E h1 hz => ?_)
  · rcases hz with ⟨v1, e1, q1⟩ | ⟨j, hj, e1, q1⟩
    · cases e1
      exact V_iret dL_pay_6 rfl ⟨Nat.le_of_ble_eq_true rfl, Nat.le_of_ble_eq_true rfl⟩ ⟨v1, rfl, Or.inl q1⟩
    · cases e1
  · rcases hz with ⟨v1, e1, q1⟩ | ⟨j, hj, e1, q1⟩
    · cases e1
    · have e2 := Sum.inr.inj e1
      subst e2
      have hj2 : j < 3 := hj
      rcases (show j = 0 ∨ j = 1 ∨ j = 2 by omega) with rfl | rfl | rfl
      · refine VX_catch (E := "java/lang/IndexOutOfBoundsException") (name := "java/lang/IndexOutOfBoundsException") [] ⟨0, 6, 7, 19⟩ [⟨0, 6, 12, 25⟩, ⟨0, 6, 17, 27⟩] rfl (fun z hz => by cases hz) (by decide) (by decide) (gw_tab 424 (by decide +kernel) (by decide +kernel)) (gp_tab 458 (by decide +kernel) (by decide +kernel)) hg.p (fun q9 => ?_)
        refine V_astore_n (lv' := [(3, .ref q9), (0, .ref x), (1, .int a1), (2, .int a2)]) dL_pay_7 rfl (by decide) rfl ?_
        refine V_sipush (v := (-1001)) dL_pay_8 (by decide) ?_
        exact V_iret dL_pay_11 rfl ⟨Nat.le_of_ble_eq_true rfl, Nat.le_of_ble_eq_true rfl⟩ ⟨_, rfl, Or.inr ⟨0, by decide, rfl, q1⟩⟩
      · refine VX_catch (E := "java/lang/IllegalArgumentException") (name := "java/lang/IllegalArgumentException") [⟨0, 6, 7, 19⟩] ⟨0, 6, 12, 25⟩ [⟨0, 6, 17, 27⟩] rfl (fun z hz => by rw [List.mem_singleton.mp hz]; exact ⟨by decide, "java/lang/IndexOutOfBoundsException", gw_tab 424 (by decide +kernel) (by decide +kernel), fun U hU => hg.2.2.2.2.2.2.2.1 ("java/lang/IllegalArgumentException", "java/lang/IndexOutOfBoundsException") (by decide) U hU⟩) (by decide) (by decide) (gw_tab 472 (by decide +kernel) (by decide +kernel)) (gp_tab 522 (by decide +kernel) (by decide +kernel)) hg.p (fun q9 => ?_)
        refine V_astore_n (lv' := [(3, .ref q9), (0, .ref x), (1, .int a1), (2, .int a2)]) dL_pay_12 rfl (by decide) rfl ?_
        refine V_sipush (v := (-1002)) dL_pay_13 (by decide) ?_
        exact V_iret dL_pay_16 rfl ⟨Nat.le_of_ble_eq_true rfl, Nat.le_of_ble_eq_true rfl⟩ ⟨_, rfl, Or.inr ⟨1, by decide, rfl, q1⟩⟩
      · refine VX_catch (E := "java/lang/UnsupportedOperationException") (name := "java/lang/UnsupportedOperationException") [⟨0, 6, 7, 19⟩, ⟨0, 6, 12, 25⟩] ⟨0, 6, 17, 27⟩ [] rfl (fun z hz => by
          rcases List.mem_cons.mp hz with e4 | hz
          · rw [e4]; exact ⟨by decide, "java/lang/IndexOutOfBoundsException", gw_tab 424 (by decide +kernel) (by decide +kernel), fun U hU => hg.2.2.2.2.2.2.2.1 ("java/lang/UnsupportedOperationException", "java/lang/IndexOutOfBoundsException") (by decide) U hU⟩
          · rw [List.mem_singleton.mp hz]; exact ⟨by decide, "java/lang/IllegalArgumentException", gw_tab 472 (by decide +kernel) (by decide +kernel), fun U hU => hg.2.2.2.2.2.2.2.1 ("java/lang/UnsupportedOperationException", "java/lang/IllegalArgumentException") (by decide) U hU⟩) (by decide) (by decide) (gw_tab 1326 (by decide +kernel) (by decide +kernel)) (gp_tab 1334 (by decide +kernel) (by decide +kernel)) hg.p (fun q9 => ?_)
        refine V_astore_n (lv' := [(3, .ref q9), (0, .ref x), (1, .int a1), (2, .int a2)]) dL_pay_17 rfl (by decide) rfl ?_
        refine V_sipush (v := (-1003)) dL_pay_18 (by decide) ?_
        exact V_iret dL_pay_21 rfl ⟨Nat.le_of_ble_eq_true rfl, Nat.le_of_ble_eq_true rfl⟩ ⟨_, rfl, Or.inr ⟨2, by decide, rfl, q1⟩⟩
abbrev mL_isMouthing : MI := (yL_isMouthing, cL_isMouthing, 3, (Option.some Jvm.ClassFile.FieldType.int), [((0 : Nat), (13 : Nat), (14 : Nat), (19 : Nat))], { frames := 13, cells := 1, slots := 6, locals := 321 })
theorem cdL_isMouthing : mcode mL_isMouthing ∈ GW := gw_tab 1390 (by decide +kernel) (by decide +kernel)
theorem cvL_29 : CallV RL 29 mX7_isMouthing 1 := ⟨⟨gw_tab 1391 (by decide +kernel) (by decide +kernel), gw_tab 1 (by decide +kernel) (by decide +kernel), cdX7_isMouthing, by decide +kernel, by decide +kernel, by decide +kernel⟩, rfl, gw_tab 1392 (by decide +kernel) (by decide +kernel), gw_tab 1393 (by decide +kernel) (by decide +kernel)⟩
set_option maxRecDepth 20000 in
set_option maxHeartbeats 2000000 in
theorem g_L_isMouthing {X : KX} (hxs : X.1.stackTraces = false) (hg : GX X) {h : AH} {x : Nat} {fs : List Value} (hb : h.2 x = some (.inr (9, fs))) {a1 : Int32} {P : Int32 → AH → Prop} {R : Nat → AH → Prop} (hC : Ct X mX7_isMouthing [.ref x, .int a1] h (zG (["java/lang/IndexOutOfBoundsException"] : List String) P R)) : Ct X mL_isMouthing [.ref x, .int a1] h (zH ([-1001] : List Int32) (fun v h' => ∃ v0, P v0 h' ∧ v = if v0 = 0 then 0 else 1) R) := by
  refine Ct.ofH (by decide) rfl (Nat.le_of_ble_eq_true rfl) rfl hxs ?_
  refine V_aload_n dL_isMouthing_0 0 rfl ?_
  refine V_iload_n dL_isMouthing_1 1 rfl ?_
  refine V_callV (As := [.int a1]) (rest := []) dL_isMouthing_2 cvL_29 hC hb rfl ⟨Nat.le_of_ble_eq_true rfl, Nat.le_of_ble_eq_true rfl, Nat.le_of_ble_eq_true rfl, Nat.le_of_ble_eq_true rfl⟩ (Nat.le_of_ble_eq_true rfl) rfl (fun v h1 hz => ?_) (fun E h1 hz => ?_)
  · rcases hz with ⟨v1, e1, q1⟩ | ⟨j, hj, e1, q1⟩
    · cases e1
      by_cases d1 : v1 = 0
      · refine V_if_eq (tgt := 12) dL_isMouthing_5 (by decide) (fun _ => ?_) (fun c9 => absurd d1 c9)
        refine V_iconst (v := 0) dL_isMouthing_12 (by decide) ?_
        exact V_iret dL_isMouthing_13 rfl ⟨Nat.le_of_ble_eq_true rfl, Nat.le_of_ble_eq_true rfl⟩ ⟨0, rfl, Or.inl ⟨v1, q1, by rw [if_pos d1]⟩⟩
      · refine V_if_eq (tgt := 12) dL_isMouthing_5 (by decide) (fun c9 => absurd c9 d1) (fun _ => ?_)
        refine V_iconst (v := 1) dL_isMouthing_8 (by decide) ?_
        refine V_goto (tgt := 13) dL_isMouthing_9 (by decide) ?_
        exact V_iret dL_isMouthing_13 rfl ⟨Nat.le_of_ble_eq_true rfl, Nat.le_of_ble_eq_true rfl⟩ ⟨1, rfl, Or.inl ⟨v1, q1, by rw [if_neg d1]⟩⟩
    · cases e1
  · rcases hz with ⟨v1, e1, q1⟩ | ⟨j, hj, e1, q1⟩
    · cases e1
    · have e2 := Sum.inr.inj e1
      subst e2
      have e3 : j = 0 := by have : j < 1 := hj; omega
      subst e3
      refine VX_catch (E := "java/lang/IndexOutOfBoundsException") (name := "java/lang/IndexOutOfBoundsException") [] ⟨0, 13, 14, 19⟩ [] rfl (fun z hz => by cases hz) (by decide) (by decide) (gw_tab 424 (by decide +kernel) (by decide +kernel)) (gp_tab 458 (by decide +kernel) (by decide +kernel)) hg.p (fun q9 => ?_)
      refine V_astore_n (lv' := [(2, .ref q9), (0, .ref x), (1, .int a1)]) dL_isMouthing_14 rfl (by decide) rfl ?_
      refine V_sipush (v := (-1001)) dL_isMouthing_15 (by decide) ?_
      exact V_iret dL_isMouthing_18 rfl ⟨Nat.le_of_ble_eq_true rfl, Nat.le_of_ble_eq_true rfl⟩ ⟨_, rfl, Or.inr ⟨0, by decide, rfl, q1⟩⟩
abbrev mL_whisper : MI := (yL_whisper, cL_whisper, 4, (Option.some Jvm.ClassFile.FieldType.int), [((0 : Nat), (6 : Nat), (7 : Nat), (19 : Nat)), ((0 : Nat), (6 : Nat), (12 : Nat), (25 : Nat))], { frames := 16, cells := 1, slots := 6, locals := 386 })
theorem cdL_whisper : mcode mL_whisper ∈ GW := gw_tab 1350 (by decide +kernel) (by decide +kernel)
theorem cvL_33 : CallV RL 33 mX7_whisper 2 := ⟨⟨gw_tab 1351 (by decide +kernel) (by decide +kernel), gw_tab 1 (by decide +kernel) (by decide +kernel), cdX7_whisper, by decide +kernel, by decide +kernel, by decide +kernel⟩, rfl, gw_tab 1352 (by decide +kernel) (by decide +kernel), gw_tab 1353 (by decide +kernel) (by decide +kernel)⟩
set_option maxRecDepth 20000 in
set_option maxHeartbeats 2000000 in
theorem g_L_whisper {X : KX} (hxs : X.1.stackTraces = false) (hg : GX X) {h : AH} {x : Nat} {fs : List Value} (hb : h.2 x = some (.inr (9, fs))) {a1 a2 : Int32} {P : Int32 → AH → Prop} {R : Nat → AH → Prop} (hC : Ct X mX7_whisper [.ref x, .int a1, .int a2] h (zG (["java/lang/IndexOutOfBoundsException", "java/lang/IllegalArgumentException"] : List String) P R)) : Ct X mL_whisper [.ref x, .int a1, .int a2] h (zH ([-1001, -1002] : List Int32) P R) := by
  refine Ct.ofH (by decide) rfl (Nat.le_of_ble_eq_true rfl) rfl hxs ?_
  refine V_aload_n dL_whisper_0 0 rfl ?_
  refine V_iload_n dL_whisper_1 1 rfl ?_
  refine V_iload_n dL_whisper_2 2 rfl ?_
  refine V_callV (As := [.int a1, .int a2]) (rest := []) dL_whisper_3 cvL_33 hC hb rfl ⟨Nat.le_of_ble_eq_true rfl, Nat.le_of_ble_eq_true rfl, Nat.le_of_ble_eq_true rfl, Nat.le_of_ble_eq_true rfl⟩ (Nat.le_of_ble_eq_true rfl) rfl (fun v h1 hz => ?_) (fun E h1 hz => ?_)
  · rcases hz with ⟨v1, e1, q1⟩ | ⟨j, hj, e1, q1⟩
    · cases e1
      exact V_iret dL_whisper_6 rfl ⟨Nat.le_of_ble_eq_true rfl, Nat.le_of_ble_eq_true rfl⟩ ⟨v1, rfl, Or.inl q1⟩
    · cases e1
  · rcases hz with ⟨v1, e1, q1⟩ | ⟨j, hj, e1, q1⟩
    · cases e1
    · have e2 := Sum.inr.inj e1
      subst e2
      have hj2 : j < 2 := hj
      rcases (show j = 0 ∨ j = 1 by omega) with rfl | rfl
      · refine VX_catch (E := "java/lang/IndexOutOfBoundsException") (name := "java/lang/IndexOutOfBoundsException") [] ⟨0, 6, 7, 19⟩ [⟨0, 6, 12, 25⟩] rfl (fun z hz => by cases hz) (by decide) (by decide) (gw_tab 424 (by decide +kernel) (by decide +kernel)) (gp_tab 458 (by decide +kernel) (by decide +kernel)) hg.p (fun q9 => ?_)
        refine V_astore_n (lv' := [(3, .ref q9), (0, .ref x), (1, .int a1), (2, .int a2)]) dL_whisper_7 rfl (by decide) rfl ?_
        refine V_sipush (v := (-1001)) dL_whisper_8 (by decide) ?_
        exact V_iret dL_whisper_11 rfl ⟨Nat.le_of_ble_eq_true rfl, Nat.le_of_ble_eq_true rfl⟩ ⟨_, rfl, Or.inr ⟨0, by decide, rfl, q1⟩⟩
      · refine VX_catch (E := "java/lang/IllegalArgumentException") (name := "java/lang/IllegalArgumentException") [⟨0, 6, 7, 19⟩] ⟨0, 6, 12, 25⟩ [] rfl (fun z hz => by rw [List.mem_singleton.mp hz]; exact ⟨by decide, "java/lang/IndexOutOfBoundsException", gw_tab 424 (by decide +kernel) (by decide +kernel), fun U hU => hg.2.2.2.2.2.2.2.1 ("java/lang/IllegalArgumentException", "java/lang/IndexOutOfBoundsException") (by decide) U hU⟩) (by decide) (by decide) (gw_tab 472 (by decide +kernel) (by decide +kernel)) (gp_tab 522 (by decide +kernel) (by decide +kernel)) hg.p (fun q9 => ?_)
        refine V_astore_n (lv' := [(3, .ref q9), (0, .ref x), (1, .int a1), (2, .int a2)]) dL_whisper_12 rfl (by decide) rfl ?_
        refine V_sipush (v := (-1002)) dL_whisper_13 (by decide) ?_
        exact V_iret dL_whisper_16 rfl ⟨Nat.le_of_ble_eq_true rfl, Nat.le_of_ble_eq_true rfl⟩ ⟨_, rfl, Or.inr ⟨1, by decide, rfl, q1⟩⟩
abbrev mL_atRank : MI := (yL_atRank, cL_atRank, 3, (Option.some Jvm.ClassFile.FieldType.int), [((0 : Nat), (5 : Nat), (6 : Nat), (39 : Nat))], { frames := 13, cells := 1, slots := 6, locals := 322 })
theorem cdL_atRank : mcode mL_atRank ∈ GW := gw_tab 1236 (by decide +kernel) (by decide +kernel)
theorem cvL_36 : CallV RL 36 mX7_performerAtRank 1 := ⟨⟨gw_tab 1237 (by decide +kernel) (by decide +kernel), gw_tab 1 (by decide +kernel) (by decide +kernel), cdX7_performerAtRank, by decide +kernel, by decide +kernel, by decide +kernel⟩, rfl, gw_tab 1238 (by decide +kernel) (by decide +kernel), gw_tab 1239 (by decide +kernel) (by decide +kernel)⟩
set_option maxRecDepth 20000 in
set_option maxHeartbeats 2000000 in
theorem g_L_atRank {X : KX} (hxs : X.1.stackTraces = false) (hg : GX X) {h : AH} {x : Nat} {fs : List Value} (hb : h.2 x = some (.inr (9, fs))) {a1 : Int32} {P : Int32 → AH → Prop} {R : Nat → AH → Prop} (hC : Ct X mX7_performerAtRank [.ref x, .int a1] h (zG (["java/util/NoSuchElementException"] : List String) P R)) : Ct X mL_atRank [.ref x, .int a1] h (zH ([-1001] : List Int32) P R) := by
  refine Ct.ofH (by decide) rfl (Nat.le_of_ble_eq_true rfl) rfl hxs ?_
  refine V_aload_n dL_atRank_0 0 rfl ?_
  refine V_iload_n dL_atRank_1 1 rfl ?_
  refine V_callV (As := [.int a1]) (rest := []) dL_atRank_2 cvL_36 hC hb rfl ⟨Nat.le_of_ble_eq_true rfl, Nat.le_of_ble_eq_true rfl, Nat.le_of_ble_eq_true rfl, Nat.le_of_ble_eq_true rfl⟩ (Nat.le_of_ble_eq_true rfl) rfl (fun v h1 hz => ?_) (fun E h1 hz => ?_)
  · rcases hz with ⟨v1, e1, q1⟩ | ⟨j, hj, e1, q1⟩
    · cases e1
      exact V_iret dL_atRank_5 rfl ⟨Nat.le_of_ble_eq_true rfl, Nat.le_of_ble_eq_true rfl⟩ ⟨v1, rfl, Or.inl q1⟩
    · cases e1
  · rcases hz with ⟨v1, e1, q1⟩ | ⟨j, hj, e1, q1⟩
    · cases e1
    · have e2 := Sum.inr.inj e1
      subst e2
      have e3 : j = 0 := by have : j < 1 := hj; omega
      subst e3
      refine VX_catch (E := "java/util/NoSuchElementException") (name := "java/util/NoSuchElementException") [] ⟨0, 5, 6, 39⟩ [] rfl (fun z hz => by cases hz) (by decide) (by decide) (gw_tab 559 (by decide +kernel) (by decide +kernel)) (gp_tab 587 (by decide +kernel) (by decide +kernel)) hg.p (fun q9 => ?_)
      refine V_astore_n (lv' := [(2, .ref q9), (0, .ref x), (1, .int a1)]) dL_atRank_6 rfl (by decide) rfl ?_
      refine V_sipush (v := (-1001)) dL_atRank_7 (by decide) ?_
      exact V_iret dL_atRank_10 rfl ⟨Nat.le_of_ble_eq_true rfl, Nat.le_of_ble_eq_true rfl⟩ ⟨_, rfl, Or.inr ⟨0, by decide, rfl, q1⟩⟩
abbrev mL_cueMouth : MI := (yL_cueMouth, cL_cueMouth, 5, (Option.some Jvm.ClassFile.FieldType.int), [((0 : Nat), (7 : Nat), (8 : Nat), (19 : Nat)), ((0 : Nat), (7 : Nat), (14 : Nat), (25 : Nat)), ((0 : Nat), (7 : Nat), (20 : Nat), (13 : Nat))], { frames := 17, cells := 1, slots := 6, locals := 411 })
theorem cdL_cueMouth : mcode mL_cueMouth ∈ GW := gw_tab 471 (by decide +kernel) (by decide +kernel)
theorem cvL_41 : CallV RL 41 mX7_cueMouth 3 := ⟨⟨gw_tab 473 (by decide +kernel) (by decide +kernel), gw_tab 1 (by decide +kernel) (by decide +kernel), cdX7_cueMouth, by decide +kernel, by decide +kernel, by decide +kernel⟩, rfl, gw_tab 474 (by decide +kernel) (by decide +kernel), gw_tab 475 (by decide +kernel) (by decide +kernel)⟩
set_option maxRecDepth 20000 in
set_option maxHeartbeats 2000000 in
theorem g_L_cueMouth {X : KX} (hxs : X.1.stackTraces = false) (hg : GX X) {h : AH} {x : Nat} {fs : List Value} (hb : h.2 x = some (.inr (9, fs))) {a1 a2 a3 : Int32} {P : Int32 → AH → Prop} {R : Nat → AH → Prop} (hC : Ct X mX7_cueMouth [.ref x, .int a1, .int a2, .int a3] h (zG (["java/lang/IndexOutOfBoundsException", "java/lang/IllegalArgumentException", "java/lang/IllegalStateException"] : List String) P R)) : Ct X mL_cueMouth [.ref x, .int a1, .int a2, .int a3] h (zH ([-1001, -1002, -1003] : List Int32) P R) := by
  refine Ct.ofH (by decide) rfl (Nat.le_of_ble_eq_true rfl) rfl hxs ?_
  refine V_aload_n dL_cueMouth_0 0 rfl ?_
  refine V_iload_n dL_cueMouth_1 1 rfl ?_
  refine V_iload_n dL_cueMouth_2 2 rfl ?_
  refine V_iload_n dL_cueMouth_3 3 rfl ?_
  refine V_callV (As := [.int a1, .int a2, .int a3]) (rest := []) dL_cueMouth_4 cvL_41 hC hb rfl ⟨Nat.le_of_ble_eq_true rfl, Nat.le_of_ble_eq_true rfl, Nat.le_of_ble_eq_true rfl, Nat.le_of_ble_eq_true rfl⟩ (Nat.le_of_ble_eq_true rfl) rfl (fun v h1 hz => ?_) (fun E h1 hz => ?_)
  · rcases hz with ⟨v1, e1, q1⟩ | ⟨j, hj, e1, q1⟩
    · cases e1
      exact V_iret dL_cueMouth_7 rfl ⟨Nat.le_of_ble_eq_true rfl, Nat.le_of_ble_eq_true rfl⟩ ⟨v1, rfl, Or.inl q1⟩
    · cases e1
  · rcases hz with ⟨v1, e1, q1⟩ | ⟨j, hj, e1, q1⟩
    · cases e1
    · have e2 := Sum.inr.inj e1
      subst e2
      have hj2 : j < 3 := hj
      rcases (show j = 0 ∨ j = 1 ∨ j = 2 by omega) with rfl | rfl | rfl
      · refine VX_catch (E := "java/lang/IndexOutOfBoundsException") (name := "java/lang/IndexOutOfBoundsException") [] ⟨0, 7, 8, 19⟩ [⟨0, 7, 14, 25⟩, ⟨0, 7, 20, 13⟩] rfl (fun z hz => by cases hz) (by decide) (by decide) (gw_tab 424 (by decide +kernel) (by decide +kernel)) (gp_tab 458 (by decide +kernel) (by decide +kernel)) hg.p (fun q9 => ?_)
        refine V_astore (lv' := [(4, .ref q9), (0, .ref x), (1, .int a1), (2, .int a2), (3, .int a3)]) dL_cueMouth_8 (by decide) rfl ?_
        refine V_sipush (v := (-1001)) dL_cueMouth_10 (by decide) ?_
        exact V_iret dL_cueMouth_13 rfl ⟨Nat.le_of_ble_eq_true rfl, Nat.le_of_ble_eq_true rfl⟩ ⟨_, rfl, Or.inr ⟨0, by decide, rfl, q1⟩⟩
      · refine VX_catch (E := "java/lang/IllegalArgumentException") (name := "java/lang/IllegalArgumentException") [⟨0, 7, 8, 19⟩] ⟨0, 7, 14, 25⟩ [⟨0, 7, 20, 13⟩] rfl (fun z hz => by rw [List.mem_singleton.mp hz]; exact ⟨by decide, "java/lang/IndexOutOfBoundsException", gw_tab 424 (by decide +kernel) (by decide +kernel), fun U hU => hg.2.2.2.2.2.2.2.1 ("java/lang/IllegalArgumentException", "java/lang/IndexOutOfBoundsException") (by decide) U hU⟩) (by decide) (by decide) (gw_tab 472 (by decide +kernel) (by decide +kernel)) (gp_tab 522 (by decide +kernel) (by decide +kernel)) hg.p (fun q9 => ?_)
        refine V_astore (lv' := [(4, .ref q9), (0, .ref x), (1, .int a1), (2, .int a2), (3, .int a3)]) dL_cueMouth_14 (by decide) rfl ?_
        refine V_sipush (v := (-1002)) dL_cueMouth_16 (by decide) ?_
        exact V_iret dL_cueMouth_19 rfl ⟨Nat.le_of_ble_eq_true rfl, Nat.le_of_ble_eq_true rfl⟩ ⟨_, rfl, Or.inr ⟨1, by decide, rfl, q1⟩⟩
      · refine VX_catch (E := "java/lang/IllegalStateException") (name := "java/lang/IllegalStateException") [⟨0, 7, 8, 19⟩, ⟨0, 7, 14, 25⟩] ⟨0, 7, 20, 13⟩ [] rfl (fun z hz => by
          rcases List.mem_cons.mp hz with e4 | hz
          · rw [e4]; exact ⟨by decide, "java/lang/IndexOutOfBoundsException", gw_tab 424 (by decide +kernel) (by decide +kernel), fun U hU => hg.2.2.2.2.2.2.2.1 ("java/lang/IllegalStateException", "java/lang/IndexOutOfBoundsException") (by decide) U hU⟩
          · rw [List.mem_singleton.mp hz]; exact ⟨by decide, "java/lang/IllegalArgumentException", gw_tab 472 (by decide +kernel) (by decide +kernel), fun U hU => hg.2.2.2.2.2.2.2.1 ("java/lang/IllegalStateException", "java/lang/IllegalArgumentException") (by decide) U hU⟩) (by decide) (by decide) (gw_tab 325 (by decide +kernel) (by decide +kernel)) (gp_tab 344 (by decide +kernel) (by decide +kernel)) hg.p (fun q9 => ?_)
        refine V_astore (lv' := [(4, .ref q9), (0, .ref x), (1, .int a1), (2, .int a2), (3, .int a3)]) dL_cueMouth_20 (by decide) rfl ?_
        refine V_sipush (v := (-1003)) dL_cueMouth_22 (by decide) ?_
        exact V_iret dL_cueMouth_25 rfl ⟨Nat.le_of_ble_eq_true rfl, Nat.le_of_ble_eq_true rfl⟩ ⟨_, rfl, Or.inr ⟨2, by decide, rfl, q1⟩⟩
abbrev mL_cueProp : MI := (yL_cueProp, cL_cueProp, 5, (Option.some Jvm.ClassFile.FieldType.int), [((0 : Nat), (7 : Nat), (8 : Nat), (19 : Nat)), ((0 : Nat), (7 : Nat), (14 : Nat), (25 : Nat)), ((0 : Nat), (7 : Nat), (20 : Nat), (13 : Nat))], { frames := 17, cells := 1, slots := 6, locals := 411 })
theorem cdL_cueProp : mcode mL_cueProp ∈ GW := gw_tab 539 (by decide +kernel) (by decide +kernel)
theorem cvL_45 : CallV RL 45 mX7_cueProp 3 := ⟨⟨gw_tab 540 (by decide +kernel) (by decide +kernel), gw_tab 1 (by decide +kernel) (by decide +kernel), cdX7_cueProp, by decide +kernel, by decide +kernel, by decide +kernel⟩, rfl, gw_tab 541 (by decide +kernel) (by decide +kernel), gw_tab 542 (by decide +kernel) (by decide +kernel)⟩
set_option maxRecDepth 20000 in
set_option maxHeartbeats 2000000 in
theorem g_L_cueProp {X : KX} (hxs : X.1.stackTraces = false) (hg : GX X) {h : AH} {x : Nat} {fs : List Value} (hb : h.2 x = some (.inr (9, fs))) {a1 a2 a3 : Int32} {P : Int32 → AH → Prop} {R : Nat → AH → Prop} (hC : Ct X mX7_cueProp [.ref x, .int a1, .int a2, .int a3] h (zG (["java/lang/IndexOutOfBoundsException", "java/lang/IllegalArgumentException", "java/lang/IllegalStateException"] : List String) P R)) : Ct X mL_cueProp [.ref x, .int a1, .int a2, .int a3] h (zH ([-1001, -1002, -1003] : List Int32) P R) := by
  refine Ct.ofH (by decide) rfl (Nat.le_of_ble_eq_true rfl) rfl hxs ?_
  refine V_aload_n dL_cueProp_0 0 rfl ?_
  refine V_iload_n dL_cueProp_1 1 rfl ?_
  refine V_iload_n dL_cueProp_2 2 rfl ?_
  refine V_iload_n dL_cueProp_3 3 rfl ?_
  refine V_callV (As := [.int a1, .int a2, .int a3]) (rest := []) dL_cueProp_4 cvL_45 hC hb rfl ⟨Nat.le_of_ble_eq_true rfl, Nat.le_of_ble_eq_true rfl, Nat.le_of_ble_eq_true rfl, Nat.le_of_ble_eq_true rfl⟩ (Nat.le_of_ble_eq_true rfl) rfl (fun v h1 hz => ?_) (fun E h1 hz => ?_)
  · rcases hz with ⟨v1, e1, q1⟩ | ⟨j, hj, e1, q1⟩
    · cases e1
      exact V_iret dL_cueProp_7 rfl ⟨Nat.le_of_ble_eq_true rfl, Nat.le_of_ble_eq_true rfl⟩ ⟨v1, rfl, Or.inl q1⟩
    · cases e1
  · rcases hz with ⟨v1, e1, q1⟩ | ⟨j, hj, e1, q1⟩
    · cases e1
    · have e2 := Sum.inr.inj e1
      subst e2
      have hj2 : j < 3 := hj
      rcases (show j = 0 ∨ j = 1 ∨ j = 2 by omega) with rfl | rfl | rfl
      · refine VX_catch (E := "java/lang/IndexOutOfBoundsException") (name := "java/lang/IndexOutOfBoundsException") [] ⟨0, 7, 8, 19⟩ [⟨0, 7, 14, 25⟩, ⟨0, 7, 20, 13⟩] rfl (fun z hz => by cases hz) (by decide) (by decide) (gw_tab 424 (by decide +kernel) (by decide +kernel)) (gp_tab 458 (by decide +kernel) (by decide +kernel)) hg.p (fun q9 => ?_)
        refine V_astore (lv' := [(4, .ref q9), (0, .ref x), (1, .int a1), (2, .int a2), (3, .int a3)]) dL_cueProp_8 (by decide) rfl ?_
        refine V_sipush (v := (-1001)) dL_cueProp_10 (by decide) ?_
        exact V_iret dL_cueProp_13 rfl ⟨Nat.le_of_ble_eq_true rfl, Nat.le_of_ble_eq_true rfl⟩ ⟨_, rfl, Or.inr ⟨0, by decide, rfl, q1⟩⟩
      · refine VX_catch (E := "java/lang/IllegalArgumentException") (name := "java/lang/IllegalArgumentException") [⟨0, 7, 8, 19⟩] ⟨0, 7, 14, 25⟩ [⟨0, 7, 20, 13⟩] rfl (fun z hz => by rw [List.mem_singleton.mp hz]; exact ⟨by decide, "java/lang/IndexOutOfBoundsException", gw_tab 424 (by decide +kernel) (by decide +kernel), fun U hU => hg.2.2.2.2.2.2.2.1 ("java/lang/IllegalArgumentException", "java/lang/IndexOutOfBoundsException") (by decide) U hU⟩) (by decide) (by decide) (gw_tab 472 (by decide +kernel) (by decide +kernel)) (gp_tab 522 (by decide +kernel) (by decide +kernel)) hg.p (fun q9 => ?_)
        refine V_astore (lv' := [(4, .ref q9), (0, .ref x), (1, .int a1), (2, .int a2), (3, .int a3)]) dL_cueProp_14 (by decide) rfl ?_
        refine V_sipush (v := (-1002)) dL_cueProp_16 (by decide) ?_
        exact V_iret dL_cueProp_19 rfl ⟨Nat.le_of_ble_eq_true rfl, Nat.le_of_ble_eq_true rfl⟩ ⟨_, rfl, Or.inr ⟨1, by decide, rfl, q1⟩⟩
      · refine VX_catch (E := "java/lang/IllegalStateException") (name := "java/lang/IllegalStateException") [⟨0, 7, 8, 19⟩, ⟨0, 7, 14, 25⟩] ⟨0, 7, 20, 13⟩ [] rfl (fun z hz => by
          rcases List.mem_cons.mp hz with e4 | hz
          · rw [e4]; exact ⟨by decide, "java/lang/IndexOutOfBoundsException", gw_tab 424 (by decide +kernel) (by decide +kernel), fun U hU => hg.2.2.2.2.2.2.2.1 ("java/lang/IllegalStateException", "java/lang/IndexOutOfBoundsException") (by decide) U hU⟩
          · rw [List.mem_singleton.mp hz]; exact ⟨by decide, "java/lang/IllegalArgumentException", gw_tab 472 (by decide +kernel) (by decide +kernel), fun U hU => hg.2.2.2.2.2.2.2.1 ("java/lang/IllegalStateException", "java/lang/IllegalArgumentException") (by decide) U hU⟩) (by decide) (by decide) (gw_tab 325 (by decide +kernel) (by decide +kernel)) (gp_tab 344 (by decide +kernel) (by decide +kernel)) hg.p (fun q9 => ?_)
        refine V_astore (lv' := [(4, .ref q9), (0, .ref x), (1, .int a1), (2, .int a2), (3, .int a3)]) dL_cueProp_20 (by decide) rfl ?_
        refine V_sipush (v := (-1003)) dL_cueProp_22 (by decide) ?_
        exact V_iret dL_cueProp_25 rfl ⟨Nat.le_of_ble_eq_true rfl, Nat.le_of_ble_eq_true rfl⟩ ⟨_, rfl, Or.inr ⟨2, by decide, rfl, q1⟩⟩
abbrev mL_cueHush : MI := (yL_cueHush, cL_cueHush, 4, (Option.some Jvm.ClassFile.FieldType.int), [((0 : Nat), (6 : Nat), (7 : Nat), (25 : Nat)), ((0 : Nat), (6 : Nat), (12 : Nat), (13 : Nat))], { frames := 16, cells := 1, slots := 6, locals := 386 })
theorem cdL_cueHush : mcode mL_cueHush ∈ GW := gw_tab 546 (by decide +kernel) (by decide +kernel)
theorem cvL_48 : CallV RL 48 mX7_cueHush 2 := ⟨⟨gw_tab 547 (by decide +kernel) (by decide +kernel), gw_tab 1 (by decide +kernel) (by decide +kernel), cdX7_cueHush, by decide +kernel, by decide +kernel, by decide +kernel⟩, rfl, gw_tab 548 (by decide +kernel) (by decide +kernel), gw_tab 549 (by decide +kernel) (by decide +kernel)⟩
set_option maxRecDepth 20000 in
set_option maxHeartbeats 2000000 in
theorem g_L_cueHush {X : KX} (hxs : X.1.stackTraces = false) (hg : GX X) {h : AH} {x : Nat} {fs : List Value} (hb : h.2 x = some (.inr (9, fs))) {a1 a2 : Int32} {P : Int32 → AH → Prop} {R : Nat → AH → Prop} (hC : Ct X mX7_cueHush [.ref x, .int a1, .int a2] h (zG (["java/lang/IllegalArgumentException", "java/lang/IllegalStateException"] : List String) P R)) : Ct X mL_cueHush [.ref x, .int a1, .int a2] h (zH ([-1001, -1002] : List Int32) P R) := by
  refine Ct.ofH (by decide) rfl (Nat.le_of_ble_eq_true rfl) rfl hxs ?_
  refine V_aload_n dL_cueHush_0 0 rfl ?_
  refine V_iload_n dL_cueHush_1 1 rfl ?_
  refine V_iload_n dL_cueHush_2 2 rfl ?_
  refine V_callV (As := [.int a1, .int a2]) (rest := []) dL_cueHush_3 cvL_48 hC hb rfl ⟨Nat.le_of_ble_eq_true rfl, Nat.le_of_ble_eq_true rfl, Nat.le_of_ble_eq_true rfl, Nat.le_of_ble_eq_true rfl⟩ (Nat.le_of_ble_eq_true rfl) rfl (fun v h1 hz => ?_) (fun E h1 hz => ?_)
  · rcases hz with ⟨v1, e1, q1⟩ | ⟨j, hj, e1, q1⟩
    · cases e1
      exact V_iret dL_cueHush_6 rfl ⟨Nat.le_of_ble_eq_true rfl, Nat.le_of_ble_eq_true rfl⟩ ⟨v1, rfl, Or.inl q1⟩
    · cases e1
  · rcases hz with ⟨v1, e1, q1⟩ | ⟨j, hj, e1, q1⟩
    · cases e1
    · have e2 := Sum.inr.inj e1
      subst e2
      have hj2 : j < 2 := hj
      rcases (show j = 0 ∨ j = 1 by omega) with rfl | rfl
      · refine VX_catch (E := "java/lang/IllegalArgumentException") (name := "java/lang/IllegalArgumentException") [] ⟨0, 6, 7, 25⟩ [⟨0, 6, 12, 13⟩] rfl (fun z hz => by cases hz) (by decide) (by decide) (gw_tab 472 (by decide +kernel) (by decide +kernel)) (gp_tab 522 (by decide +kernel) (by decide +kernel)) hg.p (fun q9 => ?_)
        refine V_astore_n (lv' := [(3, .ref q9), (0, .ref x), (1, .int a1), (2, .int a2)]) dL_cueHush_7 rfl (by decide) rfl ?_
        refine V_sipush (v := (-1001)) dL_cueHush_8 (by decide) ?_
        exact V_iret dL_cueHush_11 rfl ⟨Nat.le_of_ble_eq_true rfl, Nat.le_of_ble_eq_true rfl⟩ ⟨_, rfl, Or.inr ⟨0, by decide, rfl, q1⟩⟩
      · refine VX_catch (E := "java/lang/IllegalStateException") (name := "java/lang/IllegalStateException") [⟨0, 6, 7, 25⟩] ⟨0, 6, 12, 13⟩ [] rfl (fun z hz => by rw [List.mem_singleton.mp hz]; exact ⟨by decide, "java/lang/IllegalArgumentException", gw_tab 472 (by decide +kernel) (by decide +kernel), fun U hU => hg.2.2.2.2.2.2.2.1 ("java/lang/IllegalStateException", "java/lang/IllegalArgumentException") (by decide) U hU⟩) (by decide) (by decide) (gw_tab 325 (by decide +kernel) (by decide +kernel)) (gp_tab 344 (by decide +kernel) (by decide +kernel)) hg.p (fun q9 => ?_)
        refine V_astore_n (lv' := [(3, .ref q9), (0, .ref x), (1, .int a1), (2, .int a2)]) dL_cueHush_12 rfl (by decide) rfl ?_
        refine V_sipush (v := (-1002)) dL_cueHush_13 (by decide) ?_
        exact V_iret dL_cueHush_16 rfl ⟨Nat.le_of_ble_eq_true rfl, Nat.le_of_ble_eq_true rfl⟩ ⟨_, rfl, Or.inr ⟨1, by decide, rfl, q1⟩⟩
abbrev mL_cancel : MI := (yL_cancel, cL_cancel, 3, (Option.some Jvm.ClassFile.FieldType.int), [((0 : Nat), (5 : Nat), (6 : Nat), (39 : Nat))], { frames := 16, cells := 1, slots := 6, locals := 385 })
theorem cdL_cancel : mcode mL_cancel ∈ GW := gw_tab 558 (by decide +kernel) (by decide +kernel)
theorem cvL_51 : CallV RL 51 mX7_cancelCue 1 := ⟨⟨gw_tab 560 (by decide +kernel) (by decide +kernel), gw_tab 1 (by decide +kernel) (by decide +kernel), cdX7_cancelCue, by decide +kernel, by decide +kernel, by decide +kernel⟩, rfl, gw_tab 561 (by decide +kernel) (by decide +kernel), gw_tab 562 (by decide +kernel) (by decide +kernel)⟩
set_option maxRecDepth 20000 in
set_option maxHeartbeats 2000000 in
theorem g_L_cancel {X : KX} (hxs : X.1.stackTraces = false) (hg : GX X) {h : AH} {x : Nat} {fs : List Value} (hb : h.2 x = some (.inr (9, fs))) {a1 : Int32} {P : Int32 → AH → Prop} {R : Nat → AH → Prop} (hC : Ct X mX7_cancelCue [.ref x, .int a1] h (zG (["java/util/NoSuchElementException"] : List String) P R)) : Ct X mL_cancel [.ref x, .int a1] h (zH ([-1001] : List Int32) P R) := by
  refine Ct.ofH (by decide) rfl (Nat.le_of_ble_eq_true rfl) rfl hxs ?_
  refine V_aload_n dL_cancel_0 0 rfl ?_
  refine V_iload_n dL_cancel_1 1 rfl ?_
  refine V_callV (As := [.int a1]) (rest := []) dL_cancel_2 cvL_51 hC hb rfl ⟨Nat.le_of_ble_eq_true rfl, Nat.le_of_ble_eq_true rfl, Nat.le_of_ble_eq_true rfl, Nat.le_of_ble_eq_true rfl⟩ (Nat.le_of_ble_eq_true rfl) rfl (fun v h1 hz => ?_) (fun E h1 hz => ?_)
  · rcases hz with ⟨v1, e1, q1⟩ | ⟨j, hj, e1, q1⟩
    · cases e1
      exact V_iret dL_cancel_5 rfl ⟨Nat.le_of_ble_eq_true rfl, Nat.le_of_ble_eq_true rfl⟩ ⟨v1, rfl, Or.inl q1⟩
    · cases e1
  · rcases hz with ⟨v1, e1, q1⟩ | ⟨j, hj, e1, q1⟩
    · cases e1
    · have e2 := Sum.inr.inj e1
      subst e2
      have e3 : j = 0 := by have : j < 1 := hj; omega
      subst e3
      refine VX_catch (E := "java/util/NoSuchElementException") (name := "java/util/NoSuchElementException") [] ⟨0, 5, 6, 39⟩ [] rfl (fun z hz => by cases hz) (by decide) (by decide) (gw_tab 559 (by decide +kernel) (by decide +kernel)) (gp_tab 587 (by decide +kernel) (by decide +kernel)) hg.p (fun q9 => ?_)
      refine V_astore_n (lv' := [(2, .ref q9), (0, .ref x), (1, .int a1)]) dL_cancel_6 rfl (by decide) rfl ?_
      refine V_sipush (v := (-1001)) dL_cancel_7 (by decide) ?_
      exact V_iret dL_cancel_10 rfl ⟨Nat.le_of_ble_eq_true rfl, Nat.le_of_ble_eq_true rfl⟩ ⟨_, rfl, Or.inr ⟨0, by decide, rfl, q1⟩⟩
abbrev mL_move : MI := (yL_move, cL_move, 4, (Option.some Jvm.ClassFile.FieldType.int), [((0 : Nat), (6 : Nat), (7 : Nat), (39 : Nat)), ((0 : Nat), (6 : Nat), (12 : Nat), (25 : Nat))], { frames := 16, cells := 1, slots := 6, locals := 386 })
theorem cdL_move : mcode mL_move ∈ GW := gw_tab 1358 (by decide +kernel) (by decide +kernel)
theorem cvL_54 : CallV RL 54 mX7_moveCue 2 := ⟨⟨gw_tab 1359 (by decide +kernel) (by decide +kernel), gw_tab 1 (by decide +kernel) (by decide +kernel), cdX7_moveCue, by decide +kernel, by decide +kernel, by decide +kernel⟩, rfl, gw_tab 1360 (by decide +kernel) (by decide +kernel), gw_tab 1361 (by decide +kernel) (by decide +kernel)⟩
set_option maxRecDepth 20000 in
set_option maxHeartbeats 2000000 in
theorem g_L_move {X : KX} (hxs : X.1.stackTraces = false) (hg : GX X) {h : AH} {x : Nat} {fs : List Value} (hb : h.2 x = some (.inr (9, fs))) {a1 a2 : Int32} {P : Int32 → AH → Prop} {R : Nat → AH → Prop} (hC : Ct X mX7_moveCue [.ref x, .int a1, .int a2] h (zG (["java/util/NoSuchElementException", "java/lang/IllegalArgumentException"] : List String) P R)) : Ct X mL_move [.ref x, .int a1, .int a2] h (zH ([-1001, -1002] : List Int32) P R) := by
  refine Ct.ofH (by decide) rfl (Nat.le_of_ble_eq_true rfl) rfl hxs ?_
  refine V_aload_n dL_move_0 0 rfl ?_
  refine V_iload_n dL_move_1 1 rfl ?_
  refine V_iload_n dL_move_2 2 rfl ?_
  refine V_callV (As := [.int a1, .int a2]) (rest := []) dL_move_3 cvL_54 hC hb rfl ⟨Nat.le_of_ble_eq_true rfl, Nat.le_of_ble_eq_true rfl, Nat.le_of_ble_eq_true rfl, Nat.le_of_ble_eq_true rfl⟩ (Nat.le_of_ble_eq_true rfl) rfl (fun v h1 hz => ?_) (fun E h1 hz => ?_)
  · rcases hz with ⟨v1, e1, q1⟩ | ⟨j, hj, e1, q1⟩
    · cases e1
      exact V_iret dL_move_6 rfl ⟨Nat.le_of_ble_eq_true rfl, Nat.le_of_ble_eq_true rfl⟩ ⟨v1, rfl, Or.inl q1⟩
    · cases e1
  · rcases hz with ⟨v1, e1, q1⟩ | ⟨j, hj, e1, q1⟩
    · cases e1
    · have e2 := Sum.inr.inj e1
      subst e2
      have hj2 : j < 2 := hj
      rcases (show j = 0 ∨ j = 1 by omega) with rfl | rfl
      · refine VX_catch (E := "java/util/NoSuchElementException") (name := "java/util/NoSuchElementException") [] ⟨0, 6, 7, 39⟩ [⟨0, 6, 12, 25⟩] rfl (fun z hz => by cases hz) (by decide) (by decide) (gw_tab 559 (by decide +kernel) (by decide +kernel)) (gp_tab 587 (by decide +kernel) (by decide +kernel)) hg.p (fun q9 => ?_)
        refine V_astore_n (lv' := [(3, .ref q9), (0, .ref x), (1, .int a1), (2, .int a2)]) dL_move_7 rfl (by decide) rfl ?_
        refine V_sipush (v := (-1001)) dL_move_8 (by decide) ?_
        exact V_iret dL_move_11 rfl ⟨Nat.le_of_ble_eq_true rfl, Nat.le_of_ble_eq_true rfl⟩ ⟨_, rfl, Or.inr ⟨0, by decide, rfl, q1⟩⟩
      · refine VX_catch (E := "java/lang/IllegalArgumentException") (name := "java/lang/IllegalArgumentException") [⟨0, 6, 7, 39⟩] ⟨0, 6, 12, 25⟩ [] rfl (fun z hz => by rw [List.mem_singleton.mp hz]; exact ⟨by decide, "java/util/NoSuchElementException", gw_tab 559 (by decide +kernel) (by decide +kernel), fun U hU => hg.2.2.2.2.2.2.2.1 ("java/lang/IllegalArgumentException", "java/util/NoSuchElementException") (by decide) U hU⟩) (by decide) (by decide) (gw_tab 472 (by decide +kernel) (by decide +kernel)) (gp_tab 522 (by decide +kernel) (by decide +kernel)) hg.p (fun q9 => ?_)
        refine V_astore_n (lv' := [(3, .ref q9), (0, .ref x), (1, .int a1), (2, .int a2)]) dL_move_12 rfl (by decide) rfl ?_
        refine V_sipush (v := (-1002)) dL_move_13 (by decide) ?_
        exact V_iret dL_move_16 rfl ⟨Nat.le_of_ble_eq_true rfl, Nat.le_of_ble_eq_true rfl⟩ ⟨_, rfl, Or.inr ⟨1, by decide, rfl, q1⟩⟩
abbrev mL_cueAt : MI := (yL_cueAt, cL_cueAt, 3, (Option.some Jvm.ClassFile.FieldType.int), [((0 : Nat), (5 : Nat), (6 : Nat), (39 : Nat))], { frames := 13, cells := 1, slots := 6, locals := 322 })
theorem cdL_cueAt : mcode mL_cueAt ∈ GW := gw_tab 1297 (by decide +kernel) (by decide +kernel)
theorem cvL_57 : CallV RL 57 mX7_cueAt 1 := ⟨⟨gw_tab 1298 (by decide +kernel) (by decide +kernel), gw_tab 1 (by decide +kernel) (by decide +kernel), cdX7_cueAt, by decide +kernel, by decide +kernel, by decide +kernel⟩, rfl, gw_tab 1299 (by decide +kernel) (by decide +kernel), gw_tab 1300 (by decide +kernel) (by decide +kernel)⟩
set_option maxRecDepth 20000 in
set_option maxHeartbeats 2000000 in
theorem g_L_cueAt {X : KX} (hxs : X.1.stackTraces = false) (hg : GX X) {h : AH} {x : Nat} {fs : List Value} (hb : h.2 x = some (.inr (9, fs))) {a1 : Int32} {P : Int32 → AH → Prop} {R : Nat → AH → Prop} (hC : Ct X mX7_cueAt [.ref x, .int a1] h (zG (["java/util/NoSuchElementException"] : List String) P R)) : Ct X mL_cueAt [.ref x, .int a1] h (zH ([-1001] : List Int32) P R) := by
  refine Ct.ofH (by decide) rfl (Nat.le_of_ble_eq_true rfl) rfl hxs ?_
  refine V_aload_n dL_cueAt_0 0 rfl ?_
  refine V_iload_n dL_cueAt_1 1 rfl ?_
  refine V_callV (As := [.int a1]) (rest := []) dL_cueAt_2 cvL_57 hC hb rfl ⟨Nat.le_of_ble_eq_true rfl, Nat.le_of_ble_eq_true rfl, Nat.le_of_ble_eq_true rfl, Nat.le_of_ble_eq_true rfl⟩ (Nat.le_of_ble_eq_true rfl) rfl (fun v h1 hz => ?_) (fun E h1 hz => ?_)
  · rcases hz with ⟨v1, e1, q1⟩ | ⟨j, hj, e1, q1⟩
    · cases e1
      exact V_iret dL_cueAt_5 rfl ⟨Nat.le_of_ble_eq_true rfl, Nat.le_of_ble_eq_true rfl⟩ ⟨v1, rfl, Or.inl q1⟩
    · cases e1
  · rcases hz with ⟨v1, e1, q1⟩ | ⟨j, hj, e1, q1⟩
    · cases e1
    · have e2 := Sum.inr.inj e1
      subst e2
      have e3 : j = 0 := by have : j < 1 := hj; omega
      subst e3
      refine VX_catch (E := "java/util/NoSuchElementException") (name := "java/util/NoSuchElementException") [] ⟨0, 5, 6, 39⟩ [] rfl (fun z hz => by cases hz) (by decide) (by decide) (gw_tab 559 (by decide +kernel) (by decide +kernel)) (gp_tab 587 (by decide +kernel) (by decide +kernel)) hg.p (fun q9 => ?_)
      refine V_astore_n (lv' := [(2, .ref q9), (0, .ref x), (1, .int a1)]) dL_cueAt_6 rfl (by decide) rfl ?_
      refine V_sipush (v := (-1001)) dL_cueAt_7 (by decide) ?_
      exact V_iret dL_cueAt_10 rfl ⟨Nat.le_of_ble_eq_true rfl, Nat.le_of_ble_eq_true rfl⟩ ⟨_, rfl, Or.inr ⟨0, by decide, rfl, q1⟩⟩
abbrev mL_first : MI := (yL_first, cL_first, 3, (Option.some Jvm.ClassFile.FieldType.int), [((0 : Nat), (5 : Nat), (6 : Nat), (39 : Nat))], { frames := 14, cells := 1, slots := 6, locals := 342 })
theorem cdL_first : mcode mL_first ∈ GW := gw_tab 1397 (by decide +kernel) (by decide +kernel)
theorem cvL_60 : CallV RL 60 mX7_firstCueFrom 1 := ⟨⟨gw_tab 1398 (by decide +kernel) (by decide +kernel), gw_tab 1 (by decide +kernel) (by decide +kernel), cdX7_firstCueFrom, by decide +kernel, by decide +kernel, by decide +kernel⟩, rfl, gw_tab 1399 (by decide +kernel) (by decide +kernel), gw_tab 1400 (by decide +kernel) (by decide +kernel)⟩
set_option maxRecDepth 20000 in
set_option maxHeartbeats 2000000 in
theorem g_L_first {X : KX} (hxs : X.1.stackTraces = false) (hg : GX X) {h : AH} {x : Nat} {fs : List Value} (hb : h.2 x = some (.inr (9, fs))) {a1 : Int32} {P : Int32 → AH → Prop} {R : Nat → AH → Prop} (hC : Ct X mX7_firstCueFrom [.ref x, .int a1] h (zG (["java/util/NoSuchElementException"] : List String) P R)) : Ct X mL_first [.ref x, .int a1] h (zH ([-1001] : List Int32) P R) := by
  refine Ct.ofH (by decide) rfl (Nat.le_of_ble_eq_true rfl) rfl hxs ?_
  refine V_aload_n dL_first_0 0 rfl ?_
  refine V_iload_n dL_first_1 1 rfl ?_
  refine V_callV (As := [.int a1]) (rest := []) dL_first_2 cvL_60 hC hb rfl ⟨Nat.le_of_ble_eq_true rfl, Nat.le_of_ble_eq_true rfl, Nat.le_of_ble_eq_true rfl, Nat.le_of_ble_eq_true rfl⟩ (Nat.le_of_ble_eq_true rfl) rfl (fun v h1 hz => ?_) (fun E h1 hz => ?_)
  · rcases hz with ⟨v1, e1, q1⟩ | ⟨j, hj, e1, q1⟩
    · cases e1
      exact V_iret dL_first_5 rfl ⟨Nat.le_of_ble_eq_true rfl, Nat.le_of_ble_eq_true rfl⟩ ⟨v1, rfl, Or.inl q1⟩
    · cases e1
  · rcases hz with ⟨v1, e1, q1⟩ | ⟨j, hj, e1, q1⟩
    · cases e1
    · have e2 := Sum.inr.inj e1
      subst e2
      have e3 : j = 0 := by have : j < 1 := hj; omega
      subst e3
      refine VX_catch (E := "java/util/NoSuchElementException") (name := "java/util/NoSuchElementException") [] ⟨0, 5, 6, 39⟩ [] rfl (fun z hz => by cases hz) (by decide) (by decide) (gw_tab 559 (by decide +kernel) (by decide +kernel)) (gp_tab 587 (by decide +kernel) (by decide +kernel)) hg.p (fun q9 => ?_)
      refine V_astore_n (lv' := [(2, .ref q9), (0, .ref x), (1, .int a1)]) dL_first_6 rfl (by decide) rfl ?_
      refine V_sipush (v := (-1001)) dL_first_7 (by decide) ?_
      exact V_iret dL_first_10 rfl ⟨Nat.le_of_ble_eq_true rfl, Nat.le_of_ble_eq_true rfl⟩ ⟨_, rfl, Or.inr ⟨0, by decide, rfl, q1⟩⟩
abbrev mL_firstByScan : MI := (yL_firstByScan, cL_firstByScan, 3, (Option.some Jvm.ClassFile.FieldType.int), [((0 : Nat), (5 : Nat), (6 : Nat), (39 : Nat))], { frames := 14, cells := 1, slots := 6, locals := 342 })
theorem cdL_firstByScan : mcode mL_firstByScan ∈ GW := gw_tab 1413 (by decide +kernel) (by decide +kernel)
theorem cvL_63 : CallV RL 63 mX7_firstCueFromByScan 1 := ⟨⟨gw_tab 1414 (by decide +kernel) (by decide +kernel), gw_tab 1 (by decide +kernel) (by decide +kernel), cdX7_firstCueFromByScan, by decide +kernel, by decide +kernel, by decide +kernel⟩, rfl, gw_tab 1415 (by decide +kernel) (by decide +kernel), gw_tab 1416 (by decide +kernel) (by decide +kernel)⟩
set_option maxRecDepth 20000 in
set_option maxHeartbeats 2000000 in
theorem g_L_firstByScan {X : KX} (hxs : X.1.stackTraces = false) (hg : GX X) {h : AH} {x : Nat} {fs : List Value} (hb : h.2 x = some (.inr (9, fs))) {a1 : Int32} {P : Int32 → AH → Prop} {R : Nat → AH → Prop} (hC : Ct X mX7_firstCueFromByScan [.ref x, .int a1] h (zG (["java/util/NoSuchElementException"] : List String) P R)) : Ct X mL_firstByScan [.ref x, .int a1] h (zH ([-1001] : List Int32) P R) := by
  refine Ct.ofH (by decide) rfl (Nat.le_of_ble_eq_true rfl) rfl hxs ?_
  refine V_aload_n dL_firstByScan_0 0 rfl ?_
  refine V_iload_n dL_firstByScan_1 1 rfl ?_
  refine V_callV (As := [.int a1]) (rest := []) dL_firstByScan_2 cvL_63 hC hb rfl ⟨Nat.le_of_ble_eq_true rfl, Nat.le_of_ble_eq_true rfl, Nat.le_of_ble_eq_true rfl, Nat.le_of_ble_eq_true rfl⟩ (Nat.le_of_ble_eq_true rfl) rfl (fun v h1 hz => ?_) (fun E h1 hz => ?_)
  · rcases hz with ⟨v1, e1, q1⟩ | ⟨j, hj, e1, q1⟩
    · cases e1
      exact V_iret dL_firstByScan_5 rfl ⟨Nat.le_of_ble_eq_true rfl, Nat.le_of_ble_eq_true rfl⟩ ⟨v1, rfl, Or.inl q1⟩
    · cases e1
  · rcases hz with ⟨v1, e1, q1⟩ | ⟨j, hj, e1, q1⟩
    · cases e1
    · have e2 := Sum.inr.inj e1
      subst e2
      have e3 : j = 0 := by have : j < 1 := hj; omega
      subst e3
      refine VX_catch (E := "java/util/NoSuchElementException") (name := "java/util/NoSuchElementException") [] ⟨0, 5, 6, 39⟩ [] rfl (fun z hz => by cases hz) (by decide) (by decide) (gw_tab 559 (by decide +kernel) (by decide +kernel)) (gp_tab 587 (by decide +kernel) (by decide +kernel)) hg.p (fun q9 => ?_)
      refine V_astore_n (lv' := [(2, .ref q9), (0, .ref x), (1, .int a1)]) dL_firstByScan_6 rfl (by decide) rfl ?_
      refine V_sipush (v := (-1001)) dL_firstByScan_7 (by decide) ?_
      exact V_iret dL_firstByScan_10 rfl ⟨Nat.le_of_ble_eq_true rfl, Nat.le_of_ble_eq_true rfl⟩ ⟨_, rfl, Or.inr ⟨0, by decide, rfl, q1⟩⟩
abbrev mL_cueBeat : MI := (yL_cueBeat, cL_cueBeat, 3, (Option.some Jvm.ClassFile.FieldType.int), [((0 : Nat), (5 : Nat), (6 : Nat), (39 : Nat))], { frames := 14, cells := 1, slots := 6, locals := 343 })
theorem cdL_cueBeat : mcode mL_cueBeat ∈ GW := gw_tab 1424 (by decide +kernel) (by decide +kernel)
theorem cvL_66 : CallV RL 66 mX7_cueBeat 1 := ⟨⟨gw_tab 1425 (by decide +kernel) (by decide +kernel), gw_tab 1 (by decide +kernel) (by decide +kernel), cdX7_cueBeat, by decide +kernel, by decide +kernel, by decide +kernel⟩, rfl, gw_tab 1426 (by decide +kernel) (by decide +kernel), gw_tab 1427 (by decide +kernel) (by decide +kernel)⟩
set_option maxRecDepth 20000 in
set_option maxHeartbeats 2000000 in
theorem g_L_cueBeat {X : KX} (hxs : X.1.stackTraces = false) (hg : GX X) {h : AH} {x : Nat} {fs : List Value} (hb : h.2 x = some (.inr (9, fs))) {a1 : Int32} {P : Int32 → AH → Prop} {R : Nat → AH → Prop} (hC : Ct X mX7_cueBeat [.ref x, .int a1] h (zG (["java/util/NoSuchElementException"] : List String) P R)) : Ct X mL_cueBeat [.ref x, .int a1] h (zH ([-1001] : List Int32) P R) := by
  refine Ct.ofH (by decide) rfl (Nat.le_of_ble_eq_true rfl) rfl hxs ?_
  refine V_aload_n dL_cueBeat_0 0 rfl ?_
  refine V_iload_n dL_cueBeat_1 1 rfl ?_
  refine V_callV (As := [.int a1]) (rest := []) dL_cueBeat_2 cvL_66 hC hb rfl ⟨Nat.le_of_ble_eq_true rfl, Nat.le_of_ble_eq_true rfl, Nat.le_of_ble_eq_true rfl, Nat.le_of_ble_eq_true rfl⟩ (Nat.le_of_ble_eq_true rfl) rfl (fun v h1 hz => ?_) (fun E h1 hz => ?_)
  · rcases hz with ⟨v1, e1, q1⟩ | ⟨j, hj, e1, q1⟩
    · cases e1
      exact V_iret dL_cueBeat_5 rfl ⟨Nat.le_of_ble_eq_true rfl, Nat.le_of_ble_eq_true rfl⟩ ⟨v1, rfl, Or.inl q1⟩
    · cases e1
  · rcases hz with ⟨v1, e1, q1⟩ | ⟨j, hj, e1, q1⟩
    · cases e1
    · have e2 := Sum.inr.inj e1
      subst e2
      have e3 : j = 0 := by have : j < 1 := hj; omega
      subst e3
      refine VX_catch (E := "java/util/NoSuchElementException") (name := "java/util/NoSuchElementException") [] ⟨0, 5, 6, 39⟩ [] rfl (fun z hz => by cases hz) (by decide) (by decide) (gw_tab 559 (by decide +kernel) (by decide +kernel)) (gp_tab 587 (by decide +kernel) (by decide +kernel)) hg.p (fun q9 => ?_)
      refine V_astore_n (lv' := [(2, .ref q9), (0, .ref x), (1, .int a1)]) dL_cueBeat_6 rfl (by decide) rfl ?_
      refine V_sipush (v := (-1001)) dL_cueBeat_7 (by decide) ?_
      exact V_iret dL_cueBeat_10 rfl ⟨Nat.le_of_ble_eq_true rfl, Nat.le_of_ble_eq_true rfl⟩ ⟨_, rfl, Or.inr ⟨0, by decide, rfl, q1⟩⟩
abbrev mL_cueKind : MI := (yL_cueKind, cL_cueKind, 3, (Option.some Jvm.ClassFile.FieldType.int), [((0 : Nat), (5 : Nat), (6 : Nat), (39 : Nat))], { frames := 14, cells := 1, slots := 6, locals := 343 })
theorem cdL_cueKind : mcode mL_cueKind ∈ GW := gw_tab 1431 (by decide +kernel) (by decide +kernel)
theorem cvL_69 : CallV RL 69 mX7_cueKind 1 := ⟨⟨gw_tab 1432 (by decide +kernel) (by decide +kernel), gw_tab 1 (by decide +kernel) (by decide +kernel), cdX7_cueKind, by decide +kernel, by decide +kernel, by decide +kernel⟩, rfl, gw_tab 1433 (by decide +kernel) (by decide +kernel), gw_tab 1434 (by decide +kernel) (by decide +kernel)⟩
set_option maxRecDepth 20000 in
set_option maxHeartbeats 2000000 in
theorem g_L_cueKind {X : KX} (hxs : X.1.stackTraces = false) (hg : GX X) {h : AH} {x : Nat} {fs : List Value} (hb : h.2 x = some (.inr (9, fs))) {a1 : Int32} {P : Int32 → AH → Prop} {R : Nat → AH → Prop} (hC : Ct X mX7_cueKind [.ref x, .int a1] h (zG (["java/util/NoSuchElementException"] : List String) P R)) : Ct X mL_cueKind [.ref x, .int a1] h (zH ([-1001] : List Int32) P R) := by
  refine Ct.ofH (by decide) rfl (Nat.le_of_ble_eq_true rfl) rfl hxs ?_
  refine V_aload_n dL_cueKind_0 0 rfl ?_
  refine V_iload_n dL_cueKind_1 1 rfl ?_
  refine V_callV (As := [.int a1]) (rest := []) dL_cueKind_2 cvL_69 hC hb rfl ⟨Nat.le_of_ble_eq_true rfl, Nat.le_of_ble_eq_true rfl, Nat.le_of_ble_eq_true rfl, Nat.le_of_ble_eq_true rfl⟩ (Nat.le_of_ble_eq_true rfl) rfl (fun v h1 hz => ?_) (fun E h1 hz => ?_)
  · rcases hz with ⟨v1, e1, q1⟩ | ⟨j, hj, e1, q1⟩
    · cases e1
      exact V_iret dL_cueKind_5 rfl ⟨Nat.le_of_ble_eq_true rfl, Nat.le_of_ble_eq_true rfl⟩ ⟨v1, rfl, Or.inl q1⟩
    · cases e1
  · rcases hz with ⟨v1, e1, q1⟩ | ⟨j, hj, e1, q1⟩
    · cases e1
    · have e2 := Sum.inr.inj e1
      subst e2
      have e3 : j = 0 := by have : j < 1 := hj; omega
      subst e3
      refine VX_catch (E := "java/util/NoSuchElementException") (name := "java/util/NoSuchElementException") [] ⟨0, 5, 6, 39⟩ [] rfl (fun z hz => by cases hz) (by decide) (by decide) (gw_tab 559 (by decide +kernel) (by decide +kernel)) (gp_tab 587 (by decide +kernel) (by decide +kernel)) hg.p (fun q9 => ?_)
      refine V_astore_n (lv' := [(2, .ref q9), (0, .ref x), (1, .int a1)]) dL_cueKind_6 rfl (by decide) rfl ?_
      refine V_sipush (v := (-1001)) dL_cueKind_7 (by decide) ?_
      exact V_iret dL_cueKind_10 rfl ⟨Nat.le_of_ble_eq_true rfl, Nat.le_of_ble_eq_true rfl⟩ ⟨_, rfl, Or.inr ⟨0, by decide, rfl, q1⟩⟩
abbrev mL_cueSize : MI := (yL_cueSize, cL_cueSize, 3, (Option.some Jvm.ClassFile.FieldType.int), [((0 : Nat), (5 : Nat), (6 : Nat), (39 : Nat))], { frames := 14, cells := 1, slots := 6, locals := 343 })
theorem cdL_cueSize : mcode mL_cueSize ∈ GW := gw_tab 1438 (by decide +kernel) (by decide +kernel)
theorem cvL_73 : CallV RL 73 mX7_cueSize 1 := ⟨⟨gw_tab 1439 (by decide +kernel) (by decide +kernel), gw_tab 1 (by decide +kernel) (by decide +kernel), cdX7_cueSize, by decide +kernel, by decide +kernel, by decide +kernel⟩, rfl, gw_tab 1440 (by decide +kernel) (by decide +kernel), gw_tab 1441 (by decide +kernel) (by decide +kernel)⟩
set_option maxRecDepth 20000 in
set_option maxHeartbeats 2000000 in
theorem g_L_cueSize {X : KX} (hxs : X.1.stackTraces = false) (hg : GX X) {h : AH} {x : Nat} {fs : List Value} (hb : h.2 x = some (.inr (9, fs))) {a1 : Int32} {P : Int32 → AH → Prop} {R : Nat → AH → Prop} (hC : Ct X mX7_cueSize [.ref x, .int a1] h (zG (["java/util/NoSuchElementException"] : List String) P R)) : Ct X mL_cueSize [.ref x, .int a1] h (zH ([-1001] : List Int32) P R) := by
  refine Ct.ofH (by decide) rfl (Nat.le_of_ble_eq_true rfl) rfl hxs ?_
  refine V_aload_n dL_cueSize_0 0 rfl ?_
  refine V_iload_n dL_cueSize_1 1 rfl ?_
  refine V_callV (As := [.int a1]) (rest := []) dL_cueSize_2 cvL_73 hC hb rfl ⟨Nat.le_of_ble_eq_true rfl, Nat.le_of_ble_eq_true rfl, Nat.le_of_ble_eq_true rfl, Nat.le_of_ble_eq_true rfl⟩ (Nat.le_of_ble_eq_true rfl) rfl (fun v h1 hz => ?_) (fun E h1 hz => ?_)
  · rcases hz with ⟨v1, e1, q1⟩ | ⟨j, hj, e1, q1⟩
    · cases e1
      exact V_iret dL_cueSize_5 rfl ⟨Nat.le_of_ble_eq_true rfl, Nat.le_of_ble_eq_true rfl⟩ ⟨v1, rfl, Or.inl q1⟩
    · cases e1
  · rcases hz with ⟨v1, e1, q1⟩ | ⟨j, hj, e1, q1⟩
    · cases e1
    · have e2 := Sum.inr.inj e1
      subst e2
      have e3 : j = 0 := by have : j < 1 := hj; omega
      subst e3
      refine VX_catch (E := "java/util/NoSuchElementException") (name := "java/util/NoSuchElementException") [] ⟨0, 5, 6, 39⟩ [] rfl (fun z hz => by cases hz) (by decide) (by decide) (gw_tab 559 (by decide +kernel) (by decide +kernel)) (gp_tab 587 (by decide +kernel) (by decide +kernel)) hg.p (fun q9 => ?_)
      refine V_astore_n (lv' := [(2, .ref q9), (0, .ref x), (1, .int a1)]) dL_cueSize_6 rfl (by decide) rfl ?_
      refine V_sipush (v := (-1001)) dL_cueSize_7 (by decide) ?_
      exact V_iret dL_cueSize_10 rfl ⟨Nat.le_of_ble_eq_true rfl, Nat.le_of_ble_eq_true rfl⟩ ⟨_, rfl, Or.inr ⟨0, by decide, rfl, q1⟩⟩
abbrev mL_cuePerformer : MI := (yL_cuePerformer, cL_cuePerformer, 3, (Option.some Jvm.ClassFile.FieldType.int), [((0 : Nat), (5 : Nat), (6 : Nat), (39 : Nat)), ((0 : Nat), (5 : Nat), (11 : Nat), (13 : Nat))], { frames := 14, cells := 2, slots := 12, locals := 344 })
theorem cdL_cuePerformer : mcode mL_cuePerformer ∈ GW := gw_tab 1445 (by decide +kernel) (by decide +kernel)
theorem cvL_76 : CallV RL 76 mX7_cuePerformer 1 := ⟨⟨gw_tab 1446 (by decide +kernel) (by decide +kernel), gw_tab 1 (by decide +kernel) (by decide +kernel), cdX7_cuePerformer, by decide +kernel, by decide +kernel, by decide +kernel⟩, rfl, gw_tab 1447 (by decide +kernel) (by decide +kernel), gw_tab 1448 (by decide +kernel) (by decide +kernel)⟩
set_option maxRecDepth 20000 in
set_option maxHeartbeats 2000000 in
theorem g_L_cuePerformer {X : KX} (hxs : X.1.stackTraces = false) (hg : GX X) {h : AH} {x : Nat} {fs : List Value} (hb : h.2 x = some (.inr (9, fs))) {a1 : Int32} {P : Int32 → AH → Prop} {R : Nat → AH → Prop} (hC : Ct X mX7_cuePerformer [.ref x, .int a1] h (zG (["java/util/NoSuchElementException", "java/lang/IllegalStateException"] : List String) P R)) : Ct X mL_cuePerformer [.ref x, .int a1] h (zH ([-1001, -1002] : List Int32) P R) := by
  refine Ct.ofH (by decide) rfl (Nat.le_of_ble_eq_true rfl) rfl hxs ?_
  refine V_aload_n dL_cuePerformer_0 0 rfl ?_
  refine V_iload_n dL_cuePerformer_1 1 rfl ?_
  refine V_callV (As := [.int a1]) (rest := []) dL_cuePerformer_2 cvL_76 hC hb rfl ⟨Nat.le_of_ble_eq_true rfl, Nat.le_of_ble_eq_true rfl, Nat.le_of_ble_eq_true rfl, Nat.le_of_ble_eq_true rfl⟩ (Nat.le_of_ble_eq_true rfl) rfl (fun v h1 hz => ?_) (fun E h1 hz => ?_)
  · rcases hz with ⟨v1, e1, q1⟩ | ⟨j, hj, e1, q1⟩
    · cases e1
      exact V_iret dL_cuePerformer_5 rfl ⟨Nat.le_of_ble_eq_true rfl, Nat.le_of_ble_eq_true rfl⟩ ⟨v1, rfl, Or.inl q1⟩
    · cases e1
  · rcases hz with ⟨v1, e1, q1⟩ | ⟨j, hj, e1, q1⟩
    · cases e1
    · have e2 := Sum.inr.inj e1
      subst e2
      have hj2 : j < 2 := hj
      rcases (show j = 0 ∨ j = 1 by omega) with rfl | rfl
      · refine VX_catch (E := "java/util/NoSuchElementException") (name := "java/util/NoSuchElementException") [] ⟨0, 5, 6, 39⟩ [⟨0, 5, 11, 13⟩] rfl (fun z hz => by cases hz) (by decide) (by decide) (gw_tab 559 (by decide +kernel) (by decide +kernel)) (gp_tab 587 (by decide +kernel) (by decide +kernel)) hg.p (fun q9 => ?_)
        refine V_astore_n (lv' := [(2, .ref q9), (0, .ref x), (1, .int a1)]) dL_cuePerformer_6 rfl (by decide) rfl ?_
        refine V_sipush (v := (-1001)) dL_cuePerformer_7 (by decide) ?_
        exact V_iret dL_cuePerformer_10 rfl ⟨Nat.le_of_ble_eq_true rfl, Nat.le_of_ble_eq_true rfl⟩ ⟨_, rfl, Or.inr ⟨0, by decide, rfl, q1⟩⟩
      · refine VX_catch (E := "java/lang/IllegalStateException") (name := "java/lang/IllegalStateException") [⟨0, 5, 6, 39⟩] ⟨0, 5, 11, 13⟩ [] rfl (fun z hz => by rw [List.mem_singleton.mp hz]; exact ⟨by decide, "java/util/NoSuchElementException", gw_tab 559 (by decide +kernel) (by decide +kernel), fun U hU => hg.2.2.2.2.2.2.2.1 ("java/lang/IllegalStateException", "java/util/NoSuchElementException") (by decide) U hU⟩) (by decide) (by decide) (gw_tab 325 (by decide +kernel) (by decide +kernel)) (gp_tab 344 (by decide +kernel) (by decide +kernel)) hg.p (fun q9 => ?_)
        refine V_astore_n (lv' := [(2, .ref q9), (0, .ref x), (1, .int a1)]) dL_cuePerformer_11 rfl (by decide) rfl ?_
        refine V_sipush (v := (-1002)) dL_cuePerformer_12 (by decide) ?_
        exact V_iret dL_cuePerformer_15 rfl ⟨Nat.le_of_ble_eq_true rfl, Nat.le_of_ble_eq_true rfl⟩ ⟨_, rfl, Or.inr ⟨1, by decide, rfl, q1⟩⟩
abbrev mL_setLimit : MI := (yL_setLimit, cL_setLimit, 3, (Option.some Jvm.ClassFile.FieldType.int), [((0 : Nat), (5 : Nat), (6 : Nat), (25 : Nat))], { frames := 16, cells := 1, slots := 6, locals := 385 })
theorem cdL_setLimit : mcode mL_setLimit ∈ GW := gw_tab 1119 (by decide +kernel) (by decide +kernel)
theorem cvL_79 : CallV RL 79 mX7_setLimit 1 := ⟨⟨gw_tab 1120 (by decide +kernel) (by decide +kernel), gw_tab 1 (by decide +kernel) (by decide +kernel), cdX7_setLimit, by decide +kernel, by decide +kernel, by decide +kernel⟩, rfl, gw_tab 1121 (by decide +kernel) (by decide +kernel), gw_tab 1122 (by decide +kernel) (by decide +kernel)⟩
set_option maxRecDepth 20000 in
set_option maxHeartbeats 2000000 in
theorem g_L_setLimit {X : KX} (hxs : X.1.stackTraces = false) (hg : GX X) {h : AH} {x : Nat} {fs : List Value} (hb : h.2 x = some (.inr (9, fs))) {a1 : Int32} {P : Int32 → AH → Prop} {R : Nat → AH → Prop} (hC : Ct X mX7_setLimit [.ref x, .int a1] h (zG (["java/lang/IllegalArgumentException"] : List String) P R)) : Ct X mL_setLimit [.ref x, .int a1] h (zH ([-1001] : List Int32) P R) := by
  refine Ct.ofH (by decide) rfl (Nat.le_of_ble_eq_true rfl) rfl hxs ?_
  refine V_aload_n dL_setLimit_0 0 rfl ?_
  refine V_iload_n dL_setLimit_1 1 rfl ?_
  refine V_callV (As := [.int a1]) (rest := []) dL_setLimit_2 cvL_79 hC hb rfl ⟨Nat.le_of_ble_eq_true rfl, Nat.le_of_ble_eq_true rfl, Nat.le_of_ble_eq_true rfl, Nat.le_of_ble_eq_true rfl⟩ (Nat.le_of_ble_eq_true rfl) rfl (fun v h1 hz => ?_) (fun E h1 hz => ?_)
  · rcases hz with ⟨v1, e1, q1⟩ | ⟨j, hj, e1, q1⟩
    · cases e1
      exact V_iret dL_setLimit_5 rfl ⟨Nat.le_of_ble_eq_true rfl, Nat.le_of_ble_eq_true rfl⟩ ⟨v1, rfl, Or.inl q1⟩
    · cases e1
  · rcases hz with ⟨v1, e1, q1⟩ | ⟨j, hj, e1, q1⟩
    · cases e1
    · have e2 := Sum.inr.inj e1
      subst e2
      have e3 : j = 0 := by have : j < 1 := hj; omega
      subst e3
      refine VX_catch (E := "java/lang/IllegalArgumentException") (name := "java/lang/IllegalArgumentException") [] ⟨0, 5, 6, 25⟩ [] rfl (fun z hz => by cases hz) (by decide) (by decide) (gw_tab 472 (by decide +kernel) (by decide +kernel)) (gp_tab 522 (by decide +kernel) (by decide +kernel)) hg.p (fun q9 => ?_)
      refine V_astore_n (lv' := [(2, .ref q9), (0, .ref x), (1, .int a1)]) dL_setLimit_6 rfl (by decide) rfl ?_
      refine V_sipush (v := (-1001)) dL_setLimit_7 (by decide) ?_
      exact V_iret dL_setLimit_10 rfl ⟨Nat.le_of_ble_eq_true rfl, Nat.le_of_ble_eq_true rfl⟩ ⟨_, rfl, Or.inr ⟨0, by decide, rfl, q1⟩⟩
abbrev mL_loudest : MI := (yL_loudest, cL_loudest, 2, (Option.some Jvm.ClassFile.FieldType.int), [((0 : Nat), (4 : Nat), (5 : Nat), (39 : Nat))], { frames := 13, cells := 1, slots := 6, locals := 321 })
theorem cdL_loudest : mcode mL_loudest ∈ GW := gw_tab 1205 (by decide +kernel) (by decide +kernel)
theorem cvL_82 : CallV RL 82 mX7_loudestBeat 0 := ⟨⟨gw_tab 1206 (by decide +kernel) (by decide +kernel), gw_tab 1 (by decide +kernel) (by decide +kernel), cdX7_loudestBeat, by decide +kernel, by decide +kernel, by decide +kernel⟩, rfl, gw_tab 1207 (by decide +kernel) (by decide +kernel), gw_tab 1208 (by decide +kernel) (by decide +kernel)⟩
set_option maxRecDepth 20000 in
set_option maxHeartbeats 2000000 in
theorem g_L_loudest {X : KX} (hxs : X.1.stackTraces = false) (hg : GX X) {h : AH} {x : Nat} {fs : List Value} (hb : h.2 x = some (.inr (9, fs))) {P : Int32 → AH → Prop} {R : Nat → AH → Prop} (hC : Ct X mX7_loudestBeat [.ref x] h (zG (["java/util/NoSuchElementException"] : List String) P R)) : Ct X mL_loudest [.ref x] h (zH ([-1001] : List Int32) P R) := by
  refine Ct.ofH (by decide) rfl (Nat.le_of_ble_eq_true rfl) rfl hxs ?_
  refine V_aload_n dL_loudest_0 0 rfl ?_
  refine V_callV (As := []) (rest := []) dL_loudest_1 cvL_82 hC hb rfl ⟨Nat.le_of_ble_eq_true rfl, Nat.le_of_ble_eq_true rfl, Nat.le_of_ble_eq_true rfl, Nat.le_of_ble_eq_true rfl⟩ (Nat.le_of_ble_eq_true rfl) rfl (fun v h1 hz => ?_) (fun E h1 hz => ?_)
  · rcases hz with ⟨v1, e1, q1⟩ | ⟨j, hj, e1, q1⟩
    · cases e1
      exact V_iret dL_loudest_4 rfl ⟨Nat.le_of_ble_eq_true rfl, Nat.le_of_ble_eq_true rfl⟩ ⟨v1, rfl, Or.inl q1⟩
    · cases e1
  · rcases hz with ⟨v1, e1, q1⟩ | ⟨j, hj, e1, q1⟩
    · cases e1
    · have e2 := Sum.inr.inj e1
      subst e2
      have e3 : j = 0 := by have : j < 1 := hj; omega
      subst e3
      refine VX_catch (E := "java/util/NoSuchElementException") (name := "java/util/NoSuchElementException") [] ⟨0, 4, 5, 39⟩ [] rfl (fun z hz => by cases hz) (by decide) (by decide) (gw_tab 559 (by decide +kernel) (by decide +kernel)) (gp_tab 587 (by decide +kernel) (by decide +kernel)) hg.p (fun q9 => ?_)
      refine V_astore_n (lv' := [(1, .ref q9), (0, .ref x)]) dL_loudest_5 rfl (by decide) rfl ?_
      refine V_sipush (v := (-1001)) dL_loudest_6 (by decide) ?_
      exact V_iret dL_loudest_9 rfl ⟨Nat.le_of_ble_eq_true rfl, Nat.le_of_ble_eq_true rfl⟩ ⟨_, rfl, Or.inr ⟨0, by decide, rfl, q1⟩⟩
abbrev mL_advance : MI := (yL_advance, cL_advance, 3, (Option.some Jvm.ClassFile.FieldType.int), [((0 : Nat), (5 : Nat), (6 : Nat), (25 : Nat))], { frames := 16, cells := 1, slots := 6, locals := 385 })
theorem cdL_advance : mcode mL_advance ∈ GW := gw_tab 603 (by decide +kernel) (by decide +kernel)
theorem cvL_85 : CallV RL 85 mX7_advance 1 := ⟨⟨gw_tab 604 (by decide +kernel) (by decide +kernel), gw_tab 1 (by decide +kernel) (by decide +kernel), cdX7_advance, by decide +kernel, by decide +kernel, by decide +kernel⟩, rfl, gw_tab 605 (by decide +kernel) (by decide +kernel), gw_tab 606 (by decide +kernel) (by decide +kernel)⟩
set_option maxRecDepth 20000 in
set_option maxHeartbeats 2000000 in
theorem g_L_advance {X : KX} (hxs : X.1.stackTraces = false) (hg : GX X) {h : AH} {x : Nat} {fs : List Value} (hb : h.2 x = some (.inr (9, fs))) {a1 : Int32} {P : Int32 → AH → Prop} {R : Nat → AH → Prop} (hC : Ct X mX7_advance [.ref x, .int a1] h (zG (["java/lang/IllegalArgumentException"] : List String) P R)) : Ct X mL_advance [.ref x, .int a1] h (zH ([-1001] : List Int32) P R) := by
  refine Ct.ofH (by decide) rfl (Nat.le_of_ble_eq_true rfl) rfl hxs ?_
  refine V_aload_n dL_advance_0 0 rfl ?_
  refine V_iload_n dL_advance_1 1 rfl ?_
  refine V_callV (As := [.int a1]) (rest := []) dL_advance_2 cvL_85 hC hb rfl ⟨Nat.le_of_ble_eq_true rfl, Nat.le_of_ble_eq_true rfl, Nat.le_of_ble_eq_true rfl, Nat.le_of_ble_eq_true rfl⟩ (Nat.le_of_ble_eq_true rfl) rfl (fun v h1 hz => ?_) (fun E h1 hz => ?_)
  · rcases hz with ⟨v1, e1, q1⟩ | ⟨j, hj, e1, q1⟩
    · cases e1
      exact V_iret dL_advance_5 rfl ⟨Nat.le_of_ble_eq_true rfl, Nat.le_of_ble_eq_true rfl⟩ ⟨v1, rfl, Or.inl q1⟩
    · cases e1
  · rcases hz with ⟨v1, e1, q1⟩ | ⟨j, hj, e1, q1⟩
    · cases e1
    · have e2 := Sum.inr.inj e1
      subst e2
      have e3 : j = 0 := by have : j < 1 := hj; omega
      subst e3
      refine VX_catch (E := "java/lang/IllegalArgumentException") (name := "java/lang/IllegalArgumentException") [] ⟨0, 5, 6, 25⟩ [] rfl (fun z hz => by cases hz) (by decide) (by decide) (gw_tab 472 (by decide +kernel) (by decide +kernel)) (gp_tab 522 (by decide +kernel) (by decide +kernel)) hg.p (fun q9 => ?_)
      refine V_astore_n (lv' := [(2, .ref q9), (0, .ref x), (1, .int a1)]) dL_advance_6 rfl (by decide) rfl ?_
      refine V_sipush (v := (-1001)) dL_advance_7 (by decide) ?_
      exact V_iret dL_advance_10 rfl ⟨Nat.le_of_ble_eq_true rfl, Nat.le_of_ble_eq_true rfl⟩ ⟨_, rfl, Or.inr ⟨0, by decide, rfl, q1⟩⟩
abbrev mL_turnAct : MI := (yL_turnAct, cL_turnAct, 2, (Option.some Jvm.ClassFile.FieldType.int), [((0 : Nat), (4 : Nat), (5 : Nat), (13 : Nat))], { frames := 16, cells := 1, slots := 6, locals := 384 })
theorem cdL_turnAct : mcode mL_turnAct ∈ GW := gw_tab 1366 (by decide +kernel) (by decide +kernel)
theorem cvL_88 : CallV RL 88 mX7_turnAct 0 := ⟨⟨gw_tab 1367 (by decide +kernel) (by decide +kernel), gw_tab 1 (by decide +kernel) (by decide +kernel), cdX7_turnAct, by decide +kernel, by decide +kernel, by decide +kernel⟩, rfl, gw_tab 1368 (by decide +kernel) (by decide +kernel), gw_tab 1369 (by decide +kernel) (by decide +kernel)⟩
set_option maxRecDepth 20000 in
set_option maxHeartbeats 2000000 in
theorem g_L_turnAct {X : KX} (hxs : X.1.stackTraces = false) (hg : GX X) {h : AH} {x : Nat} {fs : List Value} (hb : h.2 x = some (.inr (9, fs))) {P : Int32 → AH → Prop} {R : Nat → AH → Prop} (hC : Ct X mX7_turnAct [.ref x] h (zG (["java/lang/IllegalStateException"] : List String) P R)) : Ct X mL_turnAct [.ref x] h (zH ([-1001] : List Int32) P R) := by
  refine Ct.ofH (by decide) rfl (Nat.le_of_ble_eq_true rfl) rfl hxs ?_
  refine V_aload_n dL_turnAct_0 0 rfl ?_
  refine V_callV (As := []) (rest := []) dL_turnAct_1 cvL_88 hC hb rfl ⟨Nat.le_of_ble_eq_true rfl, Nat.le_of_ble_eq_true rfl, Nat.le_of_ble_eq_true rfl, Nat.le_of_ble_eq_true rfl⟩ (Nat.le_of_ble_eq_true rfl) rfl (fun v h1 hz => ?_) (fun E h1 hz => ?_)
  · rcases hz with ⟨v1, e1, q1⟩ | ⟨j, hj, e1, q1⟩
    · cases e1
      exact V_iret dL_turnAct_4 rfl ⟨Nat.le_of_ble_eq_true rfl, Nat.le_of_ble_eq_true rfl⟩ ⟨v1, rfl, Or.inl q1⟩
    · cases e1
  · rcases hz with ⟨v1, e1, q1⟩ | ⟨j, hj, e1, q1⟩
    · cases e1
    · have e2 := Sum.inr.inj e1
      subst e2
      have e3 : j = 0 := by have : j < 1 := hj; omega
      subst e3
      refine VX_catch (E := "java/lang/IllegalStateException") (name := "java/lang/IllegalStateException") [] ⟨0, 4, 5, 13⟩ [] rfl (fun z hz => by cases hz) (by decide) (by decide) (gw_tab 325 (by decide +kernel) (by decide +kernel)) (gp_tab 344 (by decide +kernel) (by decide +kernel)) hg.p (fun q9 => ?_)
      refine V_astore_n (lv' := [(1, .ref q9), (0, .ref x)]) dL_turnAct_5 rfl (by decide) rfl ?_
      refine V_sipush (v := (-1001)) dL_turnAct_6 (by decide) ?_
      exact V_iret dL_turnAct_9 rfl ⟨Nat.le_of_ble_eq_true rfl, Nat.le_of_ble_eq_true rfl⟩ ⟨_, rfl, Or.inr ⟨0, by decide, rfl, q1⟩⟩
abbrev mL_finesAfter : MI := (yL_finesAfter, cL_finesAfter, 4, (Option.some Jvm.ClassFile.FieldType.int), [((0 : Nat), (6 : Nat), (7 : Nat), (19 : Nat)), ((0 : Nat), (6 : Nat), (12 : Nat), (25 : Nat))], { frames := 16, cells := 1, slots := 6, locals := 385 })
theorem cdL_finesAfter : mcode mL_finesAfter ∈ GW := gw_tab 1260 (by decide +kernel) (by decide +kernel)
theorem cvL_91 : CallV RL 91 mX7_finesAfter 2 := ⟨⟨gw_tab 1261 (by decide +kernel) (by decide +kernel), gw_tab 1 (by decide +kernel) (by decide +kernel), cdX7_finesAfter, by decide +kernel, by decide +kernel, by decide +kernel⟩, rfl, gw_tab 1262 (by decide +kernel) (by decide +kernel), gw_tab 1263 (by decide +kernel) (by decide +kernel)⟩
set_option maxRecDepth 20000 in
set_option maxHeartbeats 2000000 in
theorem g_L_finesAfter {X : KX} (hxs : X.1.stackTraces = false) (hg : GX X) {h : AH} {x : Nat} {fs : List Value} (hb : h.2 x = some (.inr (9, fs))) {a1 a2 : Int32} {P : Int32 → AH → Prop} {R : Nat → AH → Prop} (hC : Ct X mX7_finesAfter [.ref x, .int a1, .int a2] h (zG (["java/lang/IndexOutOfBoundsException", "java/lang/IllegalArgumentException"] : List String) P R)) : Ct X mL_finesAfter [.ref x, .int a1, .int a2] h (zH ([-1001, -1002] : List Int32) P R) := by
  refine Ct.ofH (by decide) rfl (Nat.le_of_ble_eq_true rfl) rfl hxs ?_
  refine V_aload_n dL_finesAfter_0 0 rfl ?_
  refine V_iload_n dL_finesAfter_1 1 rfl ?_
  refine V_iload_n dL_finesAfter_2 2 rfl ?_
  refine V_callV (As := [.int a1, .int a2]) (rest := []) dL_finesAfter_3 cvL_91 hC hb rfl ⟨Nat.le_of_ble_eq_true rfl, Nat.le_of_ble_eq_true rfl, Nat.le_of_ble_eq_true rfl, Nat.le_of_ble_eq_true rfl⟩ (Nat.le_of_ble_eq_true rfl) rfl (fun v h1 hz => ?_) (fun E h1 hz => ?_)
  · rcases hz with ⟨v1, e1, q1⟩ | ⟨j, hj, e1, q1⟩
    · cases e1
      exact V_iret dL_finesAfter_6 rfl ⟨Nat.le_of_ble_eq_true rfl, Nat.le_of_ble_eq_true rfl⟩ ⟨v1, rfl, Or.inl q1⟩
    · cases e1
  · rcases hz with ⟨v1, e1, q1⟩ | ⟨j, hj, e1, q1⟩
    · cases e1
    · have e2 := Sum.inr.inj e1
      subst e2
      have hj2 : j < 2 := hj
      rcases (show j = 0 ∨ j = 1 by omega) with rfl | rfl
      · refine VX_catch (E := "java/lang/IndexOutOfBoundsException") (name := "java/lang/IndexOutOfBoundsException") [] ⟨0, 6, 7, 19⟩ [⟨0, 6, 12, 25⟩] rfl (fun z hz => by cases hz) (by decide) (by decide) (gw_tab 424 (by decide +kernel) (by decide +kernel)) (gp_tab 458 (by decide +kernel) (by decide +kernel)) hg.p (fun q9 => ?_)
        refine V_astore_n (lv' := [(3, .ref q9), (0, .ref x), (1, .int a1), (2, .int a2)]) dL_finesAfter_7 rfl (by decide) rfl ?_
        refine V_sipush (v := (-1001)) dL_finesAfter_8 (by decide) ?_
        exact V_iret dL_finesAfter_11 rfl ⟨Nat.le_of_ble_eq_true rfl, Nat.le_of_ble_eq_true rfl⟩ ⟨_, rfl, Or.inr ⟨0, by decide, rfl, q1⟩⟩
      · refine VX_catch (E := "java/lang/IllegalArgumentException") (name := "java/lang/IllegalArgumentException") [⟨0, 6, 7, 19⟩] ⟨0, 6, 12, 25⟩ [] rfl (fun z hz => by rw [List.mem_singleton.mp hz]; exact ⟨by decide, "java/lang/IndexOutOfBoundsException", gw_tab 424 (by decide +kernel) (by decide +kernel), fun U hU => hg.2.2.2.2.2.2.2.1 ("java/lang/IllegalArgumentException", "java/lang/IndexOutOfBoundsException") (by decide) U hU⟩) (by decide) (by decide) (gw_tab 472 (by decide +kernel) (by decide +kernel)) (gp_tab 522 (by decide +kernel) (by decide +kernel)) hg.p (fun q9 => ?_)
        refine V_astore_n (lv' := [(3, .ref q9), (0, .ref x), (1, .int a1), (2, .int a2)]) dL_finesAfter_12 rfl (by decide) rfl ?_
        refine V_sipush (v := (-1002)) dL_finesAfter_13 (by decide) ?_
        exact V_iret dL_finesAfter_16 rfl ⟨Nat.le_of_ble_eq_true rfl, Nat.le_of_ble_eq_true rfl⟩ ⟨_, rfl, Or.inr ⟨1, by decide, rfl, q1⟩⟩
abbrev mL_finesByCues : MI := (yL_finesByCues, cL_finesByCues, 4, (Option.some Jvm.ClassFile.FieldType.int), [((0 : Nat), (6 : Nat), (7 : Nat), (19 : Nat)), ((0 : Nat), (6 : Nat), (12 : Nat), (25 : Nat))], { frames := 14, cells := 1, slots := 6, locals := 344 })
theorem cdL_finesByCues : mcode mL_finesByCues ∈ GW := gw_tab 1453 (by decide +kernel) (by decide +kernel)
theorem cvL_94 : CallV RL 94 mX7_finesAfterByCues 2 := ⟨⟨gw_tab 1454 (by decide +kernel) (by decide +kernel), gw_tab 1 (by decide +kernel) (by decide +kernel), cdX7_finesAfterByCues, by decide +kernel, by decide +kernel, by decide +kernel⟩, rfl, gw_tab 1455 (by decide +kernel) (by decide +kernel), gw_tab 1456 (by decide +kernel) (by decide +kernel)⟩
set_option maxRecDepth 20000 in
set_option maxHeartbeats 2000000 in
theorem g_L_finesByCues {X : KX} (hxs : X.1.stackTraces = false) (hg : GX X) {h : AH} {x : Nat} {fs : List Value} (hb : h.2 x = some (.inr (9, fs))) {a1 a2 : Int32} {P : Int32 → AH → Prop} {R : Nat → AH → Prop} (hC : Ct X mX7_finesAfterByCues [.ref x, .int a1, .int a2] h (zG (["java/lang/IndexOutOfBoundsException", "java/lang/IllegalArgumentException"] : List String) P R)) : Ct X mL_finesByCues [.ref x, .int a1, .int a2] h (zH ([-1001, -1002] : List Int32) P R) := by
  refine Ct.ofH (by decide) rfl (Nat.le_of_ble_eq_true rfl) rfl hxs ?_
  refine V_aload_n dL_finesByCues_0 0 rfl ?_
  refine V_iload_n dL_finesByCues_1 1 rfl ?_
  refine V_iload_n dL_finesByCues_2 2 rfl ?_
  refine V_callV (As := [.int a1, .int a2]) (rest := []) dL_finesByCues_3 cvL_94 hC hb rfl ⟨Nat.le_of_ble_eq_true rfl, Nat.le_of_ble_eq_true rfl, Nat.le_of_ble_eq_true rfl, Nat.le_of_ble_eq_true rfl⟩ (Nat.le_of_ble_eq_true rfl) rfl (fun v h1 hz => ?_) (fun E h1 hz => ?_)
  · rcases hz with ⟨v1, e1, q1⟩ | ⟨j, hj, e1, q1⟩
    · cases e1
      exact V_iret dL_finesByCues_6 rfl ⟨Nat.le_of_ble_eq_true rfl, Nat.le_of_ble_eq_true rfl⟩ ⟨v1, rfl, Or.inl q1⟩
    · cases e1
  · rcases hz with ⟨v1, e1, q1⟩ | ⟨j, hj, e1, q1⟩
    · cases e1
    · have e2 := Sum.inr.inj e1
      subst e2
      have hj2 : j < 2 := hj
      rcases (show j = 0 ∨ j = 1 by omega) with rfl | rfl
      · refine VX_catch (E := "java/lang/IndexOutOfBoundsException") (name := "java/lang/IndexOutOfBoundsException") [] ⟨0, 6, 7, 19⟩ [⟨0, 6, 12, 25⟩] rfl (fun z hz => by cases hz) (by decide) (by decide) (gw_tab 424 (by decide +kernel) (by decide +kernel)) (gp_tab 458 (by decide +kernel) (by decide +kernel)) hg.p (fun q9 => ?_)
        refine V_astore_n (lv' := [(3, .ref q9), (0, .ref x), (1, .int a1), (2, .int a2)]) dL_finesByCues_7 rfl (by decide) rfl ?_
        refine V_sipush (v := (-1001)) dL_finesByCues_8 (by decide) ?_
        exact V_iret dL_finesByCues_11 rfl ⟨Nat.le_of_ble_eq_true rfl, Nat.le_of_ble_eq_true rfl⟩ ⟨_, rfl, Or.inr ⟨0, by decide, rfl, q1⟩⟩
      · refine VX_catch (E := "java/lang/IllegalArgumentException") (name := "java/lang/IllegalArgumentException") [⟨0, 6, 7, 19⟩] ⟨0, 6, 12, 25⟩ [] rfl (fun z hz => by rw [List.mem_singleton.mp hz]; exact ⟨by decide, "java/lang/IndexOutOfBoundsException", gw_tab 424 (by decide +kernel) (by decide +kernel), fun U hU => hg.2.2.2.2.2.2.2.1 ("java/lang/IllegalArgumentException", "java/lang/IndexOutOfBoundsException") (by decide) U hU⟩) (by decide) (by decide) (gw_tab 472 (by decide +kernel) (by decide +kernel)) (gp_tab 522 (by decide +kernel) (by decide +kernel)) hg.p (fun q9 => ?_)
        refine V_astore_n (lv' := [(3, .ref q9), (0, .ref x), (1, .int a1), (2, .int a2)]) dL_finesByCues_12 rfl (by decide) rfl ?_
        refine V_sipush (v := (-1002)) dL_finesByCues_13 (by decide) ?_
        exact V_iret dL_finesByCues_16 rfl ⟨Nat.le_of_ble_eq_true rfl, Nat.le_of_ble_eq_true rfl⟩ ⟨_, rfl, Or.inr ⟨1, by decide, rfl, q1⟩⟩
abbrev mL_append : MI := (yL_append, cL_append, 3, (Option.some Jvm.ClassFile.FieldType.int), [((0 : Nat), (5 : Nat), (6 : Nat), (25 : Nat)), ((0 : Nat), (5 : Nat), (11 : Nat), (13 : Nat))], { frames := 17, cells := 2, slots := 134, locals := 407 })
theorem cdL_append : mcode mL_append ∈ GW := gw_tab 670 (by decide +kernel) (by decide +kernel)
theorem cvL_97 : CallV RL 97 mX7_append 1 := ⟨⟨gw_tab 671 (by decide +kernel) (by decide +kernel), gw_tab 1 (by decide +kernel) (by decide +kernel), cdX7_append, by decide +kernel, by decide +kernel, by decide +kernel⟩, rfl, gw_tab 672 (by decide +kernel) (by decide +kernel), gw_tab 673 (by decide +kernel) (by decide +kernel)⟩
set_option maxRecDepth 20000 in
set_option maxHeartbeats 2000000 in
theorem g_L_append {X : KX} (hxs : X.1.stackTraces = false) (hg : GX X) {h : AH} {x : Nat} {fs : List Value} (hb : h.2 x = some (.inr (9, fs))) {a1 : Int32} {P : Int32 → AH → Prop} {R : Nat → AH → Prop} (hC : Ct X mX7_append [.ref x, .int a1] h (zG (["java/lang/IllegalArgumentException", "java/lang/IllegalStateException"] : List String) P R)) : Ct X mL_append [.ref x, .int a1] h (zH ([-1001, -1002] : List Int32) P R) := by
  refine Ct.ofH (by decide) rfl (Nat.le_of_ble_eq_true rfl) rfl hxs ?_
  refine V_aload_n dL_append_0 0 rfl ?_
  refine V_iload_n dL_append_1 1 rfl ?_
  refine V_callV (As := [.int a1]) (rest := []) dL_append_2 cvL_97 hC hb rfl ⟨Nat.le_of_ble_eq_true rfl, Nat.le_of_ble_eq_true rfl, Nat.le_of_ble_eq_true rfl, Nat.le_of_ble_eq_true rfl⟩ (Nat.le_of_ble_eq_true rfl) rfl (fun v h1 hz => ?_) (fun E h1 hz => ?_)
  · rcases hz with ⟨v1, e1, q1⟩ | ⟨j, hj, e1, q1⟩
    · cases e1
      exact V_iret dL_append_5 rfl ⟨Nat.le_of_ble_eq_true rfl, Nat.le_of_ble_eq_true rfl⟩ ⟨v1, rfl, Or.inl q1⟩
    · cases e1
  · rcases hz with ⟨v1, e1, q1⟩ | ⟨j, hj, e1, q1⟩
    · cases e1
    · have e2 := Sum.inr.inj e1
      subst e2
      have hj2 : j < 2 := hj
      rcases (show j = 0 ∨ j = 1 by omega) with rfl | rfl
      · refine VX_catch (E := "java/lang/IllegalArgumentException") (name := "java/lang/IllegalArgumentException") [] ⟨0, 5, 6, 25⟩ [⟨0, 5, 11, 13⟩] rfl (fun z hz => by cases hz) (by decide) (by decide) (gw_tab 472 (by decide +kernel) (by decide +kernel)) (gp_tab 522 (by decide +kernel) (by decide +kernel)) hg.p (fun q9 => ?_)
        refine V_astore_n (lv' := [(2, .ref q9), (0, .ref x), (1, .int a1)]) dL_append_6 rfl (by decide) rfl ?_
        refine V_sipush (v := (-1001)) dL_append_7 (by decide) ?_
        exact V_iret dL_append_10 rfl ⟨Nat.le_of_ble_eq_true rfl, Nat.le_of_ble_eq_true rfl⟩ ⟨_, rfl, Or.inr ⟨0, by decide, rfl, q1⟩⟩
      · refine VX_catch (E := "java/lang/IllegalStateException") (name := "java/lang/IllegalStateException") [⟨0, 5, 6, 25⟩] ⟨0, 5, 11, 13⟩ [] rfl (fun z hz => by rw [List.mem_singleton.mp hz]; exact ⟨by decide, "java/lang/IllegalArgumentException", gw_tab 472 (by decide +kernel) (by decide +kernel), fun U hU => hg.2.2.2.2.2.2.2.1 ("java/lang/IllegalStateException", "java/lang/IllegalArgumentException") (by decide) U hU⟩) (by decide) (by decide) (gw_tab 325 (by decide +kernel) (by decide +kernel)) (gp_tab 344 (by decide +kernel) (by decide +kernel)) hg.p (fun q9 => ?_)
        refine V_astore_n (lv' := [(2, .ref q9), (0, .ref x), (1, .int a1)]) dL_append_11 rfl (by decide) rfl ?_
        refine V_sipush (v := (-1002)) dL_append_12 (by decide) ?_
        exact V_iret dL_append_15 rfl ⟨Nat.le_of_ble_eq_true rfl, Nat.le_of_ble_eq_true rfl⟩ ⟨_, rfl, Or.inr ⟨1, by decide, rfl, q1⟩⟩
abbrev mL_run : MI := (yL_run, cL_run, 2, (Option.some Jvm.ClassFile.FieldType.int), [((0 : Nat), (4 : Nat), (5 : Nat), (25 : Nat)), ((0 : Nat), (4 : Nat), (10 : Nat), (13 : Nat))], { frames := 32, cells := 1, slots := 6, locals := 718 })
theorem cdL_run : mcode mL_run ∈ GW := gw_tab 775 (by decide +kernel) (by decide +kernel)
theorem cvL_101 : CallV RL 101 mX7_run 0 := ⟨⟨gw_tab 776 (by decide +kernel) (by decide +kernel), gw_tab 1 (by decide +kernel) (by decide +kernel), cdX7_run, by decide +kernel, by decide +kernel, by decide +kernel⟩, rfl, gw_tab 777 (by decide +kernel) (by decide +kernel), gw_tab 778 (by decide +kernel) (by decide +kernel)⟩
set_option maxRecDepth 20000 in
set_option maxHeartbeats 2000000 in
theorem g_L_run {X : KX} (hxs : X.1.stackTraces = false) (hg : GX X) {h : AH} {x : Nat} {fs : List Value} (hb : h.2 x = some (.inr (9, fs))) {P : Int32 → AH → Prop} {R : Nat → AH → Prop} (hC : Ct X mX7_run [.ref x] h (zG (["java/lang/IllegalArgumentException", "java/lang/IllegalStateException"] : List String) P R)) : Ct X mL_run [.ref x] h (zH ([-1001, -1002] : List Int32) P R) := by
  refine Ct.ofH (by decide) rfl (Nat.le_of_ble_eq_true rfl) rfl hxs ?_
  refine V_aload_n dL_run_0 0 rfl ?_
  refine V_callV (As := []) (rest := []) dL_run_1 cvL_101 hC hb rfl ⟨Nat.le_of_ble_eq_true rfl, Nat.le_of_ble_eq_true rfl, Nat.le_of_ble_eq_true rfl, Nat.le_of_ble_eq_true rfl⟩ (Nat.le_of_ble_eq_true rfl) rfl (fun v h1 hz => ?_) (fun E h1 hz => ?_)
  · rcases hz with ⟨v1, e1, q1⟩ | ⟨j, hj, e1, q1⟩
    · cases e1
      exact V_iret dL_run_4 rfl ⟨Nat.le_of_ble_eq_true rfl, Nat.le_of_ble_eq_true rfl⟩ ⟨v1, rfl, Or.inl q1⟩
    · cases e1
  · rcases hz with ⟨v1, e1, q1⟩ | ⟨j, hj, e1, q1⟩
    · cases e1
    · have e2 := Sum.inr.inj e1
      subst e2
      have hj2 : j < 2 := hj
      rcases (show j = 0 ∨ j = 1 by omega) with rfl | rfl
      · refine VX_catch (E := "java/lang/IllegalArgumentException") (name := "java/lang/IllegalArgumentException") [] ⟨0, 4, 5, 25⟩ [⟨0, 4, 10, 13⟩] rfl (fun z hz => by cases hz) (by decide) (by decide) (gw_tab 472 (by decide +kernel) (by decide +kernel)) (gp_tab 522 (by decide +kernel) (by decide +kernel)) hg.p (fun q9 => ?_)
        refine V_astore_n (lv' := [(1, .ref q9), (0, .ref x)]) dL_run_5 rfl (by decide) rfl ?_
        refine V_sipush (v := (-1001)) dL_run_6 (by decide) ?_
        exact V_iret dL_run_9 rfl ⟨Nat.le_of_ble_eq_true rfl, Nat.le_of_ble_eq_true rfl⟩ ⟨_, rfl, Or.inr ⟨0, by decide, rfl, q1⟩⟩
      · refine VX_catch (E := "java/lang/IllegalStateException") (name := "java/lang/IllegalStateException") [⟨0, 4, 5, 25⟩] ⟨0, 4, 10, 13⟩ [] rfl (fun z hz => by rw [List.mem_singleton.mp hz]; exact ⟨by decide, "java/lang/IllegalArgumentException", gw_tab 472 (by decide +kernel) (by decide +kernel), fun U hU => hg.2.2.2.2.2.2.2.1 ("java/lang/IllegalStateException", "java/lang/IllegalArgumentException") (by decide) U hU⟩) (by decide) (by decide) (gw_tab 325 (by decide +kernel) (by decide +kernel)) (gp_tab 344 (by decide +kernel) (by decide +kernel)) hg.p (fun q9 => ?_)
        refine V_astore_n (lv' := [(1, .ref q9), (0, .ref x)]) dL_run_10 rfl (by decide) rfl ?_
        refine V_sipush (v := (-1002)) dL_run_11 (by decide) ?_
        exact V_iret dL_run_14 rfl ⟨Nat.le_of_ble_eq_true rfl, Nat.le_of_ble_eq_true rfl⟩ ⟨_, rfl, Or.inr ⟨1, by decide, rfl, q1⟩⟩
abbrev mL_errorPosition : MI := (yL_errorPosition, cL_errorPosition, 2, (Option.some Jvm.ClassFile.FieldType.int), [((0 : Nat), (4 : Nat), (5 : Nat), (39 : Nat))], { frames := 13, cells := 1, slots := 6, locals := 320 })
theorem cdL_errorPosition : mcode mL_errorPosition ∈ GW := gw_tab 1080 (by decide +kernel) (by decide +kernel)
theorem cvL_104 : CallV RL 104 mX7_errorPosition 0 := ⟨⟨gw_tab 1081 (by decide +kernel) (by decide +kernel), gw_tab 1 (by decide +kernel) (by decide +kernel), cdX7_errorPosition, by decide +kernel, by decide +kernel, by decide +kernel⟩, rfl, gw_tab 1082 (by decide +kernel) (by decide +kernel), gw_tab 1083 (by decide +kernel) (by decide +kernel)⟩
set_option maxRecDepth 20000 in
set_option maxHeartbeats 2000000 in
theorem g_L_errorPosition {X : KX} (hxs : X.1.stackTraces = false) (hg : GX X) {h : AH} {x : Nat} {fs : List Value} (hb : h.2 x = some (.inr (9, fs))) {P : Int32 → AH → Prop} {R : Nat → AH → Prop} (hC : Ct X mX7_errorPosition [.ref x] h (zG (["java/util/NoSuchElementException"] : List String) P R)) : Ct X mL_errorPosition [.ref x] h (zH ([-1001] : List Int32) P R) := by
  refine Ct.ofH (by decide) rfl (Nat.le_of_ble_eq_true rfl) rfl hxs ?_
  refine V_aload_n dL_errorPosition_0 0 rfl ?_
  refine V_callV (As := []) (rest := []) dL_errorPosition_1 cvL_104 hC hb rfl ⟨Nat.le_of_ble_eq_true rfl, Nat.le_of_ble_eq_true rfl, Nat.le_of_ble_eq_true rfl, Nat.le_of_ble_eq_true rfl⟩ (Nat.le_of_ble_eq_true rfl) rfl (fun v h1 hz => ?_) (fun E h1 hz => ?_)
  · rcases hz with ⟨v1, e1, q1⟩ | ⟨j, hj, e1, q1⟩
    · cases e1
      exact V_iret dL_errorPosition_4 rfl ⟨Nat.le_of_ble_eq_true rfl, Nat.le_of_ble_eq_true rfl⟩ ⟨v1, rfl, Or.inl q1⟩
    · cases e1
  · rcases hz with ⟨v1, e1, q1⟩ | ⟨j, hj, e1, q1⟩
    · cases e1
    · have e2 := Sum.inr.inj e1
      subst e2
      have e3 : j = 0 := by have : j < 1 := hj; omega
      subst e3
      refine VX_catch (E := "java/util/NoSuchElementException") (name := "java/util/NoSuchElementException") [] ⟨0, 4, 5, 39⟩ [] rfl (fun z hz => by cases hz) (by decide) (by decide) (gw_tab 559 (by decide +kernel) (by decide +kernel)) (gp_tab 587 (by decide +kernel) (by decide +kernel)) hg.p (fun q9 => ?_)
      refine V_astore_n (lv' := [(1, .ref q9), (0, .ref x)]) dL_errorPosition_5 rfl (by decide) rfl ?_
      refine V_sipush (v := (-1001)) dL_errorPosition_6 (by decide) ?_
      exact V_iret dL_errorPosition_9 rfl ⟨Nat.le_of_ble_eq_true rfl, Nat.le_of_ble_eq_true rfl⟩ ⟨_, rfl, Or.inr ⟨0, by decide, rfl, q1⟩⟩
abbrev mL_failedCommand : MI := (yL_failedCommand, cL_failedCommand, 2, (Option.some Jvm.ClassFile.FieldType.int), [((0 : Nat), (4 : Nat), (5 : Nat), (39 : Nat))], { frames := 13, cells := 1, slots := 6, locals := 320 })
theorem cdL_failedCommand : mcode mL_failedCommand ∈ GW := gw_tab 1466 (by decide +kernel) (by decide +kernel)
theorem cvL_107 : CallV RL 107 mX7_failedCommand 0 := ⟨⟨gw_tab 1467 (by decide +kernel) (by decide +kernel), gw_tab 1 (by decide +kernel) (by decide +kernel), cdX7_failedCommand, by decide +kernel, by decide +kernel, by decide +kernel⟩, rfl, gw_tab 1468 (by decide +kernel) (by decide +kernel), gw_tab 1469 (by decide +kernel) (by decide +kernel)⟩
set_option maxRecDepth 20000 in
set_option maxHeartbeats 2000000 in
theorem g_L_failedCommand {X : KX} (hxs : X.1.stackTraces = false) (hg : GX X) {h : AH} {x : Nat} {fs : List Value} (hb : h.2 x = some (.inr (9, fs))) {P : Int32 → AH → Prop} {R : Nat → AH → Prop} (hC : Ct X mX7_failedCommand [.ref x] h (zG (["java/util/NoSuchElementException"] : List String) P R)) : Ct X mL_failedCommand [.ref x] h (zH ([-1001] : List Int32) P R) := by
  refine Ct.ofH (by decide) rfl (Nat.le_of_ble_eq_true rfl) rfl hxs ?_
  refine V_aload_n dL_failedCommand_0 0 rfl ?_
  refine V_callV (As := []) (rest := []) dL_failedCommand_1 cvL_107 hC hb rfl ⟨Nat.le_of_ble_eq_true rfl, Nat.le_of_ble_eq_true rfl, Nat.le_of_ble_eq_true rfl, Nat.le_of_ble_eq_true rfl⟩ (Nat.le_of_ble_eq_true rfl) rfl (fun v h1 hz => ?_) (fun E h1 hz => ?_)
  · rcases hz with ⟨v1, e1, q1⟩ | ⟨j, hj, e1, q1⟩
    · cases e1
      exact V_iret dL_failedCommand_4 rfl ⟨Nat.le_of_ble_eq_true rfl, Nat.le_of_ble_eq_true rfl⟩ ⟨v1, rfl, Or.inl q1⟩
    · cases e1
  · rcases hz with ⟨v1, e1, q1⟩ | ⟨j, hj, e1, q1⟩
    · cases e1
    · have e2 := Sum.inr.inj e1
      subst e2
      have e3 : j = 0 := by have : j < 1 := hj; omega
      subst e3
      refine VX_catch (E := "java/util/NoSuchElementException") (name := "java/util/NoSuchElementException") [] ⟨0, 4, 5, 39⟩ [] rfl (fun z hz => by cases hz) (by decide) (by decide) (gw_tab 559 (by decide +kernel) (by decide +kernel)) (gp_tab 587 (by decide +kernel) (by decide +kernel)) hg.p (fun q9 => ?_)
      refine V_astore_n (lv' := [(1, .ref q9), (0, .ref x)]) dL_failedCommand_5 rfl (by decide) rfl ?_
      refine V_sipush (v := (-1001)) dL_failedCommand_6 (by decide) ?_
      exact V_iret dL_failedCommand_9 rfl ⟨Nat.le_of_ble_eq_true rfl, Nat.le_of_ble_eq_true rfl⟩ ⟨_, rfl, Or.inr ⟨0, by decide, rfl, q1⟩⟩
abbrev mL_failedException : MI := (yL_failedException, cL_failedException, 2, (Option.some Jvm.ClassFile.FieldType.int), [((0 : Nat), (4 : Nat), (5 : Nat), (39 : Nat))], { frames := 13, cells := 1, slots := 6, locals := 320 })
theorem cdL_failedException : mcode mL_failedException ∈ GW := gw_tab 1474 (by decide +kernel) (by decide +kernel)
theorem cvL_110 : CallV RL 110 mX7_failedException 0 := ⟨⟨gw_tab 1475 (by decide +kernel) (by decide +kernel), gw_tab 1 (by decide +kernel) (by decide +kernel), cdX7_failedException, by decide +kernel, by decide +kernel, by decide +kernel⟩, rfl, gw_tab 1476 (by decide +kernel) (by decide +kernel), gw_tab 1477 (by decide +kernel) (by decide +kernel)⟩
set_option maxRecDepth 20000 in
set_option maxHeartbeats 2000000 in
theorem g_L_failedException {X : KX} (hxs : X.1.stackTraces = false) (hg : GX X) {h : AH} {x : Nat} {fs : List Value} (hb : h.2 x = some (.inr (9, fs))) {P : Int32 → AH → Prop} {R : Nat → AH → Prop} (hC : Ct X mX7_failedException [.ref x] h (zG (["java/util/NoSuchElementException"] : List String) P R)) : Ct X mL_failedException [.ref x] h (zH ([-1001] : List Int32) P R) := by
  refine Ct.ofH (by decide) rfl (Nat.le_of_ble_eq_true rfl) rfl hxs ?_
  refine V_aload_n dL_failedException_0 0 rfl ?_
  refine V_callV (As := []) (rest := []) dL_failedException_1 cvL_110 hC hb rfl ⟨Nat.le_of_ble_eq_true rfl, Nat.le_of_ble_eq_true rfl, Nat.le_of_ble_eq_true rfl, Nat.le_of_ble_eq_true rfl⟩ (Nat.le_of_ble_eq_true rfl) rfl (fun v h1 hz => ?_) (fun E h1 hz => ?_)
  · rcases hz with ⟨v1, e1, q1⟩ | ⟨j, hj, e1, q1⟩
    · cases e1
      exact V_iret dL_failedException_4 rfl ⟨Nat.le_of_ble_eq_true rfl, Nat.le_of_ble_eq_true rfl⟩ ⟨v1, rfl, Or.inl q1⟩
    · cases e1
  · rcases hz with ⟨v1, e1, q1⟩ | ⟨j, hj, e1, q1⟩
    · cases e1
    · have e2 := Sum.inr.inj e1
      subst e2
      have e3 : j = 0 := by have : j < 1 := hj; omega
      subst e3
      refine VX_catch (E := "java/util/NoSuchElementException") (name := "java/util/NoSuchElementException") [] ⟨0, 4, 5, 39⟩ [] rfl (fun z hz => by cases hz) (by decide) (by decide) (gw_tab 559 (by decide +kernel) (by decide +kernel)) (gp_tab 587 (by decide +kernel) (by decide +kernel)) hg.p (fun q9 => ?_)
      refine V_astore_n (lv' := [(1, .ref q9), (0, .ref x)]) dL_failedException_5 rfl (by decide) rfl ?_
      refine V_sipush (v := (-1001)) dL_failedException_6 (by decide) ?_
      exact V_iret dL_failedException_9 rfl ⟨Nat.le_of_ble_eq_true rfl, Nat.le_of_ble_eq_true rfl⟩ ⟨_, rfl, Or.inr ⟨0, by decide, rfl, q1⟩⟩
abbrev mL_describeCue : MI := (yL_describeCue, cL_describeCue, 3, (Option.some Jvm.ClassFile.FieldType.int), [((0 : Nat), (5 : Nat), (6 : Nat), (39 : Nat))], { frames := 32, cells := 9, slots := 1030, locals := 720 })
theorem cdL_describeCue : mcode mL_describeCue ∈ GW := gw_tab 1310 (by decide +kernel) (by decide +kernel)
theorem cvL_113 : CallV RL 113 mX7_describeCue 1 := ⟨⟨gw_tab 1311 (by decide +kernel) (by decide +kernel), gw_tab 1 (by decide +kernel) (by decide +kernel), cdX7_describeCue, by decide +kernel, by decide +kernel, by decide +kernel⟩, rfl, gw_tab 1312 (by decide +kernel) (by decide +kernel), gw_tab 1313 (by decide +kernel) (by decide +kernel)⟩
set_option maxRecDepth 20000 in
set_option maxHeartbeats 2000000 in
theorem g_L_describeCue {X : KX} (hxs : X.1.stackTraces = false) (hg : GX X) {h : AH} {x : Nat} {fs : List Value} (hb : h.2 x = some (.inr (9, fs))) {a1 : Int32} {P : Int32 → AH → Prop} {R : Nat → AH → Prop} (hC : Ct X mX7_describeCue [.ref x, .int a1] h (zG (["java/util/NoSuchElementException"] : List String) P R)) : Ct X mL_describeCue [.ref x, .int a1] h (zH ([-1001] : List Int32) P R) := by
  refine Ct.ofH (by decide) rfl (Nat.le_of_ble_eq_true rfl) rfl hxs ?_
  refine V_aload_n dL_describeCue_0 0 rfl ?_
  refine V_iload_n dL_describeCue_1 1 rfl ?_
  refine V_callV (As := [.int a1]) (rest := []) dL_describeCue_2 cvL_113 hC hb rfl ⟨Nat.le_of_ble_eq_true rfl, Nat.le_of_ble_eq_true rfl, Nat.le_of_ble_eq_true rfl, Nat.le_of_ble_eq_true rfl⟩ (Nat.le_of_ble_eq_true rfl) rfl (fun v h1 hz => ?_) (fun E h1 hz => ?_)
  · rcases hz with ⟨v1, e1, q1⟩ | ⟨j, hj, e1, q1⟩
    · cases e1
      exact V_iret dL_describeCue_5 rfl ⟨Nat.le_of_ble_eq_true rfl, Nat.le_of_ble_eq_true rfl⟩ ⟨v1, rfl, Or.inl q1⟩
    · cases e1
  · rcases hz with ⟨v1, e1, q1⟩ | ⟨j, hj, e1, q1⟩
    · cases e1
    · have e2 := Sum.inr.inj e1
      subst e2
      have e3 : j = 0 := by have : j < 1 := hj; omega
      subst e3
      refine VX_catch (E := "java/util/NoSuchElementException") (name := "java/util/NoSuchElementException") [] ⟨0, 5, 6, 39⟩ [] rfl (fun z hz => by cases hz) (by decide) (by decide) (gw_tab 559 (by decide +kernel) (by decide +kernel)) (gp_tab 587 (by decide +kernel) (by decide +kernel)) hg.p (fun q9 => ?_)
      refine V_astore_n (lv' := [(2, .ref q9), (0, .ref x), (1, .int a1)]) dL_describeCue_6 rfl (by decide) rfl ?_
      refine V_sipush (v := (-1001)) dL_describeCue_7 (by decide) ?_
      exact V_iret dL_describeCue_10 rfl ⟨Nat.le_of_ble_eq_true rfl, Nat.le_of_ble_eq_true rfl⟩ ⟨_, rfl, Or.inr ⟨0, by decide, rfl, q1⟩⟩
abbrev mL_describePerformer : MI := (yL_describePerformer, cL_describePerformer, 3, (Option.some Jvm.ClassFile.FieldType.int), [((0 : Nat), (5 : Nat), (6 : Nat), (19 : Nat))], { frames := 32, cells := 5, slots := 518, locals := 718 })
theorem cdL_describePerformer : mcode mL_describePerformer ∈ GW := gw_tab 1276 (by decide +kernel) (by decide +kernel)
theorem cvL_116 : CallV RL 116 mX7_describePerformer 1 := ⟨⟨gw_tab 1277 (by decide +kernel) (by decide +kernel), gw_tab 1 (by decide +kernel) (by decide +kernel), cdX7_describePerformer, by decide +kernel, by decide +kernel, by decide +kernel⟩, rfl, gw_tab 1278 (by decide +kernel) (by decide +kernel), gw_tab 1279 (by decide +kernel) (by decide +kernel)⟩
set_option maxRecDepth 20000 in
set_option maxHeartbeats 2000000 in
theorem g_L_describePerformer {X : KX} (hxs : X.1.stackTraces = false) (hg : GX X) {h : AH} {x : Nat} {fs : List Value} (hb : h.2 x = some (.inr (9, fs))) {a1 : Int32} {P : Int32 → AH → Prop} {R : Nat → AH → Prop} (hC : Ct X mX7_describePerformer [.ref x, .int a1] h (zG (["java/lang/IndexOutOfBoundsException"] : List String) P R)) : Ct X mL_describePerformer [.ref x, .int a1] h (zH ([-1001] : List Int32) P R) := by
  refine Ct.ofH (by decide) rfl (Nat.le_of_ble_eq_true rfl) rfl hxs ?_
  refine V_aload_n dL_describePerformer_0 0 rfl ?_
  refine V_iload_n dL_describePerformer_1 1 rfl ?_
  refine V_callV (As := [.int a1]) (rest := []) dL_describePerformer_2 cvL_116 hC hb rfl ⟨Nat.le_of_ble_eq_true rfl, Nat.le_of_ble_eq_true rfl, Nat.le_of_ble_eq_true rfl, Nat.le_of_ble_eq_true rfl⟩ (Nat.le_of_ble_eq_true rfl) rfl (fun v h1 hz => ?_) (fun E h1 hz => ?_)
  · rcases hz with ⟨v1, e1, q1⟩ | ⟨j, hj, e1, q1⟩
    · cases e1
      exact V_iret dL_describePerformer_5 rfl ⟨Nat.le_of_ble_eq_true rfl, Nat.le_of_ble_eq_true rfl⟩ ⟨v1, rfl, Or.inl q1⟩
    · cases e1
  · rcases hz with ⟨v1, e1, q1⟩ | ⟨j, hj, e1, q1⟩
    · cases e1
    · have e2 := Sum.inr.inj e1
      subst e2
      have e3 : j = 0 := by have : j < 1 := hj; omega
      subst e3
      refine VX_catch (E := "java/lang/IndexOutOfBoundsException") (name := "java/lang/IndexOutOfBoundsException") [] ⟨0, 5, 6, 19⟩ [] rfl (fun z hz => by cases hz) (by decide) (by decide) (gw_tab 424 (by decide +kernel) (by decide +kernel)) (gp_tab 458 (by decide +kernel) (by decide +kernel)) hg.p (fun q9 => ?_)
      refine V_astore_n (lv' := [(2, .ref q9), (0, .ref x), (1, .int a1)]) dL_describePerformer_6 rfl (by decide) rfl ?_
      refine V_sipush (v := (-1001)) dL_describePerformer_7 (by decide) ?_
      exact V_iret dL_describePerformer_10 rfl ⟨Nat.le_of_ble_eq_true rfl, Nat.le_of_ble_eq_true rfl⟩ ⟨_, rfl, Or.inr ⟨0, by decide, rfl, q1⟩⟩
abbrev mL_lineAt : MI := (yL_lineAt, cL_lineAt, 3, (Option.some Jvm.ClassFile.FieldType.int), [((0 : Nat), (5 : Nat), (6 : Nat), (19 : Nat))], { frames := 13, cells := 1, slots := 6, locals := 321 })
theorem cdL_lineAt : mcode mL_lineAt ∈ GW := gw_tab 1288 (by decide +kernel) (by decide +kernel)
theorem cvL_119 : CallV RL 119 mX7_lineAt 1 := ⟨⟨gw_tab 1289 (by decide +kernel) (by decide +kernel), gw_tab 1 (by decide +kernel) (by decide +kernel), cdX7_lineAt, by decide +kernel, by decide +kernel, by decide +kernel⟩, rfl, gw_tab 1290 (by decide +kernel) (by decide +kernel), gw_tab 1291 (by decide +kernel) (by decide +kernel)⟩
set_option maxRecDepth 20000 in
set_option maxHeartbeats 2000000 in
theorem g_L_lineAt {X : KX} (hxs : X.1.stackTraces = false) (hg : GX X) {h : AH} {x : Nat} {fs : List Value} (hb : h.2 x = some (.inr (9, fs))) {a1 : Int32} {P : Int32 → AH → Prop} {R : Nat → AH → Prop} (hC : Ct X mX7_lineAt [.ref x, .int a1] h (zG (["java/lang/IndexOutOfBoundsException"] : List String) P R)) : Ct X mL_lineAt [.ref x, .int a1] h (zH ([-1001] : List Int32) P R) := by
  refine Ct.ofH (by decide) rfl (Nat.le_of_ble_eq_true rfl) rfl hxs ?_
  refine V_aload_n dL_lineAt_0 0 rfl ?_
  refine V_iload_n dL_lineAt_1 1 rfl ?_
  refine V_callV (As := [.int a1]) (rest := []) dL_lineAt_2 cvL_119 hC hb rfl ⟨Nat.le_of_ble_eq_true rfl, Nat.le_of_ble_eq_true rfl, Nat.le_of_ble_eq_true rfl, Nat.le_of_ble_eq_true rfl⟩ (Nat.le_of_ble_eq_true rfl) rfl (fun v h1 hz => ?_) (fun E h1 hz => ?_)
  · rcases hz with ⟨v1, e1, q1⟩ | ⟨j, hj, e1, q1⟩
    · cases e1
      exact V_iret dL_lineAt_5 rfl ⟨Nat.le_of_ble_eq_true rfl, Nat.le_of_ble_eq_true rfl⟩ ⟨v1, rfl, Or.inl q1⟩
    · cases e1
  · rcases hz with ⟨v1, e1, q1⟩ | ⟨j, hj, e1, q1⟩
    · cases e1
    · have e2 := Sum.inr.inj e1
      subst e2
      have e3 : j = 0 := by have : j < 1 := hj; omega
      subst e3
      refine VX_catch (E := "java/lang/IndexOutOfBoundsException") (name := "java/lang/IndexOutOfBoundsException") [] ⟨0, 5, 6, 19⟩ [] rfl (fun z hz => by cases hz) (by decide) (by decide) (gw_tab 424 (by decide +kernel) (by decide +kernel)) (gp_tab 458 (by decide +kernel) (by decide +kernel)) hg.p (fun q9 => ?_)
      refine V_astore_n (lv' := [(2, .ref q9), (0, .ref x), (1, .int a1)]) dL_lineAt_6 rfl (by decide) rfl ?_
      refine V_sipush (v := (-1001)) dL_lineAt_7 (by decide) ?_
      exact V_iret dL_lineAt_10 rfl ⟨Nat.le_of_ble_eq_true rfl, Nat.le_of_ble_eq_true rfl⟩ ⟨_, rfl, Or.inr ⟨0, by decide, rfl, q1⟩⟩
abbrev mL_undo : MI := (yL_undo, cL_undo, 2, (Option.some Jvm.ClassFile.FieldType.int), [((0 : Nat), (4 : Nat), (5 : Nat), (13 : Nat))], { frames := 17, cells := 1, slots := 6, locals := 404 })
theorem cdL_undo : mcode mL_undo ∈ GW := gw_tab 1088 (by decide +kernel) (by decide +kernel)
theorem cvL_135 : CallV RL 135 mX7_undo 0 := ⟨⟨gw_tab 1089 (by decide +kernel) (by decide +kernel), gw_tab 1 (by decide +kernel) (by decide +kernel), cdX7_undo, by decide +kernel, by decide +kernel, by decide +kernel⟩, rfl, gw_tab 1090 (by decide +kernel) (by decide +kernel), gw_tab 1091 (by decide +kernel) (by decide +kernel)⟩
set_option maxRecDepth 20000 in
set_option maxHeartbeats 2000000 in
theorem g_L_undo {X : KX} (hxs : X.1.stackTraces = false) (hg : GX X) {h : AH} {x : Nat} {fs : List Value} (hb : h.2 x = some (.inr (9, fs))) {P : Int32 → AH → Prop} {R : Nat → AH → Prop} (hC : Ct X mX7_undo [.ref x] h (zG (["java/lang/IllegalStateException"] : List String) P R)) : Ct X mL_undo [.ref x] h (zH ([-1001] : List Int32) P R) := by
  refine Ct.ofH (by decide) rfl (Nat.le_of_ble_eq_true rfl) rfl hxs ?_
  refine V_aload_n dL_undo_0 0 rfl ?_
  refine V_callV (As := []) (rest := []) dL_undo_1 cvL_135 hC hb rfl ⟨Nat.le_of_ble_eq_true rfl, Nat.le_of_ble_eq_true rfl, Nat.le_of_ble_eq_true rfl, Nat.le_of_ble_eq_true rfl⟩ (Nat.le_of_ble_eq_true rfl) rfl (fun v h1 hz => ?_) (fun E h1 hz => ?_)
  · rcases hz with ⟨v1, e1, q1⟩ | ⟨j, hj, e1, q1⟩
    · cases e1
      exact V_iret dL_undo_4 rfl ⟨Nat.le_of_ble_eq_true rfl, Nat.le_of_ble_eq_true rfl⟩ ⟨v1, rfl, Or.inl q1⟩
    · cases e1
  · rcases hz with ⟨v1, e1, q1⟩ | ⟨j, hj, e1, q1⟩
    · cases e1
    · have e2 := Sum.inr.inj e1
      subst e2
      have e3 : j = 0 := by have : j < 1 := hj; omega
      subst e3
      refine VX_catch (E := "java/lang/IllegalStateException") (name := "java/lang/IllegalStateException") [] ⟨0, 4, 5, 13⟩ [] rfl (fun z hz => by cases hz) (by decide) (by decide) (gw_tab 325 (by decide +kernel) (by decide +kernel)) (gp_tab 344 (by decide +kernel) (by decide +kernel)) hg.p (fun q9 => ?_)
      refine V_astore_n (lv' := [(1, .ref q9), (0, .ref x)]) dL_undo_5 rfl (by decide) rfl ?_
      refine V_sipush (v := (-1001)) dL_undo_6 (by decide) ?_
      exact V_iret dL_undo_9 rfl ⟨Nat.le_of_ble_eq_true rfl, Nat.le_of_ble_eq_true rfl⟩ ⟨_, rfl, Or.inr ⟨0, by decide, rfl, q1⟩⟩
abbrev mL_restore : MI := (yL_restore, cL_restore, 2, (Option.some Jvm.ClassFile.FieldType.int), [((0 : Nat), (4 : Nat), (5 : Nat), (13 : Nat))], { frames := 15, cells := 1, slots := 6, locals := 362 })
theorem cdL_restore : mcode mL_restore ∈ GW := gw_tab 1101 (by decide +kernel) (by decide +kernel)
theorem cvL_138 : CallV RL 138 mX7_restore 0 := ⟨⟨gw_tab 1102 (by decide +kernel) (by decide +kernel), gw_tab 1 (by decide +kernel) (by decide +kernel), cdX7_restore, by decide +kernel, by decide +kernel, by decide +kernel⟩, rfl, gw_tab 1103 (by decide +kernel) (by decide +kernel), gw_tab 1104 (by decide +kernel) (by decide +kernel)⟩
set_option maxRecDepth 20000 in
set_option maxHeartbeats 2000000 in
theorem g_L_restore {X : KX} (hxs : X.1.stackTraces = false) (hg : GX X) {h : AH} {x : Nat} {fs : List Value} (hb : h.2 x = some (.inr (9, fs))) {P : Int32 → AH → Prop} {R : Nat → AH → Prop} (hC : Ct X mX7_restore [.ref x] h (zG (["java/lang/IllegalStateException"] : List String) P R)) : Ct X mL_restore [.ref x] h (zH ([-1001] : List Int32) P R) := by
  refine Ct.ofH (by decide) rfl (Nat.le_of_ble_eq_true rfl) rfl hxs ?_
  refine V_aload_n dL_restore_0 0 rfl ?_
  refine V_callV (As := []) (rest := []) dL_restore_1 cvL_138 hC hb rfl ⟨Nat.le_of_ble_eq_true rfl, Nat.le_of_ble_eq_true rfl, Nat.le_of_ble_eq_true rfl, Nat.le_of_ble_eq_true rfl⟩ (Nat.le_of_ble_eq_true rfl) rfl (fun v h1 hz => ?_) (fun E h1 hz => ?_)
  · rcases hz with ⟨v1, e1, q1⟩ | ⟨j, hj, e1, q1⟩
    · cases e1
      exact V_iret dL_restore_4 rfl ⟨Nat.le_of_ble_eq_true rfl, Nat.le_of_ble_eq_true rfl⟩ ⟨v1, rfl, Or.inl q1⟩
    · cases e1
  · rcases hz with ⟨v1, e1, q1⟩ | ⟨j, hj, e1, q1⟩
    · cases e1
    · have e2 := Sum.inr.inj e1
      subst e2
      have e3 : j = 0 := by have : j < 1 := hj; omega
      subst e3
      refine VX_catch (E := "java/lang/IllegalStateException") (name := "java/lang/IllegalStateException") [] ⟨0, 4, 5, 13⟩ [] rfl (fun z hz => by cases hz) (by decide) (by decide) (gw_tab 325 (by decide +kernel) (by decide +kernel)) (gp_tab 344 (by decide +kernel) (by decide +kernel)) hg.p (fun q9 => ?_)
      refine V_astore_n (lv' := [(1, .ref q9), (0, .ref x)]) dL_restore_5 rfl (by decide) rfl ?_
      refine V_sipush (v := (-1001)) dL_restore_6 (by decide) ?_
      exact V_iret dL_restore_9 rfl ⟨Nat.le_of_ble_eq_true rfl, Nat.le_of_ble_eq_true rfl⟩ ⟨_, rfl, Or.inr ⟨0, by decide, rfl, q1⟩⟩
