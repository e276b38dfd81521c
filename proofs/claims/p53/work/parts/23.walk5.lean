/-! ===== THE WALK, fifth part: super, inherited, any answer, bytes, copies of a piece ===== -/
def CallVC (C own : String) (idx : Nat) (M' : MI) (na : Nat) : Prop := CallI own idx M' na ∧ mtab M' = [] ∧ Cond.instanceMethod (my M') ∈ GW ∧ Cond.selects C (my M') (my M') ∈ GW
def CallSU (own : String) (idx : Nat) (M' : MI) (na : Nat) : Prop := CallI own idx M' na ∧ mtab M' = [] ∧ Cond.instanceMethod (my M') ∈ GW ∧ Cond.sameMethod (my M').cls (my M').cls (my M').name (my M').desc ∈ GW ∧ Cond.superclass own (my M').cls ∈ GW ∧ (my M').name ≠ "<init>"
section VX5
variable {X : KX} {M : MI} {F : FT} {k n pc : Nat} {lv lv' : List (Nat × Value)} {rest : List Value} {h : AH} {Z : ZT}
theorem V_cVg {M' : MI} {As : List Value} {b ci idx N : Nat} {fs : List Value} {C : String} {T : u_T} {v : Option Value} {Q : AH → Prop} (hdg : decode (mcc M) pc = .ok (.invokevirtual idx, 3)) (hcv : CallVC C (my M).cls idx M' As.length) (hC : Ct X M' (.ref b :: As) h (zM v Q)) (hb : h.2 b = some (.inr (ci, fs))) (hcl : vwCl[ci]? = some (C, T, N)) (hRm : RoomOK M M' k n) (hst : (rest.map fun v => v.category).sum ≤ 8) {st : List Value} (hstk : st = As.reverse ++ .ref b :: rest) (kk : ∀ h', Q h' → V X M F (k + (mR M').cells) (n + (mR M').slots) (pc + 3) lv (v.toList ++ rest) h') : V X M F k n pc lv st h := by
  refine V.back (A := .ref b :: As) (Z' := zM v Q) rfl ?_ (fun v' h' hz => by obtain ⟨e, q⟩ := hz; cases e; exact kk h' q) (fun E h' hz => by cases hz.1)
  intro p e s m args below meth c H locs ls hF hR hS hL
  obtain ⟨g1, g2, g3, g4, g5, g6, -⟩ := hF
  obtain ⟨q', e1, cell, e2, e3, e4, -⟩ := (hR.2.2.1 b _ hb).2
  have hq : q' = (C, T, N) := Option.some.inj (e1.symm.trans hcl)
  subst hq
  exact vx_runV (C := C) (Ts := GW) ⟨g1, g2, g3, g4, g5⟩ hC ⟨hcv.1.b hcv.2.1 g5 ⟨hRm.1, hRm.2.1⟩, g5 _ hcv.2.2.1, g5 _ hcv.2.2.2⟩ ⟨kPc_blind, ⟨cell, e2, by rw [e4]; rfl, by rw [e3]; exact (g6.1.1 ci _ hcl).2.1⟩, fun U hU hW => ⟨rfl, by rw [hU]; exact hR, g6.moved hW⟩⟩ rfl rfl hL.1 hstk (lv_room hst) hdg ⟨hRm.2.2.1, hRm.2.2.2⟩
theorem V_cVo {M' : MI} {As : List Value} {b idx : Nat} {v : Option Value} {Q : AH → Prop} (hdg : decode (mcc M) pc = .ok (.invokevirtual idx, 3)) (hcv : CallV (my M).cls idx M' As.length) (hC : Ct X M' (.ref b :: As) h (zM v Q)) (hb : ∀ U : State, kG X U → va_O (my M').cls b (kFr X) U (kH X)) (hRm : RoomOK M M' k n) (hst : (rest.map fun v => v.category).sum ≤ 8) {st : List Value} (hstk : st = As.reverse ++ .ref b :: rest) (kk : ∀ h', Q h' → V X M F (k + (mR M').cells) (n + (mR M').slots) (pc + 3) lv (v.toList ++ rest) h') : V X M F k n pc lv st h := by
  refine V.back (A := .ref b :: As) (Z' := zM v Q) rfl ?_ (fun v' h' hz => by obtain ⟨e, q⟩ := hz; cases e; exact kk h' q) (fun E h' hz => by cases hz.1)
  intro p e s m args below meth c H locs ls hF hR hS hL
  obtain ⟨cell, e2, e3, e4, e5⟩ := (hb s hF.kg).kept hF.old
  have e6 : H[b]? = some cell := (hS.2.1 b (Array.getElem?_eq_some_iff.mp e2).1 e5).trans e2
  obtain ⟨g1, g2, g3, g4, g5, g6, -⟩ := hF
  exact vx_runV (C := (my M').cls) (Ts := GW) ⟨g1, g2, g3, g4, g5⟩ hC ⟨hcv.1.b hcv.2.1 g5 ⟨hRm.1, hRm.2.1⟩, g5 _ hcv.2.2.1, g5 _ hcv.2.2.2⟩ ⟨kPc_blind, ⟨cell, e6, e3, e4⟩, fun U hU hW => ⟨rfl, by rw [hU]; exact hR, g6.moved hW⟩⟩ rfl rfl hL.1 hstk (lv_room hst) hdg ⟨hRm.2.2.1, hRm.2.2.2⟩
theorem V_cSg {M' : MI} {As : List Value} {idx : Nat} {v : Option Value} {Q : AH → Prop} (hdg : decode (mcc M) pc = .ok (.invokestatic idx, 3)) (hcv : CallS (my M).cls idx M' As.length) (hC : Ct X M' As h (zM v Q)) (hRm : RoomOK M M' k n) (hst : (rest.map fun v => v.category).sum ≤ 8) {st : List Value} (hstk : st = As.reverse ++ rest) (kk : ∀ h', Q h' → V X M F (k + (mR M').cells) (n + (mR M').slots) (pc + 3) lv (v.toList ++ rest) h') : V X M F k n pc lv st h :=
  V_callS hdg hcv hC hRm hst hstk (fun v' h' hz => by obtain ⟨e, q⟩ := hz; cases e; exact kk h' q) (fun E h' hz => by cases hz.1)
theorem V_cSU {M' : MI} {As : List Value} {b ci idx N : Nat} {fs : List Value} {C : String} {T : u_T} {v : Option Value} {Q : AH → Prop} (hdg : decode (mcc M) pc = .ok (.invokespecial idx, 3)) (hcv : CallSU (my M).cls idx M' As.length) (hC : Ct X M' (.ref b :: As) h (zM v Q)) (hb : h.2 b = some (.inr (ci, fs))) (hcl : vwCl[ci]? = some (C, T, N)) (hRm : RoomOK M M' k n) (hst : (rest.map fun v => v.category).sum ≤ 8) {st : List Value} (hstk : st = As.reverse ++ .ref b :: rest) (kk : ∀ h', Q h' → V X M F (k + (mR M').cells) (n + (mR M').slots) (pc + 3) lv (v.toList ++ rest) h') : V X M F k n pc lv st h := by
  refine V.back (A := .ref b :: As) (Z' := zM v Q) rfl ?_ (fun v' h' hz => by obtain ⟨e, q⟩ := hz; cases e; exact kk h' q) (fun E h' hz => by cases hz.1)
  intro p e s m args below meth c H locs ls hF hR hS hL
  obtain ⟨g1, g2, g3, g4, g5, g6, -⟩ := hF
  obtain ⟨q', e1, cell, e2, e3, e4, -⟩ := (hR.2.2.1 b _ hb).2
  have hq : q' = (C, T, N) := Option.some.inj (e1.symm.trans hcl)
  subst hq
  have hm : mcode M' = Cond.code (my M') (mcc M') (mnL M') (mret M') := by unfold mcode; rw [hcv.2.1]; rfl
  have hin := gw_in hcv.1.2.2.1
  intro T hT X0
  have hM : Met (kl X) (my M') (mcode M' :: GW) (mR M') (va_Pc (.ref b :: As) (kPc X h)) (zQ X (zM v Q)) (mR M').cells (mR M').slots (kFr X) := by
    intro p e ha hc hk s m args below hf hap hP hK
    obtain ⟨kk9, o, q1, q2, q3, q4⟩ := hC p e ha hc hk s m args below hf hap hP hK
    rcases q4 with q4 | ⟨q, -, E, ce, L, ⟨⟨h', hz, -⟩, -⟩, -⟩
    · exact ⟨kk9, o, q1, q2, q3, q4⟩
    · cases hz.1
  obtain ⟨v', st₀, t, T', L, e0, X', hLf, e5, e6, hq, stp⟩ := va_runSU (C := C) (Ts := GW) (bytes := mcc M') (maxL := mnL M') (ret := mret M') (n := As.length) (g6.1.1 ci _ hcl).2 ⟨g1, g2, g3, g4, g5⟩ hM ⟨⟨rfl, rfl, hRm.1, hRm.2.1, pay_in g5 hin, by rw [← hm]; exact List.mem_cons_self⟩, g5 _ hcv.1.1, g5 _ hcv.2.2.2.1, g5 _ hcv.2.2.2.2.1, g5 _ hcv.2.2.1, g5 _ hcv.1.2.1, by rw [← hm]; exact g5 _ hcv.1.2.2.1, hcv.2.2.2.2.2, fun sig hs => by
    have h2 := hcv.1.2.2.2.2.2
    rw [hs] at h2
    exact (Option.some.inj h2).symm⟩ ⟨kPc_blind, ⟨cell, e2, by rw [e4]; rfl, by rw [e3]; exact (g6.1.1 ci _ hcl).2.1⟩, fun U hU hW => ⟨rfl, by rw [hU]; exact hR, g6.moved hW⟩⟩ (g := F0 m pc ls st) rfl rfl hL.1 hstk (lv_room hst) hdg ⟨hRm.2.2.1, hRm.2.2.2⟩ T hT X0
  exact Or.inl ⟨v', st₀, t, T', L, e0, X', hLf, e5, e6, hq, stp⟩
theorem V_lret {v : Int64} (hdg : decode (mcc M) pc = .ok (.lreturn, 1)) (hr : mret M = some .long) (hc : k ≤ (mR M).cells ∧ n ≤ (mR M).slots) (hz : Z (.inl (some (.long v))) h) : V X M (zF X M Z) k n pc lv [.long v] h := fun p e s m args below meth c H locs ls hF hR hS hL => W.widen hc.1 hc.2 (vx_ret (W.lret hF.1 hF.2.1 (hF.2.2.2.2.2.2.1.trans hr) (V.frame hz hR hS) hS.2.2 hdg hF.2.2.2.2.2.2.2.1))
theorem V_fret {v : UInt32} (hdg : decode (mcc M) pc = .ok (.freturn, 1)) (hr : mret M = some .float) (hc : k ≤ (mR M).cells ∧ n ≤ (mR M).slots) (hz : Z (.inl (some (.float v))) h) : V X M (zF X M Z) k n pc lv [.float v] h := fun p e s m args below meth c H locs ls hF hR hS hL => W.widen hc.1 hc.2 (vx_ret (W.fret hF.1 hF.2.1 (hF.2.2.2.2.2.2.1.trans hr) (V.frame hz hR hS) hS.2.2 hdg hF.2.2.2.2.2.2.2.1))
theorem V_dret {v : UInt64} (hdg : decode (mcc M) pc = .ok (.dreturn, 1)) (hr : mret M = some .double) (hc : k ≤ (mR M).cells ∧ n ≤ (mR M).slots) (hz : Z (.inl (some (.double v))) h) : V X M (zF X M Z) k n pc lv [.double v] h := fun p e s m args below meth c H locs ls hF hR hS hL => W.widen hc.1 hc.2 (vx_ret (W.dret hF.1 hF.2.1 (hF.2.2.2.2.2.2.1.trans hr) (V.frame hz hR hS) hS.2.2 hdg hF.2.2.2.2.2.2.2.1))
theorem V_aret {v : Nat} {rt : FieldType} (hdg : decode (mcc M) pc = .ok (.areturn, 1)) (hr : mret M = some rt) (hrt : (∃ n, rt = .object n) ∨ ∃ t, rt = .array t) (hc : k ≤ (mR M).cells ∧ n ≤ (mR M).slots) (hz : Z (.inl (some (.ref v))) h) : V X M (zF X M Z) k n pc lv [.ref v] h := fun p e s m args below meth c H locs ls hF hR hS hL => W.widen hc.1 hc.2 (vx_ret (W.aret hF.1 hF.2.1 (hF.2.2.2.2.2.2.1.trans hr) hrt (Or.inr ⟨v, rfl⟩) (V.frame hz hR hS) hS.2.2 hdg hF.2.2.2.2.2.2.2.1))
theorem V_ldci {idx : Nat} {v : Int32} (hdg : decode (mcc M) pc = .ok (.ldc idx, 2)) (hw : Cond.constant (my M).cls idx v ∈ GW) (kk : V X M F k n (pc + 2) lv (.int v :: rest) h) : V X M F k n pc lv rest h := fun p e s m args below meth c H locs ls hF hR hS hL => lv_ldc hF.1 hF.2.1 hF.2.2.2.1 (hF.2.2.2.2.1 _ hw) hdg (kk p e s m args below meth c H locs ls hF hR hS hL)
theorem V_ldc2 {idx : Nat} {v : Int64} (hdg : decode (mcc M) pc = .ok (.ldc2_w idx, 3)) (hw : Cond.constantLong (my M).cls idx v ∈ GW) (kk : V X M F k n (pc + 3) lv (.long v :: rest) h) : V X M F k n pc lv rest h := fun p e s m args below meth c H locs ls hF hR hS hL => lv_ldc2 hF.1 hF.2.1 hF.2.2.2.1 (hF.2.2.2.2.1 _ hw) hdg (kk p e s m args below meth c H locs ls hF hR hS hL)
theorem V_ifnonnull {x : Nat} {off : Int} {tgt : Nat} (hdg : decode (mcc M) pc = .ok (.ifnonnull off, 3)) (ht : (pc : Int) + off = (tgt : Int)) (kk : V X M F k n tgt lv rest h) : V X M F k n pc lv (.ref x :: rest) h := fun p e s m args below meth c H locs ls hF hR hS hL => lv_ifnonnull hF.1 hF.2.1 hdg ht (kk p e s m args below meth c H locs ls hF hR hS hL)
theorem V_newb {z : Int32} {N : Nat} (hdg : decode (mcc M) pc = .ok (.newarray .byte, 2)) (hw : Cond.arrayClass .byte ∈ GW) (h0 : ¬ z < 0) (hN : z.toNatClampNeg = N) (hby : N * 1 ≤ 536870912) (hroom : k + 1 ≤ (mR M).cells ∧ n + N ≤ (mR M).slots) (kk : V X M F (k + 1) (n + N) (pc + 2) lv (.ref h.1 :: rest) (hnew h (aL (kA X 2) (List.replicate N 0)))) : V X M F k n pc lv (.int z :: rest) h := fun p e s m args below meth c H locs ls hF hR hS hL => by
  obtain ⟨hx, hb, hml, hown, hts, hKS, -⟩ := id hF
  refine va_newaK (atype := .byte) hx hb (hts _ hw) rfl hdg rfl h0 hN hby hroom.1 hroom.2 hR.1 fun H1 cA e1 z1 o1 hAr hNm => ?_
  have hcA : cA = kA X 2 := Option.some.inj (hNm.symm.trans (hKS.1.2 2 _ rfl).2)
  subst hcA
  have z2 : H1.size = H.size + 1 := by rw [z1, hR.1]
  have o2 : ∀ q : Nat, q < H.size → H1[q]? = H[q]? := fun q hq => o1 q (by rw [← hR.1]; exact hq)
  refine kk p e s m args below meth c H1 locs ls hF (hR.new ?_ z2 o2) (V.sNew hS z2 o2) hL
  show H1[h.1]? = some (vp_cell _ _)
  rw [e1, vp_cell_i]
  refine congrArg some (arrV_congr (by simp) fun j hj => ?_)
  simp [List.getD_eq_getElem?_getD, List.getElem?_replicate, hj]
  rfl
theorem cpL_getD {A B : List Int32} {u v w j : Nat} (hj : j < B.length) : (cpL A B u v w).getD j 0 = if v ≤ j ∧ j < v + w then A.getD (u + (j - v)) 0 else B.getD j 0 := by
  unfold cpL
  simp [List.getD_eq_getElem?_getD, hj]
theorem cpL_len {A B : List Int32} {u v w : Nat} : (cpL A B u v w).length = B.length := by simp [cpL]
theorem V_copyp {a0 a idx t u v w : Nat} {L0 L1 : List Int32} {ty : FieldType} {sp dp z : Int32} (hdg : decode (mcc M) pc = .ok (.invokestatic idx, 3)) (hw : Cond.methodLink (my M).cls idx arraycopyName ∈ GW) (hw2 : Cond.native arraycopyName ∈ GW ∧ Cond.static arraycopyName ∈ GW ∧ Cond.initialized "java/lang/System" ∈ GW) (ht : (kT X)[t]? = some (kA X t, ty)) (hprim : refKind ty = false) (ha0 : h.2 a0 = some (aL (kA X t) L0)) (ha : h.2 a = some (aL (kA X t) L1)) (hne : a0 ≠ a) (hsp : sp = nI u) (hdp : dp = nI v) (hz : z = nI w) (h1 : u + w ≤ L0.length) (h2 : v + w ≤ L1.length) (hsm : L0.length < 2 ^ 31) (hsm2 : L1.length < 2 ^ 31) (hfit : ∀ i, fits ty (.int (L0.getD i 0)) = true) (hroom : 1 ≤ (mR M).frames ∧ (rest.map fun v => v.category).sum + (nativeFrameWords "java/lang/System" "arraycopy" 5 + 11) ≤ (mR M).locals) (kk : V X M F k n (pc + 3) lv rest (hput h a (aL (kA X t) (cpL L0 L1 u v w)))) : V X M F k n pc lv (.int z :: .int dp :: .ref a :: .int sp :: .ref a0 :: rest) h := by
  intro p e s m args below meth c H locs ls hF hR hS hL T hT X0
  obtain ⟨hx, hb, hml, hown, hts, hKS, -⟩ := id hF
  have hK := hKS.1
  have hc0 : H[a0]? = some (vp_cell (kA X t) (L0.length, .inl (fun j => L0.getD j 0))) := hR.cell ha0
  have hc1 : H[a]? = some (vp_cell (kA X t) (L1.length, .inl (fun j => L1.getD j 0))) := hR.cell ha
  have zu : sp.toNatClampNeg = u := by rw [hsp]; exact nI_clamp (by omega)
  have zv : dp.toNatClampNeg = v := by rw [hdp]; exact nI_clamp (by omega)
  have zw : z.toNatClampNeg = w := by rw [hz]; exact nI_clamp (by omega)
  have iu : sp.toInt = (u : Int) := by rw [hsp]; exact nI_toInt (by omega)
  have iv : dp.toInt = (v : Int) := by rw [hdp]; exact nI_toInt (by omega)
  have iw : z.toInt = (w : Int) := by rw [hz]; exact nI_toInt (by omega)
  obtain ⟨-, k0, hk0, cm0, hkk0⟩ := (hK.2 t _ ht).1 L0.length (fun j => .int (L0.getD j 0))
  obtain ⟨-, k1, hk1, cm1, hkk1⟩ := (hK.2 t _ ht).1 L1.length (fun j => .int (L1.getD j 0))
  obtain ⟨vm', X', step⟩ := X0.arraycopy hx hown (hts _ hw) (hts _ hw2.1) (hts _ hw2.2.1) (hts _ hw2.2.2) (src := a0) (dst := a) (cs := vp_cell (kA X t) (L0.length, .inl (fun j => L0.getD j 0))) (cd := vp_cell (kA X t) (L1.length, .inl (fun j => L1.getD j 0))) (srcPos := sp) (destPos := dp) (n := z) (by rw [hT]; exact hc0) (by rw [hT]; exact hc1)
    (fun _ h => by cases h) (fun _ h => by cases h) (fun h => by cases h) (fun h => by cases h) hk0 hk1 hkk0 hkk1 (by simp [hprim]) (by rw [Int32.lt_iff_toInt_lt, iu, Int32.toInt_zero]; omega) (by rw [Int32.lt_iff_toInt_lt, iv, Int32.toInt_zero]; omega) (by rw [Int32.lt_iff_toInt_lt, iw, Int32.toInt_zero]; omega)
    (by rw [iu, iw]; show ¬ _ > ((arrV (kA X t) L0.length (fun j => .int (L0.getD j 0))).slots.size : Int); rw [arrV_size]; omega)
    (by rw [iv, iw]; show ¬ _ > ((arrV (kA X t) L1.length (fun j => .int (L1.getD j 0))).slots.size : Int); rw [arrV_size]; omega)
    (fun vm₁ _ i hi => by
      rw [zw] at hi
      have e : (vp_cell (kA X t) (L0.length, .inl (fun j => L0.getD j 0))).slots.getD (sp.toNatClampNeg + i) .null = .int (L0.getD (u + i) 0) := by
        show (arrV (kA X t) L0.length (fun j => .int (L0.getD j 0))).slots.getD _ _ = _
        rw [zu, Array.getD_eq_getD_getElem?, arrV_read _ _ (by omega)]
        rfl
      refine ⟨?_, ?_⟩
      · rw [e]
        exact hfit _
      · rw [e]
        exact trivial)
    (g := F0 m pc ls (.int z :: .int dp :: .ref a :: .int sp :: .ref a0 :: rest)) rfl (by rw [hml]; exact hL.1) (rest := rest) rfl (by rw [hb]; exact hdg) hroom.1 (by show 2 * 0 + _ + _ ≤ _; omega)
  have e1 : copied (vp_cell (kA X t) (L0.length, .inl (fun j => L0.getD j 0))) (vp_cell (kA X t) (L1.length, .inl (fun j => L1.getD j 0))) sp dp z = vp_cell (kA X t) ((cpL L0 L1 u v w).length, .inl (fun j => (cpL L0 L1 u v w).getD j 0)) := by
    have e2 : copied (vp_cell (kA X t) (L0.length, .inl (fun j => L0.getD j 0))) (vp_cell (kA X t) (L1.length, .inl (fun j => L1.getD j 0))) sp dp z = vp_cell (kA X t) (L1.length, .inl (va_cpy (fun j => L0.getD j 0) (fun j => L1.getD j 0) sp.toNatClampNeg dp.toNatClampNeg z.toNatClampNeg)) := va_copied (fun z => .int z) (kA X t) (kA X t) (fun j => L0.getD j 0) (fun j => L1.getD j 0) (by rw [zu, zw]; omega)
    rw [e2, vp_cell_i, vp_cell_i]
    refine arrV_congr cpL_len.symm fun j hj => ?_
    rw [zu, zv, zw, cpL_getD hj]
    unfold va_cpy
    split <;> rfl
  rw [e1] at X' step
  have hl9 : a < H.size := (Array.getElem?_eq_some_iff.mp hc1).1
  have hheap : ((T.setVm vm').setCell a (vp_cell (kA X t) ((cpL L0 L1 u v w).length, .inl (fun j => (cpL L0 L1 u v w).getD j 0)))).heap = H.setIfInBounds a (vp_cell (kA X t) ((cpL L0 L1 u v w).length, .inl (fun j => (cpL L0 L1 u v w).getD j 0))) := by rw [← hT]; rfl
  have oq : ∀ q : Nat, q ≠ a → (H.setIfInBounds a (vp_cell (kA X t) ((cpL L0 L1 u v w).length, .inl (fun j => (cpL L0 L1 u v w).getD j 0))))[q]? = H[q]? := fun q hq => by simp [Array.getElem?_setIfInBounds, Ne.symm hq]
  have hA := (hR.2.2.1 a _ ha).1
  obtain ⟨t9, a1, b1⟩ := kk p e s m args below meth c _ _ ls hF (hR.put ha (show (H.setIfInBounds a _)[a]? = some _ by simp [Array.getElem?_setIfInBounds, hl9]) (by simp) oq) ⟨by simp; exact hS.1, fun q g1 g2 => by
      rw [oq q (fun e => g2 (by rw [e]; exact hA))]
      exact hS.2.1 q g1 g2, fun q hq => by
      rcases List.mem_append.mp hq with h | h
      · exact hS.2.2 q h
      · obtain ⟨z, -, hz⟩ := List.mem_map.mp h
        rw [← hz]
        exact hA⟩ hL _ hheap X'
  exact ⟨t9, step t9 a1, b1⟩
theorem Ct.weak {A : List Value} {Z' : ZT} (hC : Ct X M A h Z) (hw : ∀ o h', Z o h' → Z' o h') : Ct X M A h Z' := by
  intro p e ha hc hk s m args below hf hap hP hK
  obtain ⟨kk9, o, q1, q2, q3, q4⟩ := hC p e ha hc hk s m args below hf hap hP hK
  refine ⟨kk9, o, q1, q2, q3, ?_⟩
  rcases q4 with ⟨⟨⟨v, h', e1, hz, hr⟩, hF⟩, hL⟩ | ⟨q, e1, E, ce, L, ⟨⟨h', hz, hr⟩, hF⟩, hrest⟩
  · exact Or.inl ⟨⟨⟨v, h', e1, hw _ _ hz, hr⟩, hF⟩, hL⟩
  · exact Or.inr ⟨q, e1, E, ce, L, ⟨⟨h', hw _ _ hz, hr⟩, hF⟩, hrest⟩
theorem gin {L : List Cond} (h : ∀ w ∈ L, w ∈ GW) : GoodIn GW L := fun w hw => ⟨h w hw, gw_good (h w hw)⟩
theorem sel_priv {C : String} {y y1 : MethodName} {s : State} {args : Array Value} (h1 : (Cond.selects C y1 y1).before args s = true) (hcls : y1.cls = y.cls) (hy : y.cls ≠ "java/lang/invoke/MethodHandle" ∧ y.cls ≠ "java/lang/invoke/VarHandle") (hpriv : (Cond.privateMethod y).before args s = true) (hinst : (Cond.instanceMethod y).before args s = true) : (Cond.selects C y y).before args s = true := by
  obtain ⟨c2, r2, m2, q1, q2, q3, q4, kP, hkP, hkPi⟩ := Cond.selects_spec h1
  obtain ⟨mk, methM, hnamed, hmethM, -, -⟩ := Cond.instanceMethod_spec hinst
  have hfound : s.methodFound? y.cls y.name y.desc = some mk := State.methodFound?_of_named hnamed hy
  have hm : mk.cls = m2.cls := by
    have e1 := findClass_of_methodNamed hnamed
    have e2 := findClass_of_methodNamed q3
    rw [hcls] at e2
    exact Option.some.inj (e1.symm.trans e2)
  have hsel : selectMethod {} s.vm c2 mk = .method mk := selectMethod_private hmethM (Cond.privateMethod_at hpriv mk methM hnamed hmethM)
  simp only [Cond.before, Cond.holds, Cond.value, q1, hfound, hnamed, hsel, hm, hkP]
  simp
  exact hkPi
/-- a private method of the superclass, called on this of class C (y1: any method of that superclass that C has as it is) -/
def CallVP (C : String) (y1 : MethodName) (own : String) (idx : Nat) (M' : MI) (na : Nat) : Prop := CallI own idx M' na ∧ mtab M' = [] ∧ Cond.instanceMethod (my M') ∈ GW ∧ Cond.selects C y1 y1 ∈ GW ∧ y1.cls = (my M').cls ∧ Cond.privateMethod (my M') ∈ GPW
theorem V_cVp (hp : GP X) {M' : MI} {As : List Value} {b ci idx N : Nat} {fs : List Value} {C : String} {y1 : MethodName} {T : u_T} {v : Option Value} {Q : AH → Prop} (hdg : decode (mcc M) pc = .ok (.invokevirtual idx, 3)) (hcv : CallVP C y1 (my M).cls idx M' As.length) (hC : Ct X M' (.ref b :: As) h (zM v Q)) (hb : h.2 b = some (.inr (ci, fs))) (hcl : vwCl[ci]? = some (C, T, N)) (hRm : RoomOK M M' k n) (hst : (rest.map fun v => v.category).sum ≤ 8) {st : List Value} (hstk : st = As.reverse ++ .ref b :: rest) (kk : ∀ h', Q h' → V X M F (k + (mR M').cells) (n + (mR M').slots) (pc + 3) lv (v.toList ++ rest) h') : V X M F k n pc lv st h := by
  refine V.back (A := .ref b :: As) (Z' := zM v Q) rfl ?_ (fun v' h' hz => by obtain ⟨e, q⟩ := hz; cases e; exact kk h' q) (fun E h' hz => by cases hz.1)
  intro p e s m args below meth c H locs ls hF hR hS hL
  have g7 := hF.kg
  obtain ⟨g1, g2, g3, g4, g5, g6, -⟩ := hF
  obtain ⟨q', e1, cell, e2, e3, e4, -⟩ := (hR.2.2.1 b _ hb).2
  have hq : q' = (C, T, N) := Option.some.inj (e1.symm.trans hcl)
  subst hq
  exact vx_runV (C := C) (Ts := GW) ⟨g1, g2, g3, g4, g5⟩ hC ⟨hcv.1.b hcv.2.1 g5 ⟨hRm.1, hRm.2.1⟩, g5 _ hcv.2.2.1, sel_priv (g5 _ hcv.2.2.2.1) hcv.2.2.2.2.1 ⟨hcv.1.2.2.2.1, hcv.1.2.2.2.2.1⟩ (va_Nw.use rfl (hp _ hcv.2.2.2.2.2 s g7)) (g5 _ hcv.2.2.1)⟩ ⟨kPc_blind, ⟨cell, e2, by rw [e4]; rfl, by rw [e3]; exact (g6.1.1 ci _ hcl).2.1⟩, fun U hU hW => ⟨rfl, by rw [hU]; exact hR, g6.moved hW⟩⟩ rfl rfl hL.1 hstk (lv_room hst) hdg ⟨hRm.2.2.1, hRm.2.2.2⟩
end VX5
