/-! ===== the reader of commands, third: forms, commands, all of them ===== -/
theorem RdP.tr {X : KX} {h h1 h2 : AH} {x k f : Nat} {cm cm1 : Nat → Nat × List Int32 × Int32} {cnt : Int32} {t : List Int32} {p : Nat} {nums : List Nat} (q : RdP X h1 h2 x k f cm1 cnt t p nums) (hc : ∀ j, j ≠ k → cm1 j = cm j) (o : Outs h h1 (x + 147) 36) : RdP X h h2 x k f cm cnt t p nums := by
  obtain ⟨⟨c2, a1, a2, a3⟩, o2⟩ := q
  exact ⟨⟨c2, a1, a2, fun j hj => (a3 j hj).trans (hc j hj)⟩, o.tr o2⟩
theorem gSh_lt : ∀ j, j < 11 → gSh.getD j 0 < 52 := by decide
theorem shp_len {j : Nat} (hj : j < 11) : (shp j).length < 64 := gT_len _ (gSh_lt j hj)
theorem shp_ch {j i : Nat} (hj : j < 11) (hi : i < (shp j).length) : (gT.getD (gSh.getD j 0) []).getD i 0 = nI (chA (shp j) i) ∧ chA (shp j) i < 128 := gT_chr _ (gSh_lt j hj) i (Nat.lt_trans hi (shp_len hj))
theorem rCmd_bd {t : List Int32} {B : Nat} (hB : t.length ≤ B) (st : Nat) (hst : st ≤ B) : ∀ (f j fu : Nat), fu ≤ B → (rCmd t st f j fu).2.1 ≤ B := by
  intro f
  induction f with
  | zero => intro j fu h; exact h
  | succ f ih =>
    intro j fu h
    rw [rCmd]
    have hr := rForm_bd (sh := shp j) hB (shp j).length 0 st [] hst
    split
    · exact hr
    · exact ih _ _ (Nat.max_le.mpr ⟨h, hr⟩)
theorem rCmd_lt {t : List Int32} {st : Nat} : ∀ (f j fu g : Nat), (rCmd t st f j fu).1 = some g → j ≤ g ∧ g < j + f := by
  intro f
  induction f with
  | zero => intro j fu g h; cases h
  | succ f ih =>
    intro j fu g h
    rw [rCmd] at h
    split at h
    · have e : j = g := Option.some.inj h
      omega
    · have := ih _ _ _ h
      omega
/-- all commands: whether the text is read, the count, where the reading stands, what was read -/
def rAll (t : List Int32) : Nat → List (Nat × List Nat) → Nat → Int32 → Bool × Int32 × Nat × List (Nat × List Nat)
  | 0, acc, p, c => (false, c, p, acc)
  | f + 1, acc, p, c => if (rCmd t p 11 0 p).1.isSome then (if t.length ≤ (rCmd t p 11 0 p).2.1 then (true, nI (acc.length + 1), (rCmd t p 11 0 p).2.1, acc ++ [((rCmd t p 11 0 p).1.getD 0, (rCmd t p 11 0 p).2.2)]) else if sgB t (rCmd t p 11 0 p).2.1 59 then rAll t f (acc ++ [((rCmd t p 11 0 p).1.getD 0, (rCmd t p 11 0 p).2.2)]) ((rCmd t p 11 0 p).2.1 + 1) (nI (acc.length + 1)) else (false, nI (acc.length + 1), (rCmd t p 11 0 p).2.1, acc ++ [((rCmd t p 11 0 p).1.getD 0, (rCmd t p 11 0 p).2.2)])) else (false, c, (rCmd t p 11 0 p).2.1, acc)
/-- the reader when all was read: the commands of the list are there -/
def RdC (cm : Nat → Nat × List Int32 × Int32) (l : List (Nat × List Nat)) : Prop := l.length ≤ 16 ∧ ∀ (i : Nat) (e : Nat × List Nat), l[i]? = some e → CmdIs (cm i) e.1 e.2 ∧ e.1 < 11
set_option maxRecDepth 20000 in
set_option maxHeartbeats 1000000 in
theorem c_X2_readForm {X : KX} (hxs : X.1.stackTraces = false) (hg : GX X) {h : AH} {x p k : Nat} {cm : Nat → Nat × List Int32 × Int32} {cnt : Int32} {t : List Int32} (hR : RdRaw X h x cm cnt (nI p) t) (ht : t.length ≤ 128) (hp9 : p ≤ 128) (hk : k < 16) {j : Nat} (hj : j < 11) {r : Bool × Nat × List Nat} (hr : rForm t (shp j) (shp j).length 0 p [] = r) : Ct X mX2_readForm [.ref (x + 147), .ref (kad X (3000 + j)), .ref (x + 151 + 2 * k)] h (zM (some (.int (if r.1 then 1 else 0))) (fun h' => RdP X h h' x k j cm cnt t r.2.1 r.2.2)) := by
  refine Ct.of (by decide) rfl (Nat.le_of_ble_eq_true rfl) rfl hxs ?_
  have hS := gSh_lt j hj
  have L7 : ∀ (g i p0 : Nat) (nums : List Nat) (h0 : AH), i + g = (shp j).length → p0 ≤ 128 → RdP X h h0 x k j cm cnt t p0 nums → rForm t (shp j) g i p0 nums = r → V X mX2_readForm (zF X mX2_readForm (zM (some (.int (if r.1 then 1 else 0))) (fun h' => RdP X h h' x k j cm cnt t r.2.1 r.2.2))) 0 0 7 [(0, .ref (x + 147)), (1, .ref (kad X (3000 + j))), (2, .ref (x + 151 + 2 * k)), (3, .int (nI i))] [] h0 := by
    have hl9 := shp_len hj
    have hl8 : (gT.getD (gSh.getD j 0) []).length < 64 := hl9
    intro g
    induction g with
    | zero =>
      intro i p0 nums h0 hi hp0 hP hr0
      subst hr0
      refine V_iload_n dX2_readForm_7 3 rfl ?_
      refine V_aload_n dX2_readForm_8 1 rfl ?_
      refine V_getO dX2_readForm_9 flX2_62 (fun U hU => ((hg.2.2.2.2.2.1 U hU).2.2.2.1 j hj).2.2) ?_
      refine V_cVo (As := []) (rest := [.int (nI i)]) (Q := fun h1 => h1 = h0) dX2_readForm_12 cvX2_68 (c_J0_length_o hxs hg hS) (fun U hU => (hg.2.2.2.2.1 _ hS U hU).1) ⟨Nat.le_of_ble_eq_true rfl, Nat.le_of_ble_eq_true rfl, Nat.le_of_ble_eq_true rfl, Nat.le_of_ble_eq_true rfl⟩ (Nat.le_of_ble_eq_true rfl) rfl (fun h1 e1 => ?_)
      rw [e1]
      refine V_icmp_ge (tgt := 42) dX2_readForm_15 (by decide) (fun _ => ?_) (fun c9 => absurd (nI_le (show (shp j).length ≤ i by omega) (by omega)) c9)
      refine V_iconst (v := 1) dX2_readForm_42 (by decide) ?_
      exact V_zret dX2_readForm_43 rfl bN1 ⟨Nat.le_of_ble_eq_true rfl, Nat.le_of_ble_eq_true rfl⟩ ⟨rfl, hP⟩
    | succ g ih =>
      intro i p0 nums h0 hi hp0 hP hr0
      have hil : i < (shp j).length := by omega
      have hch := shp_ch hj hil
      obtain ⟨⟨cm1, hR1, hI1, hK1⟩, hO1⟩ := id hP
      refine V_iload_n dX2_readForm_7 3 rfl ?_
      refine V_aload_n dX2_readForm_8 1 rfl ?_
      refine V_getO dX2_readForm_9 flX2_62 (fun U hU => ((hg.2.2.2.2.2.1 U hU).2.2.2.1 j hj).2.2) ?_
      refine V_cVo (As := []) (rest := [.int (nI i)]) (Q := fun h1 => h1 = h0) dX2_readForm_12 cvX2_68 (c_J0_length_o hxs hg hS) (fun U hU => (hg.2.2.2.2.1 _ hS U hU).1) ⟨Nat.le_of_ble_eq_true rfl, Nat.le_of_ble_eq_true rfl, Nat.le_of_ble_eq_true rfl, Nat.le_of_ble_eq_true rfl⟩ (Nat.le_of_ble_eq_true rfl) rfl (fun h1 e1 => ?_)
      rw [e1]
      refine V_icmp_ge (tgt := 42) dX2_readForm_15 (by decide) (fun c9 => absurd c9 (nI_ge hil (by omega))) (fun _ => ?_)
      refine V_aload_n dX2_readForm_18 0 rfl ?_
      refine V_aload_n dX2_readForm_19 1 rfl ?_
      refine V_getO dX2_readForm_20 flX2_62 (fun U hU => ((hg.2.2.2.2.2.1 U hU).2.2.2.1 j hj).2.2) ?_
      refine V_iload_n dX2_readForm_23 3 rfl ?_
      refine V_cVo (As := [.int (nI i)]) (rest := [.ref (x + 147)]) (Q := fun h1 => h1 = h0) dX2_readForm_24 cvX2_71 (c_J0_charAt_o hxs hg hS hil (show (shp j).length < 2 ^ 31 by omega) hch.2 hch.1) (fun U hU => (hg.2.2.2.2.1 _ hS U hU).1) ⟨Nat.le_of_ble_eq_true rfl, Nat.le_of_ble_eq_true rfl, Nat.le_of_ble_eq_true rfl, Nat.le_of_ble_eq_true rfl⟩ (Nat.le_of_ble_eq_true rfl) rfl (fun h1 e1 => ?_)
      rw [e1]
      refine V_aload_n dX2_readForm_27 2 rfl ?_
      refine V_cVmi (As := [.int (nI (chA (shp j) i)), .ref (x + 151 + 2 * k)]) (rest := []) dX2_readForm_28 cvX2_75 (c_X2_readPart hxs hg hR1 hk hI1 ht hp0 hch.2) hR1.1 rfl ⟨Nat.le_of_ble_eq_true rfl, Nat.le_of_ble_eq_true rfl, Nat.le_of_ble_eq_true rfl, Nat.le_of_ble_eq_true rfl⟩ (Nat.le_of_ble_eq_true rfl) rfl (fun h2 q2 => ?_)
      have q3 : RdP X h h2 x k j cm cnt t (rPart t (chA (shp j) i) p0 nums).2.1 (rPart t (chA (shp j) i) p0 nums).2.2 := q2.tr hK1 hO1
      have hb := rPart_bd (c := chA (shp j) i) (nums := nums) ht hp0
      rw [rForm] at hr0
      by_cases hc : (rPart t (chA (shp j) i) p0 nums).1 = true
      · rw [if_pos hc] at hr0 ⊢
        refine V_if_ne (tgt := 36) dX2_readForm_31 (by decide) (fun _ => ?_) (fun c9 => absurd c9 (by decide))
        refine V_iinc (v := nI (i + 1)) (lv' := [(3, .int (nI (i + 1))), (0, .ref (x + 147)), (1, .ref (kad X (3000 + j))), (2, .ref (x + 151 + 2 * k))]) dX2_readForm_36 3 rfl (iinc1 i) (by decide) rfl ?_
        refine V_goto (tgt := 7) dX2_readForm_39 (by decide) ?_
        refine V.loc [1, 2, 3, 0] rfl ?_
        exact ih (i + 1) _ _ h2 (by omega) hb q3 hr0
      · rw [if_neg hc] at hr0 ⊢
        subst hr0
        refine V_if_ne (tgt := 36) dX2_readForm_31 (by decide) (fun c9 => absurd c9 (fun q9 => q9 rfl)) (fun _ => ?_)
        refine V_iconst (v := 0) dX2_readForm_34 (by decide) ?_
        exact V_zret dX2_readForm_35 rfl bN0 ⟨Nat.le_of_ble_eq_true rfl, Nat.le_of_ble_eq_true rfl⟩ ⟨rfl, q3⟩
  refine V_aload_n dX2_readForm_0 2 rfl ?_
  refine V_aload_n dX2_readForm_1 1 rfl ?_
  refine V_cVmv (As := [.ref (kad X (3000 + j))]) (rest := []) dX2_readForm_2 cvX2_58 (c_X1_begin hxs (hR.2.2.2 k hk) hj) (hR.2.2.2 k hk).1 rfl ⟨Nat.le_of_ble_eq_true rfl, Nat.le_of_ble_eq_true rfl, Nat.le_of_ble_eq_true rfl, Nat.le_of_ble_eq_true rfl⟩ (Nat.le_of_ble_eq_true rfl) rfl (fun h1 q1 => ?_)
  obtain ⟨⟨C', hC', hI'⟩, hO1⟩ := q1
  have hP : RdP X h h1 x k j cm cnt t p [] := ⟨⟨_, hR.cmd hk hC' hO1, by unfold updC; rw [if_pos rfl]; exact hI', fun j hj => by unfold updC; rw [if_neg hj]⟩, hO1.up (by omega) (by omega)⟩
  refine V_iconst (v := 0) dX2_readForm_5 (by decide) ?_
  refine V_istore_n (lv' := [(3, .int 0), (0, .ref (x + 147)), (1, .ref (kad X (3000 + j))), (2, .ref (x + 151 + 2 * k))]) dX2_readForm_6 rfl (by decide) rfl ?_
  refine V.loc [1, 2, 3, 0] rfl ?_
  exact L7 (shp j).length 0 p [] h1 (by omega) hp9 hP hr
set_option maxRecDepth 20000 in
set_option maxHeartbeats 1000000 in
theorem c_X2_readCommand {X : KX} (hxs : X.1.stackTraces = false) (hg : GX X) {h : AH} {x p k : Nat} {cm : Nat → Nat × List Int32 × Int32} {cnt : Int32} {t : List Int32} (hR : RdRaw X h x cm cnt (nI p) t) (ht : t.length ≤ 128) (hp9 : p ≤ 128) (hk : k < 16) {r : Option Nat × Nat × List Nat} (hr : rCmd t p 11 0 p = r) : Ct X mX2_readCommand [.ref (x + 147), .ref (x + 151 + 2 * k)] h (zM (some (.int (if r.1.isSome then 1 else 0))) (fun h' => (∃ cm', RdRaw X h' x cm' cnt (nI r.2.1) t ∧ (∀ f, r.1 = some f → CmdIs (cm' k) f r.2.2) ∧ ∀ j, j ≠ k → cm' j = cm j) ∧ Outs h h' (x + 147) 36)) := by
  refine Ct.of (by decide) rfl (Nat.le_of_ble_eq_true rfl) rfl hxs ?_
  have L13 : ∀ (g j fu p0 : Nat) (h0 : AH) (cm0 : Nat → Nat × List Int32 × Int32), j + g = 11 → fu ≤ 128 → RdRaw X h0 x cm0 cnt (nI p0) t → (∀ j, j ≠ k → cm0 j = cm j) → Outs h h0 (x + 147) 36 → rCmd t p g j fu = r → V X mX2_readCommand (zF X mX2_readCommand (zM (some (.int (if r.1.isSome then 1 else 0))) (fun h' => (∃ cm', RdRaw X h' x cm' cnt (nI r.2.1) t ∧ (∀ f, r.1 = some f → CmdIs (cm' k) f r.2.2) ∧ ∀ j, j ≠ k → cm' j = cm j) ∧ Outs h h' (x + 147) 36))) 0 0 13 [(0, .ref (x + 147)), (1, .ref (x + 151 + 2 * k)), (2, .int (nI p)), (3, .int (nI fu)), (4, .int (nI j))] [] h0 := by
    intro g
    induction g with
    | zero =>
      intro j fu p0 h0 cm0 hj hfu hR0 hK0 hO0 hr0
      subst hr0
      refine V_iload dX2_readCommand_13 4 rfl ?_
      refine V_gets dX2_readCommand_15 flX2_44 (fun U hU => (hg.2.2.2.2.2.1 U hU).1) ?_
      refine V_tlen (v := nI 11) dX2_readCommand_18 (fun U hU => (hg.2.2.2.2.2.1 U hU).2.1) rfl ?_
      refine V_icmp_ge (tgt := 58) dX2_readCommand_19 (by decide) (fun _ => ?_) (fun c9 => absurd (nI_le (a := 11) (by omega) (by omega)) c9)
      refine V_aload_n dX2_readCommand_58 0 rfl ?_
      refine V_iload_n dX2_readCommand_59 3 rfl ?_
      refine pf_rd_position hR0 dX2_readCommand_60 flX2_28 (fun h1 hR1 hO1 => ?_)
      refine V_iconst (v := 0) dX2_readCommand_63 (by decide) ?_
      exact V_zret dX2_readCommand_64 rfl bN0 ⟨Nat.le_of_ble_eq_true rfl, Nat.le_of_ble_eq_true rfl⟩ ⟨rfl, ⟨_, hR1, fun f e => (by cases e), hK0⟩, hO0.tr hO1⟩
    | succ g ih =>
      intro j fu p0 h0 cm0 hj hfu hR0 hK0 hO0 hr0
      have hj1 : j < 11 := by omega
      have hb := rForm_bd (sh := shp j) ht (shp j).length 0 p [] hp9
      refine V_iload dX2_readCommand_13 4 rfl ?_
      refine V_gets dX2_readCommand_15 flX2_44 (fun U hU => (hg.2.2.2.2.2.1 U hU).1) ?_
      refine V_tlen (v := nI 11) dX2_readCommand_18 (fun U hU => (hg.2.2.2.2.2.1 U hU).2.1) rfl ?_
      refine V_icmp_ge (tgt := 58) dX2_readCommand_19 (by decide) (fun c9 => absurd c9 (nI_ge (b := 11) hj1 (by decide))) (fun _ => ?_)
      refine V_aload_n dX2_readCommand_22 0 rfl ?_
      refine V_iload_n dX2_readCommand_23 2 rfl ?_
      refine pf_rd_position hR0 dX2_readCommand_24 flX2_28 (fun h1 hR1 hO1 => ?_)
      refine V_aload_n dX2_readCommand_27 0 rfl ?_
      refine V_gets dX2_readCommand_28 flX2_44 (fun U hU => (hg.2.2.2.2.2.1 U hU).1) ?_
      refine V_iload dX2_readCommand_31 4 rfl ?_
      refine V_tq (v := .ref (kad X (3000 + j))) dX2_readCommand_33 (fun U hU => (hg.2.2.2.2.2.1 U hU).2.1) (vp_in_nI hj1 (by decide)) (by rw [nI_clamp (by omega)]) ?_
      refine V_aload_n dX2_readCommand_34 1 rfl ?_
      refine V_cVmi (As := [.ref (kad X (3000 + j)), .ref (x + 151 + 2 * k)]) (rest := []) dX2_readCommand_35 cvX2_48 (c_X2_readForm hxs hg hR1 ht hp9 hk hj1 rfl) hR1.1 rfl ⟨Nat.le_of_ble_eq_true rfl, Nat.le_of_ble_eq_true rfl, Nat.le_of_ble_eq_true rfl, Nat.le_of_ble_eq_true rfl⟩ (Nat.le_of_ble_eq_true rfl) rfl (fun h2 q2 => ?_)
      rw [rCmd] at hr0
      obtain ⟨⟨cm2, hR2, hI2, hK2⟩, hO2⟩ := q2
      by_cases hc : (rForm t (shp j) (shp j).length 0 p []).1 = true
      · rw [if_pos hc] at hr0 ⊢
        subst hr0
        refine V_if_eq (tgt := 43) dX2_readCommand_38 (by decide) (fun c9 => absurd c9 (by decide)) (fun _ => ?_)
        refine V_iconst (v := 1) dX2_readCommand_41 (by decide) ?_
        exact V_zret dX2_readCommand_42 rfl bN1 ⟨Nat.le_of_ble_eq_true rfl, Nat.le_of_ble_eq_true rfl⟩ ⟨rfl, ⟨cm2, hR2, fun f e => (by rw [← Option.some.inj e]; exact hI2), fun j hj => (hK2 j hj).trans (hK0 j hj)⟩, hO0.tr (hO1.tr hO2)⟩
      · rw [if_neg hc] at hr0 ⊢
        refine V_if_eq (tgt := 43) dX2_readCommand_38 (by decide) (fun _ => ?_) (fun c9 => absurd rfl c9)
        refine V_iload_n dX2_readCommand_43 3 rfl ?_
        refine V_aload_n dX2_readCommand_44 0 rfl ?_
        refine gf_rd_position hR2 dX2_readCommand_45 flX2_28 ?_
        refine V_mmax dX2_readCommand_48 mlX2_52 wMax ⟨Nat.le_of_ble_eq_true rfl, Nat.le_of_ble_eq_true rfl, Nat.le_of_ble_eq_true rfl, Nat.le_of_ble_eq_true rfl⟩ ?_
        rw [imaxN (by omega) (by omega)]
        refine V_istore_n (lv' := [(3, .int (nI (max fu (rForm t (shp j) (shp j).length 0 p []).2.1))), (0, .ref (x + 147)), (1, .ref (x + 151 + 2 * k)), (2, .int (nI p)), (4, .int (nI j))]) dX2_readCommand_51 rfl (by decide) rfl ?_
        refine V_iinc (v := nI (j + 1)) (lv' := [(4, .int (nI (j + 1))), (3, .int (nI (max fu (rForm t (shp j) (shp j).length 0 p []).2.1))), (0, .ref (x + 147)), (1, .ref (x + 151 + 2 * k)), (2, .int (nI p))]) dX2_readCommand_52 4 rfl (iinc1 j) (by decide) rfl ?_
        refine V_goto (tgt := 13) dX2_readCommand_55 (by decide) ?_
        refine V.loc [2, 3, 4, 1, 0] rfl ?_
        exact ih (j + 1) _ _ h2 cm2 (by omega) (Nat.max_le.mpr ⟨hfu, hb⟩) hR2 (fun j hj => (hK2 j hj).trans (hK0 j hj)) (hO0.tr (hO1.tr hO2)) hr0
  refine V_aload_n dX2_readCommand_0 0 rfl ?_
  refine gf_rd_position hR dX2_readCommand_1 flX2_28 ?_
  refine V_istore_n (lv' := [(2, .int (nI p)), (0, .ref (x + 147)), (1, .ref (x + 151 + 2 * k))]) dX2_readCommand_4 rfl (by decide) rfl ?_
  refine V_aload_n dX2_readCommand_5 1 rfl ?_
  refine gf_rd_position hR dX2_readCommand_6 flX2_28 ?_
  refine V_istore_n (lv' := [(3, .int (nI p)), (2, .int (nI p)), (0, .ref (x + 147)), (1, .ref (x + 151 + 2 * k))]) dX2_readCommand_9 rfl (by decide) rfl ?_
  refine V_iconst (v := 0) dX2_readCommand_10 (by decide) ?_
  refine V_istore (lv' := [(4, .int 0), (3, .int (nI p)), (2, .int (nI p)), (0, .ref (x + 147)), (1, .ref (x + 151 + 2 * k))]) dX2_readCommand_11 (by decide) rfl ?_
  refine V.loc [3, 4, 2, 1, 0] rfl ?_
  exact L13 11 0 p p h cm (by omega) hp9 hR (fun _ _ => rfl) Outs.rf hr
set_option maxRecDepth 20000 in
set_option maxHeartbeats 1000000 in
theorem c_X2_readAll {X : KX} (hxs : X.1.stackTraces = false) (hg : GX X) {h : AH} {x : Nat} {cm : Nat → Nat × List Int32 × Int32} {cnt pos : Int32} {t : List Int32} (hR : RdRaw X h x cm cnt pos t) (ht : t.length ≤ 128) {r : Bool × Int32 × Nat × List (Nat × List Nat)} (hr : rAll t 16 [] 0 cnt = r) : Ct X mX2_readAll [.ref (x + 147)] h (zM (some (.int (if r.1 then 1 else 0))) (fun h' => (∃ cm', RdRaw X h' x cm' r.2.1 (nI r.2.2.1) t ∧ RdC cm' r.2.2.2) ∧ Outs h h' (x + 147) 36)) := by
  refine Ct.of (by decide) rfl (Nat.le_of_ble_eq_true rfl) rfl hxs ?_
  have L7 : ∀ (g p0 : Nat) (acc : List (Nat × List Nat)) (c0 : Int32) (h0 : AH) (cm0 : Nat → Nat × List Int32 × Int32), acc.length + g = 16 → p0 ≤ 128 → RdRaw X h0 x cm0 c0 (nI p0) t → RdC cm0 acc → Outs h h0 (x + 147) 36 → rAll t g acc p0 c0 = r → V X mX2_readAll (zF X mX2_readAll (zM (some (.int (if r.1 then 1 else 0))) (fun h' => (∃ cm', RdRaw X h' x cm' r.2.1 (nI r.2.2.1) t ∧ RdC cm' r.2.2.2) ∧ Outs h h' (x + 147) 36))) 0 0 7 [(0, .ref (x + 147)), (1, .int (nI acc.length))] [] h0 := by
    intro g
    induction g with
    | zero =>
      intro p0 acc c0 h0 cm0 hl hp0 hR0 hC0 hO0 hr0
      subst hr0
      refine V_iload_n dX2_readAll_7 1 rfl ?_
      refine V_bipush (v := 16) dX2_readAll_8 (by decide) ?_
      refine V_icmp_ge (tgt := 68) dX2_readAll_10 (by decide) (fun _ => ?_) (fun c9 => absurd (nI_le (a := 16) (by omega) (by omega)) c9)
      refine V_iconst (v := 0) dX2_readAll_68 (by decide) ?_
      exact V_zret dX2_readAll_69 rfl bN0 ⟨Nat.le_of_ble_eq_true rfl, Nat.le_of_ble_eq_true rfl⟩ ⟨rfl, ⟨_, hR0, hC0⟩, hO0⟩
    | succ g ih =>
      intro p0 acc c0 h0 cm0 hl hp0 hR0 hC0 hO0 hr0
      have hj1 : acc.length < 16 := by omega
      have hb := rCmd_bd ht p0 hp0 11 0 p0 hp0
      have hlt := rCmd_lt (t := t) (st := p0) 11 0 p0
      refine V_iload_n dX2_readAll_7 1 rfl ?_
      refine V_bipush (v := 16) dX2_readAll_8 (by decide) ?_
      refine V_icmp_ge (tgt := 68) dX2_readAll_10 (by decide) (fun c9 => absurd c9 (nI_ge (b := 16) hj1 (by decide))) (fun _ => ?_)
      refine V_aload_n dX2_readAll_13 0 rfl ?_
      refine V_aload_n dX2_readAll_14 0 rfl ?_
      refine gf_rd_commands hR0 dX2_readAll_15 flX2_20 ?_
      refine V_iload_n dX2_readAll_18 1 rfl ?_
      refine ld_rd hR0 hj1 dX2_readAll_19 ?_
      refine V_cVmi (As := [.ref (x + 151 + 2 * acc.length)]) (rest := []) dX2_readAll_20 cvX2_32 (c_X2_readCommand hxs hg hR0 ht hp0 hj1 rfl) hR0.1 rfl ⟨Nat.le_of_ble_eq_true rfl, Nat.le_of_ble_eq_true rfl, Nat.le_of_ble_eq_true rfl, Nat.le_of_ble_eq_true rfl⟩ (Nat.le_of_ble_eq_true rfl) rfl (fun h2 q2 => ?_)
      rw [rAll] at hr0
      generalize rCmd t p0 11 0 p0 = q at hb hlt q2 hr0 ⊢
      obtain ⟨⟨cm2, hR2, hI2, hK2⟩, hO2⟩ := q2
      have hC2 : ∀ (i : Nat) (e : Nat × List Nat), acc[i]? = some e → CmdIs (cm2 i) e.1 e.2 ∧ e.1 < 11 := fun i e he => by
        have hi := (List.getElem?_eq_some_iff.mp he).1
        rw [hK2 i (by omega)]
        exact hC0.2 i e he
      by_cases hc : q.1.isSome = true
      · rw [if_pos hc] at hr0 ⊢
        obtain ⟨f9, hf9⟩ := Option.isSome_iff_exists.mp hc
        have hg9 : q.1.getD 0 = f9 := by rw [hf9]; rfl
        have hC3 : RdC cm2 (acc ++ [(q.1.getD 0, q.2.2)]) := ⟨by simp; omega, fun i e he => by
          rcases Nat.lt_or_ge i acc.length with hi | hi
          · rw [List.getElem?_append_left hi] at he
            exact hC2 i e he
          · have hi2 := (List.getElem?_eq_some_iff.mp he).1
            have e0 : i = acc.length := by simp at hi2; omega
            subst e0
            rw [List.getElem?_append_right (Nat.le_refl _), Nat.sub_self] at he
            have e1 : (q.1.getD 0, q.2.2) = e := Option.some.inj he
            rw [← e1, hg9]
            exact ⟨hI2 f9 hf9, by have := (hlt f9 hf9).2; omega⟩⟩
        refine V_if_ne (tgt := 28) dX2_readAll_23 (by decide) (fun _ => ?_) (fun c9 => absurd c9 (by decide))
        refine V_aload_n dX2_readAll_28 0 rfl ?_
        refine V_iload_n dX2_readAll_29 1 rfl ?_
        refine V_iconst (v := 1) dX2_readAll_30 (by decide) ?_
        refine V_iadd dX2_readAll_31 ?_
        rw [show nI acc.length + 1 = nI (acc.length + 1) from nI_1 _]
        refine pf_rd_count hR2 dX2_readAll_32 flX2_24 (fun h3 hR3 hO3 => ?_)
        refine V_aload_n dX2_readAll_35 0 rfl ?_
        refine gf_rd_position hR3 dX2_readAll_36 flX2_28 ?_
        refine V_aload_n dX2_readAll_39 0 rfl ?_
        refine gf_rd_text hR3 dX2_readAll_40 flX2_12 ?_
        obtain ⟨v, L9, ml, hS, hv9, hT⟩ := id hR3.2.1
        have hl9 := hS.2.2.2.2.2.1
        refine V_cVg (As := []) (rest := [.int (nI q.2.1)]) (Q := fun h1 => h1 = h3) dX2_readAll_43 cuX2_36 (c_J4_length_8abf5 hxs hg hS.1) hS.1 rfl ⟨Nat.le_of_ble_eq_true rfl, Nat.le_of_ble_eq_true rfl, Nat.le_of_ble_eq_true rfl, Nat.le_of_ble_eq_true rfl⟩ (Nat.le_of_ble_eq_true rfl) rfl (fun h1 e1 => ?_)
        rw [e1]
        by_cases hd : t.length ≤ q.2.1
        · rw [if_pos hd] at hr0
          subst hr0
          refine V_icmp_lt (tgt := 51) dX2_readAll_46 (by decide) (fun c9 => absurd c9 (nI_nlt hd (by omega))) (fun _ => ?_)
          refine V_iconst (v := 1) dX2_readAll_49 (by decide) ?_
          exact V_zret dX2_readAll_50 rfl bN1 ⟨Nat.le_of_ble_eq_true rfl, Nat.le_of_ble_eq_true rfl⟩ ⟨rfl, ⟨_, hR3, hC3⟩, hO0.tr (hO2.tr hO3)⟩
        · rw [if_neg hd] at hr0
          refine V_icmp_lt (tgt := 51) dX2_readAll_46 (by decide) (fun _ => ?_) (fun c9 => absurd (nI_lt (Nat.lt_of_not_le hd) (by omega)) c9)
          refine V_aload_n dX2_readAll_51 0 rfl ?_
          refine V_bipush (v := 59) dX2_readAll_52 (by decide) ?_
          refine V_cVmi (As := [.int 59]) (rest := []) dX2_readAll_54 cvX2_40 (c_X2_readSign hxs hg hR3 (by omega) (c := 59) (by decide)) hR3.1 rfl ⟨Nat.le_of_ble_eq_true rfl, Nat.le_of_ble_eq_true rfl, Nat.le_of_ble_eq_true rfl, Nat.le_of_ble_eq_true rfl⟩ (Nat.le_of_ble_eq_true rfl) rfl (fun h4 q4 => ?_)
          obtain ⟨hR4, hO4⟩ := q4
          by_cases hs : sgB t q.2.1 59 = true
          · rw [if_pos hs] at hr0 hR4 ⊢
            have hsl := sgB_lt hs
            refine V_if_ne (tgt := 62) dX2_readAll_57 (by decide) (fun _ => ?_) (fun c9 => absurd c9 (by decide))
            refine V_iinc (v := nI (acc.length + 1)) (lv' := [(1, .int (nI (acc.length + 1))), (0, .ref (x + 147))]) dX2_readAll_62 1 rfl (iinc1 acc.length) (by decide) rfl ?_
            refine V_goto (tgt := 7) dX2_readAll_65 (by decide) ?_
            refine V.loc [1, 0] rfl ?_
            have hl2 : (acc ++ [(q.1.getD 0, q.2.2)]).length = acc.length + 1 := by simp
            have := ih (q.2.1 + 1) (acc ++ [(q.1.getD 0, q.2.2)]) (nI (acc.length + 1)) h4 cm2 (by omega) (by omega) hR4 hC3 (hO0.tr (hO2.tr (hO3.tr hO4))) hr0
            rw [hl2] at this
            exact this
          · rw [if_neg hs] at hr0 hR4 ⊢
            subst hr0
            refine V_if_ne (tgt := 62) dX2_readAll_57 (by decide) (fun c9 => absurd c9 (fun q9 => q9 rfl)) (fun _ => ?_)
            refine V_iconst (v := 0) dX2_readAll_60 (by decide) ?_
            exact V_zret dX2_readAll_61 rfl bN0 ⟨Nat.le_of_ble_eq_true rfl, Nat.le_of_ble_eq_true rfl⟩ ⟨rfl, ⟨_, hR4, hC3⟩, hO0.tr (hO2.tr (hO3.tr hO4))⟩
      · rw [if_neg hc] at hr0 ⊢
        subst hr0
        refine V_if_ne (tgt := 28) dX2_readAll_23 (by decide) (fun c9 => absurd c9 (fun q9 => q9 rfl)) (fun _ => ?_)
        refine V_iconst (v := 0) dX2_readAll_26 (by decide) ?_
        exact V_zret dX2_readAll_27 rfl bN0 ⟨Nat.le_of_ble_eq_true rfl, Nat.le_of_ble_eq_true rfl⟩ ⟨rfl, ⟨cm2, hR2, hC0.1, hC2⟩, hO0.tr hO2⟩
  refine V_aload_n dX2_readAll_0 0 rfl ?_
  refine V_iconst (v := 0) dX2_readAll_1 (by decide) ?_
  refine pf_rd_position hR dX2_readAll_2 flX2_28 (fun h1 hR1 hO1 => ?_)
  refine V_iconst (v := 0) dX2_readAll_5 (by decide) ?_
  refine V_istore_n (lv' := [(1, .int 0), (0, .ref (x + 147))]) dX2_readAll_6 rfl (by decide) rfl ?_
  refine V.loc [1, 0] rfl ?_
  exact L7 16 0 [] cnt h1 cm (by decide) (by decide) hR1 ⟨by decide, fun i e he => (by simp at he)⟩ hO1 hr
