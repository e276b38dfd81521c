/-! ===== copies of a tree and of a sheet ===== -/
section VCP
variable {X : KX} {M : MI} {F : FT} {k n pc : Nat} {lv lv' : List (Nat × Value)} {rest : List Value} {h : AH} {Z : ZT}
theorem cp_tree_ids {t o idx : Nat} {ids kinds players beats sizes lower higher od : List Int32} {root count : Int32} {ids2 kinds2 players2 beats2 sizes2 lower2 higher2 od2 : List Int32} {root2 count2 : Int32} (p : IsTree X h t ids kinds players beats sizes lower higher od root count) (q : IsTree X h o ids2 kinds2 players2 beats2 sizes2 lower2 higher2 od2 root2 count2) (hd : t + 9 ≤ o ∨ o + 9 ≤ t) (hdg : decode (mcc M) pc = .ok (.invokestatic idx, 3)) (hw : Cond.methodLink (my M).cls idx arraycopyName ∈ GW) (hroom : 1 ≤ (mR M).frames ∧ (rest.map fun v => v.category).sum + (nativeFrameWords "java/lang/System" "arraycopy" 5 + 11) ≤ (mR M).locals) (kk : ∀ h', IsTree X h' t ids2 kinds players beats sizes lower higher od root count → IsTree X h' o ids2 kinds2 players2 beats2 sizes2 lower2 higher2 od2 root2 count2 → Outs h h' t 9 → V X M F k n (pc + 3) lv rest h') : V X M F k n pc lv (.int 16 :: .int 0 :: .ref (t + 1) :: .int 0 :: .ref (o + 1) :: rest) h := V_copy (t := 0) (ty := .int) hdg hw wCpy rfl rfl q.2.1.1 p.2.1.1 (by rw [q.2.1.2]; rfl) (p.2.1.2.trans q.2.1.2.symm) (by rw [q.2.1.2]; decide) (fun i hi => rfl) hroom (kk _ (p.w_ids q.2.1.2) (q.out (Outs.put (a := t) (w := 9) (x := t + 1) (by omega) (by omega)) (by omega)) (Outs.put (by omega) (by omega)))
theorem cp_tree_kinds {t o idx : Nat} {ids kinds players beats sizes lower higher od : List Int32} {root count : Int32} {ids2 kinds2 players2 beats2 sizes2 lower2 higher2 od2 : List Int32} {root2 count2 : Int32} (p : IsTree X h t ids kinds players beats sizes lower higher od root count) (q : IsTree X h o ids2 kinds2 players2 beats2 sizes2 lower2 higher2 od2 root2 count2) (hd : t + 9 ≤ o ∨ o + 9 ≤ t) (hkc : (∀ i, i < 16 → fits .char (.int (kinds2.getD i 0)) = true)) (hdg : decode (mcc M) pc = .ok (.invokestatic idx, 3)) (hw : Cond.methodLink (my M).cls idx arraycopyName ∈ GW) (hroom : 1 ≤ (mR M).frames ∧ (rest.map fun v => v.category).sum + (nativeFrameWords "java/lang/System" "arraycopy" 5 + 11) ≤ (mR M).locals) (kk : ∀ h', IsTree X h' t ids kinds2 players beats sizes lower higher od root count → IsTree X h' o ids2 kinds2 players2 beats2 sizes2 lower2 higher2 od2 root2 count2 → Outs h h' t 9 → V X M F k n (pc + 3) lv rest h') : V X M F k n pc lv (.int 16 :: .int 0 :: .ref (t + 2) :: .int 0 :: .ref (o + 2) :: rest) h := V_copy (t := 1) (ty := .char) hdg hw wCpy rfl rfl q.2.2.1.1 p.2.2.1.1 (by rw [q.2.2.1.2]; rfl) (p.2.2.1.2.trans q.2.2.1.2.symm) (by rw [q.2.2.1.2]; decide) (fun i hi => hkc i (by rw [q.2.2.1.2] at hi; exact hi)) hroom (kk _ (p.w_kinds q.2.2.1.2) (q.out (Outs.put (a := t) (w := 9) (x := t + 2) (by omega) (by omega)) (by omega)) (Outs.put (by omega) (by omega)))
theorem cp_tree_players {t o idx : Nat} {ids kinds players beats sizes lower higher od : List Int32} {root count : Int32} {ids2 kinds2 players2 beats2 sizes2 lower2 higher2 od2 : List Int32} {root2 count2 : Int32} (p : IsTree X h t ids kinds players beats sizes lower higher od root count) (q : IsTree X h o ids2 kinds2 players2 beats2 sizes2 lower2 higher2 od2 root2 count2) (hd : t + 9 ≤ o ∨ o + 9 ≤ t) (hdg : decode (mcc M) pc = .ok (.invokestatic idx, 3)) (hw : Cond.methodLink (my M).cls idx arraycopyName ∈ GW) (hroom : 1 ≤ (mR M).frames ∧ (rest.map fun v => v.category).sum + (nativeFrameWords "java/lang/System" "arraycopy" 5 + 11) ≤ (mR M).locals) (kk : ∀ h', IsTree X h' t ids kinds players2 beats sizes lower higher od root count → IsTree X h' o ids2 kinds2 players2 beats2 sizes2 lower2 higher2 od2 root2 count2 → Outs h h' t 9 → V X M F k n (pc + 3) lv rest h') : V X M F k n pc lv (.int 16 :: .int 0 :: .ref (t + 3) :: .int 0 :: .ref (o + 3) :: rest) h := V_copy (t := 0) (ty := .int) hdg hw wCpy rfl rfl q.2.2.2.1.1 p.2.2.2.1.1 (by rw [q.2.2.2.1.2]; rfl) (p.2.2.2.1.2.trans q.2.2.2.1.2.symm) (by rw [q.2.2.2.1.2]; decide) (fun i hi => rfl) hroom (kk _ (p.w_players q.2.2.2.1.2) (q.out (Outs.put (a := t) (w := 9) (x := t + 3) (by omega) (by omega)) (by omega)) (Outs.put (by omega) (by omega)))
theorem cp_tree_beats {t o idx : Nat} {ids kinds players beats sizes lower higher od : List Int32} {root count : Int32} {ids2 kinds2 players2 beats2 sizes2 lower2 higher2 od2 : List Int32} {root2 count2 : Int32} (p : IsTree X h t ids kinds players beats sizes lower higher od root count) (q : IsTree X h o ids2 kinds2 players2 beats2 sizes2 lower2 higher2 od2 root2 count2) (hd : t + 9 ≤ o ∨ o + 9 ≤ t) (hdg : decode (mcc M) pc = .ok (.invokestatic idx, 3)) (hw : Cond.methodLink (my M).cls idx arraycopyName ∈ GW) (hroom : 1 ≤ (mR M).frames ∧ (rest.map fun v => v.category).sum + (nativeFrameWords "java/lang/System" "arraycopy" 5 + 11) ≤ (mR M).locals) (kk : ∀ h', IsTree X h' t ids kinds players beats2 sizes lower higher od root count → IsTree X h' o ids2 kinds2 players2 beats2 sizes2 lower2 higher2 od2 root2 count2 → Outs h h' t 9 → V X M F k n (pc + 3) lv rest h') : V X M F k n pc lv (.int 16 :: .int 0 :: .ref (t + 4) :: .int 0 :: .ref (o + 4) :: rest) h := V_copy (t := 0) (ty := .int) hdg hw wCpy rfl rfl q.2.2.2.2.1.1 p.2.2.2.2.1.1 (by rw [q.2.2.2.2.1.2]; rfl) (p.2.2.2.2.1.2.trans q.2.2.2.2.1.2.symm) (by rw [q.2.2.2.2.1.2]; decide) (fun i hi => rfl) hroom (kk _ (p.w_beats q.2.2.2.2.1.2) (q.out (Outs.put (a := t) (w := 9) (x := t + 4) (by omega) (by omega)) (by omega)) (Outs.put (by omega) (by omega)))
theorem cp_tree_sizes {t o idx : Nat} {ids kinds players beats sizes lower higher od : List Int32} {root count : Int32} {ids2 kinds2 players2 beats2 sizes2 lower2 higher2 od2 : List Int32} {root2 count2 : Int32} (p : IsTree X h t ids kinds players beats sizes lower higher od root count) (q : IsTree X h o ids2 kinds2 players2 beats2 sizes2 lower2 higher2 od2 root2 count2) (hd : t + 9 ≤ o ∨ o + 9 ≤ t) (hdg : decode (mcc M) pc = .ok (.invokestatic idx, 3)) (hw : Cond.methodLink (my M).cls idx arraycopyName ∈ GW) (hroom : 1 ≤ (mR M).frames ∧ (rest.map fun v => v.category).sum + (nativeFrameWords "java/lang/System" "arraycopy" 5 + 11) ≤ (mR M).locals) (kk : ∀ h', IsTree X h' t ids kinds players beats sizes2 lower higher od root count → IsTree X h' o ids2 kinds2 players2 beats2 sizes2 lower2 higher2 od2 root2 count2 → Outs h h' t 9 → V X M F k n (pc + 3) lv rest h') : V X M F k n pc lv (.int 16 :: .int 0 :: .ref (t + 5) :: .int 0 :: .ref (o + 5) :: rest) h := V_copy (t := 0) (ty := .int) hdg hw wCpy rfl rfl q.2.2.2.2.2.1.1 p.2.2.2.2.2.1.1 (by rw [q.2.2.2.2.2.1.2]; rfl) (p.2.2.2.2.2.1.2.trans q.2.2.2.2.2.1.2.symm) (by rw [q.2.2.2.2.2.1.2]; decide) (fun i hi => rfl) hroom (kk _ (p.w_sizes q.2.2.2.2.2.1.2) (q.out (Outs.put (a := t) (w := 9) (x := t + 5) (by omega) (by omega)) (by omega)) (Outs.put (by omega) (by omega)))
theorem cp_tree_lower {t o idx : Nat} {ids kinds players beats sizes lower higher od : List Int32} {root count : Int32} {ids2 kinds2 players2 beats2 sizes2 lower2 higher2 od2 : List Int32} {root2 count2 : Int32} (p : IsTree X h t ids kinds players beats sizes lower higher od root count) (q : IsTree X h o ids2 kinds2 players2 beats2 sizes2 lower2 higher2 od2 root2 count2) (hd : t + 9 ≤ o ∨ o + 9 ≤ t) (hdg : decode (mcc M) pc = .ok (.invokestatic idx, 3)) (hw : Cond.methodLink (my M).cls idx arraycopyName ∈ GW) (hroom : 1 ≤ (mR M).frames ∧ (rest.map fun v => v.category).sum + (nativeFrameWords "java/lang/System" "arraycopy" 5 + 11) ≤ (mR M).locals) (kk : ∀ h', IsTree X h' t ids kinds players beats sizes lower2 higher od root count → IsTree X h' o ids2 kinds2 players2 beats2 sizes2 lower2 higher2 od2 root2 count2 → Outs h h' t 9 → V X M F k n (pc + 3) lv rest h') : V X M F k n pc lv (.int 16 :: .int 0 :: .ref (t + 6) :: .int 0 :: .ref (o + 6) :: rest) h := V_copy (t := 0) (ty := .int) hdg hw wCpy rfl rfl q.2.2.2.2.2.2.1.1 p.2.2.2.2.2.2.1.1 (by rw [q.2.2.2.2.2.2.1.2]; rfl) (p.2.2.2.2.2.2.1.2.trans q.2.2.2.2.2.2.1.2.symm) (by rw [q.2.2.2.2.2.2.1.2]; decide) (fun i hi => rfl) hroom (kk _ (p.w_lower q.2.2.2.2.2.2.1.2) (q.out (Outs.put (a := t) (w := 9) (x := t + 6) (by omega) (by omega)) (by omega)) (Outs.put (by omega) (by omega)))
theorem cp_tree_higher {t o idx : Nat} {ids kinds players beats sizes lower higher od : List Int32} {root count : Int32} {ids2 kinds2 players2 beats2 sizes2 lower2 higher2 od2 : List Int32} {root2 count2 : Int32} (p : IsTree X h t ids kinds players beats sizes lower higher od root count) (q : IsTree X h o ids2 kinds2 players2 beats2 sizes2 lower2 higher2 od2 root2 count2) (hd : t + 9 ≤ o ∨ o + 9 ≤ t) (hdg : decode (mcc M) pc = .ok (.invokestatic idx, 3)) (hw : Cond.methodLink (my M).cls idx arraycopyName ∈ GW) (hroom : 1 ≤ (mR M).frames ∧ (rest.map fun v => v.category).sum + (nativeFrameWords "java/lang/System" "arraycopy" 5 + 11) ≤ (mR M).locals) (kk : ∀ h', IsTree X h' t ids kinds players beats sizes lower higher2 od root count → IsTree X h' o ids2 kinds2 players2 beats2 sizes2 lower2 higher2 od2 root2 count2 → Outs h h' t 9 → V X M F k n (pc + 3) lv rest h') : V X M F k n pc lv (.int 16 :: .int 0 :: .ref (t + 7) :: .int 0 :: .ref (o + 7) :: rest) h := V_copy (t := 0) (ty := .int) hdg hw wCpy rfl rfl q.2.2.2.2.2.2.2.1.1 p.2.2.2.2.2.2.2.1.1 (by rw [q.2.2.2.2.2.2.2.1.2]; rfl) (p.2.2.2.2.2.2.2.1.2.trans q.2.2.2.2.2.2.2.1.2.symm) (by rw [q.2.2.2.2.2.2.2.1.2]; decide) (fun i hi => rfl) hroom (kk _ (p.w_higher q.2.2.2.2.2.2.2.1.2) (q.out (Outs.put (a := t) (w := 9) (x := t + 7) (by omega) (by omega)) (by omega)) (Outs.put (by omega) (by omega)))
theorem cp_sheet_owed {s o idx : Nat} {ids kinds players beats sizes lower higher od owed mends : List Int32} {root count perf nid beat act lim hend hbt happ clash imp paid : Int32} {ids2 kinds2 players2 beats2 sizes2 lower2 higher2 od2 owed2 mends2 : List Int32} {root2 count2 perf2 nid2 beat2 act2 lim2 hend2 hbt2 happ2 clash2 imp2 paid2 : Int32} (p : IsSheet X h s ids kinds players beats sizes lower higher od root count owed mends perf nid beat act lim hend hbt happ clash imp paid) (q : IsSheet X h o ids2 kinds2 players2 beats2 sizes2 lower2 higher2 od2 root2 count2 owed2 mends2 perf2 nid2 beat2 act2 lim2 hend2 hbt2 happ2 clash2 imp2 paid2) (hd : s + 12 ≤ o ∨ o + 12 ≤ s) (hdg : decode (mcc M) pc = .ok (.invokestatic idx, 3)) (hw : Cond.methodLink (my M).cls idx arraycopyName ∈ GW) (hroom : 1 ≤ (mR M).frames ∧ (rest.map fun v => v.category).sum + (nativeFrameWords "java/lang/System" "arraycopy" 5 + 11) ≤ (mR M).locals) (kk : ∀ h', IsSheet X h' s ids kinds players beats sizes lower higher od root count owed2 mends perf nid beat act lim hend hbt happ clash imp paid → IsSheet X h' o ids2 kinds2 players2 beats2 sizes2 lower2 higher2 od2 root2 count2 owed2 mends2 perf2 nid2 beat2 act2 lim2 hend2 hbt2 happ2 clash2 imp2 paid2 → Outs h h' s 12 → V X M F k n (pc + 3) lv rest h') : V X M F k n pc lv (.int 6 :: .int 0 :: .ref (s + 10) :: .int 0 :: .ref (o + 10) :: rest) h := V_copy (t := 0) (ty := .int) hdg hw wCpy rfl rfl q.2.2.1.1 p.2.2.1.1 (by rw [q.2.2.1.2]; rfl) (p.2.2.1.2.trans q.2.2.1.2.symm) (by rw [q.2.2.1.2]; decide) (fun i hi => rfl) hroom (kk _ (p.w_owed q.2.2.1.2) (q.out (Outs.put (a := s) (w := 12) (x := s + 10) (by omega) (by omega)) (by omega)) (Outs.put (by omega) (by omega)))
theorem cp_sheet_mends {s o idx : Nat} {ids kinds players beats sizes lower higher od owed mends : List Int32} {root count perf nid beat act lim hend hbt happ clash imp paid : Int32} {ids2 kinds2 players2 beats2 sizes2 lower2 higher2 od2 owed2 mends2 : List Int32} {root2 count2 perf2 nid2 beat2 act2 lim2 hend2 hbt2 happ2 clash2 imp2 paid2 : Int32} (p : IsSheet X h s ids kinds players beats sizes lower higher od root count owed mends perf nid beat act lim hend hbt happ clash imp paid) (q : IsSheet X h o ids2 kinds2 players2 beats2 sizes2 lower2 higher2 od2 root2 count2 owed2 mends2 perf2 nid2 beat2 act2 lim2 hend2 hbt2 happ2 clash2 imp2 paid2) (hd : s + 12 ≤ o ∨ o + 12 ≤ s) (hdg : decode (mcc M) pc = .ok (.invokestatic idx, 3)) (hw : Cond.methodLink (my M).cls idx arraycopyName ∈ GW) (hroom : 1 ≤ (mR M).frames ∧ (rest.map fun v => v.category).sum + (nativeFrameWords "java/lang/System" "arraycopy" 5 + 11) ≤ (mR M).locals) (kk : ∀ h', IsSheet X h' s ids kinds players beats sizes lower higher od root count owed mends2 perf nid beat act lim hend hbt happ clash imp paid → IsSheet X h' o ids2 kinds2 players2 beats2 sizes2 lower2 higher2 od2 root2 count2 owed2 mends2 perf2 nid2 beat2 act2 lim2 hend2 hbt2 happ2 clash2 imp2 paid2 → Outs h h' s 12 → V X M F k n (pc + 3) lv rest h') : V X M F k n pc lv (.int 6 :: .int 0 :: .ref (s + 11) :: .int 0 :: .ref (o + 11) :: rest) h := V_copy (t := 0) (ty := .int) hdg hw wCpy rfl rfl q.2.2.2.1 p.2.2.2.1 (by rw [q.2.2.2.2]; rfl) (p.2.2.2.2.trans q.2.2.2.2.symm) (by rw [q.2.2.2.2]; decide) (fun i hi => rfl) hroom (kk _ (p.w_mends q.2.2.2.2) (q.out (Outs.put (a := s) (w := 12) (x := s + 11) (by omega) (by omega)) (by omega)) (Outs.put (by omega) (by omega)))
end VCP
set_option maxRecDepth 20000 in
set_option maxHeartbeats 2000000 in
theorem c_X3_copyFrom {X : KX} (hxs : X.1.stackTraces = false) {h : AH} {t o : Nat} {ids kinds players beats sizes lower higher od : List Int32} {root count : Int32} {ids2 kinds2 players2 beats2 sizes2 lower2 higher2 od2 : List Int32} {root2 count2 : Int32} (hT : IsTree X h t ids kinds players beats sizes lower higher od root count) (hQ : IsTree X h o ids2 kinds2 players2 beats2 sizes2 lower2 higher2 od2 root2 count2) (hd : t + 9 ≤ o ∨ o + 9 ≤ t) (hkc : (∀ i, i < 16 → fits .char (.int (kinds2.getD i 0)) = true)) : Ct X mX3_copyFrom [.ref t, .ref o] h (zM none (fun h' => IsTree X h' t ids2 kinds2 players2 beats2 sizes2 lower2 higher2 od root2 count2 ∧ Outs h h' t 9)) := by
  refine Ct.of (by decide) rfl (Nat.le_of_ble_eq_true rfl) rfl hxs ?_
  refine V_aload_n dX3_copyFrom_0 1 rfl ?_
  refine gf_tree_ids hQ dX3_copyFrom_1 flX3_9 ?_
  refine V_iconst (v := 0) dX3_copyFrom_4 (by decide) ?_
  refine V_aload_n dX3_copyFrom_5 0 rfl ?_
  refine gf_tree_ids hT dX3_copyFrom_6 flX3_9 ?_
  refine V_iconst (v := 0) dX3_copyFrom_9 (by decide) ?_
  refine V_bipush (v := 16) dX3_copyFrom_10 (by decide) ?_
  refine cp_tree_ids hT hQ hd dX3_copyFrom_12 mlX3_50 ⟨Nat.le_of_ble_eq_true rfl, Nat.le_of_ble_eq_true rfl⟩ (fun h1 hT1 hQ1 hO1 => ?_)
  refine V_aload_n dX3_copyFrom_15 1 rfl ?_
  refine gf_tree_kinds hQ1 dX3_copyFrom_16 flX3_15 ?_
  refine V_iconst (v := 0) dX3_copyFrom_19 (by decide) ?_
  refine V_aload_n dX3_copyFrom_20 0 rfl ?_
  refine gf_tree_kinds hT1 dX3_copyFrom_21 flX3_15 ?_
  refine V_iconst (v := 0) dX3_copyFrom_24 (by decide) ?_
  refine V_bipush (v := 16) dX3_copyFrom_25 (by decide) ?_
  refine cp_tree_kinds hT1 hQ1 hd hkc dX3_copyFrom_27 mlX3_50 ⟨Nat.le_of_ble_eq_true rfl, Nat.le_of_ble_eq_true rfl⟩ (fun h2 hT2 hQ2 hO2 => ?_)
  have hO2 := Outs.tr hO1 hO2
  refine V_aload_n dX3_copyFrom_30 1 rfl ?_
  refine gf_tree_players hQ2 dX3_copyFrom_31 flX3_19 ?_
  refine V_iconst (v := 0) dX3_copyFrom_34 (by decide) ?_
  refine V_aload_n dX3_copyFrom_35 0 rfl ?_
  refine gf_tree_players hT2 dX3_copyFrom_36 flX3_19 ?_
  refine V_iconst (v := 0) dX3_copyFrom_39 (by decide) ?_
  refine V_bipush (v := 16) dX3_copyFrom_40 (by decide) ?_
  refine cp_tree_players hT2 hQ2 hd dX3_copyFrom_42 mlX3_50 ⟨Nat.le_of_ble_eq_true rfl, Nat.le_of_ble_eq_true rfl⟩ (fun h3 hT3 hQ3 hO3 => ?_)
  have hO3 := Outs.tr hO2 hO3
  refine V_aload_n dX3_copyFrom_45 1 rfl ?_
  refine gf_tree_beats hQ3 dX3_copyFrom_46 flX3_22 ?_
  refine V_iconst (v := 0) dX3_copyFrom_49 (by decide) ?_
  refine V_aload_n dX3_copyFrom_50 0 rfl ?_
  refine gf_tree_beats hT3 dX3_copyFrom_51 flX3_22 ?_
  refine V_iconst (v := 0) dX3_copyFrom_54 (by decide) ?_
  refine V_bipush (v := 16) dX3_copyFrom_55 (by decide) ?_
  refine cp_tree_beats hT3 hQ3 hd dX3_copyFrom_57 mlX3_50 ⟨Nat.le_of_ble_eq_true rfl, Nat.le_of_ble_eq_true rfl⟩ (fun h4 hT4 hQ4 hO4 => ?_)
  have hO4 := Outs.tr hO3 hO4
  refine V_aload_n dX3_copyFrom_60 1 rfl ?_
  refine gf_tree_sizes hQ4 dX3_copyFrom_61 flX3_25 ?_
  refine V_iconst (v := 0) dX3_copyFrom_64 (by decide) ?_
  refine V_aload_n dX3_copyFrom_65 0 rfl ?_
  refine gf_tree_sizes hT4 dX3_copyFrom_66 flX3_25 ?_
  refine V_iconst (v := 0) dX3_copyFrom_69 (by decide) ?_
  refine V_bipush (v := 16) dX3_copyFrom_70 (by decide) ?_
  refine cp_tree_sizes hT4 hQ4 hd dX3_copyFrom_72 mlX3_50 ⟨Nat.le_of_ble_eq_true rfl, Nat.le_of_ble_eq_true rfl⟩ (fun h5 hT5 hQ5 hO5 => ?_)
  have hO5 := Outs.tr hO4 hO5
  refine V_aload_n dX3_copyFrom_75 1 rfl ?_
  refine gf_tree_lower hQ5 dX3_copyFrom_76 flX3_28 ?_
  refine V_iconst (v := 0) dX3_copyFrom_79 (by decide) ?_
  refine V_aload_n dX3_copyFrom_80 0 rfl ?_
  refine gf_tree_lower hT5 dX3_copyFrom_81 flX3_28 ?_
  refine V_iconst (v := 0) dX3_copyFrom_84 (by decide) ?_
  refine V_bipush (v := 16) dX3_copyFrom_85 (by decide) ?_
  refine cp_tree_lower hT5 hQ5 hd dX3_copyFrom_87 mlX3_50 ⟨Nat.le_of_ble_eq_true rfl, Nat.le_of_ble_eq_true rfl⟩ (fun h6 hT6 hQ6 hO6 => ?_)
  have hO6 := Outs.tr hO5 hO6
  refine V_aload_n dX3_copyFrom_90 1 rfl ?_
  refine gf_tree_higher hQ6 dX3_copyFrom_91 flX3_31 ?_
  refine V_iconst (v := 0) dX3_copyFrom_94 (by decide) ?_
  refine V_aload_n dX3_copyFrom_95 0 rfl ?_
  refine gf_tree_higher hT6 dX3_copyFrom_96 flX3_31 ?_
  refine V_iconst (v := 0) dX3_copyFrom_99 (by decide) ?_
  refine V_bipush (v := 16) dX3_copyFrom_100 (by decide) ?_
  refine cp_tree_higher hT6 hQ6 hd dX3_copyFrom_102 mlX3_50 ⟨Nat.le_of_ble_eq_true rfl, Nat.le_of_ble_eq_true rfl⟩ (fun h7 hT7 hQ7 hO7 => ?_)
  have hO7 := Outs.tr hO6 hO7
  refine V_aload_n dX3_copyFrom_105 0 rfl ?_
  refine V_aload_n dX3_copyFrom_106 1 rfl ?_
  refine gf_tree_root hQ7 dX3_copyFrom_107 flX3_37 ?_
  refine pf_tree_root hT7 dX3_copyFrom_110 flX3_37 (fun h8 hT8 hP8 => ?_)
  have hQ8 := hQ7.out hP8 hd
  have hO8 := Outs.tr hO7 hP8
  refine V_aload_n dX3_copyFrom_113 0 rfl ?_
  refine V_aload_n dX3_copyFrom_114 1 rfl ?_
  refine gf_tree_count hQ8 dX3_copyFrom_115 flX3_41 ?_
  refine pf_tree_count hT8 dX3_copyFrom_118 flX3_41 (fun h9 hT9 hP9 => ?_)
  have hQ9 := hQ8.out hP9 hd
  have hO9 := Outs.tr hO8 hP9
  exact V_vret dX3_copyFrom_121 rfl ⟨Nat.le_of_ble_eq_true rfl, Nat.le_of_ble_eq_true rfl⟩ ⟨rfl, hT9, hO9⟩
set_option maxRecDepth 20000 in
set_option maxHeartbeats 2000000 in
theorem c_X6_copyFrom {X : KX} (hxs : X.1.stackTraces = false) {h : AH} {s o : Nat} {ids kinds players beats sizes lower higher od owed mends : List Int32} {root count perf nid beat act lim hend hbt happ clash imp paid : Int32} {ids2 kinds2 players2 beats2 sizes2 lower2 higher2 od2 owed2 mends2 : List Int32} {root2 count2 perf2 nid2 beat2 act2 lim2 hend2 hbt2 happ2 clash2 imp2 paid2 : Int32} (hT : IsSheet X h s ids kinds players beats sizes lower higher od root count owed mends perf nid beat act lim hend hbt happ clash imp paid) (hQ : IsSheet X h o ids2 kinds2 players2 beats2 sizes2 lower2 higher2 od2 root2 count2 owed2 mends2 perf2 nid2 beat2 act2 lim2 hend2 hbt2 happ2 clash2 imp2 paid2) (hd : s + 12 ≤ o ∨ o + 12 ≤ s) (hkc : (∀ i, i < 16 → fits .char (.int (kinds2.getD i 0)) = true)) : Ct X mX6_copyFrom [.ref s, .ref o] h (zM none (fun h' => IsSheet X h' s ids2 kinds2 players2 beats2 sizes2 lower2 higher2 od root2 count2 owed2 mends2 perf2 nid2 beat2 act2 lim2 hend2 hbt2 happ2 clash2 imp2 paid2 ∧ Outs h h' s 12)) := by
  refine Ct.of (by decide) rfl (Nat.le_of_ble_eq_true rfl) rfl hxs ?_
  refine V_aload_n dX6_copyFrom_0 0 rfl ?_
  refine gf_sheet_cues hT dX6_copyFrom_1 flX6_12 ?_
  refine V_aload_n dX6_copyFrom_4 1 rfl ?_
  refine gf_sheet_cues hQ dX6_copyFrom_5 flX6_12 ?_
  refine V_cVmv (As := [.ref (o + 1)]) (rest := []) dX6_copyFrom_8 cvX6_65 (c_X3_copyFrom hxs hT.2.1 hQ.2.1 (by omega) hkc) hT.2.1.1 rfl ⟨Nat.le_of_ble_eq_true rfl, Nat.le_of_ble_eq_true rfl, Nat.le_of_ble_eq_true rfl, Nat.le_of_ble_eq_true rfl⟩ (Nat.le_of_ble_eq_true rfl) rfl (fun h1 q9 => ?_)
  obtain ⟨hT9, hO9⟩ := q9
  have hT1 := IsSheet.tree hT hT9 hO9
  have hQ1 := hQ.out hO9 (by omega)
  have hO1 := hO9.up (b := s) (v := 12) (by omega) (by omega)
  refine V_aload_n dX6_copyFrom_11 1 rfl ?_
  refine gf_sheet_owed hQ1 dX6_copyFrom_12 flX6_18 ?_
  refine V_iconst (v := 0) dX6_copyFrom_15 (by decide) ?_
  refine V_aload_n dX6_copyFrom_16 0 rfl ?_
  refine gf_sheet_owed hT1 dX6_copyFrom_17 flX6_18 ?_
  refine V_iconst (v := 0) dX6_copyFrom_20 (by decide) ?_
  refine V_bipush (v := 6) dX6_copyFrom_21 (by decide) ?_
  refine cp_sheet_owed hT1 hQ1 hd dX6_copyFrom_23 mlX6_69 ⟨Nat.le_of_ble_eq_true rfl, Nat.le_of_ble_eq_true rfl⟩ (fun h2 hT2 hQ2 hO2 => ?_)
  have hO2 := Outs.tr hO1 hO2
  refine V_aload_n dX6_copyFrom_26 1 rfl ?_
  refine gf_sheet_mends hQ2 dX6_copyFrom_27 flX6_22 ?_
  refine V_iconst (v := 0) dX6_copyFrom_30 (by decide) ?_
  refine V_aload_n dX6_copyFrom_31 0 rfl ?_
  refine gf_sheet_mends hT2 dX6_copyFrom_32 flX6_22 ?_
  refine V_iconst (v := 0) dX6_copyFrom_35 (by decide) ?_
  refine V_bipush (v := 6) dX6_copyFrom_36 (by decide) ?_
  refine cp_sheet_mends hT2 hQ2 hd dX6_copyFrom_38 mlX6_69 ⟨Nat.le_of_ble_eq_true rfl, Nat.le_of_ble_eq_true rfl⟩ (fun h3 hT3 hQ3 hO3 => ?_)
  have hO3 := Outs.tr hO2 hO3
  refine V_aload_n dX6_copyFrom_41 0 rfl ?_
  refine V_aload_n dX6_copyFrom_42 1 rfl ?_
  refine gf_sheet_perf hQ3 dX6_copyFrom_43 flX6_25 ?_
  refine pf_sheet_perf hT3 dX6_copyFrom_46 flX6_25 (fun h4 hT4 hP4 => ?_)
  have hQ4 := hQ3.out hP4 hd
  have hO4 := Outs.tr hO3 hP4
  refine V_aload_n dX6_copyFrom_49 0 rfl ?_
  refine V_aload_n dX6_copyFrom_50 1 rfl ?_
  refine gf_sheet_nid hQ4 dX6_copyFrom_51 flX6_29 ?_
  refine pf_sheet_nid hT4 dX6_copyFrom_54 flX6_29 (fun h5 hT5 hP5 => ?_)
  have hQ5 := hQ4.out hP5 hd
  have hO5 := Outs.tr hO4 hP5
  refine V_aload_n dX6_copyFrom_57 0 rfl ?_
  refine V_aload_n dX6_copyFrom_58 1 rfl ?_
  refine gf_sheet_beat hQ5 dX6_copyFrom_59 flX6_32 ?_
  refine pf_sheet_beat hT5 dX6_copyFrom_62 flX6_32 (fun h6 hT6 hP6 => ?_)
  have hQ6 := hQ5.out hP6 hd
  have hO6 := Outs.tr hO5 hP6
  refine V_aload_n dX6_copyFrom_65 0 rfl ?_
  refine V_aload_n dX6_copyFrom_66 1 rfl ?_
  refine gf_sheet_act hQ6 dX6_copyFrom_67 flX6_35 ?_
  refine pf_sheet_act hT6 dX6_copyFrom_70 flX6_35 (fun h7 hT7 hP7 => ?_)
  have hQ7 := hQ6.out hP7 hd
  have hO7 := Outs.tr hO6 hP7
  refine V_aload_n dX6_copyFrom_73 0 rfl ?_
  refine V_aload_n dX6_copyFrom_74 1 rfl ?_
  refine gf_sheet_lim hQ7 dX6_copyFrom_75 flX6_38 ?_
  refine pf_sheet_lim hT7 dX6_copyFrom_78 flX6_38 (fun h8 hT8 hP8 => ?_)
  have hQ8 := hQ7.out hP8 hd
  have hO8 := Outs.tr hO7 hP8
  refine V_aload_n dX6_copyFrom_81 0 rfl ?_
  refine V_aload_n dX6_copyFrom_82 1 rfl ?_
  refine gf_sheet_hend hQ8 dX6_copyFrom_83 flX6_41 ?_
  refine pf_sheet_hend hT8 dX6_copyFrom_86 flX6_41 (fun h9 hT9 hP9 => ?_)
  have hQ9 := hQ8.out hP9 hd
  have hO9 := Outs.tr hO8 hP9
  refine V_aload_n dX6_copyFrom_89 0 rfl ?_
  refine V_aload_n dX6_copyFrom_90 1 rfl ?_
  refine gf_sheet_hbt hQ9 dX6_copyFrom_91 flX6_44 ?_
  refine pf_sheet_hbt hT9 dX6_copyFrom_94 flX6_44 (fun h10 hT10 hP10 => ?_)
  have hQ10 := hQ9.out hP10 hd
  have hO10 := Outs.tr hO9 hP10
  refine V_aload_n dX6_copyFrom_97 0 rfl ?_
  refine V_aload_n dX6_copyFrom_98 1 rfl ?_
  refine gf_sheet_happ hQ10 dX6_copyFrom_99 flX6_47 ?_
  refine pf_sheet_happ hT10 dX6_copyFrom_102 flX6_47 (fun h11 hT11 hP11 => ?_)
  have hQ11 := hQ10.out hP11 hd
  have hO11 := Outs.tr hO10 hP11
  refine V_aload_n dX6_copyFrom_105 0 rfl ?_
  refine V_aload_n dX6_copyFrom_106 1 rfl ?_
  refine gf_sheet_clash hQ11 dX6_copyFrom_107 flX6_50 ?_
  refine pf_sheet_clash hT11 dX6_copyFrom_110 flX6_50 (fun h12 hT12 hP12 => ?_)
  have hQ12 := hQ11.out hP12 hd
  have hO12 := Outs.tr hO11 hP12
  refine V_aload_n dX6_copyFrom_113 0 rfl ?_
  refine V_aload_n dX6_copyFrom_114 1 rfl ?_
  refine gf_sheet_imp hQ12 dX6_copyFrom_115 flX6_53 ?_
  refine pf_sheet_imp hT12 dX6_copyFrom_118 flX6_53 (fun h13 hT13 hP13 => ?_)
  have hQ13 := hQ12.out hP13 hd
  have hO13 := Outs.tr hO12 hP13
  refine V_aload_n dX6_copyFrom_121 0 rfl ?_
  refine V_aload_n dX6_copyFrom_122 1 rfl ?_
  refine gf_sheet_paid hQ13 dX6_copyFrom_123 flX6_56 ?_
  refine pf_sheet_paid hT13 dX6_copyFrom_126 flX6_56 (fun h14 hT14 hP14 => ?_)
  have hQ14 := hQ13.out hP14 hd
  have hO14 := Outs.tr hO13 hP14
  exact V_vret dX6_copyFrom_129 rfl ⟨Nat.le_of_ble_eq_true rfl, Nat.le_of_ble_eq_true rfl⟩ ⟨rfl, hT14, hO14⟩
