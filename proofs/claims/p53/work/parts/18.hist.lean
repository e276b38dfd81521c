/-! ===== the history: a ring of nine sheets, as the list of what can be undone ===== -/
def T_X5_isPlace (place : Int32) : Int32 := (if place < 0 then 0 else (if 8 < place then 0 else 1))
set_option maxRecDepth 20000 in
set_option maxHeartbeats 2000000 in
theorem w_X5_isPlace {X : KX} (hxs : X.1.stackTraces = false) {h : AH} (place : Int32) {Z : ZT} {K : Int32 → Prop} (hK : ∀ r : Int32, K r → Z (.inl (some (.int r))) h) (hz : K (T_X5_isPlace place)) : Ct X mX5_isPlace [.int place] h Z := by
  refine Ct.of (by decide) rfl (Nat.le_of_ble_eq_true rfl) rfl hxs ?_
  unfold T_X5_isPlace at hz
  try dsimp only [tb] at hz
  refine V_iload_n dX5_isPlace_0 0 rfl ?_
  refine V_if_lt (tgt := 14) dX5_isPlace_1 (by decide) (fun c1 => ?_) (fun c1 => ?_)
  · rw [if_pos c1] at hz
    refine V_iconst (v := 0) dX5_isPlace_14 (by decide) ?_
    exact V_zret dX5_isPlace_15 rfl bN0 ⟨Nat.le_of_ble_eq_true rfl, Nat.le_of_ble_eq_true rfl⟩ (hK 0 hz)
  · rw [if_neg c1] at hz
    refine V_iload_n dX5_isPlace_4 0 rfl ?_
    refine V_bipush (v := 8) dX5_isPlace_5 (by decide) ?_
    refine V_icmp_gt (tgt := 14) dX5_isPlace_7 (by decide) (fun c2 => ?_) (fun c2 => ?_)
    · rw [if_pos c2] at hz
      refine V_iconst (v := 0) dX5_isPlace_14 (by decide) ?_
      exact V_zret dX5_isPlace_15 rfl bN0 ⟨Nat.le_of_ble_eq_true rfl, Nat.le_of_ble_eq_true rfl⟩ (hK 0 hz)
    · rw [if_neg c2] at hz
      refine V_iconst (v := 1) dX5_isPlace_10 (by decide) ?_
      refine V_goto (tgt := 15) dX5_isPlace_11 (by decide) ?_
      exact V_zret dX5_isPlace_15 rfl bN1 ⟨Nat.le_of_ble_eq_true rfl, Nat.le_of_ble_eq_true rfl⟩ (hK 1 hz)
theorem c_X5_isPlace {X : KX} (hxs : X.1.stackTraces = false) {h : AH} (place : Int32) : Ct X mX5_isPlace [.int place] h (zR (some (.int (T_X5_isPlace place))) h) := w_X5_isPlace hxs place  (K := fun r => r = T_X5_isPlace place) (fun r e => by subst e; exact ⟨rfl, rfl⟩) rfl
def HistRaw (X : KX) (h : AH) (t : Nat) (R : Nat → SH) (j c : Nat) : Prop := h.2 t = some (.inr (7, [.ref (t + 1), .int (nI j), .int (nI c)])) ∧ h.2 (t + 1) = some (aQ (kA X 4) 9 (fun i => some (t + 2 + 12 * i))) ∧ ∀ i, i < 9 → ∃ o, IsSh X h (t + 2 + 12 * i) (R i) o
theorem IsSh.out {X : KX} {h h' : AH} {s a w : Nat} {S : SH} {o : List Int32} (p : IsSh X h s S o) (q : Outs h h' a w) (d : a + w ≤ s ∨ s + 12 ≤ a) : IsSh X h' s S o := IsSheet.out p q d
theorem HistRaw.out {X : KX} {h h' : AH} {t a w : Nat} {R : Nat → SH} {j c : Nat} (p : HistRaw X h t R j c) (q : Outs h h' a w) (d : a + w ≤ t ∨ t + 110 ≤ a) : HistRaw X h' t R j c := ⟨(q.2 t (by omega)).trans p.1, (q.2 (t + 1) (by omega)).trans p.2.1, fun i hi => by
  obtain ⟨o, ho⟩ := p.2.2 i hi
  exact ⟨o, ho.out q (by omega)⟩⟩
def HistAt (X : KX) (h : AH) (t : Nat) (past : List SH) (pr : SH) : Prop := ∃ (R : Nat → SH) (j : Nat), j < 9 ∧ past.length ≤ 8 ∧ HistRaw X h t R j past.length ∧ (∀ i, i < 9 → SI (R i)) ∧ R j = pr ∧ ∀ (i : Nat) (S : SH), past[i]? = some S → R ((j + 8 - i) % 9) = S
theorem HistAt.out {X : KX} {h h' : AH} {t a w : Nat} {past : List SH} {pr : SH} (p : HistAt X h t past pr) (q : Outs h h' a w) (d : a + w ≤ t ∨ t + 110 ≤ a) : HistAt X h' t past pr := by
  obtain ⟨R, j, h1, h2, h3, h4, h5, h6⟩ := p
  exact ⟨R, j, h1, h2, h3.out q d, h4, h5, h6⟩
theorem HistAt.bump {X : KX} {h : AH} {t q : Nat} {past : List SH} {pr : SH} (p : HistAt X h t past pr) : HistAt X (hbump q h) t past pr := p
theorem pl1 {j : Nat} (h : j < 9) : T_X5_isPlace (nI j) = 1 := by
  unfold T_X5_isPlace
  rw [if_neg (nI_pos (by omega)), if_neg (show ¬ (8 : Int32) < nI j from nI_nlt (a := 8) (b := j) (by omega) (by omega))]
theorem C_copy {X : KX} (hxs : X.1.stackTraces = false) {h : AH} {a b : Nat} {S1 S : SH} {o1 o : List Int32} (hT : IsSh X h a S1 o1) (hQ : IsSh X h b S o) (hd : a + 12 ≤ b ∨ b + 12 ≤ a) (hk : KCh (z_kinds S)) : Ct X mX6_copyFrom [.ref a, .ref b] h (zM none (fun h' => IsSh X h' a S o1 ∧ Outs h h' a 12)) := c_X6_copyFrom hxs hT hQ hd hk
def updR (R : Nat → SH) (j : Nat) (S : SH) : Nat → SH := fun i => if i = j then S else R i
section VHI
variable {X : KX} {M : MI} {F : FT} {k n pc : Nat} {lv lv' : List (Nat × Value)} {rest : List Value} {h : AH} {Z : ZT}
theorem gf_hist_sheets {t idx j c : Nat} {R : Nat → SH} (p : HistRaw X h t R j c) (hdg : decode (mcc M) pc = .ok (.getfield idx, 3)) (hw : Cond.fieldLink (my M).cls idx "SilentOpera$History" "sheets" "[LSilentOpera$Sheet;" ∈ GW) (kk : V X M F k n (pc + 3) lv (.ref (t + 1) :: rest) h) : V X M F k n pc lv (.ref t :: rest) h := V_get 0 hdg hw iGX5 rfl (by decide) rfl p.1 rfl kk
theorem gf_hist_spare {t idx j c : Nat} {R : Nat → SH} (p : HistRaw X h t R j c) (hdg : decode (mcc M) pc = .ok (.getfield idx, 3)) (hw : Cond.fieldLink (my M).cls idx "SilentOpera$History" "spare" "I" ∈ GW) (kk : V X M F k n (pc + 3) lv (.int (nI j) :: rest) h) : V X M F k n pc lv (.ref t :: rest) h := V_get 1 hdg hw iGX5 rfl (by decide) rfl p.1 rfl kk
theorem gf_hist_count {t idx j c : Nat} {R : Nat → SH} (p : HistRaw X h t R j c) (hdg : decode (mcc M) pc = .ok (.getfield idx, 3)) (hw : Cond.fieldLink (my M).cls idx "SilentOpera$History" "count" "I" ∈ GW) (kk : V X M F k n (pc + 3) lv (.int (nI c) :: rest) h) : V X M F k n pc lv (.ref t :: rest) h := V_get 2 hdg hw iGX5 rfl (by decide) rfl p.1 rfl kk
theorem pf_hist_spare {t idx j c j2 : Nat} {R : Nat → SH} (p : HistRaw X h t R j c) (hdg : decode (mcc M) pc = .ok (.putfield idx, 3)) (hw : Cond.fieldLink (my M).cls idx "SilentOpera$History" "spare" "I" ∈ GW) (kk : ∀ h', HistRaw X h' t R j2 c → Outs h h' t 110 → V X M F k n (pc + 3) lv rest h') : V X M F k n pc lv (.int (nI j2) :: .ref t :: rest) h := V_put 1 hdg hw iGX5 tyX5_ok nmX5 rfl (by decide) rfl rfl rfl p.1 rfl rfl (by simp) (kk _ ⟨hput_at, (hput_ne (by omega)).trans p.2.1, fun i hi => by
  obtain ⟨o, ho⟩ := p.2.2 i hi
  exact ⟨o, ho.out (Outs.put (a := t) (w := 1) (by omega) (by omega)) (by omega)⟩⟩ (Outs.put (by omega) (by omega)))
theorem pf_hist_count {t idx j c c2 : Nat} {R : Nat → SH} (p : HistRaw X h t R j c) (hdg : decode (mcc M) pc = .ok (.putfield idx, 3)) (hw : Cond.fieldLink (my M).cls idx "SilentOpera$History" "count" "I" ∈ GW) (kk : ∀ h', HistRaw X h' t R j c2 → Outs h h' t 110 → V X M F k n (pc + 3) lv rest h') : V X M F k n pc lv (.int (nI c2) :: .ref t :: rest) h := V_put 2 hdg hw iGX5 tyX5_ok nmX5 rfl (by decide) rfl rfl rfl p.1 rfl rfl (by simp) (kk _ ⟨hput_at, (hput_ne (by omega)).trans p.2.1, fun i hi => by
  obtain ⟨o, ho⟩ := p.2.2 i hi
  exact ⟨o, ho.out (Outs.put (a := t) (w := 1) (by omega) (by omega)) (by omega)⟩⟩ (Outs.put (by omega) (by omega)))
theorem ld_hist {t j c i : Nat} {R : Nat → SH} (p : HistRaw X h t R j c) (hi : i < 9) (hdg : decode (mcc M) pc = .ok (.aaload, 1)) (kk : V X M F k n (pc + 1) lv (.ref (t + 2 + 12 * i) :: rest) h) : V X M F k n pc lv (.int (nI i) :: .ref (t + 1) :: rest) h := V_aald (t := 4) (C := "SilentOpera$Sheet") hdg rfl p.2.1 (vp_in_nI hi (by omega)) (by rw [nI_clamp (by omega)]) kk
end VHI
theorem imin8 {c : Nat} (h : c ≤ 8) : imin (nI c + 1) 8 = nI (min (c + 1) 8) := by
  rw [show nI c + 1 = nI (c + 1) from nI_1 c]
  unfold imin
  by_cases g : c = 8
  · subst g; decide
  · rw [if_neg (show ¬ (8 : Int32) < nI (c + 1) from nI_nlt (a := 8) (b := c + 1) (by omega) (by omega)), Nat.min_eq_left (by omega)]
set_option maxRecDepth 20000 in
set_option maxHeartbeats 1000000 in
theorem C_prepare {X : KX} (hxs : X.1.stackTraces = false) {h : AH} {t s : Nat} {past : List SH} {pr S : SH} {o : List Int32} (hH : HistAt X h t past pr) (hS : IsSh X h s S o) (hI : SI S) (hd : s + 12 ≤ t ∨ t + 110 ≤ s) : Ct X mX5_prepare [.ref t, .ref s] h (zM none (fun h' => HistAt X h' t past S ∧ IsSh X h' s S o ∧ Outs h h' t 110)) := by
  obtain ⟨R, j, hj, hlen, hH, hSI, hpr, hpast⟩ := hH
  refine Ct.of (by decide) rfl (Nat.le_of_ble_eq_true rfl) rfl hxs ?_
  refine V_aload_n dX5_prepare_0 0 rfl ?_
  refine gf_hist_spare hH dX5_prepare_1 flX5_17 ?_
  refine V_cSi (As := [.int (nI j)]) (rest := []) dX5_prepare_4 cvX5_25 (c_X5_isPlace hxs (nI j)) ⟨Nat.le_of_ble_eq_true rfl, Nat.le_of_ble_eq_true rfl, Nat.le_of_ble_eq_true rfl, Nat.le_of_ble_eq_true rfl⟩ (Nat.le_of_ble_eq_true rfl) rfl ?_
  rw [pl1 hj]
  refine V_if_eq (tgt := 23) dX5_prepare_7 (by decide) (fun c9 => absurd c9 (by decide)) (fun _ => ?_)
  refine V_aload_n dX5_prepare_10 0 rfl ?_
  refine gf_hist_sheets hH dX5_prepare_11 flX5_11 ?_
  refine V_aload_n dX5_prepare_14 0 rfl ?_
  refine gf_hist_spare hH dX5_prepare_15 flX5_17 ?_
  refine ld_hist hH hj dX5_prepare_18 ?_
  refine V_aload_n dX5_prepare_19 1 rfl ?_
  obtain ⟨o9, hQ⟩ := hH.2.2 j hj
  refine V_cVmv (As := [.ref s]) (rest := []) dX5_prepare_20 cvX5_29 (C_copy hxs hQ hS (by omega) hI) hQ.1 rfl ⟨Nat.le_of_ble_eq_true rfl, Nat.le_of_ble_eq_true rfl, Nat.le_of_ble_eq_true rfl, Nat.le_of_ble_eq_true rfl⟩ (Nat.le_of_ble_eq_true rfl) rfl (fun h1 q1 => ?_)
  obtain ⟨hQ1, hO1⟩ := q1
  have hO2 : Outs h h1 t 110 := hO1.up (by omega) (by omega)
  refine V_vret dX5_prepare_23 rfl ⟨Nat.le_of_ble_eq_true rfl, Nat.le_of_ble_eq_true rfl⟩ ⟨rfl, ⟨updR R j S, j, hj, hlen, ⟨(hO1.2 t (by omega)).trans hH.1, (hO1.2 (t + 1) (by omega)).trans hH.2.1, fun i hi => ?_⟩, fun i hi => ?_, if_pos rfl, fun i Q hq => ?_⟩, hS.out hO2 (by omega), hO2⟩
  · by_cases e : i = j
    · subst e; exact ⟨o9, by unfold updR; rw [if_pos rfl]; exact hQ1⟩
    · obtain ⟨o8, h8⟩ := hH.2.2 i hi
      exact ⟨o8, by unfold updR; rw [if_neg e]; exact h8.out hO1 (by omega)⟩
  · unfold updR; split
    · exact hI
    · exact hSI i hi
  · have hi : i < past.length := (List.getElem?_eq_some_iff.mp hq).1
    have hne : ¬ (j + 8 - i) % 9 = j := by omega
    unfold updR
    rw [if_neg hne]
    exact hpast i Q hq
set_option maxRecDepth 20000 in
set_option maxHeartbeats 1000000 in
theorem C_keep {X : KX} (hxs : X.1.stackTraces = false) {h : AH} {t : Nat} {past : List SH} {pr : SH} (hH : HistAt X h t past pr) : Ct X mX5_keep [.ref t] h (zM none (fun h' => (∃ pr', HistAt X h' t ((pr :: past).take 8) pr') ∧ Outs h h' t 110)) := by
  obtain ⟨R, j, hj, hlen, hH, hSI, hpr, hpast⟩ := hH
  refine Ct.of (by decide) rfl (Nat.le_of_ble_eq_true rfl) rfl hxs ?_
  have tail : ∀ (j2 : Nat), j2 = (j + 1) % 9 → V X mX5_keep (zF X mX5_keep (zM none (fun h' => (∃ pr', HistAt X h' t ((pr :: past).take 8) pr') ∧ Outs h h' t 110))) 0 0 20 [(0, .ref t)] [.int (nI j2), .ref t] h := by
    intro j2 e2
    refine pf_hist_spare hH dX5_keep_20 flX5_17 (fun h1 hH1 hO1 => ?_)
    refine V_aload_n dX5_keep_23 0 rfl ?_
    refine V_aload_n dX5_keep_24 0 rfl ?_
    refine gf_hist_count hH1 dX5_keep_25 flX5_21 ?_
    refine V_iconst (v := 1) dX5_keep_28 (by decide) ?_
    refine V_iadd dX5_keep_29 ?_
    refine V_bipush (v := 8) dX5_keep_30 (by decide) ?_
    refine V_mmin dX5_keep_32 mlX5_33 wMin ⟨Nat.le_of_ble_eq_true rfl, Nat.le_of_ble_eq_true rfl, Nat.le_of_ble_eq_true rfl, Nat.le_of_ble_eq_true rfl⟩ ?_
    rw [imin8 hlen]
    refine pf_hist_count hH1 dX5_keep_35 flX5_21 (fun h2 hH2 hO2 => ?_)
    have hl9 : ((pr :: past).take 8).length = min (past.length + 1) 8 := by rw [List.length_take, List.length_cons]; omega
    refine V_vret dX5_keep_38 rfl ⟨Nat.le_of_ble_eq_true rfl, Nat.le_of_ble_eq_true rfl⟩ ⟨rfl, ⟨R j2, R, j2, by omega, by rw [hl9]; omega, by rw [hl9]; exact hH2, hSI, rfl, fun i Q hq => ?_⟩, hO1.tr hO2⟩
    have hi : i < ((pr :: past).take 8).length := (List.getElem?_eq_some_iff.mp hq).1
    rw [hl9] at hi
    rw [List.getElem?_take_of_lt (by omega)] at hq
    match i, hq with
    | 0, hq =>
      have e9 : (j2 + 8 - 0) % 9 = j := by omega
      rw [e9, hpr]; exact Option.some.inj hq
    | i + 1, hq =>
      have hq : past[i]? = some Q := hq
      have e9 : (j2 + 8 - (i + 1)) % 9 = (j + 8 - i) % 9 := by omega
      rw [e9]; exact hpast i Q hq
  refine V_aload_n dX5_keep_0 0 rfl ?_
  refine V_aload_n dX5_keep_1 0 rfl ?_
  refine gf_hist_spare hH dX5_keep_2 flX5_17 ?_
  refine V_bipush (v := 8) dX5_keep_5 (by decide) ?_
  refine V_icmp_ge (tgt := 19) dX5_keep_7 (by decide) (fun c1 => ?_) (fun c1 => ?_)
  · have e1 : j = 8 := by
      rcases Nat.lt_or_ge j 8 with g | g
      · exact absurd c1 (nI_ge (a := j) (b := 8) g (by omega))
      · omega
    refine V_iconst (v := 0) dX5_keep_19 (by decide) ?_
    exact tail 0 (by omega)
  · have e1 : j < 8 := by
      rcases Nat.lt_or_ge j 8 with g | g
      · exact g
      · exact absurd (nI_le g (by omega)) c1
    refine V_aload_n dX5_keep_10 0 rfl ?_
    refine gf_hist_spare hH dX5_keep_11 flX5_17 ?_
    refine V_iconst (v := 1) dX5_keep_14 (by decide) ?_
    refine V_iadd dX5_keep_15 ?_
    rw [show nI j + 1 = nI (j + 1) from nI_1 j]
    refine V_goto (tgt := 20) dX5_keep_16 (by decide) ?_
    exact tail (j + 1) (by omega)
set_option maxRecDepth 20000 in
set_option maxHeartbeats 1000000 in
theorem C_rollBack {X : KX} (hxs : X.1.stackTraces = false) {h : AH} {t s j c : Nat} {R : Nat → SH} {Q : SH} {o : List Int32} (hH : HistRaw X h t R j c) (hj : j < 9) (hI : ∀ i, i < 9 → SI (R i)) (hS : IsSh X h s Q o) (hd : s + 12 ≤ t ∨ t + 110 ≤ s) : Ct X mX5_rollBack [.ref t, .ref s] h (zM none (fun h' => IsSh X h' s (R j) o ∧ Outs h h' s 12)) := by
  refine Ct.of (by decide) rfl (Nat.le_of_ble_eq_true rfl) rfl hxs ?_
  refine V_aload_n dX5_rollBack_0 0 rfl ?_
  refine gf_hist_spare hH dX5_rollBack_1 flX5_17 ?_
  refine V_cSi (As := [.int (nI j)]) (rest := []) dX5_rollBack_4 cvX5_25 (c_X5_isPlace hxs (nI j)) ⟨Nat.le_of_ble_eq_true rfl, Nat.le_of_ble_eq_true rfl, Nat.le_of_ble_eq_true rfl, Nat.le_of_ble_eq_true rfl⟩ (Nat.le_of_ble_eq_true rfl) rfl ?_
  rw [pl1 hj]
  refine V_if_eq (tgt := 23) dX5_rollBack_7 (by decide) (fun c9 => absurd c9 (by decide)) (fun _ => ?_)
  refine V_aload_n dX5_rollBack_10 1 rfl ?_
  refine V_aload_n dX5_rollBack_11 0 rfl ?_
  refine gf_hist_sheets hH dX5_rollBack_12 flX5_11 ?_
  refine V_aload_n dX5_rollBack_15 0 rfl ?_
  refine gf_hist_spare hH dX5_rollBack_16 flX5_17 ?_
  refine ld_hist hH hj dX5_rollBack_19 ?_
  obtain ⟨o9, hQ⟩ := hH.2.2 j hj
  refine V_cVmv (As := [.ref (t + 2 + 12 * j)]) (rest := []) dX5_rollBack_20 cvX5_29 (C_copy hxs hS hQ (by omega) (hI j hj)) hS.1 rfl ⟨Nat.le_of_ble_eq_true rfl, Nat.le_of_ble_eq_true rfl, Nat.le_of_ble_eq_true rfl, Nat.le_of_ble_eq_true rfl⟩ (Nat.le_of_ble_eq_true rfl) rfl (fun h1 q1 => ?_)
  exact V_vret dX5_rollBack_23 rfl ⟨Nat.le_of_ble_eq_true rfl, Nat.le_of_ble_eq_true rfl⟩ ⟨rfl, q1⟩
set_option maxRecDepth 20000 in
set_option maxHeartbeats 1000000 in
theorem C_takeBack {X : KX} (hxs : X.1.stackTraces = false) {h : AH} {t s : Nat} {past : List SH} {pr a Q : SH} {o : List Int32} (hH : HistAt X h t (a :: past) pr) (hS : IsSh X h s Q o) (hd : s + 12 ≤ t ∨ t + 110 ≤ s) (hd9 : t + 110 ≤ s ∨ s + 12 ≤ t) : Ct X mX5_takeBack [.ref t, .ref s] h (zM none (fun h' => ∃ h1, HistAt X h1 t past a ∧ Outs h h1 t 110 ∧ IsSh X h' s a o ∧ Outs h1 h' s 12)) := by
  obtain ⟨R, j, hj, hlen, hH, hSI, hpr, hpast⟩ := hH
  rw [List.length_cons] at hlen hH
  have e0 := hpast 0 a rfl
  refine Ct.of (by decide) rfl (Nat.le_of_ble_eq_true rfl) rfl hxs ?_
  have tail : ∀ (j2 : Nat), j2 = (j + 8) % 9 → V X mX5_takeBack (zF X mX5_takeBack (zM none (fun h' => ∃ h1, HistAt X h1 t past a ∧ Outs h h1 t 110 ∧ IsSh X h' s a o ∧ Outs h1 h' s 12))) 0 0 19 [(0, .ref t), (1, .ref s)] [.int (nI j2), .ref t] h := by
    intro j2 e2
    refine pf_hist_spare hH dX5_takeBack_19 flX5_17 (fun h1 hH1 hO1 => ?_)
    refine V_aload_n dX5_takeBack_22 0 rfl ?_
    refine V_dup dX5_takeBack_23 rfl ?_
    refine gf_hist_count hH1 dX5_takeBack_24 flX5_21 ?_
    refine V_iconst (v := 1) dX5_takeBack_27 (by decide) ?_
    refine V_isub dX5_takeBack_28 ?_
    rw [show nI (past.length + 1) - 1 = nI past.length from by rw [← nI_1]; exact Int32.add_sub_cancel _ _]
    refine pf_hist_count hH1 dX5_takeBack_29 flX5_21 (fun h2 hH2 hO2 => ?_)
    refine V_aload_n dX5_takeBack_32 0 rfl ?_
    refine V_aload_n dX5_takeBack_33 1 rfl ?_
    have e9 : (j + 8 - 0) % 9 = j2 := by omega
    have ej : R j2 = a := by rw [← e9]; exact e0
    have hO := hO1.tr hO2
    have hS2 := hS.out hO hd9
    refine V_cVmv (As := [.ref s]) (rest := []) dX5_takeBack_34 cvX5_39 (C_rollBack hxs hH2 (by omega) hSI hS2 hd) hH2.1 rfl ⟨Nat.le_of_ble_eq_true rfl, Nat.le_of_ble_eq_true rfl, Nat.le_of_ble_eq_true rfl, Nat.le_of_ble_eq_true rfl⟩ (Nat.le_of_ble_eq_true rfl) rfl (fun h3 q3 => ?_)
    obtain ⟨hS3, hO3⟩ := q3
    rw [ej] at hS3
    refine V_vret dX5_takeBack_37 rfl ⟨Nat.le_of_ble_eq_true rfl, Nat.le_of_ble_eq_true rfl⟩ ⟨rfl, h2, ⟨R, j2, by omega, by omega, hH2, hSI, ej, fun i Q hq => ?_⟩, hO, hS3, hO3⟩
    have hi : i < past.length := (List.getElem?_eq_some_iff.mp hq).1
    have e9 : (j2 + 8 - i) % 9 = (j + 8 - (i + 1)) % 9 := by omega
    rw [e9]; exact hpast (i + 1) Q hq
  refine V_aload_n dX5_takeBack_0 0 rfl ?_
  refine V_aload_n dX5_takeBack_1 0 rfl ?_
  refine gf_hist_spare hH dX5_takeBack_2 flX5_17 ?_
  refine V_if_le (tgt := 17) dX5_takeBack_5 (by decide) (fun c1 => ?_) (fun c1 => ?_)
  · have e1 : j = 0 := by
      rcases Nat.eq_zero_or_pos j with g | g
      · exact g
      · exact absurd c1 (nI_nle g (by omega))
    refine V_bipush (v := 8) dX5_takeBack_17 (by decide) ?_
    exact tail 8 (by omega)
  · have e1 : 0 < j := by
      rcases Nat.eq_zero_or_pos j with g | g
      · exact absurd (by rw [g]; decide) c1
      · exact g
    obtain ⟨i, rfl⟩ : ∃ i, j = i + 1 := ⟨j - 1, by omega⟩
    refine V_aload_n dX5_takeBack_8 0 rfl ?_
    refine gf_hist_spare hH dX5_takeBack_9 flX5_17 ?_
    refine V_iconst (v := 1) dX5_takeBack_12 (by decide) ?_
    refine V_isub dX5_takeBack_13 ?_
    rw [show nI (i + 1) - 1 = nI i from by rw [← nI_1]; exact Int32.add_sub_cancel _ _]
    refine V_goto (tgt := 19) dX5_takeBack_14 (by decide) ?_
    exact tail i (by omega)
set_option maxRecDepth 20000 in
set_option maxHeartbeats 1000000 in
theorem C_forget {X : KX} (hxs : X.1.stackTraces = false) {h : AH} {t : Nat} {past : List SH} {pr : SH} (hH : HistAt X h t past pr) : Ct X mX5_forget [.ref t] h (zM none (fun h' => HistAt X h' t [] pr ∧ Outs h h' t 110)) := by
  obtain ⟨R, j, hj, hlen, hH, hSI, hpr, hpast⟩ := hH
  refine Ct.of (by decide) rfl (Nat.le_of_ble_eq_true rfl) rfl hxs ?_
  refine V_aload_n dX5_forget_0 0 rfl ?_
  refine V_iconst (v := nI 0) dX5_forget_1 (by decide) ?_
  refine pf_hist_count hH dX5_forget_2 flX5_21 (fun h1 hH1 hO1 => ?_)
  exact V_vret dX5_forget_5 rfl ⟨Nat.le_of_ble_eq_true rfl, Nat.le_of_ble_eq_true rfl⟩ ⟨rfl, ⟨R, j, hj, by simp, hH1, hSI, hpr, fun i Q hq => by simp at hq⟩, hO1⟩
