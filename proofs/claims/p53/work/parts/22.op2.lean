/-! ===== the opera, second: what it tells ===== -/
theorem uhp_in {S : SH} {p : Int32} (h : ¬ U_hasPerformer S p = 0) : vp_in p 6 := hasPerf_in h
theorem silent01 {S : SH} {c : Int32} : U_isSilent S c = 0 ∨ U_isSilent S c = 1 := by
  unfold U_isSilent T_X6_isSilent
  repeat' split
  all_goals first | exact Or.inl rfl | exact Or.inr rfl
theorem open01 {S : SH} {c : Int32} : U_isOpen S c = 0 ∨ U_isOpen S c = 1 := by
  unfold U_isOpen T_X6_isOpen
  repeat' split
  all_goals first | exact Or.inl rfl | exact Or.inr rfl
theorem kch_nar {L : List Int32} {i : Int32} (h : KCh L) (hi : vp_in i 16) : narrow .char (.int (rd L i)) = .int (rd L i) := by
  have h1 := h i.toNatClampNeg hi.lt
  have h2 : fits .char (.int (rd L i)) = true := h1
  have h3 : 0 ≤ rd L i ∧ rd L i ≤ 65535 := by
    revert h2
    unfold fits
    intro h2
    simpa using h2
  generalize rd L i = v at h3 ⊢
  obtain ⟨j, hj, rfl⟩ := nI_of (show ¬ v < 0 from Int32.not_lt.mpr h3.1)
  refine (pk_charN ?_).1
  rcases Nat.lt_or_ge j 65536 with g | g
  · exact g
  · exact absurd (nI_lt (a := 65535) (b := j) (by omega) hj) (Int32.not_lt.mpr h3.2)
def U_slotAt (S : SH) (rank : Int32) : Int32 := (T_X3_slotAt (z_ids S) (z_beats S) (z_lower S) (z_higher S) od0 (z_root S) rank).1
theorem slotAt_od {ids beats lower higher o : List Int32} {root rank : Int32} (ho : o.length = 16) : (T_X3_slotAt ids beats lower higher o root rank).1 = (T_X3_slotAt ids beats lower higher od0 root rank).1 := by
  have hE := list_od (ids := ids) (beats := beats) (lower := lower) (higher := higher) (root := root) (b := 199) ho od0_len
  have hS := list_ok (ids := ids) (beats := beats) (lower := lower) (higher := higher) (root := root) (lastBeat := 199) ho
  unfold T_X3_slotAt tb
  generalize T_X3_listThrough ids beats lower higher o root 199 = A at hE hS ⊢
  generalize T_X3_listThrough ids beats lower higher od0 root 199 = B at hE ⊢
  dsimp only
  rw [← hE.1]
  by_cases c1 : rank < 0
  · simp only [if_pos c1]
  · by_cases c2 : A.1 ≤ rank
    · simp only [if_neg c1, if_pos c2]
    · by_cases c3 : 16 ≤ rank
      · simp only [if_neg c1, if_neg c2, if_pos c3]
      · simp only [if_neg c1, if_neg c2, if_neg c3]
        obtain ⟨j, hj, rfl⟩ := nI_of c1
        refine hE.2 j ?_
        rcases Nat.lt_or_ge j A.1.toNatClampNeg with g | g
        · exact g
        · exact absurd (by rw [hS.1.1]; exact nI_le g hj) c2
theorem C_slotAt {X : KX} (hxs : X.1.stackTraces = false) {h : AH} {s : Nat} {S : SH} {od : List Int32} (hS : IsSh X h s S od) (rank : Int32) : Ct X mX3_slotAt [.ref (s + 1), .int rank] h (zM (some (.int (U_slotAt S rank))) (fun h' => (∃ o, IsSh X h' s S o) ∧ Outs h h' s 12)) := by
  refine w_X3_slotAt hxs hS.2.1 rank (K := fun r => r = T_X3_slotAt (z_ids S) (z_beats S) (z_lower S) (z_higher S) od (z_root S) rank) (fun r h' hT hO e => ?_) rfl
  have e1 : r.1 = U_slotAt S rank := by rw [e]; exact slotAt_od hS.lod
  exact ⟨by rw [e1], ⟨_, IsSheet.tree hS hT hO⟩, hO.up (by omega) (by omega)⟩
def outV (L : List String) : Option Nat → Out
  | none => .inl none
  | some j => .inr (L.getD j "")
def zV (L : List String) (r : Option Nat) (Q : AH → Prop) : ZT := fun o h' => o = outV L r ∧ Q h'
section VC5
variable {X : KX} {M : MI} {F : FT} {k n pc : Nat} {lv lv' : List (Nat × Value)} {rest : List Value} {h : AH} {Z : ZT}
theorem V_cVv {M' : MI} {As : List Value} {b ci idx N : Nat} {fs : List Value} {T : u_T} {L : List String} {r : Option Nat} {Q : AH → Prop} (hdg : decode (mcc M) pc = .ok (.invokevirtual idx, 3)) (hcv : CallV (my M).cls idx M' As.length) (hC : Ct X M' (.ref b :: As) h (zV L r Q)) (hb : h.2 b = some (.inr (ci, fs))) (hcl : vwCl[ci]? = some ((my M').cls, T, N)) (hRm : RoomOK M M' k n) (hst : (rest.map fun v => v.category).sum ≤ 8) {st : List Value} (hstk : st = As.reverse ++ .ref b :: rest) (ks : ∀ h', r = none → Q h' → V X M F (k + (mR M').cells) (n + (mR M').slots) (pc + 3) lv rest h') (kx : ∀ j h', r = some j → Q h' → VX X M F (k + (mR M').cells) (n + (mR M').slots) pc lv (L.getD j "") h') : V X M F k n pc lv st h :=
  V_callV hdg hcv hC hb hcl hRm hst hstk (fun v h' hz => by
    obtain ⟨e, q⟩ := hz
    cases r with
    | none => cases e; exact ks h' rfl q
    | some j => cases e) (fun E h' hz => by
    obtain ⟨e, q⟩ := hz
    cases r with
    | none => cases e
    | some j => cases e; exact kx j h' rfl q)
end VC5
def T_X7_performerCount (S : SH) : Int32 := (z_perf S)
set_option maxRecDepth 20000 in
set_option maxHeartbeats 2000000 in
theorem w_X7_performerCount {X : KX} (hxs : X.1.stackTraces = false) (hg : GX X) {h : AH} {x : Nat} {S : SH} {past : List SH} {N : SH} {hs le lc lf : Int32} {txt ln : List Int32} (hW : OpW X h x S past N hs le lc lf txt ln) {Z : ZT} {K : Int32 → Prop} (hK : ∀ (r : Int32) (h' : AH), OpW X h' x S past N hs le lc lf txt ln → K r → Z (.inl (some (.int r))) h') (hz : K (T_X7_performerCount S)) : Ct X mX7_performerCount [.ref x] h Z := by
  refine Ct.of (by decide) rfl (Nat.le_of_ble_eq_true rfl) rfl hxs ?_
  unfold T_X7_performerCount at hz
  try dsimp only [tb] at hz
  obtain ⟨pr, hO⟩ := hW
  obtain ⟨oS1, hS1⟩ := hO.2.2.2.2.1
  refine V_aload_n dX7_performerCount_0 0 rfl ?_
  refine gf_op_sheet hO dX7_performerCount_1 flX7_12 ?_
  refine gf_sheet_perf hS1 dX7_performerCount_4 flX7_75 ?_
  exact V_iret dX7_performerCount_7 rfl ⟨Nat.le_of_ble_eq_true rfl, Nat.le_of_ble_eq_true rfl⟩ (hK (z_perf S) _ ⟨_, hO⟩ hz)
theorem c_X7_performerCount {X : KX} (hxs : X.1.stackTraces = false) (hg : GX X) {h : AH} {x : Nat} {S : SH} {past : List SH} {N : SH} {hs le lc lf : Int32} {txt ln : List Int32} (hW : OpW X h x S past N hs le lc lf txt ln) : Ct X mX7_performerCount [.ref x] h (zM (some (.int (T_X7_performerCount S))) (fun h' => OpW X h' x S past N hs le lc lf txt ln)) := w_X7_performerCount hxs hg hW   (K := fun r => r = T_X7_performerCount S) (fun r h' a e => by subst e; exact ⟨rfl, a⟩) rfl
def T_X7_cueCount (S : SH) : Int32 := (z_count S)
set_option maxRecDepth 20000 in
set_option maxHeartbeats 2000000 in
theorem w_X7_cueCount {X : KX} (hxs : X.1.stackTraces = false) (hg : GX X) {h : AH} {x : Nat} {S : SH} {past : List SH} {N : SH} {hs le lc lf : Int32} {txt ln : List Int32} (hW : OpW X h x S past N hs le lc lf txt ln) {Z : ZT} {K : Int32 → Prop} (hK : ∀ (r : Int32) (h' : AH), OpW X h' x S past N hs le lc lf txt ln → K r → Z (.inl (some (.int r))) h') (hz : K (T_X7_cueCount S)) : Ct X mX7_cueCount [.ref x] h Z := by
  refine Ct.of (by decide) rfl (Nat.le_of_ble_eq_true rfl) rfl hxs ?_
  unfold T_X7_cueCount at hz
  try dsimp only [tb] at hz
  obtain ⟨pr, hO⟩ := hW
  obtain ⟨oS1, hS1⟩ := hO.2.2.2.2.1
  refine V_aload_n dX7_cueCount_0 0 rfl ?_
  refine gf_op_sheet hO dX7_cueCount_1 flX7_12 ?_
  refine gf_sheet_cues hS1 dX7_cueCount_4 flX7_148 ?_
  refine gf_tree_count hS1.2.1 dX7_cueCount_7 flX7_152 ?_
  exact V_iret dX7_cueCount_10 rfl ⟨Nat.le_of_ble_eq_true rfl, Nat.le_of_ble_eq_true rfl⟩ (hK (z_count S) _ ⟨_, hO⟩ hz)
theorem c_X7_cueCount {X : KX} (hxs : X.1.stackTraces = false) (hg : GX X) {h : AH} {x : Nat} {S : SH} {past : List SH} {N : SH} {hs le lc lf : Int32} {txt ln : List Int32} (hW : OpW X h x S past N hs le lc lf txt ln) : Ct X mX7_cueCount [.ref x] h (zM (some (.int (T_X7_cueCount S))) (fun h' => OpW X h' x S past N hs le lc lf txt ln)) := w_X7_cueCount hxs hg hW   (K := fun r => r = T_X7_cueCount S) (fun r h' a e => by subst e; exact ⟨rfl, a⟩) rfl
def T_X7_now (S : SH) : Int32 := (z_beat S)
set_option maxRecDepth 20000 in
set_option maxHeartbeats 2000000 in
theorem w_X7_now {X : KX} (hxs : X.1.stackTraces = false) (hg : GX X) {h : AH} {x : Nat} {S : SH} {past : List SH} {N : SH} {hs le lc lf : Int32} {txt ln : List Int32} (hW : OpW X h x S past N hs le lc lf txt ln) {Z : ZT} {K : Int32 → Prop} (hK : ∀ (r : Int32) (h' : AH), OpW X h' x S past N hs le lc lf txt ln → K r → Z (.inl (some (.int r))) h') (hz : K (T_X7_now S)) : Ct X mX7_now [.ref x] h Z := by
  refine Ct.of (by decide) rfl (Nat.le_of_ble_eq_true rfl) rfl hxs ?_
  unfold T_X7_now at hz
  try dsimp only [tb] at hz
  obtain ⟨pr, hO⟩ := hW
  obtain ⟨oS1, hS1⟩ := hO.2.2.2.2.1
  refine V_aload_n dX7_now_0 0 rfl ?_
  refine gf_op_sheet hO dX7_now_1 flX7_12 ?_
  refine gf_sheet_beat hS1 dX7_now_4 flX7_230 ?_
  exact V_iret dX7_now_7 rfl ⟨Nat.le_of_ble_eq_true rfl, Nat.le_of_ble_eq_true rfl⟩ (hK (z_beat S) _ ⟨_, hO⟩ hz)
theorem c_X7_now {X : KX} (hxs : X.1.stackTraces = false) (hg : GX X) {h : AH} {x : Nat} {S : SH} {past : List SH} {N : SH} {hs le lc lf : Int32} {txt ln : List Int32} (hW : OpW X h x S past N hs le lc lf txt ln) : Ct X mX7_now [.ref x] h (zM (some (.int (T_X7_now S))) (fun h' => OpW X h' x S past N hs le lc lf txt ln)) := w_X7_now hxs hg hW   (K := fun r => r = T_X7_now S) (fun r h' a e => by subst e; exact ⟨rfl, a⟩) rfl
def T_X7_act (S : SH) : Int32 := (z_act S)
set_option maxRecDepth 20000 in
set_option maxHeartbeats 2000000 in
theorem w_X7_act {X : KX} (hxs : X.1.stackTraces = false) (hg : GX X) {h : AH} {x : Nat} {S : SH} {past : List SH} {N : SH} {hs le lc lf : Int32} {txt ln : List Int32} (hW : OpW X h x S past N hs le lc lf txt ln) {Z : ZT} {K : Int32 → Prop} (hK : ∀ (r : Int32) (h' : AH), OpW X h' x S past N hs le lc lf txt ln → K r → Z (.inl (some (.int r))) h') (hz : K (T_X7_act S)) : Ct X mX7_act [.ref x] h Z := by
  refine Ct.of (by decide) rfl (Nat.le_of_ble_eq_true rfl) rfl hxs ?_
  unfold T_X7_act at hz
  try dsimp only [tb] at hz
  obtain ⟨pr, hO⟩ := hW
  obtain ⟨oS1, hS1⟩ := hO.2.2.2.2.1
  refine V_aload_n dX7_act_0 0 rfl ?_
  refine gf_op_sheet hO dX7_act_1 flX7_12 ?_
  refine gf_sheet_act hS1 dX7_act_4 flX7_233 ?_
  exact V_iret dX7_act_7 rfl ⟨Nat.le_of_ble_eq_true rfl, Nat.le_of_ble_eq_true rfl⟩ (hK (z_act S) _ ⟨_, hO⟩ hz)
theorem c_X7_act {X : KX} (hxs : X.1.stackTraces = false) (hg : GX X) {h : AH} {x : Nat} {S : SH} {past : List SH} {N : SH} {hs le lc lf : Int32} {txt ln : List Int32} (hW : OpW X h x S past N hs le lc lf txt ln) : Ct X mX7_act [.ref x] h (zM (some (.int (T_X7_act S))) (fun h' => OpW X h' x S past N hs le lc lf txt ln)) := w_X7_act hxs hg hW   (K := fun r => r = T_X7_act S) (fun r h' a e => by subst e; exact ⟨rfl, a⟩) rfl
def T_X7_happenedCount (S : SH) : Int32 := (z_happ S)
set_option maxRecDepth 20000 in
set_option maxHeartbeats 2000000 in
theorem w_X7_happenedCount {X : KX} (hxs : X.1.stackTraces = false) (hg : GX X) {h : AH} {x : Nat} {S : SH} {past : List SH} {N : SH} {hs le lc lf : Int32} {txt ln : List Int32} (hW : OpW X h x S past N hs le lc lf txt ln) {Z : ZT} {K : Int32 → Prop} (hK : ∀ (r : Int32) (h' : AH), OpW X h' x S past N hs le lc lf txt ln → K r → Z (.inl (some (.int r))) h') (hz : K (T_X7_happenedCount S)) : Ct X mX7_happenedCount [.ref x] h Z := by
  refine Ct.of (by decide) rfl (Nat.le_of_ble_eq_true rfl) rfl hxs ?_
  unfold T_X7_happenedCount at hz
  try dsimp only [tb] at hz
  obtain ⟨pr, hO⟩ := hW
  obtain ⟨oS1, hS1⟩ := hO.2.2.2.2.1
  refine V_aload_n dX7_happenedCount_0 0 rfl ?_
  refine gf_op_sheet hO dX7_happenedCount_1 flX7_12 ?_
  refine gf_sheet_happ hS1 dX7_happenedCount_4 flX7_252 ?_
  exact V_iret dX7_happenedCount_7 rfl ⟨Nat.le_of_ble_eq_true rfl, Nat.le_of_ble_eq_true rfl⟩ (hK (z_happ S) _ ⟨_, hO⟩ hz)
theorem c_X7_happenedCount {X : KX} (hxs : X.1.stackTraces = false) (hg : GX X) {h : AH} {x : Nat} {S : SH} {past : List SH} {N : SH} {hs le lc lf : Int32} {txt ln : List Int32} (hW : OpW X h x S past N hs le lc lf txt ln) : Ct X mX7_happenedCount [.ref x] h (zM (some (.int (T_X7_happenedCount S))) (fun h' => OpW X h' x S past N hs le lc lf txt ln)) := w_X7_happenedCount hxs hg hW   (K := fun r => r = T_X7_happenedCount S) (fun r h' a e => by subst e; exact ⟨rfl, a⟩) rfl
def T_X7_clashCount (S : SH) : Int32 := (z_clash S)
set_option maxRecDepth 20000 in
set_option maxHeartbeats 2000000 in
theorem w_X7_clashCount {X : KX} (hxs : X.1.stackTraces = false) (hg : GX X) {h : AH} {x : Nat} {S : SH} {past : List SH} {N : SH} {hs le lc lf : Int32} {txt ln : List Int32} (hW : OpW X h x S past N hs le lc lf txt ln) {Z : ZT} {K : Int32 → Prop} (hK : ∀ (r : Int32) (h' : AH), OpW X h' x S past N hs le lc lf txt ln → K r → Z (.inl (some (.int r))) h') (hz : K (T_X7_clashCount S)) : Ct X mX7_clashCount [.ref x] h Z := by
  refine Ct.of (by decide) rfl (Nat.le_of_ble_eq_true rfl) rfl hxs ?_
  unfold T_X7_clashCount at hz
  try dsimp only [tb] at hz
  obtain ⟨pr, hO⟩ := hW
  obtain ⟨oS1, hS1⟩ := hO.2.2.2.2.1
  refine V_aload_n dX7_clashCount_0 0 rfl ?_
  refine gf_op_sheet hO dX7_clashCount_1 flX7_12 ?_
  refine gf_sheet_clash hS1 dX7_clashCount_4 flX7_255 ?_
  exact V_iret dX7_clashCount_7 rfl ⟨Nat.le_of_ble_eq_true rfl, Nat.le_of_ble_eq_true rfl⟩ (hK (z_clash S) _ ⟨_, hO⟩ hz)
theorem c_X7_clashCount {X : KX} (hxs : X.1.stackTraces = false) (hg : GX X) {h : AH} {x : Nat} {S : SH} {past : List SH} {N : SH} {hs le lc lf : Int32} {txt ln : List Int32} (hW : OpW X h x S past N hs le lc lf txt ln) : Ct X mX7_clashCount [.ref x] h (zM (some (.int (T_X7_clashCount S))) (fun h' => OpW X h' x S past N hs le lc lf txt ln)) := w_X7_clashCount hxs hg hW   (K := fun r => r = T_X7_clashCount S) (fun r h' a e => by subst e; exact ⟨rfl, a⟩) rfl
def T_X7_imposedTotal (S : SH) : Int32 := (z_imp S)
set_option maxRecDepth 20000 in
set_option maxHeartbeats 2000000 in
theorem w_X7_imposedTotal {X : KX} (hxs : X.1.stackTraces = false) (hg : GX X) {h : AH} {x : Nat} {S : SH} {past : List SH} {N : SH} {hs le lc lf : Int32} {txt ln : List Int32} (hW : OpW X h x S past N hs le lc lf txt ln) {Z : ZT} {K : Int32 → Prop} (hK : ∀ (r : Int32) (h' : AH), OpW X h' x S past N hs le lc lf txt ln → K r → Z (.inl (some (.int r))) h') (hz : K (T_X7_imposedTotal S)) : Ct X mX7_imposedTotal [.ref x] h Z := by
  refine Ct.of (by decide) rfl (Nat.le_of_ble_eq_true rfl) rfl hxs ?_
  unfold T_X7_imposedTotal at hz
  try dsimp only [tb] at hz
  obtain ⟨pr, hO⟩ := hW
  obtain ⟨oS1, hS1⟩ := hO.2.2.2.2.1
  refine V_aload_n dX7_imposedTotal_0 0 rfl ?_
  refine gf_op_sheet hO dX7_imposedTotal_1 flX7_12 ?_
  refine gf_sheet_imp hS1 dX7_imposedTotal_4 flX7_258 ?_
  exact V_iret dX7_imposedTotal_7 rfl ⟨Nat.le_of_ble_eq_true rfl, Nat.le_of_ble_eq_true rfl⟩ (hK (z_imp S) _ ⟨_, hO⟩ hz)
theorem c_X7_imposedTotal {X : KX} (hxs : X.1.stackTraces = false) (hg : GX X) {h : AH} {x : Nat} {S : SH} {past : List SH} {N : SH} {hs le lc lf : Int32} {txt ln : List Int32} (hW : OpW X h x S past N hs le lc lf txt ln) : Ct X mX7_imposedTotal [.ref x] h (zM (some (.int (T_X7_imposedTotal S))) (fun h' => OpW X h' x S past N hs le lc lf txt ln)) := w_X7_imposedTotal hxs hg hW   (K := fun r => r = T_X7_imposedTotal S) (fun r h' a e => by subst e; exact ⟨rfl, a⟩) rfl
def T_X7_paidTotal (S : SH) : Int32 := (z_paid S)
set_option maxRecDepth 20000 in
set_option maxHeartbeats 2000000 in
theorem w_X7_paidTotal {X : KX} (hxs : X.1.stackTraces = false) (hg : GX X) {h : AH} {x : Nat} {S : SH} {past : List SH} {N : SH} {hs le lc lf : Int32} {txt ln : List Int32} (hW : OpW X h x S past N hs le lc lf txt ln) {Z : ZT} {K : Int32 → Prop} (hK : ∀ (r : Int32) (h' : AH), OpW X h' x S past N hs le lc lf txt ln → K r → Z (.inl (some (.int r))) h') (hz : K (T_X7_paidTotal S)) : Ct X mX7_paidTotal [.ref x] h Z := by
  refine Ct.of (by decide) rfl (Nat.le_of_ble_eq_true rfl) rfl hxs ?_
  unfold T_X7_paidTotal at hz
  try dsimp only [tb] at hz
  obtain ⟨pr, hO⟩ := hW
  obtain ⟨oS1, hS1⟩ := hO.2.2.2.2.1
  refine V_aload_n dX7_paidTotal_0 0 rfl ?_
  refine gf_op_sheet hO dX7_paidTotal_1 flX7_12 ?_
  refine gf_sheet_paid hS1 dX7_paidTotal_4 flX7_261 ?_
  exact V_iret dX7_paidTotal_7 rfl ⟨Nat.le_of_ble_eq_true rfl, Nat.le_of_ble_eq_true rfl⟩ (hK (z_paid S) _ ⟨_, hO⟩ hz)
theorem c_X7_paidTotal {X : KX} (hxs : X.1.stackTraces = false) (hg : GX X) {h : AH} {x : Nat} {S : SH} {past : List SH} {N : SH} {hs le lc lf : Int32} {txt ln : List Int32} (hW : OpW X h x S past N hs le lc lf txt ln) : Ct X mX7_paidTotal [.ref x] h (zM (some (.int (T_X7_paidTotal S))) (fun h' => OpW X h' x S past N hs le lc lf txt ln)) := w_X7_paidTotal hxs hg hW   (K := fun r => r = T_X7_paidTotal S) (fun r h' a e => by subst e; exact ⟨rfl, a⟩) rfl
def T_X7_conflictCount (S : SH) : Int32 := (T_X3_conflicts (z_kinds S) (z_players S) (z_beats S) (z_sizes S))
set_option maxRecDepth 20000 in
set_option maxHeartbeats 2000000 in
theorem w_X7_conflictCount {X : KX} (hxs : X.1.stackTraces = false) (hg : GX X) {h : AH} {x : Nat} {S : SH} {past : List SH} {N : SH} {hs le lc lf : Int32} {txt ln : List Int32} (hW : OpW X h x S past N hs le lc lf txt ln) {Z : ZT} {K : Int32 → Prop} (hK : ∀ (r : Int32) (h' : AH), OpW X h' x S past N hs le lc lf txt ln → K r → Z (.inl (some (.int r))) h') (hz : K (T_X7_conflictCount S)) : Ct X mX7_conflictCount [.ref x] h Z := by
  refine Ct.of (by decide) rfl (Nat.le_of_ble_eq_true rfl) rfl hxs ?_
  unfold T_X7_conflictCount at hz
  try dsimp only [tb] at hz
  obtain ⟨pr, hO⟩ := hW
  obtain ⟨oS1, hS1⟩ := hO.2.2.2.2.1
  refine V_aload_n dX7_conflictCount_0 0 rfl ?_
  refine gf_op_sheet hO dX7_conflictCount_1 flX7_12 ?_
  refine gf_sheet_cues hS1 dX7_conflictCount_4 flX7_148 ?_
  refine V_cVi (As := []) (rest := []) dX7_conflictCount_7 cvX7_198 (c_X3_conflicts hxs hS1.2.1 ) hS1.2.1.1 rfl ⟨Nat.le_of_ble_eq_true rfl, Nat.le_of_ble_eq_true rfl, Nat.le_of_ble_eq_true rfl, Nat.le_of_ble_eq_true rfl⟩ (Nat.le_of_ble_eq_true rfl) rfl ?_
  exact V_iret dX7_conflictCount_10 rfl ⟨Nat.le_of_ble_eq_true rfl, Nat.le_of_ble_eq_true rfl⟩ (hK (T_X3_conflicts (z_kinds S) (z_players S) (z_beats S) (z_sizes S)) _ ⟨_, hO⟩ hz)
theorem c_X7_conflictCount {X : KX} (hxs : X.1.stackTraces = false) (hg : GX X) {h : AH} {x : Nat} {S : SH} {past : List SH} {N : SH} {hs le lc lf : Int32} {txt ln : List Int32} (hW : OpW X h x S past N hs le lc lf txt ln) : Ct X mX7_conflictCount [.ref x] h (zM (some (.int (T_X7_conflictCount S))) (fun h' => OpW X h' x S past N hs le lc lf txt ln)) := w_X7_conflictCount hxs hg hW   (K := fun r => r = T_X7_conflictCount S) (fun r h' a e => by subst e; exact ⟨rfl, a⟩) rfl
def T_X7_fines (S : SH) (performer : Int32) : (Int32 ⊕ Nat) := (if (U_hasPerformer S performer) = 0 then (.inr 0) else (.inl (rd (z_owed S) performer)))
set_option maxRecDepth 20000 in
set_option maxHeartbeats 2000000 in
theorem w_X7_fines {X : KX} (hxs : X.1.stackTraces = false) (hg : GX X) {h : AH} {x : Nat} {S : SH} {past : List SH} {N : SH} {hs le lc lf : Int32} {txt ln : List Int32} (hW : OpW X h x S past N hs le lc lf txt ln) (performer : Int32) {Z : ZT} {K : (Int32 ⊕ Nat) → Prop} (hK : ∀ (r : (Int32 ⊕ Nat)) (h' : AH), OpW X h' x S past N hs le lc lf txt ln → K r → Z (outT (["java/lang/IndexOutOfBoundsException"] : List String) r) h') (hz : K (T_X7_fines S performer)) : Ct X mX7_fines [.ref x, .int performer] h Z := by
  refine Ct.of (by decide) rfl (Nat.le_of_ble_eq_true rfl) rfl hxs ?_
  unfold T_X7_fines at hz
  try dsimp only [tb] at hz
  obtain ⟨pr, hO⟩ := hW
  obtain ⟨oS1, hS1⟩ := hO.2.2.2.2.1
  refine V_aload_n dX7_fines_0 0 rfl ?_
  refine gf_op_sheet hO dX7_fines_1 flX7_12 ?_
  refine V_iload_n dX7_fines_4 1 rfl ?_
  refine V_cVi (As := [.int performer]) (rest := []) dX7_fines_5 cvX7_78 (C_hasPerformer hxs hS1 performer ) hS1.1 rfl ⟨Nat.le_of_ble_eq_true rfl, Nat.le_of_ble_eq_true rfl, Nat.le_of_ble_eq_true rfl, Nat.le_of_ble_eq_true rfl⟩ (Nat.le_of_ble_eq_true rfl) rfl ?_
  refine V_if_ne (tgt := 21) dX7_fines_8 (by decide) (fun c2 => ?_) (fun c2 => ?_)
  · rw [if_neg c2] at hz
    refine V_aload_n dX7_fines_21 0 rfl ?_
    refine gf_op_sheet hO dX7_fines_22 flX7_12 ?_
    refine gf_sheet_owed hS1 dX7_fines_25 flX7_87 ?_
    refine V_iload_n dX7_fines_28 1 rfl ?_
    refine ld_sheet_owed hS1 dX7_fines_29 (by first | assumption | exact isSlot_in (by assumption) | exact hasPerf_in (by assumption) | exact uhp_in (by assumption) | exact t_pend_in (by assumption)) ?_
    exact V_iret dX7_fines_30 rfl ⟨Nat.le_of_ble_eq_true rfl, Nat.le_of_ble_eq_true rfl⟩ (hK (.inl (rd (z_owed S) performer)) _ ⟨_, hO⟩ hz)
  · rw [if_pos c2] at hz
    exact V_throwS (E := "java/lang/IndexOutOfBoundsException") (names := ["java/lang/RuntimeException", "java/lang/Exception"]) rfl (by decide) (by decide) tk_82.1 tk_82.2 ta_86 hg.1 hg.p (hg.2.1 1 _ _ _ rfl) dX7_fines_11 dX7_fines_14 dX7_fines_15 dX7_fines_17 dX7_fines_20 (Nat.le_of_ble_eq_true rfl) (Nat.le_of_ble_eq_true rfl) ⟨Nat.le_of_ble_eq_true rfl, Nat.le_of_ble_eq_true rfl⟩ (fun q9 hq9 => hK (.inr 0) _ ⟨_, hO.bump hq9⟩ hz)
theorem c_X7_fines {X : KX} (hxs : X.1.stackTraces = false) (hg : GX X) {h : AH} {x : Nat} {S : SH} {past : List SH} {N : SH} {hs le lc lf : Int32} {txt ln : List Int32} (hW : OpW X h x S past N hs le lc lf txt ln) (performer : Int32) : Ct X mX7_fines [.ref x, .int performer] h (zT (["java/lang/IndexOutOfBoundsException"] : List String) (T_X7_fines S performer) (fun h' => OpW X h' x S past N hs le lc lf txt ln)) := w_X7_fines hxs hg hW performer  (K := fun r => r = T_X7_fines S performer) (fun r h' a e => by subst e; exact ⟨rfl, a⟩) rfl
def T_X7_isMouthing (S : SH) (performer : Int32) : (Int32 ⊕ Nat) := (if (U_hasPerformer S performer) = 0 then (.inr 0) else (.inl (U_isOpen S performer)))
set_option maxRecDepth 20000 in
set_option maxHeartbeats 2000000 in
theorem w_X7_isMouthing {X : KX} (hxs : X.1.stackTraces = false) (hg : GX X) {h : AH} {x : Nat} {S : SH} {past : List SH} {N : SH} {hs le lc lf : Int32} {txt ln : List Int32} (hW : OpW X h x S past N hs le lc lf txt ln) (performer : Int32) {Z : ZT} {K : (Int32 ⊕ Nat) → Prop} (hK : ∀ (r : (Int32 ⊕ Nat)) (h' : AH), OpW X h' x S past N hs le lc lf txt ln → K r → Z (outT (["java/lang/IndexOutOfBoundsException"] : List String) r) h') (hz : K (T_X7_isMouthing S performer)) : Ct X mX7_isMouthing [.ref x, .int performer] h Z := by
  refine Ct.of (by decide) rfl (Nat.le_of_ble_eq_true rfl) rfl hxs ?_
  unfold T_X7_isMouthing at hz
  try dsimp only [tb] at hz
  obtain ⟨pr, hO⟩ := hW
  obtain ⟨oS1, hS1⟩ := hO.2.2.2.2.1
  refine V_aload_n dX7_isMouthing_0 0 rfl ?_
  refine gf_op_sheet hO dX7_isMouthing_1 flX7_12 ?_
  refine V_iload_n dX7_isMouthing_4 1 rfl ?_
  refine V_cVi (As := [.int performer]) (rest := []) dX7_isMouthing_5 cvX7_78 (C_hasPerformer hxs hS1 performer ) hS1.1 rfl ⟨Nat.le_of_ble_eq_true rfl, Nat.le_of_ble_eq_true rfl, Nat.le_of_ble_eq_true rfl, Nat.le_of_ble_eq_true rfl⟩ (Nat.le_of_ble_eq_true rfl) rfl ?_
  refine V_if_ne (tgt := 21) dX7_isMouthing_8 (by decide) (fun c2 => ?_) (fun c2 => ?_)
  · rw [if_neg c2] at hz
    refine V_aload_n dX7_isMouthing_21 0 rfl ?_
    refine gf_op_sheet hO dX7_isMouthing_22 flX7_12 ?_
    refine V_iload_n dX7_isMouthing_25 1 rfl ?_
    refine V_cVi (As := [.int performer]) (rest := []) dX7_isMouthing_26 cvX7_105 (C_isOpen hxs hS1 performer ) hS1.1 rfl ⟨Nat.le_of_ble_eq_true rfl, Nat.le_of_ble_eq_true rfl, Nat.le_of_ble_eq_true rfl, Nat.le_of_ble_eq_true rfl⟩ (Nat.le_of_ble_eq_true rfl) rfl ?_
    exact V_zret dX7_isMouthing_29 rfl (bN open01) ⟨Nat.le_of_ble_eq_true rfl, Nat.le_of_ble_eq_true rfl⟩ (hK (.inl (U_isOpen S performer)) _ ⟨_, hO⟩ hz)
  · rw [if_pos c2] at hz
    exact V_throwS (E := "java/lang/IndexOutOfBoundsException") (names := ["java/lang/RuntimeException", "java/lang/Exception"]) rfl (by decide) (by decide) tk_82.1 tk_82.2 ta_86 hg.1 hg.p (hg.2.1 1 _ _ _ rfl) dX7_isMouthing_11 dX7_isMouthing_14 dX7_isMouthing_15 dX7_isMouthing_17 dX7_isMouthing_20 (Nat.le_of_ble_eq_true rfl) (Nat.le_of_ble_eq_true rfl) ⟨Nat.le_of_ble_eq_true rfl, Nat.le_of_ble_eq_true rfl⟩ (fun q9 hq9 => hK (.inr 0) _ ⟨_, hO.bump hq9⟩ hz)
theorem c_X7_isMouthing {X : KX} (hxs : X.1.stackTraces = false) (hg : GX X) {h : AH} {x : Nat} {S : SH} {past : List SH} {N : SH} {hs le lc lf : Int32} {txt ln : List Int32} (hW : OpW X h x S past N hs le lc lf txt ln) (performer : Int32) : Ct X mX7_isMouthing [.ref x, .int performer] h (zT (["java/lang/IndexOutOfBoundsException"] : List String) (T_X7_isMouthing S performer) (fun h' => OpW X h' x S past N hs le lc lf txt ln)) := w_X7_isMouthing hxs hg hW performer  (K := fun r => r = T_X7_isMouthing S performer) (fun r h' a e => by subst e; exact ⟨rfl, a⟩) rfl
def T_X7_performerAtRank (S : SH) (rank : Int32) : (Int32 ⊕ Nat) := (if (U_ranked S rank) = (-1) then (.inr 0) else (.inl (U_ranked S rank)))
set_option maxRecDepth 20000 in
set_option maxHeartbeats 2000000 in
theorem w_X7_performerAtRank {X : KX} (hxs : X.1.stackTraces = false) (hg : GX X) {h : AH} {x : Nat} {S : SH} {past : List SH} {N : SH} {hs le lc lf : Int32} {txt ln : List Int32} (hW : OpW X h x S past N hs le lc lf txt ln) (rank : Int32) {Z : ZT} {K : (Int32 ⊕ Nat) → Prop} (hK : ∀ (r : (Int32 ⊕ Nat)) (h' : AH), OpW X h' x S past N hs le lc lf txt ln → K r → Z (outT (["java/util/NoSuchElementException"] : List String) r) h') (hz : K (T_X7_performerAtRank S rank)) : Ct X mX7_performerAtRank [.ref x, .int rank] h Z := by
  refine Ct.of (by decide) rfl (Nat.le_of_ble_eq_true rfl) rfl hxs ?_
  unfold T_X7_performerAtRank at hz
  try dsimp only [tb] at hz
  obtain ⟨pr, hO⟩ := hW
  obtain ⟨oS1, hS1⟩ := hO.2.2.2.2.1
  refine V_aload_n dX7_performerAtRank_0 0 rfl ?_
  refine gf_op_sheet hO dX7_performerAtRank_1 flX7_12 ?_
  refine V_iload_n dX7_performerAtRank_4 1 rfl ?_
  refine V_cVi (As := [.int rank]) (rest := []) dX7_performerAtRank_5 cvX7_113 (C_ranked hxs hS1 rank ) hS1.1 rfl ⟨Nat.le_of_ble_eq_true rfl, Nat.le_of_ble_eq_true rfl, Nat.le_of_ble_eq_true rfl, Nat.le_of_ble_eq_true rfl⟩ (Nat.le_of_ble_eq_true rfl) rfl ?_
  refine V_istore_n (lv' := [(2, .int (U_ranked S rank)), (0, .ref x), (1, .int rank)]) dX7_performerAtRank_8 rfl (by decide) rfl ?_
  refine V_iload_n dX7_performerAtRank_9 0 rfl ?_
  refine V_iconst (v := (-1)) dX7_performerAtRank_10 (by decide) ?_
  refine V_icmp_ne (tgt := 24) dX7_performerAtRank_11 (by decide) (fun c2 => ?_) (fun c2 => ?_)
  · rw [if_neg c2] at hz
    refine V_iload_n dX7_performerAtRank_24 0 rfl ?_
    exact V_iret dX7_performerAtRank_25 rfl ⟨Nat.le_of_ble_eq_true rfl, Nat.le_of_ble_eq_true rfl⟩ (hK (.inl (U_ranked S rank)) _ ⟨_, hO⟩ hz)
  · rw [if_pos c2] at hz
    exact V_throwG (E := "java/util/NoSuchElementException") (Y1 := "java/lang/RuntimeException") (names := ["java/lang/Exception"]) nb_0 nb_1 nb_2 nb_5 rfl (by decide) (by decide) (by decide) tk_117.1 tk_117.2 ta_121 hg.1 hg.p (hg.2.1 24 _ _ _ rfl) dX7_performerAtRank_14 dX7_performerAtRank_17 dX7_performerAtRank_18 dX7_performerAtRank_20 dX7_performerAtRank_23 (Nat.le_of_ble_eq_true rfl) (Nat.le_of_ble_eq_true rfl) ⟨Nat.le_of_ble_eq_true rfl, Nat.le_of_ble_eq_true rfl⟩ (fun q9 hq9 => hK (.inr 0) _ ⟨_, hO.bump hq9⟩ hz)
theorem c_X7_performerAtRank {X : KX} (hxs : X.1.stackTraces = false) (hg : GX X) {h : AH} {x : Nat} {S : SH} {past : List SH} {N : SH} {hs le lc lf : Int32} {txt ln : List Int32} (hW : OpW X h x S past N hs le lc lf txt ln) (rank : Int32) : Ct X mX7_performerAtRank [.ref x, .int rank] h (zT (["java/util/NoSuchElementException"] : List String) (T_X7_performerAtRank S rank) (fun h' => OpW X h' x S past N hs le lc lf txt ln)) := w_X7_performerAtRank hxs hg hW rank  (K := fun r => r = T_X7_performerAtRank S rank) (fun r h' a e => by subst e; exact ⟨rfl, a⟩) rfl
def T_X7_cueMouth (S : SH) (past : List SH) (performer : Int32) (cueBeat : Int32) (size : Int32) : (Int32 ⊕ Nat) × SH × List SH := (match (T_X7_addPlayed S past 109 performer cueBeat size).1 with | .inl v2 => ((.inl v2), (T_X7_addPlayed S past 109 performer cueBeat size).2.1, (T_X7_addPlayed S past 109 performer cueBeat size).2.2) | .inr j2 => ((.inr j2), (T_X7_addPlayed S past 109 performer cueBeat size).2.1, (T_X7_addPlayed S past 109 performer cueBeat size).2.2))
set_option maxRecDepth 20000 in
set_option maxHeartbeats 2000000 in
theorem w_X7_cueMouth {X : KX} (hxs : X.1.stackTraces = false) (hg : GX X) {h : AH} {x : Nat} {S : SH} {past : List SH} {N : SH} {hs le lc lf : Int32} {txt ln : List Int32} (hW : OpW X h x S past N hs le lc lf txt ln) (performer : Int32) (cueBeat : Int32) (size : Int32) {Z : ZT} {K : (Int32 ⊕ Nat) × SH × List SH → Prop} (hK : ∀ (r : (Int32 ⊕ Nat) × SH × List SH) (h' : AH), OpW X h' x r.2.1 r.2.2 N hs le lc lf txt ln → K r → Z (outT (["java/lang/IndexOutOfBoundsException", "java/lang/IllegalArgumentException", "java/lang/IllegalStateException"] : List String) r.1) h') (hz : K (T_X7_cueMouth S past performer cueBeat size)) : Ct X mX7_cueMouth [.ref x, .int performer, .int cueBeat, .int size] h Z := by
  refine Ct.of (by decide) rfl (Nat.le_of_ble_eq_true rfl) rfl hxs ?_
  unfold T_X7_cueMouth at hz
  try dsimp only [tb] at hz
  obtain ⟨pr, hO⟩ := hW
  obtain ⟨oS1, hS1⟩ := hO.2.2.2.2.1
  refine V_aload_n dX7_cueMouth_0 0 rfl ?_
  refine V_bipush (v := 109) dX7_cueMouth_1 (by decide) ?_
  refine V_iload_n dX7_cueMouth_3 1 rfl ?_
  refine V_iload_n dX7_cueMouth_4 2 rfl ?_
  refine V_iload_n dX7_cueMouth_5 3 rfl ?_
  refine V_cVt (As := [.int 109, .int performer, .int cueBeat, .int size]) (rest := []) dX7_cueMouth_6 cvX7_122 (c_X7_addPlayed hxs hg ⟨_, hO⟩ 109 performer cueBeat size (by decide) (by decide)) hO.1 rfl ⟨Nat.le_of_ble_eq_true rfl, Nat.le_of_ble_eq_true rfl, Nat.le_of_ble_eq_true rfl, Nat.le_of_ble_eq_true rfl⟩ (Nat.le_of_ble_eq_true rfl) rfl (fun v2 h2 e2 q2 => ?_) (fun j2 h2 e2 q2 => ?_)
  · obtain ⟨pr2, hO2⟩ := q2
    rw [e2] at hz
    dsimp only at hz
    obtain ⟨oS3, hS3⟩ := hO2.2.2.2.2.1
    exact V_iret dX7_cueMouth_9 rfl ⟨Nat.le_of_ble_eq_true rfl, Nat.le_of_ble_eq_true rfl⟩ (hK ((.inl v2), (T_X7_addPlayed S past 109 performer cueBeat size).2.1, (T_X7_addPlayed S past 109 performer cueBeat size).2.2) _ ⟨_, hO2⟩ hz)
  · obtain ⟨pr2, hO2⟩ := q2
    rw [e2] at hz
    dsimp only at hz
    exact VX_out rfl ⟨Nat.le_of_ble_eq_true rfl, Nat.le_of_ble_eq_true rfl⟩ (hK ((.inr j2), (T_X7_addPlayed S past 109 performer cueBeat size).2.1, (T_X7_addPlayed S past 109 performer cueBeat size).2.2) _ ⟨_, hO2⟩ hz)
theorem c_X7_cueMouth {X : KX} (hxs : X.1.stackTraces = false) (hg : GX X) {h : AH} {x : Nat} {S : SH} {past : List SH} {N : SH} {hs le lc lf : Int32} {txt ln : List Int32} (hW : OpW X h x S past N hs le lc lf txt ln) (performer : Int32) (cueBeat : Int32) (size : Int32) : Ct X mX7_cueMouth [.ref x, .int performer, .int cueBeat, .int size] h (zT (["java/lang/IndexOutOfBoundsException", "java/lang/IllegalArgumentException", "java/lang/IllegalStateException"] : List String) (T_X7_cueMouth S past performer cueBeat size).1 (fun h' => OpW X h' x (T_X7_cueMouth S past performer cueBeat size).2.1 (T_X7_cueMouth S past performer cueBeat size).2.2 N hs le lc lf txt ln)) := w_X7_cueMouth hxs hg hW performer cueBeat size  (K := fun r => r = T_X7_cueMouth S past performer cueBeat size) (fun r h' a e => by subst e; exact ⟨rfl, a⟩) rfl
def T_X7_cueProp (S : SH) (past : List SH) (performer : Int32) (cueBeat : Int32) (size : Int32) : (Int32 ⊕ Nat) × SH × List SH := (match (T_X7_addPlayed S past 112 performer cueBeat size).1 with | .inl v2 => ((.inl v2), (T_X7_addPlayed S past 112 performer cueBeat size).2.1, (T_X7_addPlayed S past 112 performer cueBeat size).2.2) | .inr j2 => ((.inr j2), (T_X7_addPlayed S past 112 performer cueBeat size).2.1, (T_X7_addPlayed S past 112 performer cueBeat size).2.2))
set_option maxRecDepth 20000 in
set_option maxHeartbeats 2000000 in
theorem w_X7_cueProp {X : KX} (hxs : X.1.stackTraces = false) (hg : GX X) {h : AH} {x : Nat} {S : SH} {past : List SH} {N : SH} {hs le lc lf : Int32} {txt ln : List Int32} (hW : OpW X h x S past N hs le lc lf txt ln) (performer : Int32) (cueBeat : Int32) (size : Int32) {Z : ZT} {K : (Int32 ⊕ Nat) × SH × List SH → Prop} (hK : ∀ (r : (Int32 ⊕ Nat) × SH × List SH) (h' : AH), OpW X h' x r.2.1 r.2.2 N hs le lc lf txt ln → K r → Z (outT (["java/lang/IndexOutOfBoundsException", "java/lang/IllegalArgumentException", "java/lang/IllegalStateException"] : List String) r.1) h') (hz : K (T_X7_cueProp S past performer cueBeat size)) : Ct X mX7_cueProp [.ref x, .int performer, .int cueBeat, .int size] h Z := by
  refine Ct.of (by decide) rfl (Nat.le_of_ble_eq_true rfl) rfl hxs ?_
  unfold T_X7_cueProp at hz
  try dsimp only [tb] at hz
  obtain ⟨pr, hO⟩ := hW
  obtain ⟨oS1, hS1⟩ := hO.2.2.2.2.1
  refine V_aload_n dX7_cueProp_0 0 rfl ?_
  refine V_bipush (v := 112) dX7_cueProp_1 (by decide) ?_
  refine V_iload_n dX7_cueProp_3 1 rfl ?_
  refine V_iload_n dX7_cueProp_4 2 rfl ?_
  refine V_iload_n dX7_cueProp_5 3 rfl ?_
  refine V_cVt (As := [.int 112, .int performer, .int cueBeat, .int size]) (rest := []) dX7_cueProp_6 cvX7_122 (c_X7_addPlayed hxs hg ⟨_, hO⟩ 112 performer cueBeat size (by decide) (by decide)) hO.1 rfl ⟨Nat.le_of_ble_eq_true rfl, Nat.le_of_ble_eq_true rfl, Nat.le_of_ble_eq_true rfl, Nat.le_of_ble_eq_true rfl⟩ (Nat.le_of_ble_eq_true rfl) rfl (fun v2 h2 e2 q2 => ?_) (fun j2 h2 e2 q2 => ?_)
  · obtain ⟨pr2, hO2⟩ := q2
    rw [e2] at hz
    dsimp only at hz
    obtain ⟨oS3, hS3⟩ := hO2.2.2.2.2.1
    exact V_iret dX7_cueProp_9 rfl ⟨Nat.le_of_ble_eq_true rfl, Nat.le_of_ble_eq_true rfl⟩ (hK ((.inl v2), (T_X7_addPlayed S past 112 performer cueBeat size).2.1, (T_X7_addPlayed S past 112 performer cueBeat size).2.2) _ ⟨_, hO2⟩ hz)
  · obtain ⟨pr2, hO2⟩ := q2
    rw [e2] at hz
    dsimp only at hz
    exact VX_out rfl ⟨Nat.le_of_ble_eq_true rfl, Nat.le_of_ble_eq_true rfl⟩ (hK ((.inr j2), (T_X7_addPlayed S past 112 performer cueBeat size).2.1, (T_X7_addPlayed S past 112 performer cueBeat size).2.2) _ ⟨_, hO2⟩ hz)
theorem c_X7_cueProp {X : KX} (hxs : X.1.stackTraces = false) (hg : GX X) {h : AH} {x : Nat} {S : SH} {past : List SH} {N : SH} {hs le lc lf : Int32} {txt ln : List Int32} (hW : OpW X h x S past N hs le lc lf txt ln) (performer : Int32) (cueBeat : Int32) (size : Int32) : Ct X mX7_cueProp [.ref x, .int performer, .int cueBeat, .int size] h (zT (["java/lang/IndexOutOfBoundsException", "java/lang/IllegalArgumentException", "java/lang/IllegalStateException"] : List String) (T_X7_cueProp S past performer cueBeat size).1 (fun h' => OpW X h' x (T_X7_cueProp S past performer cueBeat size).2.1 (T_X7_cueProp S past performer cueBeat size).2.2 N hs le lc lf txt ln)) := w_X7_cueProp hxs hg hW performer cueBeat size  (K := fun r => r = T_X7_cueProp S past performer cueBeat size) (fun r h' a e => by subst e; exact ⟨rfl, a⟩) rfl
def T_X7_cueAt (S : SH) (rank : Int32) : (Int32 ⊕ Nat) := (if (T_X3_isSlot (U_slotAt S rank)) = 0 then (.inr 0) else (.inl (rd (z_ids S) (U_slotAt S rank))))
set_option maxRecDepth 20000 in
set_option maxHeartbeats 2000000 in
theorem w_X7_cueAt {X : KX} (hxs : X.1.stackTraces = false) (hg : GX X) {h : AH} {x : Nat} {S : SH} {past : List SH} {N : SH} {hs le lc lf : Int32} {txt ln : List Int32} (hW : OpW X h x S past N hs le lc lf txt ln) (rank : Int32) {Z : ZT} {K : (Int32 ⊕ Nat) → Prop} (hK : ∀ (r : (Int32 ⊕ Nat)) (h' : AH), OpW X h' x S past N hs le lc lf txt ln → K r → Z (outT (["java/util/NoSuchElementException"] : List String) r) h') (hz : K (T_X7_cueAt S rank)) : Ct X mX7_cueAt [.ref x, .int rank] h Z := by
  refine Ct.of (by decide) rfl (Nat.le_of_ble_eq_true rfl) rfl hxs ?_
  unfold T_X7_cueAt at hz
  try dsimp only [tb] at hz
  obtain ⟨pr, hO⟩ := hW
  obtain ⟨oS1, hS1⟩ := hO.2.2.2.2.1
  refine V_aload_n dX7_cueAt_0 0 rfl ?_
  refine gf_op_sheet hO dX7_cueAt_1 flX7_12 ?_
  refine gf_sheet_cues hS1 dX7_cueAt_4 flX7_148 ?_
  refine V_iload_n dX7_cueAt_7 1 rfl ?_
  refine V_cVmi (As := [.int rank]) (rest := []) dX7_cueAt_8 cvX7_157 (C_slotAt hxs hS1 rank) hS1.2.1.1 rfl ⟨Nat.le_of_ble_eq_true rfl, Nat.le_of_ble_eq_true rfl, Nat.le_of_ble_eq_true rfl, Nat.le_of_ble_eq_true rfl⟩ (Nat.le_of_ble_eq_true rfl) rfl (fun h2 q2 => ?_)
  obtain ⟨hT2, hR2⟩ := q2
  have hO2 := hO.sheet_upd hT2 hO.2.2.1 hR2
  obtain ⟨oS3, hS3⟩ := hO2.2.2.2.2.1
  refine V_istore_n (lv' := [(2, .int (U_slotAt S rank)), (0, .ref x), (1, .int rank)]) dX7_cueAt_11 rfl (by decide) rfl ?_
  refine V_iload_n dX7_cueAt_12 0 rfl ?_
  refine V_cSi (As := [.int (U_slotAt S rank)]) (rest := []) dX7_cueAt_13 cvX7_160 (c_X3_isSlot hxs (U_slotAt S rank)) ⟨Nat.le_of_ble_eq_true rfl, Nat.le_of_ble_eq_true rfl, Nat.le_of_ble_eq_true rfl, Nat.le_of_ble_eq_true rfl⟩ (Nat.le_of_ble_eq_true rfl) rfl ?_
  refine V_if_ne (tgt := 29) dX7_cueAt_16 (by decide) (fun c4 => ?_) (fun c4 => ?_)
  · rw [if_neg c4] at hz
    refine V_aload_n dX7_cueAt_29 1 rfl ?_
    refine gf_op_sheet hO2 dX7_cueAt_30 flX7_12 ?_
    refine gf_sheet_cues hS3 dX7_cueAt_33 flX7_148 ?_
    refine gf_tree_ids hS3.2.1 dX7_cueAt_36 flX7_163 ?_
    refine V_iload_n dX7_cueAt_39 0 rfl ?_
    refine ld_tree_ids hS3.2.1 dX7_cueAt_40 (by first | assumption | exact isSlot_in (by assumption) | exact hasPerf_in (by assumption) | exact uhp_in (by assumption) | exact t_pend_in (by assumption)) ?_
    exact V_iret dX7_cueAt_41 rfl ⟨Nat.le_of_ble_eq_true rfl, Nat.le_of_ble_eq_true rfl⟩ (hK (.inl (rd (z_ids S) (U_slotAt S rank))) _ ⟨_, hO2⟩ hz)
  · rw [if_pos c4] at hz
    exact V_throwG (E := "java/util/NoSuchElementException") (Y1 := "java/lang/RuntimeException") (names := ["java/lang/Exception"]) nb_0 nb_1 nb_2 nb_5 rfl (by decide) (by decide) (by decide) tk_117.1 tk_117.2 ta_121 hg.1 hg.p (hg.2.1 24 _ _ _ rfl) dX7_cueAt_19 dX7_cueAt_22 dX7_cueAt_23 dX7_cueAt_25 dX7_cueAt_28 (Nat.le_of_ble_eq_true rfl) (Nat.le_of_ble_eq_true rfl) ⟨Nat.le_of_ble_eq_true rfl, Nat.le_of_ble_eq_true rfl⟩ (fun q9 hq9 => hK (.inr 0) _ ⟨_, hO2.bump hq9⟩ hz)
theorem c_X7_cueAt {X : KX} (hxs : X.1.stackTraces = false) (hg : GX X) {h : AH} {x : Nat} {S : SH} {past : List SH} {N : SH} {hs le lc lf : Int32} {txt ln : List Int32} (hW : OpW X h x S past N hs le lc lf txt ln) (rank : Int32) : Ct X mX7_cueAt [.ref x, .int rank] h (zT (["java/util/NoSuchElementException"] : List String) (T_X7_cueAt S rank) (fun h' => OpW X h' x S past N hs le lc lf txt ln)) := w_X7_cueAt hxs hg hW rank  (K := fun r => r = T_X7_cueAt S rank) (fun r h' a e => by subst e; exact ⟨rfl, a⟩) rfl
def T_X7_idAt (S : SH) (slot : Int32) : (Int32 ⊕ Nat) := (if (T_X3_isSlot slot) = 0 then (.inr 0) else (.inl (rd (z_ids S) slot)))
set_option maxRecDepth 20000 in
set_option maxHeartbeats 2000000 in
theorem w_X7_idAt {X : KX} (hxs : X.1.stackTraces = false) (hg : GX X) {h : AH} {x : Nat} {S : SH} {past : List SH} {N : SH} {hs le lc lf : Int32} {txt ln : List Int32} (hW : OpW X h x S past N hs le lc lf txt ln) (slot : Int32) {Z : ZT} {K : (Int32 ⊕ Nat) → Prop} (hK : ∀ (r : (Int32 ⊕ Nat)) (h' : AH), OpW X h' x S past N hs le lc lf txt ln → K r → Z (outT (["java/util/NoSuchElementException"] : List String) r) h') (hz : K (T_X7_idAt S slot)) : Ct X mX7_idAt [.ref x, .int slot] h Z := by
  refine Ct.of (by decide) rfl (Nat.le_of_ble_eq_true rfl) rfl hxs ?_
  unfold T_X7_idAt at hz
  try dsimp only [tb] at hz
  obtain ⟨pr, hO⟩ := hW
  obtain ⟨oS1, hS1⟩ := hO.2.2.2.2.1
  refine V_iload_n dX7_idAt_0 1 rfl ?_
  refine V_cSi (As := [.int slot]) (rest := []) dX7_idAt_1 cvX7_160 (c_X3_isSlot hxs slot) ⟨Nat.le_of_ble_eq_true rfl, Nat.le_of_ble_eq_true rfl, Nat.le_of_ble_eq_true rfl, Nat.le_of_ble_eq_true rfl⟩ (Nat.le_of_ble_eq_true rfl) rfl ?_
  refine V_if_ne (tgt := 17) dX7_idAt_4 (by decide) (fun c2 => ?_) (fun c2 => ?_)
  · rw [if_neg c2] at hz
    refine V_aload_n dX7_idAt_17 0 rfl ?_
    refine gf_op_sheet hO dX7_idAt_18 flX7_12 ?_
    refine gf_sheet_cues hS1 dX7_idAt_21 flX7_148 ?_
    refine gf_tree_ids hS1.2.1 dX7_idAt_24 flX7_163 ?_
    refine V_iload_n dX7_idAt_27 1 rfl ?_
    refine ld_tree_ids hS1.2.1 dX7_idAt_28 (by first | assumption | exact isSlot_in (by assumption) | exact hasPerf_in (by assumption) | exact uhp_in (by assumption) | exact t_pend_in (by assumption)) ?_
    exact V_iret dX7_idAt_29 rfl ⟨Nat.le_of_ble_eq_true rfl, Nat.le_of_ble_eq_true rfl⟩ (hK (.inl (rd (z_ids S) slot)) _ ⟨_, hO⟩ hz)
  · rw [if_pos c2] at hz
    exact V_throwG (E := "java/util/NoSuchElementException") (Y1 := "java/lang/RuntimeException") (names := ["java/lang/Exception"]) nb_0 nb_1 nb_2 nb_5 rfl (by decide) (by decide) (by decide) tk_117.1 tk_117.2 ta_121 hg.1 hg.p (hg.2.1 35 _ _ _ rfl) dX7_idAt_7 dX7_idAt_10 dX7_idAt_11 dX7_idAt_13 dX7_idAt_16 (Nat.le_of_ble_eq_true rfl) (Nat.le_of_ble_eq_true rfl) ⟨Nat.le_of_ble_eq_true rfl, Nat.le_of_ble_eq_true rfl⟩ (fun q9 hq9 => hK (.inr 0) _ ⟨_, hO.bump hq9⟩ hz)
theorem c_X7_idAt {X : KX} (hxs : X.1.stackTraces = false) (hg : GX X) {h : AH} {x : Nat} {S : SH} {past : List SH} {N : SH} {hs le lc lf : Int32} {txt ln : List Int32} (hW : OpW X h x S past N hs le lc lf txt ln) (slot : Int32) : Ct X mX7_idAt [.ref x, .int slot] h (zT (["java/util/NoSuchElementException"] : List String) (T_X7_idAt S slot) (fun h' => OpW X h' x S past N hs le lc lf txt ln)) := w_X7_idAt hxs hg hW slot  (K := fun r => r = T_X7_idAt S slot) (fun r h' a e => by subst e; exact ⟨rfl, a⟩) rfl
def T_X7_firstCueFrom (S : SH) (beat : Int32) : (Int32 ⊕ Nat) := (match (T_X7_idAt S (T_X3_firstFrom (z_ids S) (z_beats S) (z_lower S) (z_higher S) (z_root S) beat)) with | .inl v2 => (.inl v2) | .inr j2 => (.inr j2))
set_option maxRecDepth 20000 in
set_option maxHeartbeats 2000000 in
theorem w_X7_firstCueFrom {X : KX} (hxs : X.1.stackTraces = false) (hg : GX X) {h : AH} {x : Nat} {S : SH} {past : List SH} {N : SH} {hs le lc lf : Int32} {txt ln : List Int32} (hW : OpW X h x S past N hs le lc lf txt ln) (beat : Int32) {Z : ZT} {K : (Int32 ⊕ Nat) → Prop} (hK : ∀ (r : (Int32 ⊕ Nat)) (h' : AH), OpW X h' x S past N hs le lc lf txt ln → K r → Z (outT (["java/util/NoSuchElementException"] : List String) r) h') (hz : K (T_X7_firstCueFrom S beat)) : Ct X mX7_firstCueFrom [.ref x, .int beat] h Z := by
  refine Ct.of (by decide) rfl (Nat.le_of_ble_eq_true rfl) rfl hxs ?_
  unfold T_X7_firstCueFrom at hz
  try dsimp only [tb] at hz
  obtain ⟨pr, hO⟩ := hW
  obtain ⟨oS1, hS1⟩ := hO.2.2.2.2.1
  refine V_aload_n dX7_firstCueFrom_0 0 rfl ?_
  refine V_aload_n dX7_firstCueFrom_1 0 rfl ?_
  refine gf_op_sheet hO dX7_firstCueFrom_2 flX7_12 ?_
  refine gf_sheet_cues hS1 dX7_firstCueFrom_5 flX7_148 ?_
  refine V_iload_n dX7_firstCueFrom_8 1 rfl ?_
  refine V_cVi (As := [.int beat]) (rest := [.ref x]) dX7_firstCueFrom_9 cvX7_166 (c_X3_firstFrom hxs hS1.2.1 beat) hS1.2.1.1 rfl ⟨Nat.le_of_ble_eq_true rfl, Nat.le_of_ble_eq_true rfl, Nat.le_of_ble_eq_true rfl, Nat.le_of_ble_eq_true rfl⟩ (Nat.le_of_ble_eq_true rfl) rfl ?_
  refine V_cVt (As := [.int (T_X3_firstFrom (z_ids S) (z_beats S) (z_lower S) (z_higher S) (z_root S) beat)]) (rest := []) dX7_firstCueFrom_12 cvX7_169 (c_X7_idAt hxs hg ⟨_, hO⟩ (T_X3_firstFrom (z_ids S) (z_beats S) (z_lower S) (z_higher S) (z_root S) beat) ) hO.1 rfl ⟨Nat.le_of_ble_eq_true rfl, Nat.le_of_ble_eq_true rfl, Nat.le_of_ble_eq_true rfl, Nat.le_of_ble_eq_true rfl⟩ (Nat.le_of_ble_eq_true rfl) rfl (fun v2 h2 e2 q2 => ?_) (fun j2 h2 e2 q2 => ?_)
  · obtain ⟨pr2, hO2⟩ := q2
    rw [e2] at hz
    dsimp only at hz
    obtain ⟨oS3, hS3⟩ := hO2.2.2.2.2.1
    exact V_iret dX7_firstCueFrom_15 rfl ⟨Nat.le_of_ble_eq_true rfl, Nat.le_of_ble_eq_true rfl⟩ (hK (.inl v2) _ ⟨_, hO2⟩ hz)
  · obtain ⟨pr2, hO2⟩ := q2
    rw [e2] at hz
    dsimp only at hz
    exact VX_out rfl ⟨Nat.le_of_ble_eq_true rfl, Nat.le_of_ble_eq_true rfl⟩ (hK (.inr j2) _ ⟨_, hO2⟩ hz)
theorem c_X7_firstCueFrom {X : KX} (hxs : X.1.stackTraces = false) (hg : GX X) {h : AH} {x : Nat} {S : SH} {past : List SH} {N : SH} {hs le lc lf : Int32} {txt ln : List Int32} (hW : OpW X h x S past N hs le lc lf txt ln) (beat : Int32) : Ct X mX7_firstCueFrom [.ref x, .int beat] h (zT (["java/util/NoSuchElementException"] : List String) (T_X7_firstCueFrom S beat) (fun h' => OpW X h' x S past N hs le lc lf txt ln)) := w_X7_firstCueFrom hxs hg hW beat  (K := fun r => r = T_X7_firstCueFrom S beat) (fun r h' a e => by subst e; exact ⟨rfl, a⟩) rfl
def T_X7_firstCueFromByScan (S : SH) (beat : Int32) : (Int32 ⊕ Nat) := (match (T_X7_idAt S (T_X3_firstFromScanned (z_ids S) (z_kinds S) (z_beats S) beat)) with | .inl v2 => (.inl v2) | .inr j2 => (.inr j2))
set_option maxRecDepth 20000 in
set_option maxHeartbeats 2000000 in
theorem w_X7_firstCueFromByScan {X : KX} (hxs : X.1.stackTraces = false) (hg : GX X) {h : AH} {x : Nat} {S : SH} {past : List SH} {N : SH} {hs le lc lf : Int32} {txt ln : List Int32} (hW : OpW X h x S past N hs le lc lf txt ln) (beat : Int32) {Z : ZT} {K : (Int32 ⊕ Nat) → Prop} (hK : ∀ (r : (Int32 ⊕ Nat)) (h' : AH), OpW X h' x S past N hs le lc lf txt ln → K r → Z (outT (["java/util/NoSuchElementException"] : List String) r) h') (hz : K (T_X7_firstCueFromByScan S beat)) : Ct X mX7_firstCueFromByScan [.ref x, .int beat] h Z := by
  refine Ct.of (by decide) rfl (Nat.le_of_ble_eq_true rfl) rfl hxs ?_
  unfold T_X7_firstCueFromByScan at hz
  try dsimp only [tb] at hz
  obtain ⟨pr, hO⟩ := hW
  obtain ⟨oS1, hS1⟩ := hO.2.2.2.2.1
  refine V_aload_n dX7_firstCueFromByScan_0 0 rfl ?_
  refine V_aload_n dX7_firstCueFromByScan_1 0 rfl ?_
  refine gf_op_sheet hO dX7_firstCueFromByScan_2 flX7_12 ?_
  refine gf_sheet_cues hS1 dX7_firstCueFromByScan_5 flX7_148 ?_
  refine V_iload_n dX7_firstCueFromByScan_8 1 rfl ?_
  refine V_cVi (As := [.int beat]) (rest := [.ref x]) dX7_firstCueFromByScan_9 cvX7_172 (c_X3_firstFromScanned hxs hS1.2.1 beat) hS1.2.1.1 rfl ⟨Nat.le_of_ble_eq_true rfl, Nat.le_of_ble_eq_true rfl, Nat.le_of_ble_eq_true rfl, Nat.le_of_ble_eq_true rfl⟩ (Nat.le_of_ble_eq_true rfl) rfl ?_
  refine V_cVt (As := [.int (T_X3_firstFromScanned (z_ids S) (z_kinds S) (z_beats S) beat)]) (rest := []) dX7_firstCueFromByScan_12 cvX7_169 (c_X7_idAt hxs hg ⟨_, hO⟩ (T_X3_firstFromScanned (z_ids S) (z_kinds S) (z_beats S) beat) ) hO.1 rfl ⟨Nat.le_of_ble_eq_true rfl, Nat.le_of_ble_eq_true rfl, Nat.le_of_ble_eq_true rfl, Nat.le_of_ble_eq_true rfl⟩ (Nat.le_of_ble_eq_true rfl) rfl (fun v2 h2 e2 q2 => ?_) (fun j2 h2 e2 q2 => ?_)
  · obtain ⟨pr2, hO2⟩ := q2
    rw [e2] at hz
    dsimp only at hz
    obtain ⟨oS3, hS3⟩ := hO2.2.2.2.2.1
    exact V_iret dX7_firstCueFromByScan_15 rfl ⟨Nat.le_of_ble_eq_true rfl, Nat.le_of_ble_eq_true rfl⟩ (hK (.inl v2) _ ⟨_, hO2⟩ hz)
  · obtain ⟨pr2, hO2⟩ := q2
    rw [e2] at hz
    dsimp only at hz
    exact VX_out rfl ⟨Nat.le_of_ble_eq_true rfl, Nat.le_of_ble_eq_true rfl⟩ (hK (.inr j2) _ ⟨_, hO2⟩ hz)
theorem c_X7_firstCueFromByScan {X : KX} (hxs : X.1.stackTraces = false) (hg : GX X) {h : AH} {x : Nat} {S : SH} {past : List SH} {N : SH} {hs le lc lf : Int32} {txt ln : List Int32} (hW : OpW X h x S past N hs le lc lf txt ln) (beat : Int32) : Ct X mX7_firstCueFromByScan [.ref x, .int beat] h (zT (["java/util/NoSuchElementException"] : List String) (T_X7_firstCueFromByScan S beat) (fun h' => OpW X h' x S past N hs le lc lf txt ln)) := w_X7_firstCueFromByScan hxs hg hW beat  (K := fun r => r = T_X7_firstCueFromByScan S beat) (fun r h' a e => by subst e; exact ⟨rfl, a⟩) rfl
def T_X7_pendingSlot (S : SH) (cue : Int32) : (Int32 ⊕ Nat) := (if (T_X3_isSlot (T_X3_slotOf (z_ids S) (z_kinds S) cue)) = 0 then (.inr 0) else (.inl (T_X3_slotOf (z_ids S) (z_kinds S) cue)))
set_option maxRecDepth 20000 in
set_option maxHeartbeats 2000000 in
theorem w_X7_pendingSlot {X : KX} (hxs : X.1.stackTraces = false) (hg : GX X) {h : AH} {x : Nat} {S : SH} {past : List SH} {N : SH} {hs le lc lf : Int32} {txt ln : List Int32} (hW : OpW X h x S past N hs le lc lf txt ln) (cue : Int32) {Z : ZT} {K : (Int32 ⊕ Nat) → Prop} (hK : ∀ (r : (Int32 ⊕ Nat)) (h' : AH), OpW X h' x S past N hs le lc lf txt ln → K r → Z (outT (["java/util/NoSuchElementException"] : List String) r) h') (hz : K (T_X7_pendingSlot S cue)) : Ct X mX7_pendingSlot [.ref x, .int cue] h Z := by
  refine Ct.of (by decide) rfl (Nat.le_of_ble_eq_true rfl) rfl hxs ?_
  unfold T_X7_pendingSlot at hz
  try dsimp only [tb] at hz
  obtain ⟨pr, hO⟩ := hW
  obtain ⟨oS1, hS1⟩ := hO.2.2.2.2.1
  refine V_aload_n dX7_pendingSlot_0 0 rfl ?_
  refine gf_op_sheet hO dX7_pendingSlot_1 flX7_12 ?_
  refine gf_sheet_cues hS1 dX7_pendingSlot_4 flX7_148 ?_
  refine V_iload_n dX7_pendingSlot_7 1 rfl ?_
  refine V_cVi (As := [.int cue]) (rest := []) dX7_pendingSlot_8 cvX7_195 (c_X3_slotOf hxs hS1.2.1 cue) hS1.2.1.1 rfl ⟨Nat.le_of_ble_eq_true rfl, Nat.le_of_ble_eq_true rfl, Nat.le_of_ble_eq_true rfl, Nat.le_of_ble_eq_true rfl⟩ (Nat.le_of_ble_eq_true rfl) rfl ?_
  refine V_istore_n (lv' := [(2, .int (T_X3_slotOf (z_ids S) (z_kinds S) cue)), (0, .ref x), (1, .int cue)]) dX7_pendingSlot_11 rfl (by decide) rfl ?_
  refine V_iload_n dX7_pendingSlot_12 0 rfl ?_
  refine V_cSi (As := [.int (T_X3_slotOf (z_ids S) (z_kinds S) cue)]) (rest := []) dX7_pendingSlot_13 cvX7_160 (c_X3_isSlot hxs (T_X3_slotOf (z_ids S) (z_kinds S) cue)) ⟨Nat.le_of_ble_eq_true rfl, Nat.le_of_ble_eq_true rfl, Nat.le_of_ble_eq_true rfl, Nat.le_of_ble_eq_true rfl⟩ (Nat.le_of_ble_eq_true rfl) rfl ?_
  refine V_if_ne (tgt := 29) dX7_pendingSlot_16 (by decide) (fun c2 => ?_) (fun c2 => ?_)
  · rw [if_neg c2] at hz
    refine V_iload_n dX7_pendingSlot_29 0 rfl ?_
    exact V_iret dX7_pendingSlot_30 rfl ⟨Nat.le_of_ble_eq_true rfl, Nat.le_of_ble_eq_true rfl⟩ (hK (.inl (T_X3_slotOf (z_ids S) (z_kinds S) cue)) _ ⟨_, hO⟩ hz)
  · rw [if_pos c2] at hz
    exact V_throwG (E := "java/util/NoSuchElementException") (Y1 := "java/lang/RuntimeException") (names := ["java/lang/Exception"]) nb_0 nb_1 nb_2 nb_5 rfl (by decide) (by decide) (by decide) tk_117.1 tk_117.2 ta_121 hg.1 hg.p (hg.2.1 5 _ _ _ rfl) dX7_pendingSlot_19 dX7_pendingSlot_22 dX7_pendingSlot_23 dX7_pendingSlot_25 dX7_pendingSlot_28 (Nat.le_of_ble_eq_true rfl) (Nat.le_of_ble_eq_true rfl) ⟨Nat.le_of_ble_eq_true rfl, Nat.le_of_ble_eq_true rfl⟩ (fun q9 hq9 => hK (.inr 0) _ ⟨_, hO.bump hq9⟩ hz)
theorem c_X7_pendingSlot {X : KX} (hxs : X.1.stackTraces = false) (hg : GX X) {h : AH} {x : Nat} {S : SH} {past : List SH} {N : SH} {hs le lc lf : Int32} {txt ln : List Int32} (hW : OpW X h x S past N hs le lc lf txt ln) (cue : Int32) : Ct X mX7_pendingSlot [.ref x, .int cue] h (zT (["java/util/NoSuchElementException"] : List String) (T_X7_pendingSlot S cue) (fun h' => OpW X h' x S past N hs le lc lf txt ln)) := w_X7_pendingSlot hxs hg hW cue  (K := fun r => r = T_X7_pendingSlot S cue) (fun r h' a e => by subst e; exact ⟨rfl, a⟩) rfl
theorem t_pend_in {S : SH} {c v : Int32} (h : T_X7_pendingSlot S c = .inl v) : vp_in v 16 := by
  unfold T_X7_pendingSlot at h
  split at h
  · cases h
  · rename_i hc
    cases h
    exact isSlot_in hc
theorem t_X7_pendingSlot_lt {S : SH} {c : Int32} {j : Nat} (h : T_X7_pendingSlot S c = .inr j) : j < 1 := by
  unfold T_X7_pendingSlot at h
  split at h
  · cases h; decide
  · cases h
def T_X7_cueBeat (S : SH) (cue : Int32) : (Int32 ⊕ Nat) := (match (T_X7_pendingSlot S cue) with | .inl v2 => (.inl (rd (z_beats S) v2)) | .inr j2 => (.inr j2))
set_option maxRecDepth 20000 in
set_option maxHeartbeats 2000000 in
theorem w_X7_cueBeat {X : KX} (hxs : X.1.stackTraces = false) (hg : GX X) {h : AH} {x : Nat} {S : SH} {past : List SH} {N : SH} {hs le lc lf : Int32} {txt ln : List Int32} (hW : OpW X h x S past N hs le lc lf txt ln) (cue : Int32) {Z : ZT} {K : (Int32 ⊕ Nat) → Prop} (hK : ∀ (r : (Int32 ⊕ Nat)) (h' : AH), OpW X h' x S past N hs le lc lf txt ln → K r → Z (outT (["java/util/NoSuchElementException"] : List String) r) h') (hz : K (T_X7_cueBeat S cue)) : Ct X mX7_cueBeat [.ref x, .int cue] h Z := by
  refine Ct.of (by decide) rfl (Nat.le_of_ble_eq_true rfl) rfl hxs ?_
  unfold T_X7_cueBeat at hz
  try dsimp only [tb] at hz
  obtain ⟨pr, hO⟩ := hW
  obtain ⟨oS1, hS1⟩ := hO.2.2.2.2.1
  refine V_aload_n dX7_cueBeat_0 0 rfl ?_
  refine gf_op_sheet hO dX7_cueBeat_1 flX7_12 ?_
  refine gf_sheet_cues hS1 dX7_cueBeat_4 flX7_148 ?_
  refine gf_tree_beats hS1.2.1 dX7_cueBeat_7 flX7_177 ?_
  refine V_aload_n dX7_cueBeat_10 0 rfl ?_
  refine V_iload_n dX7_cueBeat_11 1 rfl ?_
  refine V_cVt (As := [.int cue]) (rest := [.ref (x + 1 + 1 + 4)]) dX7_cueBeat_12 cvX7_180 (c_X7_pendingSlot hxs hg ⟨_, hO⟩ cue ) hO.1 rfl ⟨Nat.le_of_ble_eq_true rfl, Nat.le_of_ble_eq_true rfl, Nat.le_of_ble_eq_true rfl, Nat.le_of_ble_eq_true rfl⟩ (Nat.le_of_ble_eq_true rfl) rfl (fun v2 h2 e2 q2 => ?_) (fun j2 h2 e2 q2 => ?_)
  · obtain ⟨pr2, hO2⟩ := q2
    rw [e2] at hz
    dsimp only at hz
    obtain ⟨oS3, hS3⟩ := hO2.2.2.2.2.1
    refine ld_tree_beats hS3.2.1 dX7_cueBeat_15 (by first | assumption | exact isSlot_in (by assumption) | exact hasPerf_in (by assumption) | exact uhp_in (by assumption) | exact t_pend_in (by assumption)) ?_
    exact V_iret dX7_cueBeat_16 rfl ⟨Nat.le_of_ble_eq_true rfl, Nat.le_of_ble_eq_true rfl⟩ (hK (.inl (rd (z_beats S) v2)) _ ⟨_, hO2⟩ hz)
  · obtain ⟨pr2, hO2⟩ := q2
    rw [e2] at hz
    dsimp only at hz
    exact VX_out rfl ⟨Nat.le_of_ble_eq_true rfl, Nat.le_of_ble_eq_true rfl⟩ (hK (.inr j2) _ ⟨_, hO2⟩ hz)
theorem c_X7_cueBeat {X : KX} (hxs : X.1.stackTraces = false) (hg : GX X) {h : AH} {x : Nat} {S : SH} {past : List SH} {N : SH} {hs le lc lf : Int32} {txt ln : List Int32} (hW : OpW X h x S past N hs le lc lf txt ln) (cue : Int32) : Ct X mX7_cueBeat [.ref x, .int cue] h (zT (["java/util/NoSuchElementException"] : List String) (T_X7_cueBeat S cue) (fun h' => OpW X h' x S past N hs le lc lf txt ln)) := w_X7_cueBeat hxs hg hW cue  (K := fun r => r = T_X7_cueBeat S cue) (fun r h' a e => by subst e; exact ⟨rfl, a⟩) rfl
def T_X7_cueSize (S : SH) (cue : Int32) : (Int32 ⊕ Nat) := (match (T_X7_pendingSlot S cue) with | .inl v2 => (.inl (rd (z_sizes S) v2)) | .inr j2 => (.inr j2))
set_option maxRecDepth 20000 in
set_option maxHeartbeats 2000000 in
theorem w_X7_cueSize {X : KX} (hxs : X.1.stackTraces = false) (hg : GX X) {h : AH} {x : Nat} {S : SH} {past : List SH} {N : SH} {hs le lc lf : Int32} {txt ln : List Int32} (hW : OpW X h x S past N hs le lc lf txt ln) (cue : Int32) {Z : ZT} {K : (Int32 ⊕ Nat) → Prop} (hK : ∀ (r : (Int32 ⊕ Nat)) (h' : AH), OpW X h' x S past N hs le lc lf txt ln → K r → Z (outT (["java/util/NoSuchElementException"] : List String) r) h') (hz : K (T_X7_cueSize S cue)) : Ct X mX7_cueSize [.ref x, .int cue] h Z := by
  refine Ct.of (by decide) rfl (Nat.le_of_ble_eq_true rfl) rfl hxs ?_
  unfold T_X7_cueSize at hz
  try dsimp only [tb] at hz
  obtain ⟨pr, hO⟩ := hW
  obtain ⟨oS1, hS1⟩ := hO.2.2.2.2.1
  refine V_aload_n dX7_cueSize_0 0 rfl ?_
  refine gf_op_sheet hO dX7_cueSize_1 flX7_12 ?_
  refine gf_sheet_cues hS1 dX7_cueSize_4 flX7_148 ?_
  refine gf_tree_sizes hS1.2.1 dX7_cueSize_7 flX7_187 ?_
  refine V_aload_n dX7_cueSize_10 0 rfl ?_
  refine V_iload_n dX7_cueSize_11 1 rfl ?_
  refine V_cVt (As := [.int cue]) (rest := [.ref (x + 1 + 1 + 5)]) dX7_cueSize_12 cvX7_180 (c_X7_pendingSlot hxs hg ⟨_, hO⟩ cue ) hO.1 rfl ⟨Nat.le_of_ble_eq_true rfl, Nat.le_of_ble_eq_true rfl, Nat.le_of_ble_eq_true rfl, Nat.le_of_ble_eq_true rfl⟩ (Nat.le_of_ble_eq_true rfl) rfl (fun v2 h2 e2 q2 => ?_) (fun j2 h2 e2 q2 => ?_)
  · obtain ⟨pr2, hO2⟩ := q2
    rw [e2] at hz
    dsimp only at hz
    obtain ⟨oS3, hS3⟩ := hO2.2.2.2.2.1
    refine ld_tree_sizes hS3.2.1 dX7_cueSize_15 (by first | assumption | exact isSlot_in (by assumption) | exact hasPerf_in (by assumption) | exact uhp_in (by assumption) | exact t_pend_in (by assumption)) ?_
    exact V_iret dX7_cueSize_16 rfl ⟨Nat.le_of_ble_eq_true rfl, Nat.le_of_ble_eq_true rfl⟩ (hK (.inl (rd (z_sizes S) v2)) _ ⟨_, hO2⟩ hz)
  · obtain ⟨pr2, hO2⟩ := q2
    rw [e2] at hz
    dsimp only at hz
    exact VX_out rfl ⟨Nat.le_of_ble_eq_true rfl, Nat.le_of_ble_eq_true rfl⟩ (hK (.inr j2) _ ⟨_, hO2⟩ hz)
theorem c_X7_cueSize {X : KX} (hxs : X.1.stackTraces = false) (hg : GX X) {h : AH} {x : Nat} {S : SH} {past : List SH} {N : SH} {hs le lc lf : Int32} {txt ln : List Int32} (hW : OpW X h x S past N hs le lc lf txt ln) (cue : Int32) : Ct X mX7_cueSize [.ref x, .int cue] h (zT (["java/util/NoSuchElementException"] : List String) (T_X7_cueSize S cue) (fun h' => OpW X h' x S past N hs le lc lf txt ln)) := w_X7_cueSize hxs hg hW cue  (K := fun r => r = T_X7_cueSize S cue) (fun r h' a e => by subst e; exact ⟨rfl, a⟩) rfl
def T_X7_cueKind (S : SH) (cue : Int32) : (Int32 ⊕ Nat) := (match (T_X7_pendingSlot S cue) with | .inl v2 => (.inl (rd (z_kinds S) v2)) | .inr j2 => (.inr j2))
set_option maxRecDepth 20000 in
set_option maxHeartbeats 2000000 in
theorem w_X7_cueKind {X : KX} (hxs : X.1.stackTraces = false) (hg : GX X) {h : AH} {x : Nat} {S : SH} {past : List SH} {N : SH} {hs le lc lf : Int32} {txt ln : List Int32} (hW : OpW X h x S past N hs le lc lf txt ln) (cue : Int32) {Z : ZT} {K : (Int32 ⊕ Nat) → Prop} (hK : ∀ (r : (Int32 ⊕ Nat)) (h' : AH), OpW X h' x S past N hs le lc lf txt ln → K r → Z (outT (["java/util/NoSuchElementException"] : List String) r) h') (hz : K (T_X7_cueKind S cue)) : Ct X mX7_cueKind [.ref x, .int cue] h Z := by
  refine Ct.of (by decide) rfl (Nat.le_of_ble_eq_true rfl) rfl hxs ?_
  unfold T_X7_cueKind at hz
  try dsimp only [tb] at hz
  obtain ⟨pr, hO⟩ := hW
  obtain ⟨oS1, hS1⟩ := hO.2.2.2.2.1
  refine V_aload_n dX7_cueKind_0 0 rfl ?_
  refine gf_op_sheet hO dX7_cueKind_1 flX7_12 ?_
  refine gf_sheet_cues hS1 dX7_cueKind_4 flX7_148 ?_
  refine gf_tree_kinds hS1.2.1 dX7_cueKind_7 flX7_183 ?_
  refine V_aload_n dX7_cueKind_10 0 rfl ?_
  refine V_iload_n dX7_cueKind_11 1 rfl ?_
  refine V_cVt (As := [.int cue]) (rest := [.ref (x + 1 + 1 + 2)]) dX7_cueKind_12 cvX7_180 (c_X7_pendingSlot hxs hg ⟨_, hO⟩ cue ) hO.1 rfl ⟨Nat.le_of_ble_eq_true rfl, Nat.le_of_ble_eq_true rfl, Nat.le_of_ble_eq_true rfl, Nat.le_of_ble_eq_true rfl⟩ (Nat.le_of_ble_eq_true rfl) rfl (fun v2 h2 e2 q2 => ?_) (fun j2 h2 e2 q2 => ?_)
  · obtain ⟨pr2, hO2⟩ := q2
    rw [e2] at hz
    dsimp only at hz
    obtain ⟨oS3, hS3⟩ := hO2.2.2.2.2.1
    refine ld_tree_kinds hS3.2.1 dX7_cueKind_15 (by first | assumption | exact isSlot_in (by assumption) | exact hasPerf_in (by assumption) | exact uhp_in (by assumption) | exact t_pend_in (by assumption)) ?_
    exact V_zret dX7_cueKind_16 rfl (kch_nar hO2.2.2.1 (t_pend_in (by assumption))) ⟨Nat.le_of_ble_eq_true rfl, Nat.le_of_ble_eq_true rfl⟩ (hK (.inl (rd (z_kinds S) v2)) _ ⟨_, hO2⟩ hz)
  · obtain ⟨pr2, hO2⟩ := q2
    rw [e2] at hz
    dsimp only at hz
    exact VX_out rfl ⟨Nat.le_of_ble_eq_true rfl, Nat.le_of_ble_eq_true rfl⟩ (hK (.inr j2) _ ⟨_, hO2⟩ hz)
theorem c_X7_cueKind {X : KX} (hxs : X.1.stackTraces = false) (hg : GX X) {h : AH} {x : Nat} {S : SH} {past : List SH} {N : SH} {hs le lc lf : Int32} {txt ln : List Int32} (hW : OpW X h x S past N hs le lc lf txt ln) (cue : Int32) : Ct X mX7_cueKind [.ref x, .int cue] h (zT (["java/util/NoSuchElementException"] : List String) (T_X7_cueKind S cue) (fun h' => OpW X h' x S past N hs le lc lf txt ln)) := w_X7_cueKind hxs hg hW cue  (K := fun r => r = T_X7_cueKind S cue) (fun r h' a e => by subst e; exact ⟨rfl, a⟩) rfl
def T_X7_cuePerformer (S : SH) (cue : Int32) : (Int32 ⊕ Nat) := (match (T_X7_pendingSlot S cue) with | .inl v2 => (if (rd (z_kinds S) v2) = 104 then (.inr 1) else (.inl (rd (z_players S) v2))) | .inr j2 => (.inr j2))
set_option maxRecDepth 20000 in
set_option maxHeartbeats 2000000 in
theorem w_X7_cuePerformer {X : KX} (hxs : X.1.stackTraces = false) (hg : GX X) {h : AH} {x : Nat} {S : SH} {past : List SH} {N : SH} {hs le lc lf : Int32} {txt ln : List Int32} (hW : OpW X h x S past N hs le lc lf txt ln) (cue : Int32) {Z : ZT} {K : (Int32 ⊕ Nat) → Prop} (hK : ∀ (r : (Int32 ⊕ Nat)) (h' : AH), OpW X h' x S past N hs le lc lf txt ln → K r → Z (outT (["java/util/NoSuchElementException", "java/lang/IllegalStateException"] : List String) r) h') (hz : K (T_X7_cuePerformer S cue)) : Ct X mX7_cuePerformer [.ref x, .int cue] h Z := by
  refine Ct.of (by decide) rfl (Nat.le_of_ble_eq_true rfl) rfl hxs ?_
  unfold T_X7_cuePerformer at hz
  try dsimp only [tb] at hz
  obtain ⟨pr, hO⟩ := hW
  obtain ⟨oS1, hS1⟩ := hO.2.2.2.2.1
  refine V_aload_n dX7_cuePerformer_0 0 rfl ?_
  refine V_iload_n dX7_cuePerformer_1 1 rfl ?_
  refine V_cVt (As := [.int cue]) (rest := []) dX7_cuePerformer_2 cvX7_180 (c_X7_pendingSlot hxs hg ⟨_, hO⟩ cue ) hO.1 rfl ⟨Nat.le_of_ble_eq_true rfl, Nat.le_of_ble_eq_true rfl, Nat.le_of_ble_eq_true rfl, Nat.le_of_ble_eq_true rfl⟩ (Nat.le_of_ble_eq_true rfl) rfl (fun v2 h2 e2 q2 => ?_) (fun j2 h2 e2 q2 => ?_)
  · obtain ⟨pr2, hO2⟩ := q2
    rw [e2] at hz
    dsimp only at hz
    obtain ⟨oS3, hS3⟩ := hO2.2.2.2.2.1
    refine V_istore_n (lv' := [(2, .int v2), (0, .ref x), (1, .int cue)]) dX7_cuePerformer_5 rfl (by decide) rfl ?_
    refine V_aload_n dX7_cuePerformer_6 1 rfl ?_
    refine gf_op_sheet hO2 dX7_cuePerformer_7 flX7_12 ?_
    refine gf_sheet_cues hS3 dX7_cuePerformer_10 flX7_148 ?_
    refine gf_tree_kinds hS3.2.1 dX7_cuePerformer_13 flX7_183 ?_
    refine V_iload_n dX7_cuePerformer_16 0 rfl ?_
    refine ld_tree_kinds hS3.2.1 dX7_cuePerformer_17 (by first | assumption | exact isSlot_in (by assumption) | exact hasPerf_in (by assumption) | exact uhp_in (by assumption) | exact t_pend_in (by assumption)) ?_
    refine V_bipush (v := 104) dX7_cuePerformer_18 (by decide) ?_
    refine V_icmp_ne (tgt := 33) dX7_cuePerformer_20 (by decide) (fun c4 => ?_) (fun c4 => ?_)
    · rw [if_neg c4] at hz
      refine V_aload_n dX7_cuePerformer_33 1 rfl ?_
      refine gf_op_sheet hO2 dX7_cuePerformer_34 flX7_12 ?_
      refine gf_sheet_cues hS3 dX7_cuePerformer_37 flX7_148 ?_
      refine gf_tree_players hS3.2.1 dX7_cuePerformer_40 flX7_192 ?_
      refine V_iload_n dX7_cuePerformer_43 0 rfl ?_
      refine ld_tree_players hS3.2.1 dX7_cuePerformer_44 (by first | assumption | exact isSlot_in (by assumption) | exact hasPerf_in (by assumption) | exact uhp_in (by assumption) | exact t_pend_in (by assumption)) ?_
      exact V_iret dX7_cuePerformer_45 rfl ⟨Nat.le_of_ble_eq_true rfl, Nat.le_of_ble_eq_true rfl⟩ (hK (.inl (rd (z_players S) v2)) _ ⟨_, hO2⟩ hz)
    · rw [if_pos c4] at hz
      exact V_throwS (E := "java/lang/IllegalStateException") (names := ["java/lang/RuntimeException", "java/lang/Exception"]) rfl (by decide) (by decide) tk_65.1 tk_65.2 ta_69 hg.1 hg.p (hg.2.1 36 _ _ _ rfl) dX7_cuePerformer_23 dX7_cuePerformer_26 dX7_cuePerformer_27 dX7_cuePerformer_29 dX7_cuePerformer_32 (Nat.le_of_ble_eq_true rfl) (Nat.le_of_ble_eq_true rfl) ⟨Nat.le_of_ble_eq_true rfl, Nat.le_of_ble_eq_true rfl⟩ (fun q9 hq9 => hK (.inr 1) _ ⟨_, hO2.bump hq9⟩ hz)
  · obtain ⟨pr2, hO2⟩ := q2
    rw [e2] at hz
    dsimp only at hz
    have hj2 : j2 < 1 := t_X7_pendingSlot_lt e2
    have hE : (["java/util/NoSuchElementException"] : List String).getD j2 "" = (["java/util/NoSuchElementException", "java/lang/IllegalStateException"] : List String).getD j2 "" := by
      match j2, hj2 with
      | 0, _ => rfl
    rw [hE]
    exact VX_out rfl ⟨Nat.le_of_ble_eq_true rfl, Nat.le_of_ble_eq_true rfl⟩ (hK (.inr j2) _ ⟨_, hO2⟩ hz)
theorem c_X7_cuePerformer {X : KX} (hxs : X.1.stackTraces = false) (hg : GX X) {h : AH} {x : Nat} {S : SH} {past : List SH} {N : SH} {hs le lc lf : Int32} {txt ln : List Int32} (hW : OpW X h x S past N hs le lc lf txt ln) (cue : Int32) : Ct X mX7_cuePerformer [.ref x, .int cue] h (zT (["java/util/NoSuchElementException", "java/lang/IllegalStateException"] : List String) (T_X7_cuePerformer S cue) (fun h' => OpW X h' x S past N hs le lc lf txt ln)) := w_X7_cuePerformer hxs hg hW cue  (K := fun r => r = T_X7_cuePerformer S cue) (fun r h' a e => by subst e; exact ⟨rfl, a⟩) rfl
def T_X7_isHushed (S : SH) (candidate : Int32) : Int32 := (U_isSilent S candidate)
set_option maxRecDepth 20000 in
set_option maxHeartbeats 2000000 in
theorem w_X7_isHushed {X : KX} (hxs : X.1.stackTraces = false) (hg : GX X) {h : AH} {x : Nat} {S : SH} {past : List SH} {N : SH} {hs le lc lf : Int32} {txt ln : List Int32} (hW : OpW X h x S past N hs le lc lf txt ln) (candidate : Int32) {Z : ZT} {K : Int32 → Prop} (hK : ∀ (r : Int32) (h' : AH), OpW X h' x S past N hs le lc lf txt ln → K r → Z (.inl (some (.int r))) h') (hz : K (T_X7_isHushed S candidate)) : Ct X mX7_isHushed [.ref x, .int candidate] h Z := by
  refine Ct.of (by decide) rfl (Nat.le_of_ble_eq_true rfl) rfl hxs ?_
  unfold T_X7_isHushed at hz
  try dsimp only [tb] at hz
  obtain ⟨pr, hO⟩ := hW
  obtain ⟨oS1, hS1⟩ := hO.2.2.2.2.1
  refine V_aload_n dX7_isHushed_0 0 rfl ?_
  refine gf_op_sheet hO dX7_isHushed_1 flX7_12 ?_
  refine V_iload_n dX7_isHushed_4 1 rfl ?_
  refine V_cVi (As := [.int candidate]) (rest := []) dX7_isHushed_5 cvX7_212 (C_isSilent hxs hS1 candidate ) hS1.1 rfl ⟨Nat.le_of_ble_eq_true rfl, Nat.le_of_ble_eq_true rfl, Nat.le_of_ble_eq_true rfl, Nat.le_of_ble_eq_true rfl⟩ (Nat.le_of_ble_eq_true rfl) rfl ?_
  exact V_zret dX7_isHushed_8 rfl (bN silent01) ⟨Nat.le_of_ble_eq_true rfl, Nat.le_of_ble_eq_true rfl⟩ (hK (U_isSilent S candidate) _ ⟨_, hO⟩ hz)
theorem c_X7_isHushed {X : KX} (hxs : X.1.stackTraces = false) (hg : GX X) {h : AH} {x : Nat} {S : SH} {past : List SH} {N : SH} {hs le lc lf : Int32} {txt ln : List Int32} (hW : OpW X h x S past N hs le lc lf txt ln) (candidate : Int32) : Ct X mX7_isHushed [.ref x, .int candidate] h (zM (some (.int (T_X7_isHushed S candidate))) (fun h' => OpW X h' x S past N hs le lc lf txt ln)) := w_X7_isHushed hxs hg hW candidate  (K := fun r => r = T_X7_isHushed S candidate) (fun r h' a e => by subst e; exact ⟨rfl, a⟩) rfl
def T_X7_loudestBeat (S : SH) : (Int32 ⊕ Nat) := (if (T_X3_loudest (z_kinds S) (z_beats S) (z_sizes S)) = (-1) then (.inr 0) else (.inl (T_X3_loudest (z_kinds S) (z_beats S) (z_sizes S))))
set_option maxRecDepth 20000 in
set_option maxHeartbeats 2000000 in
theorem w_X7_loudestBeat {X : KX} (hxs : X.1.stackTraces = false) (hg : GX X) {h : AH} {x : Nat} {S : SH} {past : List SH} {N : SH} {hs le lc lf : Int32} {txt ln : List Int32} (hW : OpW X h x S past N hs le lc lf txt ln) {Z : ZT} {K : (Int32 ⊕ Nat) → Prop} (hK : ∀ (r : (Int32 ⊕ Nat)) (h' : AH), OpW X h' x S past N hs le lc lf txt ln → K r → Z (outT (["java/util/NoSuchElementException"] : List String) r) h') (hz : K (T_X7_loudestBeat S)) : Ct X mX7_loudestBeat [.ref x] h Z := by
  refine Ct.of (by decide) rfl (Nat.le_of_ble_eq_true rfl) rfl hxs ?_
  unfold T_X7_loudestBeat at hz
  try dsimp only [tb] at hz
  obtain ⟨pr, hO⟩ := hW
  obtain ⟨oS1, hS1⟩ := hO.2.2.2.2.1
  refine V_aload_n dX7_loudestBeat_0 0 rfl ?_
  refine gf_op_sheet hO dX7_loudestBeat_1 flX7_12 ?_
  refine gf_sheet_cues hS1 dX7_loudestBeat_4 flX7_148 ?_
  refine V_cVi (As := []) (rest := []) dX7_loudestBeat_7 cvX7_215 (c_X3_loudest hxs hS1.2.1 ) hS1.2.1.1 rfl ⟨Nat.le_of_ble_eq_true rfl, Nat.le_of_ble_eq_true rfl, Nat.le_of_ble_eq_true rfl, Nat.le_of_ble_eq_true rfl⟩ (Nat.le_of_ble_eq_true rfl) rfl ?_
  refine V_istore_n (lv' := [(1, .int (T_X3_loudest (z_kinds S) (z_beats S) (z_sizes S))), (0, .ref x)]) dX7_loudestBeat_10 rfl (by decide) rfl ?_
  refine V_iload_n dX7_loudestBeat_11 0 rfl ?_
  refine V_iconst (v := (-1)) dX7_loudestBeat_12 (by decide) ?_
  refine V_icmp_ne (tgt := 26) dX7_loudestBeat_13 (by decide) (fun c2 => ?_) (fun c2 => ?_)
  · rw [if_neg c2] at hz
    refine V_iload_n dX7_loudestBeat_26 0 rfl ?_
    exact V_iret dX7_loudestBeat_27 rfl ⟨Nat.le_of_ble_eq_true rfl, Nat.le_of_ble_eq_true rfl⟩ (hK (.inl (T_X3_loudest (z_kinds S) (z_beats S) (z_sizes S))) _ ⟨_, hO⟩ hz)
  · rw [if_pos c2] at hz
    exact V_throwG (E := "java/util/NoSuchElementException") (Y1 := "java/lang/RuntimeException") (names := ["java/lang/Exception"]) nb_0 nb_1 nb_2 nb_5 rfl (by decide) (by decide) (by decide) tk_117.1 tk_117.2 ta_121 hg.1 hg.p (hg.2.1 23 _ _ _ rfl) dX7_loudestBeat_16 dX7_loudestBeat_19 dX7_loudestBeat_20 dX7_loudestBeat_22 dX7_loudestBeat_25 (Nat.le_of_ble_eq_true rfl) (Nat.le_of_ble_eq_true rfl) ⟨Nat.le_of_ble_eq_true rfl, Nat.le_of_ble_eq_true rfl⟩ (fun q9 hq9 => hK (.inr 0) _ ⟨_, hO.bump hq9⟩ hz)
theorem c_X7_loudestBeat {X : KX} (hxs : X.1.stackTraces = false) (hg : GX X) {h : AH} {x : Nat} {S : SH} {past : List SH} {N : SH} {hs le lc lf : Int32} {txt ln : List Int32} (hW : OpW X h x S past N hs le lc lf txt ln) : Ct X mX7_loudestBeat [.ref x] h (zT (["java/util/NoSuchElementException"] : List String) (T_X7_loudestBeat S) (fun h' => OpW X h' x S past N hs le lc lf txt ln)) := w_X7_loudestBeat hxs hg hW   (K := fun r => r = T_X7_loudestBeat S) (fun r h' a e => by subst e; exact ⟨rfl, a⟩) rfl
def T_X7_checkForecast (S : SH) (performer : Int32) (nb : Int32) : (Option Nat) := (if (U_hasPerformer S performer) = 0 then (some 0) else (if nb < 0 then (some 1) else (if nb ≤ 40 then none else (some 1))))
set_option maxRecDepth 20000 in
set_option maxHeartbeats 2000000 in
theorem w_X7_checkForecast {X : KX} (hxs : X.1.stackTraces = false) (hg : GX X) {h : AH} {x : Nat} {S : SH} {past : List SH} {N : SH} {hs le lc lf : Int32} {txt ln : List Int32} (hW : OpW X h x S past N hs le lc lf txt ln) (performer : Int32) (nb : Int32) {Z : ZT} {K : (Option Nat) → Prop} (hK : ∀ (r : (Option Nat)) (h' : AH), OpW X h' x S past N hs le lc lf txt ln → K r → Z (outV (["java/lang/IndexOutOfBoundsException", "java/lang/IllegalArgumentException"] : List String) r) h') (hz : K (T_X7_checkForecast S performer nb)) : Ct X mX7_checkForecast [.ref x, .int performer, .int nb] h Z := by
  refine Ct.of (by decide) rfl (Nat.le_of_ble_eq_true rfl) rfl hxs ?_
  unfold T_X7_checkForecast at hz
  try dsimp only [tb] at hz
  obtain ⟨pr, hO⟩ := hW
  obtain ⟨oS1, hS1⟩ := hO.2.2.2.2.1
  refine V_aload_n dX7_checkForecast_0 0 rfl ?_
  refine gf_op_sheet hO dX7_checkForecast_1 flX7_12 ?_
  refine V_iload_n dX7_checkForecast_4 1 rfl ?_
  refine V_cVi (As := [.int performer]) (rest := []) dX7_checkForecast_5 cvX7_78 (C_hasPerformer hxs hS1 performer ) hS1.1 rfl ⟨Nat.le_of_ble_eq_true rfl, Nat.le_of_ble_eq_true rfl, Nat.le_of_ble_eq_true rfl, Nat.le_of_ble_eq_true rfl⟩ (Nat.le_of_ble_eq_true rfl) rfl ?_
  refine V_if_ne (tgt := 21) dX7_checkForecast_8 (by decide) (fun c2 => ?_) (fun c2 => ?_)
  · rw [if_neg c2] at hz
    refine V_iload_n dX7_checkForecast_21 2 rfl ?_
    refine V_if_lt (tgt := 31) dX7_checkForecast_22 (by decide) (fun c3 => ?_) (fun c3 => ?_)
    · rw [if_pos c3] at hz
      exact V_throwS (E := "java/lang/IllegalArgumentException") (names := ["java/lang/RuntimeException", "java/lang/Exception"]) rfl (by decide) (by decide) tk_95.1 tk_95.2 ta_99 hg.1 hg.p (hg.2.1 25 _ _ _ rfl) dX7_checkForecast_31 dX7_checkForecast_34 dX7_checkForecast_35 dX7_checkForecast_37 dX7_checkForecast_40 (Nat.le_of_ble_eq_true rfl) (Nat.le_of_ble_eq_true rfl) ⟨Nat.le_of_ble_eq_true rfl, Nat.le_of_ble_eq_true rfl⟩ (fun q9 hq9 => hK (some 1) _ ⟨_, hO.bump hq9⟩ hz)
    · rw [if_neg c3] at hz
      refine V_iload_n dX7_checkForecast_25 2 rfl ?_
      refine V_bipush (v := 40) dX7_checkForecast_26 (by decide) ?_
      refine V_icmp_le (tgt := 41) dX7_checkForecast_28 (by decide) (fun c4 => ?_) (fun c4 => ?_)
      · rw [if_pos c4] at hz
        exact V_vret dX7_checkForecast_41 rfl ⟨Nat.le_of_ble_eq_true rfl, Nat.le_of_ble_eq_true rfl⟩ (hK none _ ⟨_, hO⟩ hz)
      · rw [if_neg c4] at hz
        exact V_throwS (E := "java/lang/IllegalArgumentException") (names := ["java/lang/RuntimeException", "java/lang/Exception"]) rfl (by decide) (by decide) tk_95.1 tk_95.2 ta_99 hg.1 hg.p (hg.2.1 25 _ _ _ rfl) dX7_checkForecast_31 dX7_checkForecast_34 dX7_checkForecast_35 dX7_checkForecast_37 dX7_checkForecast_40 (Nat.le_of_ble_eq_true rfl) (Nat.le_of_ble_eq_true rfl) ⟨Nat.le_of_ble_eq_true rfl, Nat.le_of_ble_eq_true rfl⟩ (fun q9 hq9 => hK (some 1) _ ⟨_, hO.bump hq9⟩ hz)
  · rw [if_pos c2] at hz
    exact V_throwS (E := "java/lang/IndexOutOfBoundsException") (names := ["java/lang/RuntimeException", "java/lang/Exception"]) rfl (by decide) (by decide) tk_82.1 tk_82.2 ta_86 hg.1 hg.p (hg.2.1 1 _ _ _ rfl) dX7_checkForecast_11 dX7_checkForecast_14 dX7_checkForecast_15 dX7_checkForecast_17 dX7_checkForecast_20 (Nat.le_of_ble_eq_true rfl) (Nat.le_of_ble_eq_true rfl) ⟨Nat.le_of_ble_eq_true rfl, Nat.le_of_ble_eq_true rfl⟩ (fun q9 hq9 => hK (some 0) _ ⟨_, hO.bump hq9⟩ hz)
theorem c_X7_checkForecast {X : KX} (hxs : X.1.stackTraces = false) (hg : GX X) {h : AH} {x : Nat} {S : SH} {past : List SH} {N : SH} {hs le lc lf : Int32} {txt ln : List Int32} (hW : OpW X h x S past N hs le lc lf txt ln) (performer : Int32) (nb : Int32) : Ct X mX7_checkForecast [.ref x, .int performer, .int nb] h (zV (["java/lang/IndexOutOfBoundsException", "java/lang/IllegalArgumentException"] : List String) (T_X7_checkForecast S performer nb) (fun h' => OpW X h' x S past N hs le lc lf txt ln)) := w_X7_checkForecast hxs hg hW performer nb  (K := fun r => r = T_X7_checkForecast S performer nb) (fun r h' a e => by subst e; exact ⟨rfl, a⟩) rfl
def T_X7_finesAfterByCues (S : SH) (performer : Int32) (nb : Int32) : (Int32 ⊕ Nat) := (match (T_X7_checkForecast S performer nb) with | none => (.inl (U_foreseen S performer nb)) | some j2 => (.inr j2))
set_option maxRecDepth 20000 in
set_option maxHeartbeats 2000000 in
theorem w_X7_finesAfterByCues {X : KX} (hxs : X.1.stackTraces = false) (hg : GX X) {h : AH} {x : Nat} {S : SH} {past : List SH} {N : SH} {hs le lc lf : Int32} {txt ln : List Int32} (hW : OpW X h x S past N hs le lc lf txt ln) (performer : Int32) (nb : Int32) {Z : ZT} {K : (Int32 ⊕ Nat) → Prop} (hK : ∀ (r : (Int32 ⊕ Nat)) (h' : AH), OpW X h' x S past N hs le lc lf txt ln → K r → Z (outT (["java/lang/IndexOutOfBoundsException", "java/lang/IllegalArgumentException"] : List String) r) h') (hz : K (T_X7_finesAfterByCues S performer nb)) : Ct X mX7_finesAfterByCues [.ref x, .int performer, .int nb] h Z := by
  refine Ct.of (by decide) rfl (Nat.le_of_ble_eq_true rfl) rfl hxs ?_
  unfold T_X7_finesAfterByCues at hz
  try dsimp only [tb] at hz
  obtain ⟨pr, hO⟩ := hW
  obtain ⟨oS1, hS1⟩ := hO.2.2.2.2.1
  refine V_aload_n dX7_finesAfterByCues_0 0 rfl ?_
  refine V_iload_n dX7_finesAfterByCues_1 1 rfl ?_
  refine V_iload_n dX7_finesAfterByCues_2 2 rfl ?_
  refine V_cVv (As := [.int performer, .int nb]) (rest := []) dX7_finesAfterByCues_3 cvX7_236 (c_X7_checkForecast hxs hg ⟨_, hO⟩ performer nb ) hO.1 rfl ⟨Nat.le_of_ble_eq_true rfl, Nat.le_of_ble_eq_true rfl, Nat.le_of_ble_eq_true rfl, Nat.le_of_ble_eq_true rfl⟩ (Nat.le_of_ble_eq_true rfl) rfl (fun h2 e2 q2 => ?_) (fun j2 h2 e2 q2 => ?_)
  · obtain ⟨pr2, hO2⟩ := q2
    rw [e2] at hz
    dsimp only at hz
    obtain ⟨oS3, hS3⟩ := hO2.2.2.2.2.1
    refine V_aload_n dX7_finesAfterByCues_6 0 rfl ?_
    refine gf_op_sheet hO2 dX7_finesAfterByCues_7 flX7_12 ?_
    refine V_iload_n dX7_finesAfterByCues_10 1 rfl ?_
    refine V_iload_n dX7_finesAfterByCues_11 2 rfl ?_
    refine V_cVi (As := [.int performer, .int nb]) (rest := []) dX7_finesAfterByCues_12 cvX7_244 (C_foreseen hxs hS3 performer nb ) hS3.1 rfl ⟨Nat.le_of_ble_eq_true rfl, Nat.le_of_ble_eq_true rfl, Nat.le_of_ble_eq_true rfl, Nat.le_of_ble_eq_true rfl⟩ (Nat.le_of_ble_eq_true rfl) rfl ?_
    exact V_iret dX7_finesAfterByCues_15 rfl ⟨Nat.le_of_ble_eq_true rfl, Nat.le_of_ble_eq_true rfl⟩ (hK (.inl (U_foreseen S performer nb)) _ ⟨_, hO2⟩ hz)
  · obtain ⟨pr2, hO2⟩ := q2
    rw [e2] at hz
    dsimp only at hz
    exact VX_out rfl ⟨Nat.le_of_ble_eq_true rfl, Nat.le_of_ble_eq_true rfl⟩ (hK (.inr j2) _ ⟨_, hO2⟩ hz)
theorem c_X7_finesAfterByCues {X : KX} (hxs : X.1.stackTraces = false) (hg : GX X) {h : AH} {x : Nat} {S : SH} {past : List SH} {N : SH} {hs le lc lf : Int32} {txt ln : List Int32} (hW : OpW X h x S past N hs le lc lf txt ln) (performer : Int32) (nb : Int32) : Ct X mX7_finesAfterByCues [.ref x, .int performer, .int nb] h (zT (["java/lang/IndexOutOfBoundsException", "java/lang/IllegalArgumentException"] : List String) (T_X7_finesAfterByCues S performer nb) (fun h' => OpW X h' x S past N hs le lc lf txt ln)) := w_X7_finesAfterByCues hxs hg hW performer nb  (K := fun r => r = T_X7_finesAfterByCues S performer nb) (fun r h' a e => by subst e; exact ⟨rfl, a⟩) rfl
def T_X7_errorPosition (le : Int32) : (Int32 ⊕ Nat) := (if le = (-1) then (.inr 0) else (.inl le))
set_option maxRecDepth 20000 in
set_option maxHeartbeats 2000000 in
theorem w_X7_errorPosition {X : KX} (hxs : X.1.stackTraces = false) (hg : GX X) {h : AH} {x : Nat} {S : SH} {past : List SH} {N : SH} {hs le lc lf : Int32} {txt ln : List Int32} (hW : OpW X h x S past N hs le lc lf txt ln) {Z : ZT} {K : (Int32 ⊕ Nat) → Prop} (hK : ∀ (r : (Int32 ⊕ Nat)) (h' : AH), OpW X h' x S past N hs le lc lf txt ln → K r → Z (outT (["java/util/NoSuchElementException"] : List String) r) h') (hz : K (T_X7_errorPosition le)) : Ct X mX7_errorPosition [.ref x] h Z := by
  refine Ct.of (by decide) rfl (Nat.le_of_ble_eq_true rfl) rfl hxs ?_
  unfold T_X7_errorPosition at hz
  try dsimp only [tb] at hz
  obtain ⟨pr, hO⟩ := hW
  obtain ⟨oS1, hS1⟩ := hO.2.2.2.2.1
  refine V_aload_n dX7_errorPosition_0 0 rfl ?_
  refine gf_op_le hO dX7_errorPosition_1 flX7_47 ?_
  refine V_iconst (v := (-1)) dX7_errorPosition_4 (by decide) ?_
  refine V_icmp_ne (tgt := 19) dX7_errorPosition_5 (by decide) (fun c2 => ?_) (fun c2 => ?_)
  · rw [if_neg c2] at hz
    refine V_aload_n dX7_errorPosition_19 0 rfl ?_
    refine gf_op_le hO dX7_errorPosition_20 flX7_47 ?_
    exact V_iret dX7_errorPosition_23 rfl ⟨Nat.le_of_ble_eq_true rfl, Nat.le_of_ble_eq_true rfl⟩ (hK (.inl le) _ ⟨_, hO⟩ hz)
  · rw [if_pos c2] at hz
    exact V_throwGW (E := "java/util/NoSuchElementException") (Y1 := "java/lang/RuntimeException") (names := ["java/lang/Exception"]) nb_0 nb_1 nb_2 nb_5 rfl (by decide) (by decide) (by decide) tk_117.1 tk_117.2 ta_121 hg.1 hg.p (hg.2.1 17 _ _ _ rfl) dX7_errorPosition_8 dX7_errorPosition_11 dX7_errorPosition_12 dX7_errorPosition_15 dX7_errorPosition_18 (Nat.le_of_ble_eq_true rfl) (Nat.le_of_ble_eq_true rfl) ⟨Nat.le_of_ble_eq_true rfl, Nat.le_of_ble_eq_true rfl⟩ (fun q9 hq9 => hK (.inr 0) _ ⟨_, hO.bump hq9⟩ hz)
theorem c_X7_errorPosition {X : KX} (hxs : X.1.stackTraces = false) (hg : GX X) {h : AH} {x : Nat} {S : SH} {past : List SH} {N : SH} {hs le lc lf : Int32} {txt ln : List Int32} (hW : OpW X h x S past N hs le lc lf txt ln) : Ct X mX7_errorPosition [.ref x] h (zT (["java/util/NoSuchElementException"] : List String) (T_X7_errorPosition le) (fun h' => OpW X h' x S past N hs le lc lf txt ln)) := w_X7_errorPosition hxs hg hW   (K := fun r => r = T_X7_errorPosition le) (fun r h' a e => by subst e; exact ⟨rfl, a⟩) rfl
def T_X7_failedCommand (lc : Int32) : (Int32 ⊕ Nat) := (if lc = (-1) then (.inr 0) else (.inl lc))
set_option maxRecDepth 20000 in
set_option maxHeartbeats 2000000 in
theorem w_X7_failedCommand {X : KX} (hxs : X.1.stackTraces = false) (hg : GX X) {h : AH} {x : Nat} {S : SH} {past : List SH} {N : SH} {hs le lc lf : Int32} {txt ln : List Int32} (hW : OpW X h x S past N hs le lc lf txt ln) {Z : ZT} {K : (Int32 ⊕ Nat) → Prop} (hK : ∀ (r : (Int32 ⊕ Nat)) (h' : AH), OpW X h' x S past N hs le lc lf txt ln → K r → Z (outT (["java/util/NoSuchElementException"] : List String) r) h') (hz : K (T_X7_failedCommand lc)) : Ct X mX7_failedCommand [.ref x] h Z := by
  refine Ct.of (by decide) rfl (Nat.le_of_ble_eq_true rfl) rfl hxs ?_
  unfold T_X7_failedCommand at hz
  try dsimp only [tb] at hz
  obtain ⟨pr, hO⟩ := hW
  obtain ⟨oS1, hS1⟩ := hO.2.2.2.2.1
  refine V_aload_n dX7_failedCommand_0 0 rfl ?_
  refine gf_op_lc hO dX7_failedCommand_1 flX7_51 ?_
  refine V_iconst (v := (-1)) dX7_failedCommand_4 (by decide) ?_
  refine V_icmp_ne (tgt := 19) dX7_failedCommand_5 (by decide) (fun c2 => ?_) (fun c2 => ?_)
  · rw [if_neg c2] at hz
    refine V_aload_n dX7_failedCommand_19 0 rfl ?_
    refine gf_op_lc hO dX7_failedCommand_20 flX7_51 ?_
    exact V_iret dX7_failedCommand_23 rfl ⟨Nat.le_of_ble_eq_true rfl, Nat.le_of_ble_eq_true rfl⟩ (hK (.inl lc) _ ⟨_, hO⟩ hz)
  · rw [if_pos c2] at hz
    exact V_throwGW (E := "java/util/NoSuchElementException") (Y1 := "java/lang/RuntimeException") (names := ["java/lang/Exception"]) nb_0 nb_1 nb_2 nb_5 rfl (by decide) (by decide) (by decide) tk_117.1 tk_117.2 ta_121 hg.1 hg.p (hg.2.1 39 _ _ _ rfl) dX7_failedCommand_8 dX7_failedCommand_11 dX7_failedCommand_12 dX7_failedCommand_15 dX7_failedCommand_18 (Nat.le_of_ble_eq_true rfl) (Nat.le_of_ble_eq_true rfl) ⟨Nat.le_of_ble_eq_true rfl, Nat.le_of_ble_eq_true rfl⟩ (fun q9 hq9 => hK (.inr 0) _ ⟨_, hO.bump hq9⟩ hz)
theorem c_X7_failedCommand {X : KX} (hxs : X.1.stackTraces = false) (hg : GX X) {h : AH} {x : Nat} {S : SH} {past : List SH} {N : SH} {hs le lc lf : Int32} {txt ln : List Int32} (hW : OpW X h x S past N hs le lc lf txt ln) : Ct X mX7_failedCommand [.ref x] h (zT (["java/util/NoSuchElementException"] : List String) (T_X7_failedCommand lc) (fun h' => OpW X h' x S past N hs le lc lf txt ln)) := w_X7_failedCommand hxs hg hW   (K := fun r => r = T_X7_failedCommand lc) (fun r h' a e => by subst e; exact ⟨rfl, a⟩) rfl
def T_X7_failedException (lf : Int32) : (Int32 ⊕ Nat) := (if lf = (-1) then (.inr 0) else (.inl lf))
set_option maxRecDepth 20000 in
set_option maxHeartbeats 2000000 in
theorem w_X7_failedException {X : KX} (hxs : X.1.stackTraces = false) (hg : GX X) {h : AH} {x : Nat} {S : SH} {past : List SH} {N : SH} {hs le lc lf : Int32} {txt ln : List Int32} (hW : OpW X h x S past N hs le lc lf txt ln) {Z : ZT} {K : (Int32 ⊕ Nat) → Prop} (hK : ∀ (r : (Int32 ⊕ Nat)) (h' : AH), OpW X h' x S past N hs le lc lf txt ln → K r → Z (outT (["java/util/NoSuchElementException"] : List String) r) h') (hz : K (T_X7_failedException lf)) : Ct X mX7_failedException [.ref x] h Z := by
  refine Ct.of (by decide) rfl (Nat.le_of_ble_eq_true rfl) rfl hxs ?_
  unfold T_X7_failedException at hz
  try dsimp only [tb] at hz
  obtain ⟨pr, hO⟩ := hW
  obtain ⟨oS1, hS1⟩ := hO.2.2.2.2.1
  refine V_aload_n dX7_failedException_0 0 rfl ?_
  refine gf_op_lf hO dX7_failedException_1 flX7_54 ?_
  refine V_iconst (v := (-1)) dX7_failedException_4 (by decide) ?_
  refine V_icmp_ne (tgt := 19) dX7_failedException_5 (by decide) (fun c2 => ?_) (fun c2 => ?_)
  · rw [if_neg c2] at hz
    refine V_aload_n dX7_failedException_19 0 rfl ?_
    refine gf_op_lf hO dX7_failedException_20 flX7_54 ?_
    exact V_iret dX7_failedException_23 rfl ⟨Nat.le_of_ble_eq_true rfl, Nat.le_of_ble_eq_true rfl⟩ (hK (.inl lf) _ ⟨_, hO⟩ hz)
  · rw [if_pos c2] at hz
    exact V_throwGW (E := "java/util/NoSuchElementException") (Y1 := "java/lang/RuntimeException") (names := ["java/lang/Exception"]) nb_0 nb_1 nb_2 nb_5 rfl (by decide) (by decide) (by decide) tk_117.1 tk_117.2 ta_121 hg.1 hg.p (hg.2.1 39 _ _ _ rfl) dX7_failedException_8 dX7_failedException_11 dX7_failedException_12 dX7_failedException_15 dX7_failedException_18 (Nat.le_of_ble_eq_true rfl) (Nat.le_of_ble_eq_true rfl) ⟨Nat.le_of_ble_eq_true rfl, Nat.le_of_ble_eq_true rfl⟩ (fun q9 hq9 => hK (.inr 0) _ ⟨_, hO.bump hq9⟩ hz)
theorem c_X7_failedException {X : KX} (hxs : X.1.stackTraces = false) (hg : GX X) {h : AH} {x : Nat} {S : SH} {past : List SH} {N : SH} {hs le lc lf : Int32} {txt ln : List Int32} (hW : OpW X h x S past N hs le lc lf txt ln) : Ct X mX7_failedException [.ref x] h (zT (["java/util/NoSuchElementException"] : List String) (T_X7_failedException lf) (fun h' => OpW X h' x S past N hs le lc lf txt ln)) := w_X7_failedException hxs hg hW   (K := fun r => r = T_X7_failedException lf) (fun r h' a e => by subst e; exact ⟨rfl, a⟩) rfl
