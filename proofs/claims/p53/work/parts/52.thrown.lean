/-! ===== refused calls: thrown ===== -/
theorem lg_rf (x : Int64) : lg_cmp x x = 0 := by
  unfold lg_cmp
  rw [if_neg (fun c : x > x => by have := Int64.lt_iff_toInt_lt.mp c; omega), if_pos rfl]
theorem rf_1 {r : Int32 × SH} {S : SH} {past : List SH} {Y : (Int32 ⊕ Nat) × SH × List SH} (e : r = (-1, S)) : (if r.1 = (-1) then ((Sum.inr 0 : Int32 ⊕ Nat), r.2, past) else Y) = (.inr 0, S, past) := by
  rw [e]
  exact if_pos rfl
theorem rf_2 {r : Int32 × SH} {S : SH} {past : List SH} {Y : (Int32 ⊕ Nat) × SH × List SH} (e : r = (-2, S)) : (if r.1 = (-1) then ((Sum.inr 0 : Int32 ⊕ Nat), r.2, past) else (if r.1 = (-2) then (.inr 1, r.2, past) else Y)) = (.inr 1, S, past) := by
  rw [e]
  exact (if_neg (by decide : ¬ (-2 : Int32) = -1)).trans (if_pos rfl)
theorem rf_3 {r : Int32 × SH} {S : SH} {past : List SH} {Y : (Int32 ⊕ Nat) × SH × List SH} (e : r = (-3, S)) : (if r.1 = (-1) then ((Sum.inr 0 : Int32 ⊕ Nat), r.2, past) else (if r.1 = (-2) then (.inr 1, r.2, past) else (if r.1 = (-3) then (.inr 2, r.2, past) else Y))) = (.inr 2, S, past) := by
  rw [e]
  exact (if_neg (by decide : ¬ (-3 : Int32) = -1)).trans ((if_neg (by decide : ¬ (-3 : Int32) = -2)).trans (if_pos rfl))
section
variable {S : SH} {past : List SH}
theorem x_add (h : ¬ z_perf S < 6) : T_X7_addPerformer S past = (.inr 0, S, past) := by
  unfold T_X7_addPerformer
  exact rf_1 (by unfold U_join T_X6_join; rw [if_neg h])
theorem x_pay1 {p c : Int32} (h : U_hasPerformer S p = 0) : T_X7_payFine S past p c = (.inr 0, S, past) := by
  unfold U_hasPerformer at h
  unfold T_X7_payFine
  exact rf_1 (by unfold U_pay T_X6_pay; rw [if_pos h])
theorem x_pay2 {p c : Int32} (h : U_hasPerformer S p = 1) (h2 : c < 1 ∨ ¬ c ≤ 99) : T_X7_payFine S past p c = (.inr 1, S, past) := by
  unfold U_hasPerformer at h
  unfold T_X7_payFine
  refine rf_2 ?_
  unfold U_pay T_X6_pay
  rw [if_neg (by rw [h]; decide)]
  by_cases c1 : c < 1
  · rw [if_pos c1]
  · rw [if_neg c1, if_neg (h2.resolve_left c1)]
theorem x_pay3 {p c : Int32} (h : U_hasPerformer S p = 1) (h1 : ¬ c < 1) (h2 : c ≤ 99) (h3 : ¬ c ≤ rd (z_owed S) p) : T_X7_payFine S past p c = (.inr 2, S, past) := by
  unfold U_hasPerformer at h
  unfold T_X7_payFine
  refine rf_3 ?_
  unfold U_pay T_X6_pay
  rw [if_neg (by rw [h]; decide), if_neg h1, if_pos h2, if_neg h3]
theorem x_hiss1 {p c : Int32} (h : U_hasPerformer S p = 0) : T_X7_whisper S past p c = (.inr 0, S, past) := by
  unfold U_hasPerformer at h
  unfold T_X7_whisper
  exact rf_1 (by unfold U_hiss T_X6_hiss; rw [if_pos h])
theorem x_hiss2 {p c : Int32} (h : U_hasPerformer S p = 1) (h2 : c < 1 ∨ ¬ c ≤ 3) : T_X7_whisper S past p c = (.inr 1, S, past) := by
  unfold U_hasPerformer at h
  unfold T_X7_whisper
  refine rf_2 ?_
  unfold U_hiss T_X6_hiss
  rw [if_neg (by rw [h]; decide)]
  by_cases c1 : c < 1
  · rw [if_pos c1]
  · rw [if_neg c1, if_neg (h2.resolve_left c1)]
theorem x_play1 {k p b z : Int32} (h : U_hasPerformer S p = 0) : T_X7_addPlayed S past k p b z = (.inr 0, S, past) := by
  unfold T_X7_addPlayed
  exact rf_1 (by rw [put_played, if_pos h])
theorem x_play2 {k p b z : Int32} (h : U_hasPerformer S p = 1) (h2 : T_X6_isCueBeat (z_beat S) b = 0 ∨ T_X6_isSize z = 0) : T_X7_addPlayed S past k p b z = (.inr 1, S, past) := by
  unfold T_X7_addPlayed
  refine rf_2 ?_
  rw [put_played, if_neg (by rw [h]; decide)]
  by_cases c : T_X6_isCueBeat (z_beat S) b = 0
  · rw [if_pos c]
  · rw [if_neg c, if_pos (h2.resolve_left c)]
theorem x_hush1 {b z : Int32} (h2 : T_X6_isCueBeat (z_beat S) b = 0 ∨ T_X6_isSize z = 0) : T_X7_cueHush S past b z = (.inr 0, S, past) := by
  unfold T_X7_cueHush
  refine rf_1 ?_
  rw [put_hush]
  by_cases c : T_X6_isCueBeat (z_beat S) b = 0
  · rw [if_pos c]
  · rw [if_neg c, if_pos (h2.resolve_left c)]
theorem cb_now : T_X6_isCueBeat (z_beat S) (z_beat S) = 0 := by
  unfold T_X6_isCueBeat
  rw [if_pos (Int32.le_refl _)]
theorem cb_200 : T_X6_isCueBeat (z_beat S) 200 = 0 := by
  unfold T_X6_isCueBeat
  split
  · rfl
  · rw [if_pos (by decide)]
theorem x_cancel {c : Int32} (h : T_X3_slotOf (z_ids S) (z_kinds S) c = -1) : T_X7_cancelCue S past c = (.inr 0, S, past) := by
  unfold T_X7_cancelCue
  exact rf_1 (by rw [cancel_eq, h, if_pos isSlot_m1])
theorem x_move1 {c b : Int32} (h : T_X3_slotOf (z_ids S) (z_kinds S) c = -1) : T_X7_moveCue S past c b = (.inr 0, S, past) := by
  unfold T_X7_moveCue
  exact rf_1 (by unfold U_move T_X6_move; rw [h, if_pos isSlot_m1])
theorem x_move2 {c b : Int32} {j : Nat} (hj : j < 16) (h : T_X3_slotOf (z_ids S) (z_kinds S) c = nI j) (hb : T_X6_isCueBeat (z_beat S) b = 0) : T_X7_moveCue S past c b = (.inr 1, S, past) := by
  unfold T_X7_moveCue
  exact rf_2 (by unfold U_move T_X6_move; rw [h, if_neg (by rw [isSlot_nI hj]; decide), if_pos hb])
theorem x_lim {l : Int32} (h : l < 0 ∨ ¬ l ≤ 30) : T_X7_setLimit S past l = (.inr 0, S, past) := by
  unfold T_X7_setLimit
  refine rf_1 ?_
  unfold U_limitNoise T_X6_limitNoise
  by_cases c : l < 0
  · rw [if_pos c]
  · rw [if_neg c, if_neg (h.resolve_left c)]
theorem x_adv {b : Int32} (h : b < 1 ∨ ¬ b ≤ 40) : T_X7_advance S past b = (.inr 0, S, past) := by
  unfold T_X7_advance
  refine rf_1 ?_
  unfold U_pass
  by_cases c : b < 1
  · rw [if_pos c]
  · rw [if_neg c, if_neg (h.resolve_left c)]
theorem x_turn (h : ¬ z_act S < 3) : T_X7_turnAct S past = (.inr 0, S, past) := by
  unfold T_X7_turnAct
  exact rf_1 (by unfold U_openAct T_X6_openAct; rw [if_neg h])
theorem x_after0 {p b : Int32} (h : U_hasPerformer S p = 0) : T_X7_finesAfter S p b = .inr 0 := by
  unfold T_X7_finesAfter T_X7_checkForecast
  rw [if_pos h]
theorem x_after1 {p b : Int32} (h : U_hasPerformer S p = 1) (h2 : b < 0 ∨ ¬ b ≤ 40) : T_X7_finesAfter S p b = .inr 1 := by
  unfold T_X7_finesAfter T_X7_checkForecast
  rw [if_neg (by rw [h]; decide)]
  by_cases c : b < 0
  · rw [if_pos c]
  · rw [if_neg c, if_neg (h2.resolve_left c)]
theorem x_by0 {p b : Int32} (h : U_hasPerformer S p = 0) : T_X7_finesAfterByCues S p b = .inr 0 := by
  unfold T_X7_finesAfterByCues T_X7_checkForecast
  rw [if_pos h]
theorem x_by1 {p b : Int32} (h : U_hasPerformer S p = 1) (h2 : b < 0 ∨ ¬ b ≤ 40) : T_X7_finesAfterByCues S p b = .inr 1 := by
  unfold T_X7_finesAfterByCues T_X7_checkForecast
  rw [if_neg (by rw [h]; decide)]
  by_cases c : b < 0
  · rw [if_pos c]
  · rw [if_neg c, if_neg (h2.resolve_left c)]
theorem x_fines0 {p : Int32} (h : U_hasPerformer S p = 0) : T_X7_fines S p = .inr 0 := by
  unfold T_X7_fines
  rw [if_pos h]
theorem x_fines1 {p : Int32} (h : U_hasPerformer S p = 1) : T_X7_fines S p = .inl (rd (z_owed S) p) := by
  unfold T_X7_fines
  rw [if_neg (by rw [h]; decide)]
theorem x_rank {n : Nat} (hp : z_perf S = nI n) (hn : n ≤ 6) {r : Int32} (hr : ∀ c, c < n → ¬ nI c = r) : T_X7_performerAtRank S r = .inr 0 := by
  unfold T_X7_performerAtRank
  rw [if_pos (no_rank hp hn hr)]
theorem x_beat {c : Int32} (h : T_X7_pendingSlot S c = .inr 0) : T_X7_cueBeat S c = .inr 0 := by
  unfold T_X7_cueBeat
  rw [h]
theorem x_kind {c : Int32} (h : T_X7_pendingSlot S c = .inr 0) : T_X7_cueKind S c = .inr 0 := by
  unfold T_X7_cueKind
  rw [h]
theorem x_size {c : Int32} (h : T_X7_pendingSlot S c = .inr 0) : T_X7_cueSize S c = .inr 0 := by
  unfold T_X7_cueSize
  rw [h]
theorem x_perf {c : Int32} (h : T_X7_pendingSlot S c = .inr 0) : T_X7_cuePerformer S c = .inr 0 := by
  unfold T_X7_cuePerformer
  rw [h]
theorem x_kindj {c : Int32} {j : Nat} (h : T_X7_pendingSlot S c = .inl (nI j)) : T_X7_cueKind S c = .inl (rd (z_kinds S) (nI j)) := by
  unfold T_X7_cueKind
  rw [h]
theorem x_perfj {c : Int32} {j : Nat} (h : T_X7_pendingSlot S c = .inl (nI j)) (h2 : rd (z_kinds S) (nI j) = 104) : T_X7_cuePerformer S c = .inr 1 := by
  unfold T_X7_cuePerformer
  rw [h]
  exact if_pos h2
theorem x_atN {r : Int32} (h : U_slotAt S r = -1) : T_X7_cueAt S r = .inr 0 := by
  unfold T_X7_cueAt
  rw [h, if_pos isSlot_m1]
theorem x_first (h : T_X3_firstFrom (z_ids S) (z_beats S) (z_lower S) (z_higher S) (z_root S) 200 = -1) : T_X7_firstCueFrom S 200 = .inr 0 := by
  unfold T_X7_firstCueFrom T_X7_idAt
  rw [h, if_pos isSlot_m1]
theorem x_scan (h : T_X3_firstFromScanned (z_ids S) (z_kinds S) (z_beats S) 200 = -1) : T_X7_firstCueFromByScan S 200 = .inr 0 := by
  unfold T_X7_firstCueFromByScan T_X7_idAt
  rw [h, if_pos isSlot_m1]
end
theorem x_lineM {ln : List Int32} : T_X7_lineAt ln (-1) = .inr 0 := by
  unfold T_X7_lineAt
  rw [if_pos (by decide)]
theorem x_line30 {ln : List Int32} (h : ln.length ≤ 16) : T_X7_lineAt ln 30 = .inr 0 := by
  unfold T_X7_lineAt
  rw [if_neg (by decide), if_neg (show ¬ (30 : Int32) < nI ln.length from nI_nlt (a := 30) (b := ln.length) (by omega) (by omega))]
theorem x_app {txt : List Int32} : T_X7_append txt 200 = .inr 0 ∧ A_txt txt 200 = txt := by
  unfold T_X7_append A_txt
  rw [if_pos (by decide), if_neg (by decide), if_pos (by decide), if_neg (by decide)]
  exact ⟨rfl, rfl⟩
theorem U_step_ok {cm : Nat → Nat × List Int32 × Int32} {cnt : Int32} {g i : Nat} {S : SH} (hc : ¬ cnt ≤ nI i) (h0 : 0 ≤ (U_cmd (cm i).1 (rd (cm i).2.1 0) (rd (cm i).2.1 1) (rd (cm i).2.1 2) S).1) : U_all cm cnt (g + 1) i S = U_all cm cnt g (i + 1) (U_cmd (cm i).1 (rd (cm i).2.1 0) (rd (cm i).2.1 1) (rd (cm i).2.1 2) S).2 := by rw [U_all, if_neg hc, if_pos h0]
theorem U_step_no {cm : Nat → Nat × List Int32 × Int32} {cnt : Int32} {g i : Nat} {S : SH} {v : Int32} (hc : ¬ cnt ≤ nI i) (hv : (U_cmd (cm i).1 (rd (cm i).2.1 0) (rd (cm i).2.1 1) (rd (cm i).2.1 2) S).1 = v) (h0 : ¬ 0 ≤ v) : (U_all cm cnt (g + 1) i S).2 = some (i, v) := by
  rw [U_all, if_neg hc, if_neg (by rw [hv]; exact h0), hv]
theorem OkR_0 {m : Nat} {P : SH → Prop} {S : SH} {r : Int32 × SH} (h : OkR m P S r) (h0 : ¬ r.1 = -1) (hm : m = 1) : 0 ≤ r.1 ∧ P r.2 := by
  rcases h with ⟨h1, h2⟩ | ⟨(e | ⟨g, -⟩ | ⟨g, -⟩), -⟩
  · exact ⟨Int32.not_lt.mp h1, h2⟩
  · exact absurd e h0
  · omega
  · omega
theorem r_q : rAll (gT.getD 37 []) 16 [] 0 0 = (false, 0, 0, []) := by decide +kernel
theorem r_9 : rAll (gT.getD 38 []) 16 [] 0 0 = (true, 3, 28, [(8, [9]), (9, [2]), (6, [999])]) := by decide +kernel
theorem r_99 : rAll (gT.getD 40 []) 16 [] 0 0 = (true, 1, 8, [(8, [99])]) := by decide +kernel
theorem l_qs : ∀ i, i = 37 ∨ i = 38 ∨ i = 40 → (gT.getD i []).length ≤ 30 ∧ ∀ j, j < (gT.getD i []).length → 32 ≤ ((gT.getD i []).getD j 0).toNatClampNeg ∧ ((gT.getD i []).getD j 0).toNatClampNeg ≤ 126 ∧ (gT.getD i []).getD j 0 = nI ((gT.getD i []).getD j 0).toNatClampNeg := by
  intro i hi
  rcases hi with rfl | rfl | rfl <;> decide +kernel
theorem lts_q {i : Nat} (hi : i = 37 ∨ i = 38 ∨ i = 40) : Lts (gT.getD i []) := ⟨(l_qs i hi).1, fun j hj => ⟨_, ((l_qs i hi).2 j hj).1, ((l_qs i hi).2 j hj).2.1, ((l_qs i hi).2 j hj).2.2⟩⟩
theorem c_runs_q {X : KX} (hxs : X.1.stackTraces = false) (hg : GX X) {h : AH} {x : Nat} {S : SH} {past : List SH} {N : SH} {hs le lc lf : Int32} {ln : List Int32} (hW : OpW X h x S past N hs le lc lf [] ln) : Ct X mL_runs [.ref x, .ref (kad X 37)] h (zM (some (.int (-1001))) (fun h' => OpW X h' x S past N hs 0 lc lf [] ln)) := (c_L_runs hxs hg (i := 37) (by decide) (lts_q (Or.inl rfl)) hW).weak (fun o h' hz => run_not r_q hz)
theorem c_runs_9 {X : KX} (hxs : X.1.stackTraces = false) (hg : GX X) {h : AH} {x : Nat} {S : SH} {past : List SH} {N : SH} {hs le lc lf : Int32} {ln : List Int32} (hW : OpW X h x S past N hs le lc lf [] ln) {B K T : Nat} (hI : Inv B K T S) (hK : K < 900) (hB : B < 2 ^ 20) (hT : T < 900) : Ct X mL_runs [.ref x, .ref (kad X 38)] h (zM (some (.int (-1002))) (fun h' => OpW X h' x S past N hs le 2 1 [] ln)) := (c_L_runs hxs hg (i := 38) (by decide) (lts_q (Or.inr (Or.inl rfl))) hW).weak (fun o h' hz => by
  obtain ⟨cm, hC, hd⟩ := run_read r_9 hz
  have c0 := rd_cm hC (i := 0) rfl
  have c1 := rd_cm hC (i := 1) rfl
  have c2 := rd_cm hC (i := 2) rfl
  have e0 : rd (cm 0).2.1 0 = 9 := c0.2 0 (by decide)
  have e1 : rd (cm 1).2.1 0 = 2 := c1.2 0 (by decide)
  have e2 : rd (cm 2).2.1 0 = 999 := c2.2 0 (by decide)
  have k0 : OkR 1 (Inv B K T) S (U_cmd (cm 0).1 (rd (cm 0).2.1 0) (rd (cm 0).2.1 1) (rd (cm 0).2.1 2) S) := by
    rw [c0.1]
    exact ok_limit _ hI
  have k0b : ¬ (U_cmd (cm 0).1 (rd (cm 0).2.1 0) (rd (cm 0).2.1 1) (rd (cm 0).2.1 2) S).1 = -1 := by
    rw [c0.1, e0]
    show ¬ (U_limitNoise S 9).1 = -1
    have : (U_limitNoise S 9).1 = z_lim S := by
      show (T_X6_limitNoise (z_lim S) 9).1 = _
      unfold T_X6_limitNoise
      rw [if_neg (by decide), if_pos (by decide)]
    rw [this]
    exact fun c => Bd_nn hI.2.2.2.2.2.2.2.2.2.2.1 (by omega) (by rw [c]; decide)
  obtain ⟨p0, q0⟩ := OkR_0 k0 k0b rfl
  generalize hS1 : (U_cmd (cm 0).1 (rd (cm 0).2.1 0) (rd (cm 0).2.1 1) (rd (cm 0).2.1 2) S).2 = S1 at q0
  have k1 : OkR 1 (Inv (B + 144 * 2) K (T + 2)) S1 (U_cmd (cm 1).1 (rd (cm 1).2.1 0) (rd (cm 1).2.1 1) (rd (cm 1).2.1 2) S1) := by
    rw [c1.1, e1]
    exact ok_pass 2 (n := 2) (by decide) (by decide) q0
  have k1b : ¬ (U_cmd (cm 1).1 (rd (cm 1).2.1 0) (rd (cm 1).2.1 1) (rd (cm 1).2.1 2) S1).1 = -1 := by
    rw [c1.1, e1]
    show ¬ (U_pass S1 2).1 = -1
    unfold U_pass
    rw [if_neg (by decide), if_pos (by decide)]
    have e2c : (2 : Int32).toNatClampNeg = 2 := by decide
    obtain ⟨m, h1, h2⟩ := happ_beats (2 : Int32).toNatClampNeg S1
    dsimp only
    rw [h2, Int32.add_comm, Int32.add_sub_cancel]
    exact fun c => nI_pos (n := m) (by omega) (by rw [c]; decide)
  obtain ⟨p1, q1⟩ := OkR_0 k1 k1b rfl
  generalize hS2 : (U_cmd (cm 1).1 (rd (cm 1).2.1 0) (rd (cm 1).2.1 1) (rd (cm 1).2.1 2) S1).2 = S2 at q1
  have k2 : (U_cmd (cm 2).1 (rd (cm 2).2.1 0) (rd (cm 2).2.1 1) (rd (cm 2).2.1 2) S2).1 = -1 := by
    rw [c2.1, e2]
    show (U_cancel S2 999).1 = -1
    rw [cancel_eq, (no_id q1 (id := 999) (fun n hn c => by have := (nI_eq (a := n) (b := 999) (by omega) (by omega)).mp c; omega)).2, if_pos isSlot_m1]
  have hu : (U_all cm 3 16 0 S).2 = some (2, -1) := by
    rw [U_step_ok (g := 15) (i := 0) (by decide) p0, hS1, U_step_ok (g := 14) (i := 1) (by decide) p1, hS2]
    exact U_step_no (g := 13) (by decide) k2 (by decide)
  rcases hd with ⟨e, -, -⟩ | ⟨q, e, e3, e4⟩
  · rw [hu] at e; cases e
  · rw [hu] at e
    cases e
    exact ⟨e3, e4⟩)
theorem c_runs_99 {X : KX} (hxs : X.1.stackTraces = false) (hg : GX X) {h : AH} {x : Nat} {S : SH} {past : List SH} {N : SH} {hs le lc lf : Int32} {ln : List Int32} (hW : OpW X h x S past N hs le lc lf [] ln) : Ct X mL_runs [.ref x, .ref (kad X 40)] h (zM (some (.int (-1002))) (fun h' => OpW X h' x S past N hs le 0 1 [] ln)) := (c_L_runs hxs hg (i := 40) (by decide) (lts_q (Or.inr (Or.inr rfl))) hW).weak (fun o h' hz => by
  obtain ⟨cm, hC, hd⟩ := run_read r_99 hz
  have c0 := rd_cm hC (i := 0) rfl
  have e0 : rd (cm 0).2.1 0 = 99 := c0.2 0 (by decide)
  have k0 : (U_cmd (cm 0).1 (rd (cm 0).2.1 0) (rd (cm 0).2.1 1) (rd (cm 0).2.1 2) S).1 = -1 := by
    rw [c0.1, e0]
    show (T_X6_limitNoise (z_lim S) 99).1 = -1
    unfold T_X6_limitNoise
    rw [if_neg (by decide), if_neg (by decide)]
  have hu : (U_all cm 1 16 0 S).2 = some (0, -1) := U_step_no (g := 15) (by decide) k0 (by decide)
  rcases hd with ⟨e, -, -⟩ | ⟨q, e, e3, e4⟩
  · rw [hu] at e; cases e
  · rw [hu] at e
    cases e
    exact ⟨e3, e4⟩)
set_option maxRecDepth 20000 in
set_option maxHeartbeats 8000000 in
theorem th_823 {X : KX} (hxs : X.1.stackTraces = false) (hg : GX X) {x : Nat} {S : SH} {past : List SH} {N : SH} {hs le lc lf : Int32} {B K T n : Nat} {L : List Int32} (hI : Inv B K T S) (hTI : TI K L S) (hK : K ≤ 15) (hB : B < 10000) (hT : T < 800) (hn : z_perf S = nI n) (hn2 : 2 ≤ n) (hn6 : n ≤ 6) {h0 : AH} (hQ : (∃ ln9, OpW X h0 x S past N hs le lc lf [] ln9)) : V X mL_thrown (zF X mL_thrown (zM (some (.int 1)) (fun h' => ∃ le1 lc1 lf1 ln1, OpW X h' x S past N hs le1 lc1 lf1 [] ln1))) 2430 70800 823 [(0, .ref x), (1, .long (Asks S)), (3, .int (nI n)), (4, .int (z_beat S)), (5, .int 1)] [] h0 := by
  have rm0 : (mR mX7_cueCount).cells = 0 ∧ (mR mX7_cueCount).slots = 0 := ⟨rfl, rfl⟩
  have rm1 : (mR mL_cueAt).cells = 1 ∧ (mR mL_cueAt).slots = 6 := ⟨rfl, rfl⟩
  have rm2 : (mR mL_move).cells = 1 ∧ (mR mL_move).slots = 6 := ⟨rfl, rfl⟩
  have rm3 : (mR mL_cueKind).cells = 1 ∧ (mR mL_cueKind).slots = 6 := ⟨rfl, rfl⟩
  have rm4 : (mR mL_cuePerformer).cells = 2 ∧ (mR mL_cuePerformer).slots = 12 := ⟨rfl, rfl⟩
  have rm5 : (mR mL_fines).cells = 1 ∧ (mR mL_fines).slots = 6 := ⟨rfl, rfl⟩
  have rm6 : (mR mL_pay).cells = 1 ∧ (mR mL_pay).slots = 6 := ⟨rfl, rfl⟩
  have rm7 : (mR mL_cueBeat).cells = 1 ∧ (mR mL_cueBeat).slots = 6 := ⟨rfl, rfl⟩
  have rm8 : (mR mL_cueSize).cells = 1 ∧ (mR mL_cueSize).slots = 6 := ⟨rfl, rfl⟩
  have rm9 : (mR mL_cancel).cells = 1 ∧ (mR mL_cancel).slots = 6 := ⟨rfl, rfl⟩
  have rm10 : (mR mL_isMouthing).cells = 1 ∧ (mR mL_isMouthing).slots = 6 := ⟨rfl, rfl⟩
  have rm11 : (mR mL_whisper).cells = 1 ∧ (mR mL_whisper).slots = 6 := ⟨rfl, rfl⟩
  have rm12 : (mR mL_atRank).cells = 1 ∧ (mR mL_atRank).slots = 6 := ⟨rfl, rfl⟩
  have rm13 : (mR mL_finesAfter).cells = 1 ∧ (mR mL_finesAfter).slots = 6 := ⟨rfl, rfl⟩
  have rm14 : (mR mL_finesByCues).cells = 1 ∧ (mR mL_finesByCues).slots = 6 := ⟨rfl, rfl⟩
  have rm15 : (mR mL_first).cells = 1 ∧ (mR mL_first).slots = 6 := ⟨rfl, rfl⟩
  have rm16 : (mR mL_firstByScan).cells = 1 ∧ (mR mL_firstByScan).slots = 6 := ⟨rfl, rfl⟩
  have rm17 : (mR mX7_performerCount).cells = 0 ∧ (mR mX7_performerCount).slots = 0 := ⟨rfl, rfl⟩
  obtain ⟨ln1, hV0⟩ := hQ
  refine V_iload dL_thrown_823 4 rfl ?_
  refine V_if_eq (tgt := 917) dL_thrown_825 (by decide) (fun c9 => absurd c9 (by decide)) (fun _ => ?_)
  refine V_aload_n dL_thrown_828 0 rfl ?_
  refine V_ldcSW dL_thrown_829 (hg.2.1 37 _ _ _ rfl) ?_
  refine V_callS (As := [.ref x, .ref (kad X 37)]) (rest := []) dL_thrown_832 cvL_277 (c_runs_q hxs hg hV0) ⟨Nat.le_of_ble_eq_true rfl, Nat.le_of_ble_eq_true rfl, Nat.le_of_ble_eq_true rfl, Nat.le_of_ble_eq_true rfl⟩ (Nat.le_of_ble_eq_true rfl) rfl (fun v9 g1 z9 => ?_) (fun E9 g9 z9 => by cases z9.1)
  obtain ⟨e9, hV1⟩ := z9
  replace e9 : Sum.inl v9 = (Sum.inl (some (Value.int (-1001))) : Out) := e9
  cases e9
  replace hV1 : OpW X g1 x S past N hs 0 lc lf [] ln1 := hV1
  refine V_sipush (v := (-1001)) dL_thrown_835 (by decide) ?_
  refine V_icmp_ne (tgt := 917) dL_thrown_838 (by decide) (fun c9 => absurd c9 (fun q9 => q9 rfl)) (fun _ => ?_)
  refine V_aload_n dL_thrown_841 0 rfl ?_
  refine V_callSH (As := [.ref x]) (rest := []) dL_thrown_842 cvL_308 (c_L_errorPosition hxs hg hV1) ⟨Nat.le_of_ble_eq_true rfl, Nat.le_of_ble_eq_true rfl, Nat.le_of_ble_eq_true rfl, Nat.le_of_ble_eq_true rfl⟩ (Nat.le_of_ble_eq_true rfl) rfl (fun v9 g2 z9 => ?_) (fun E9 g9 z9 => by cases z9.1)
  obtain ⟨e9, hV2⟩ := z9
  replace e9 : Sum.inl v9 = (Sum.inl (some (Value.int (0))) : Out) := e9
  cases e9
  replace hV2 : OpW X g2 x S past N hs 0 lc lf [] ln1 := hV2
  refine V_if_ne (tgt := 917) dL_thrown_845 (by decide) (fun c9 => absurd c9 (fun q9 => q9 rfl)) (fun _ => ?_)
  refine V_aload_n dL_thrown_848 0 rfl ?_
  refine V_ldcSW dL_thrown_849 (hg.2.1 38 _ _ _ rfl) ?_
  refine V_callS (As := [.ref x, .ref (kad X 38)]) (rest := []) dL_thrown_852 cvL_277 (c_runs_9 hxs hg hV2 hI (by omega) (by omega) (by omega)) ⟨Nat.le_of_ble_eq_true rfl, Nat.le_of_ble_eq_true rfl, Nat.le_of_ble_eq_true rfl, Nat.le_of_ble_eq_true rfl⟩ (Nat.le_of_ble_eq_true rfl) rfl (fun v9 g3 z9 => ?_) (fun E9 g9 z9 => by cases z9.1)
  obtain ⟨e9, hV3⟩ := z9
  replace e9 : Sum.inl v9 = (Sum.inl (some (Value.int (-1002))) : Out) := e9
  cases e9
  replace hV3 : OpW X g3 x S past N hs 0 2 1 [] ln1 := hV3
  refine V_sipush (v := (-1002)) dL_thrown_855 (by decide) ?_
  refine V_icmp_ne (tgt := 917) dL_thrown_858 (by decide) (fun c9 => absurd c9 (fun q9 => q9 rfl)) (fun _ => ?_)
  refine V_aload_n dL_thrown_861 0 rfl ?_
  refine V_callSH (As := [.ref x]) (rest := []) dL_thrown_862 cvL_312 (c_L_failedCommand hxs hg hV3) ⟨Nat.le_of_ble_eq_true rfl, Nat.le_of_ble_eq_true rfl, Nat.le_of_ble_eq_true rfl, Nat.le_of_ble_eq_true rfl⟩ (Nat.le_of_ble_eq_true rfl) rfl (fun v9 g4 z9 => ?_) (fun E9 g9 z9 => by cases z9.1)
  obtain ⟨e9, hV4⟩ := z9
  replace e9 : Sum.inl v9 = (Sum.inl (some (Value.int (2))) : Out) := e9
  cases e9
  replace hV4 : OpW X g4 x S past N hs 0 2 1 [] ln1 := hV4
  refine V_iconst (v := 2) dL_thrown_865 (by decide) ?_
  refine V_icmp_ne (tgt := 917) dL_thrown_866 (by decide) (fun c9 => absurd c9 (fun q9 => q9 rfl)) (fun _ => ?_)
  refine V_aload_n dL_thrown_869 0 rfl ?_
  refine V_callSH (As := [.ref x]) (rest := []) dL_thrown_870 cvL_314 (c_L_failedException hxs hg hV4) ⟨Nat.le_of_ble_eq_true rfl, Nat.le_of_ble_eq_true rfl, Nat.le_of_ble_eq_true rfl, Nat.le_of_ble_eq_true rfl⟩ (Nat.le_of_ble_eq_true rfl) rfl (fun v9 g5 z9 => ?_) (fun E9 g9 z9 => by cases z9.1)
  obtain ⟨e9, hV5⟩ := z9
  replace e9 : Sum.inl v9 = (Sum.inl (some (Value.int (1))) : Out) := e9
  cases e9
  replace hV5 : OpW X g5 x S past N hs 0 2 1 [] ln1 := hV5
  refine V_iconst (v := 1) dL_thrown_873 (by decide) ?_
  refine V_icmp_ne (tgt := 917) dL_thrown_874 (by decide) (fun c9 => absurd c9 (fun q9 => q9 rfl)) (fun _ => ?_)
  refine V_aload_n dL_thrown_877 0 rfl ?_
  refine V_ldcSW dL_thrown_878 (hg.2.1 40 _ _ _ rfl) ?_
  refine V_callS (As := [.ref x, .ref (kad X 40)]) (rest := []) dL_thrown_881 cvL_277 (c_runs_99 hxs hg hV5) ⟨Nat.le_of_ble_eq_true rfl, Nat.le_of_ble_eq_true rfl, Nat.le_of_ble_eq_true rfl, Nat.le_of_ble_eq_true rfl⟩ (Nat.le_of_ble_eq_true rfl) rfl (fun v9 g6 z9 => ?_) (fun E9 g9 z9 => by cases z9.1)
  obtain ⟨e9, hV6⟩ := z9
  replace e9 : Sum.inl v9 = (Sum.inl (some (Value.int (-1002))) : Out) := e9
  cases e9
  replace hV6 : OpW X g6 x S past N hs 0 0 1 [] ln1 := hV6
  refine V_sipush (v := (-1002)) dL_thrown_884 (by decide) ?_
  refine V_icmp_ne (tgt := 917) dL_thrown_887 (by decide) (fun c9 => absurd c9 (fun q9 => q9 rfl)) (fun _ => ?_)
  refine V_aload_n dL_thrown_890 0 rfl ?_
  refine V_callSH (As := [.ref x]) (rest := []) dL_thrown_891 cvL_312 (c_L_failedCommand hxs hg hV6) ⟨Nat.le_of_ble_eq_true rfl, Nat.le_of_ble_eq_true rfl, Nat.le_of_ble_eq_true rfl, Nat.le_of_ble_eq_true rfl⟩ (Nat.le_of_ble_eq_true rfl) rfl (fun v9 g7 z9 => ?_) (fun E9 g9 z9 => by cases z9.1)
  obtain ⟨e9, hV7⟩ := z9
  replace e9 : Sum.inl v9 = (Sum.inl (some (Value.int (0))) : Out) := e9
  cases e9
  replace hV7 : OpW X g7 x S past N hs 0 0 1 [] ln1 := hV7
  refine V_if_ne (tgt := 917) dL_thrown_894 (by decide) (fun c9 => absurd c9 (fun q9 => q9 rfl)) (fun _ => ?_)
  refine V_aload_n dL_thrown_897 0 rfl ?_
  refine V_callSH (As := [.ref x]) (rest := []) dL_thrown_898 cvL_308 (c_L_errorPosition hxs hg hV7) ⟨Nat.le_of_ble_eq_true rfl, Nat.le_of_ble_eq_true rfl, Nat.le_of_ble_eq_true rfl, Nat.le_of_ble_eq_true rfl⟩ (Nat.le_of_ble_eq_true rfl) rfl (fun v9 g8 z9 => ?_) (fun E9 g9 z9 => by cases z9.1)
  obtain ⟨e9, hV8⟩ := z9
  replace e9 : Sum.inl v9 = (Sum.inl (some (Value.int (0))) : Out) := e9
  cases e9
  replace hV8 : OpW X g8 x S past N hs 0 0 1 [] ln1 := hV8
  refine V_if_ne (tgt := 917) dL_thrown_901 (by decide) (fun c9 => absurd c9 (fun q9 => q9 rfl)) (fun _ => ?_)
  refine V_aload_n dL_thrown_904 0 rfl ?_
  refine V_callS (As := [.ref x]) (rest := []) dL_thrown_905 cvL_281 (c_L_asks hxs hg hV8 hI hB (by omega) hn hn6) ⟨Nat.le_of_ble_eq_true rfl, Nat.le_of_ble_eq_true rfl, Nat.le_of_ble_eq_true rfl, Nat.le_of_ble_eq_true rfl⟩ (Nat.le_of_ble_eq_true rfl) rfl (fun v9 g9 z9 => ?_) (fun E9 g9 z9 => by cases z9.1)
  obtain ⟨e9, ln2, hV9⟩ := z9
  cases e9
  refine V_lload_n dL_thrown_908 1 rfl ?_
  refine V_lcmp dL_thrown_909 ?_
  rw [lg_rf]
  refine V_if_ne (tgt := 917) dL_thrown_910 (by decide) (fun c9 => absurd c9 (fun q9 => q9 rfl)) (fun _ => ?_)
  refine V_iconst (v := 1) dL_thrown_913 (by decide) ?_
  refine V_goto (tgt := 918) dL_thrown_914 (by decide) ?_
  exact V_zret dL_thrown_918 rfl bN1 ⟨Nat.le_of_ble_eq_true rfl, Nat.le_of_ble_eq_true rfl⟩ ⟨rfl, _, _, _, _, hV9⟩
set_option maxRecDepth 20000 in
set_option maxHeartbeats 8000000 in
theorem th_736 {X : KX} (hxs : X.1.stackTraces = false) (hg : GX X) {x : Nat} {S : SH} {past : List SH} {N : SH} {hs le lc lf : Int32} {B K T n : Nat} {L : List Int32} (hI : Inv B K T S) (hTI : TI K L S) (hK : K ≤ 15) (hB : B < 10000) (hT : T < 800) (hn : z_perf S = nI n) (hn2 : 2 ≤ n) (hn6 : n ≤ 6) : ∀ (g c : Nat) (h0 : AH), c + g = L.length → (∃ ln9, OpW X h0 x S past N hs le lc lf [] ln9) → V X mL_thrown (zF X mL_thrown (zM (some (.int 1)) (fun h' => ∃ le1 lc1 lf1 ln1, OpW X h' x S past N hs le1 lc1 lf1 [] ln1))) (2330 + 6 * c) (70200 + 36 * c) 736 [(0, .ref x), (1, .long (Asks S)), (3, .int (nI n)), (4, .int (z_beat S)), (5, .int 1), (6, .int (nI c))] [] h0 := by
  have rm0 : (mR mX7_cueCount).cells = 0 ∧ (mR mX7_cueCount).slots = 0 := ⟨rfl, rfl⟩
  have rm1 : (mR mL_cueAt).cells = 1 ∧ (mR mL_cueAt).slots = 6 := ⟨rfl, rfl⟩
  have rm2 : (mR mL_move).cells = 1 ∧ (mR mL_move).slots = 6 := ⟨rfl, rfl⟩
  have rm3 : (mR mL_cueKind).cells = 1 ∧ (mR mL_cueKind).slots = 6 := ⟨rfl, rfl⟩
  have rm4 : (mR mL_cuePerformer).cells = 2 ∧ (mR mL_cuePerformer).slots = 12 := ⟨rfl, rfl⟩
  have rm5 : (mR mL_fines).cells = 1 ∧ (mR mL_fines).slots = 6 := ⟨rfl, rfl⟩
  have rm6 : (mR mL_pay).cells = 1 ∧ (mR mL_pay).slots = 6 := ⟨rfl, rfl⟩
  have rm7 : (mR mL_cueBeat).cells = 1 ∧ (mR mL_cueBeat).slots = 6 := ⟨rfl, rfl⟩
  have rm8 : (mR mL_cueSize).cells = 1 ∧ (mR mL_cueSize).slots = 6 := ⟨rfl, rfl⟩
  have rm9 : (mR mL_cancel).cells = 1 ∧ (mR mL_cancel).slots = 6 := ⟨rfl, rfl⟩
  have rm10 : (mR mL_isMouthing).cells = 1 ∧ (mR mL_isMouthing).slots = 6 := ⟨rfl, rfl⟩
  have rm11 : (mR mL_whisper).cells = 1 ∧ (mR mL_whisper).slots = 6 := ⟨rfl, rfl⟩
  have rm12 : (mR mL_atRank).cells = 1 ∧ (mR mL_atRank).slots = 6 := ⟨rfl, rfl⟩
  have rm13 : (mR mL_finesAfter).cells = 1 ∧ (mR mL_finesAfter).slots = 6 := ⟨rfl, rfl⟩
  have rm14 : (mR mL_finesByCues).cells = 1 ∧ (mR mL_finesByCues).slots = 6 := ⟨rfl, rfl⟩
  have rm15 : (mR mL_first).cells = 1 ∧ (mR mL_first).slots = 6 := ⟨rfl, rfl⟩
  have rm16 : (mR mL_firstByScan).cells = 1 ∧ (mR mL_firstByScan).slots = 6 := ⟨rfl, rfl⟩
  have rm17 : (mR mX7_performerCount).cells = 0 ∧ (mR mX7_performerCount).slots = 0 := ⟨rfl, rfl⟩
  have hl16 : L.length ≤ 16 := by have := hTI.2.2.2.2.2.2.1; omega
  intro g
  induction g with
  | zero =>
    intro c h0 hc hQ
    have ec : c = L.length := by omega
    subst ec
    obtain ⟨ln1, hV0⟩ := hQ
    refine V_iload dL_thrown_736 5 rfl ?_
    refine V_aload_n dL_thrown_738 0 rfl ?_
    refine V_cVmi (As := []) (rest := [.int (nI L.length)]) dL_thrown_739 cvL_204 (c_X7_cueCount hxs hg hV0) hV0.obj rfl ⟨Nat.le_of_ble_eq_true rfl, Nat.le_of_ble_eq_true rfl, by show 2330 + 6 * L.length + 0 ≤ 6000; omega, by show 70200 + 36 * L.length + 0 ≤ 400000; omega⟩ (Nat.le_of_ble_eq_true rfl) rfl (fun g1 hV1 => ?_)
    rw [show T_X7_cueCount S = nI L.length from hTI.2.2.2.2.2.1]
    refine V_icmp_ge (tgt := 823) dL_thrown_742 (by decide) (fun _ => ?_) (fun c9 => absurd (Int32.le_refl _) c9)
    refine V.loc [0, 1, 2, 3, 4] rfl ?_
    refine V.wide (k' := 2430) (n' := 70800) (by omega) (by omega) ?_
    exact th_823 hxs hg hI hTI hK hB hT hn hn2 hn6 ⟨_, hV1⟩
  | succ g ih =>
    intro c h0 hc hQ
    have hc9 : c < L.length := by omega
    obtain ⟨ln1, hV0⟩ := hQ
    have hx := (at_rank hTI hI (by omega)).1 c hc9
    have hmem : L.getD c 0 ∈ L := by
      rw [List.getD_eq_getElem?_getD, List.getElem?_eq_getElem hc9]
      exact List.getElem_mem hc9
    obtain ⟨q, hq, eq⟩ := Tr_slot hTI.2.2.1 _ hmem
    have hpk := hTI.2.2.2.2.1 _ hmem
    have eA : wI ([-1001] : List Int32) (T_X7_cueAt S (nI c)) = rd (z_ids S) (nI q) := by
      unfold T_X7_cueAt
      rw [hx, eq, if_neg (by rw [isSlot_nI hq]; decide)]
      rfl
    rw [eq] at hpk
    obtain ⟨j, hj, s1, s2, s3, s4⟩ : ∃ j, j < 16 ∧ T_X7_pendingSlot S (rd (z_ids S) (nI q)) = .inl (nI j) ∧ T_X3_slotOf (z_ids S) (z_kinds S) (rd (z_ids S) (nI q)) = nI j ∧ ¬ rd (z_kinds S) (nI j) = 0 ∧ rd (z_ids S) (nI j) = rd (z_ids S) (nI q) := by
      rcases pend_slot S (rd (z_ids S) (nI q)) with ⟨-, -, e⟩ | e
      · exact absurd rfl (e q hq hpk)
      · exact e
    generalize hid : rd (z_ids S) (nI q) = id9 at eA s1 s2 s4
    refine V_iload dL_thrown_736 5 rfl ?_
    refine V_aload_n dL_thrown_738 0 rfl ?_
    refine V_cVmi (As := []) (rest := [.int (nI c)]) dL_thrown_739 cvL_204 (c_X7_cueCount hxs hg hV0) hV0.obj rfl ⟨Nat.le_of_ble_eq_true rfl, Nat.le_of_ble_eq_true rfl, by show 2330 + 6 * c + 0 ≤ 6000; omega, by show 70200 + 36 * c + 0 ≤ 400000; omega⟩ (Nat.le_of_ble_eq_true rfl) rfl (fun g1 hV1 => ?_)
    rw [show T_X7_cueCount S = nI L.length from hTI.2.2.2.2.2.1]
    refine V_icmp_ge (tgt := 823) dL_thrown_742 (by decide) (fun c9 => absurd c9 (nI_ge hc9 (by omega))) (fun _ => ?_)
    refine V_aload_n dL_thrown_745 0 rfl ?_
    refine V_iload dL_thrown_746 5 rfl ?_
    refine V_cSHi (As := [.ref x, .int (nI c)]) (rest := []) dL_thrown_748 cvL_241 (c_L_cueAt hxs hg hV1 (nI c)) ⟨Nat.le_of_ble_eq_true rfl, Nat.le_of_ble_eq_true rfl, by show 2330 + 6 * c + 0 + 1 ≤ 6000; omega, by show 70200 + 36 * c + 0 + 6 ≤ 400000; omega⟩ (Nat.le_of_ble_eq_true rfl) rfl (fun g2 hV2 => ?_)
    rw [eA]
    refine V_istore (lv' := [(7, .int id9), (0, .ref x), (1, .long (Asks S)), (3, .int (nI n)), (4, .int (z_beat S)), (5, .int 1), (6, .int (nI c))]) dL_thrown_751 (by decide) rfl ?_
    refine V_iload dL_thrown_753 5 rfl ?_
    refine V_if_eq (tgt := 814) dL_thrown_755 (by decide) (fun c9 => absurd c9 (by decide)) (fun _ => ?_)
    refine V_aload_n dL_thrown_758 1 rfl ?_
    refine V_iload dL_thrown_759 0 rfl ?_
    refine V_iload dL_thrown_761 4 rfl ?_
    refine V_cSHi (As := [.ref x, .int id9, .int (z_beat S)]) (rest := []) dL_thrown_763 cvL_253 (c_L_move hxs hg hV2 id9 (z_beat S)) ⟨Nat.le_of_ble_eq_true rfl, Nat.le_of_ble_eq_true rfl, by show 2330 + 6 * c + 0 + 1 + 1 ≤ 6000; omega, by show 70200 + 36 * c + 0 + 6 + 6 ≤ 400000; omega⟩ (Nat.le_of_ble_eq_true rfl) rfl (fun g3 hV3 => ?_)
    rw [x_move2 hj s2 cb_now] at hV3 ⊢
    replace hV3 : OpW X g3 x S past N hs le lc lf [] ln1 := hV3
    show V _ _ _ _ _ _ _ (.int (-1002) :: _) _
    refine V_sipush (v := (-1002)) dL_thrown_766 (by decide) ?_
    refine V_icmp_ne (tgt := 814) dL_thrown_769 (by decide) (fun c9 => absurd c9 (fun q9 => q9 rfl)) (fun _ => ?_)
    refine V_aload_n dL_thrown_772 1 rfl ?_
    refine V_iload dL_thrown_773 0 rfl ?_
    refine V_sipush (v := 200) dL_thrown_775 (by decide) ?_
    refine V_cSHi (As := [.ref x, .int id9, .int 200]) (rest := []) dL_thrown_778 cvL_253 (c_L_move hxs hg hV3 id9 200) ⟨Nat.le_of_ble_eq_true rfl, Nat.le_of_ble_eq_true rfl, by show 2330 + 6 * c + 0 + 1 + 1 + 1 ≤ 6000; omega, by show 70200 + 36 * c + 0 + 6 + 6 + 6 ≤ 400000; omega⟩ (Nat.le_of_ble_eq_true rfl) rfl (fun g4 hV4 => ?_)
    rw [x_move2 hj s2 cb_200] at hV4 ⊢
    replace hV4 : OpW X g4 x S past N hs le lc lf [] ln1 := hV4
    show V _ _ _ _ _ _ _ (.int (-1002) :: _) _
    refine V_sipush (v := (-1002)) dL_thrown_781 (by decide) ?_
    refine V_icmp_ne (tgt := 814) dL_thrown_784 (by decide) (fun c9 => absurd c9 (fun q9 => q9 rfl)) (fun _ => ?_)
    refine V_aload_n dL_thrown_787 1 rfl ?_
    refine V_iload dL_thrown_788 0 rfl ?_
    refine V_cSHi (As := [.ref x, .int id9]) (rest := []) dL_thrown_790 cvL_297 (c_L_cueKind hxs hg hV4 id9) ⟨Nat.le_of_ble_eq_true rfl, Nat.le_of_ble_eq_true rfl, by show 2330 + 6 * c + 0 + 1 + 1 + 1 + 1 ≤ 6000; omega, by show 70200 + 36 * c + 0 + 6 + 6 + 6 + 6 ≤ 400000; omega⟩ (Nat.le_of_ble_eq_true rfl) rfl (fun g5 hV5 => ?_)
    rw [x_kindj s1]
    show V _ _ _ _ _ _ _ (.int (rd (z_kinds S) (nI j)) :: _) _
    refine V_bipush (v := 104) dL_thrown_793 (by decide) ?_
    have tail : ∀ (k9 n9 : Nat) (g9 : AH), k9 ≤ 2330 + 6 * (c + 1) → n9 ≤ 70200 + 36 * (c + 1) → OpW X g9 x S past N hs le lc lf [] ln1 → V X mL_thrown (zF X mL_thrown (zM (some (.int 1)) (fun h' => ∃ le1 lc1 lf1 ln1, OpW X h' x S past N hs le1 lc1 lf1 [] ln1))) k9 n9 810 [(7, .int id9), (0, .ref x), (1, .long (Asks S)), (3, .int (nI n)), (4, .int (z_beat S)), (5, .int 1), (6, .int (nI c))] [] g9 := by
      intro k9 n9 g9 hk9 hn9 hV9
      refine V_iconst (v := 1) dL_thrown_810 (by decide) ?_
      refine V_goto (tgt := 815) dL_thrown_811 (by decide) ?_
      refine V_istore (lv' := [(5, .int 1), (7, .int id9), (0, .ref x), (1, .long (Asks S)), (3, .int (nI n)), (4, .int (z_beat S)), (6, .int (nI c))]) dL_thrown_815 (by decide) rfl ?_
      refine V_iinc (v := nI (c + 1)) (lv' := [(6, .int (nI (c + 1))), (5, .int 1), (7, .int id9), (0, .ref x), (1, .long (Asks S)), (3, .int (nI n)), (4, .int (z_beat S))]) dL_thrown_817 6 rfl (iinc1 c) (by decide) rfl ?_
      refine V_goto (tgt := 736) dL_thrown_820 (by decide) ?_
      refine V.loc [3, 4, 5, 6, 1, 0] rfl ?_
      refine V.wide hk9 hn9 ?_
      exact ih (c + 1) g9 (by omega) ⟨_, hV9⟩
    by_cases d9 : rd (z_kinds S) (nI j) = 104
    · refine V_icmp_ne (tgt := 810) dL_thrown_795 (by decide) (fun c9 => absurd c9 (fun q9 => q9 d9)) (fun _ => ?_)
      refine V_aload_n dL_thrown_798 1 rfl ?_
      refine V_iload dL_thrown_799 0 rfl ?_
      refine V_cSHi (As := [.ref x, .int id9]) (rest := []) dL_thrown_801 cvL_301 (c_L_cuePerformer hxs hg hV5 id9) ⟨Nat.le_of_ble_eq_true rfl, Nat.le_of_ble_eq_true rfl, by show 2330 + 6 * c + 0 + 1 + 1 + 1 + 1 + 2 ≤ 6000; omega, by show 70200 + 36 * c + 0 + 6 + 6 + 6 + 6 + 12 ≤ 400000; omega⟩ (Nat.le_of_ble_eq_true rfl) rfl (fun g6 hV6 => ?_)
      rw [x_perfj s1 d9]
      show V _ _ _ _ _ _ _ (.int (-1002) :: _) _
      refine V_sipush (v := (-1002)) dL_thrown_804 (by decide) ?_
      refine V_icmp_ne (tgt := 814) dL_thrown_807 (by decide) (fun c9 => absurd c9 (fun q9 => q9 rfl)) (fun _ => ?_)
      exact tail _ _ g6 (by omega) (by omega) hV6
    · refine V_icmp_ne (tgt := 810) dL_thrown_795 (by decide) (fun _ => ?_) (fun c9 => absurd c9 d9)
      exact tail _ _ g5 (by omega) (by omega) hV5
set_option maxRecDepth 20000 in
set_option maxHeartbeats 8000000 in
theorem th_678 {X : KX} (hxs : X.1.stackTraces = false) (hg : GX X) {x : Nat} {S : SH} {past : List SH} {N : SH} {hs le lc lf : Int32} {B K T n : Nat} {L : List Int32} (hI : Inv B K T S) (hTI : TI K L S) (hK : K ≤ 15) (hB : B < 10000) (hT : T < 800) (hn : z_perf S = nI n) (hn2 : 2 ≤ n) (hn6 : n ≤ 6) : ∀ (g p : Nat) (h0 : AH), p + g = n → (∃ ln9, OpW X h0 x S past N hs le lc lf [] ln9) → V X mL_thrown (zF X mL_thrown (zM (some (.int 1)) (fun h' => ∃ le1 lc1 lf1 ln1, OpW X h' x S past N hs le1 lc1 lf1 [] ln1))) (2200 + 3 * p) (70000 + 18 * p) 678 [(0, .ref x), (1, .long (Asks S)), (3, .int (nI n)), (4, .int (z_beat S)), (5, .int 1), (6, .int (nI p))] [] h0 := by
  have rm0 : (mR mX7_cueCount).cells = 0 ∧ (mR mX7_cueCount).slots = 0 := ⟨rfl, rfl⟩
  have rm1 : (mR mL_cueAt).cells = 1 ∧ (mR mL_cueAt).slots = 6 := ⟨rfl, rfl⟩
  have rm2 : (mR mL_move).cells = 1 ∧ (mR mL_move).slots = 6 := ⟨rfl, rfl⟩
  have rm3 : (mR mL_cueKind).cells = 1 ∧ (mR mL_cueKind).slots = 6 := ⟨rfl, rfl⟩
  have rm4 : (mR mL_cuePerformer).cells = 2 ∧ (mR mL_cuePerformer).slots = 12 := ⟨rfl, rfl⟩
  have rm5 : (mR mL_fines).cells = 1 ∧ (mR mL_fines).slots = 6 := ⟨rfl, rfl⟩
  have rm6 : (mR mL_pay).cells = 1 ∧ (mR mL_pay).slots = 6 := ⟨rfl, rfl⟩
  have rm7 : (mR mL_cueBeat).cells = 1 ∧ (mR mL_cueBeat).slots = 6 := ⟨rfl, rfl⟩
  have rm8 : (mR mL_cueSize).cells = 1 ∧ (mR mL_cueSize).slots = 6 := ⟨rfl, rfl⟩
  have rm9 : (mR mL_cancel).cells = 1 ∧ (mR mL_cancel).slots = 6 := ⟨rfl, rfl⟩
  have rm10 : (mR mL_isMouthing).cells = 1 ∧ (mR mL_isMouthing).slots = 6 := ⟨rfl, rfl⟩
  have rm11 : (mR mL_whisper).cells = 1 ∧ (mR mL_whisper).slots = 6 := ⟨rfl, rfl⟩
  have rm12 : (mR mL_atRank).cells = 1 ∧ (mR mL_atRank).slots = 6 := ⟨rfl, rfl⟩
  have rm13 : (mR mL_finesAfter).cells = 1 ∧ (mR mL_finesAfter).slots = 6 := ⟨rfl, rfl⟩
  have rm14 : (mR mL_finesByCues).cells = 1 ∧ (mR mL_finesByCues).slots = 6 := ⟨rfl, rfl⟩
  have rm15 : (mR mL_first).cells = 1 ∧ (mR mL_first).slots = 6 := ⟨rfl, rfl⟩
  have rm16 : (mR mL_firstByScan).cells = 1 ∧ (mR mL_firstByScan).slots = 6 := ⟨rfl, rfl⟩
  have rm17 : (mR mX7_performerCount).cells = 0 ∧ (mR mX7_performerCount).slots = 0 := ⟨rfl, rfl⟩
  intro g
  induction g with
  | zero =>
    intro p h0 hp hQ
    have ep : p = n := by omega
    subst ep
    refine V_iload dL_thrown_678 5 rfl ?_
    refine V_iload_n dL_thrown_680 2 rfl ?_
    refine V_icmp_ge (tgt := 733) dL_thrown_681 (by decide) (fun _ => ?_) (fun c9 => absurd (Int32.le_refl _) c9)
    refine V.loc [0, 1, 2, 3, 4] rfl ?_
    refine V_iconst (v := 0) dL_thrown_733 (by decide) ?_
    refine V_istore (lv' := [(6, .int 0), (0, .ref x), (1, .long (Asks S)), (3, .int (nI p)), (4, .int (z_beat S)), (5, .int 1)]) dL_thrown_734 (by decide) rfl ?_
    refine V.loc [1, 2, 3, 4, 5, 0] rfl ?_
    refine V.wide (k' := 2330 + 6 * 0) (n' := 70200 + 36 * 0) (by omega) (by omega) ?_
    exact th_736 hxs hg hI hTI hK hB hT hn hn2 hn6 L.length 0 h0 (by omega) hQ
  | succ g ih =>
    intro p h0 hp hQ
    have hp9 : p < n := by omega
    obtain ⟨ln1, hV0⟩ := hQ
    have hp1 := has_1 hn hn6 hp9
    obtain ⟨w, hw, ew⟩ := hI.2.2.2.2.2.2.2.2.1 (nI p)
    refine V_iload dL_thrown_678 5 rfl ?_
    refine V_iload_n dL_thrown_680 2 rfl ?_
    refine V_icmp_ge (tgt := 733) dL_thrown_681 (by decide) (fun c9 => absurd c9 (nI_ge hp9 (by omega))) (fun _ => ?_)
    refine V_aload_n dL_thrown_684 0 rfl ?_
    refine V_iload dL_thrown_685 5 rfl ?_
    refine V_cSHi (As := [.ref x, .int (nI p)]) (rest := []) dL_thrown_687 cvL_285 (c_L_fines hxs hg hV0 (nI p)) ⟨Nat.le_of_ble_eq_true rfl, Nat.le_of_ble_eq_true rfl, by show 2200 + 3 * p + 1 ≤ 6000; omega, by show 70000 + 18 * p + 6 ≤ 400000; omega⟩ (Nat.le_of_ble_eq_true rfl) rfl (fun g1 hV1 => ?_)
    rw [x_fines1 hp1]
    show V _ _ _ _ _ _ _ (.int (rd (z_owed S) (nI p)) :: _) _
    rw [ew]
    refine V_bipush (v := 99) dL_thrown_690 (by decide) ?_
    have tail : ∀ (k9 n9 : Nat) (g9 : AH), k9 ≤ 2200 + 3 * (p + 1) → n9 ≤ 70000 + 18 * (p + 1) → OpW X g9 x S past N hs le lc lf [] ln1 → V X mL_thrown (zF X mL_thrown (zM (some (.int 1)) (fun h' => ∃ le1 lc1 lf1 ln1, OpW X h' x S past N hs le1 lc1 lf1 [] ln1))) k9 n9 727 [(0, .ref x), (1, .long (Asks S)), (3, .int (nI n)), (4, .int (z_beat S)), (5, .int 1), (6, .int (nI p))] [] g9 := by
      intro k9 n9 g9 hk9 hn9 hV9
      refine V_iinc (v := nI (p + 1)) (lv' := [(6, .int (nI (p + 1))), (0, .ref x), (1, .long (Asks S)), (3, .int (nI n)), (4, .int (z_beat S)), (5, .int 1)]) dL_thrown_727 5 rfl (iinc1 p) (by decide) rfl ?_
      refine V_goto (tgt := 678) dL_thrown_730 (by decide) ?_
      refine V.loc [1, 2, 3, 4, 5, 0] rfl ?_
      refine V.wide hk9 hn9 ?_
      exact ih (p + 1) g9 (by omega) ⟨_, hV9⟩
    by_cases d9 : w < 99
    · refine V_icmp_ge (tgt := 727) dL_thrown_692 (by decide) (fun c9 => absurd c9 (nI_ge (a := w) (b := 99) d9 (by omega))) (fun _ => ?_)
      refine V_iload dL_thrown_695 4 rfl ?_
      refine V_if_eq (tgt := 724) dL_thrown_697 (by decide) (fun c9 => absurd c9 (by decide)) (fun _ => ?_)
      refine V_aload_n dL_thrown_700 0 rfl ?_
      refine V_iload dL_thrown_701 5 rfl ?_
      refine V_aload_n dL_thrown_703 0 rfl ?_
      refine V_iload dL_thrown_704 5 rfl ?_
      refine V_cSHi (As := [.ref x, .int (nI p)]) (rest := [.int (nI p), .ref x]) dL_thrown_706 cvL_285 (c_L_fines hxs hg hV1 (nI p)) ⟨Nat.le_of_ble_eq_true rfl, Nat.le_of_ble_eq_true rfl, by show 2200 + 3 * p + 1 + 1 ≤ 6000; omega, by show 70000 + 18 * p + 6 + 6 ≤ 400000; omega⟩ (Nat.le_of_ble_eq_true rfl) rfl (fun g2 hV2 => ?_)
      rw [x_fines1 hp1]
      show V _ _ _ _ _ _ _ (.int (rd (z_owed S) (nI p)) :: _) _
      rw [ew]
      refine V_iconst (v := 1) dL_thrown_709 (by decide) ?_
      refine V_iadd dL_thrown_710 ?_
      rw [nI_1]
      refine V_cSHi (As := [.ref x, .int (nI p), .int (nI (w + 1))]) (rest := []) dL_thrown_711 cvL_245 (c_L_pay hxs hg hV2 (nI p) (nI (w + 1))) ⟨Nat.le_of_ble_eq_true rfl, Nat.le_of_ble_eq_true rfl, by show 2200 + 3 * p + 1 + 1 + 1 ≤ 6000; omega, by show 70000 + 18 * p + 6 + 6 + 6 ≤ 400000; omega⟩ (Nat.le_of_ble_eq_true rfl) rfl (fun g3 hV3 => ?_)
      have x9 : T_X7_payFine S past (nI p) (nI (w + 1)) = (.inr 2, S, past) := x_pay3 hp1 (show ¬ nI (w + 1) < 1 from nI_nlt (a := w + 1) (b := 1) (by omega) (by omega)) (show nI (w + 1) ≤ 99 from nI_le (a := w + 1) (b := 99) (by omega) (by omega)) (by rw [ew]; exact nI_ge (by omega) (by omega))
      rw [x9] at hV3 ⊢
      replace hV3 : OpW X g3 x S past N hs le lc lf [] ln1 := hV3
      show V _ _ _ _ _ _ _ (.int (-1003) :: _) _
      refine V_sipush (v := (-1003)) dL_thrown_714 (by decide) ?_
      refine V_icmp_ne (tgt := 724) dL_thrown_717 (by decide) (fun c9 => absurd c9 (fun q9 => q9 rfl)) (fun _ => ?_)
      refine V_iconst (v := 1) dL_thrown_720 (by decide) ?_
      refine V_goto (tgt := 725) dL_thrown_721 (by decide) ?_
      refine V_istore (lv' := [(5, .int 1), (0, .ref x), (1, .long (Asks S)), (3, .int (nI n)), (4, .int (z_beat S)), (6, .int (nI p))]) dL_thrown_725 (by decide) rfl ?_
      refine V.loc [1, 2, 3, 4, 0, 5] rfl ?_
      exact tail _ _ g3 (by omega) (by omega) hV3
    · refine V_icmp_ge (tgt := 727) dL_thrown_692 (by decide) (fun _ => ?_) (fun c9 => absurd (nI_le (a := 99) (b := w) (by omega) (by omega)) c9)
      exact tail _ _ g1 (by omega) (by omega) hV1
set_option maxRecDepth 20000 in
set_option maxHeartbeats 8000000 in
theorem th_603 {X : KX} (hxs : X.1.stackTraces = false) (hg : GX X) {x : Nat} {S : SH} {past : List SH} {N : SH} {hs le lc lf : Int32} {B K T n : Nat} {L : List Int32} (hI : Inv B K T S) (hTI : TI K L S) (hK : K ≤ 15) (hB : B < 10000) (hT : T < 800) (hn : z_perf S = nI n) (hn2 : 2 ≤ n) (hn6 : n ≤ 6) {h0 : AH} (hQ : (∃ ln9, OpW X h0 x S past N hs le lc lf [] ln9)) : V X mL_thrown (zF X mL_thrown (zM (some (.int 1)) (fun h' => ∃ le1 lc1 lf1 ln1, OpW X h' x S past N hs le1 lc1 lf1 [] ln1))) 2180 69000 603 [(0, .ref x), (1, .long (Asks S)), (3, .int (nI n)), (4, .int (z_beat S))] [] h0 := by
  have rm0 : (mR mX7_cueCount).cells = 0 ∧ (mR mX7_cueCount).slots = 0 := ⟨rfl, rfl⟩
  have rm1 : (mR mL_cueAt).cells = 1 ∧ (mR mL_cueAt).slots = 6 := ⟨rfl, rfl⟩
  have rm2 : (mR mL_move).cells = 1 ∧ (mR mL_move).slots = 6 := ⟨rfl, rfl⟩
  have rm3 : (mR mL_cueKind).cells = 1 ∧ (mR mL_cueKind).slots = 6 := ⟨rfl, rfl⟩
  have rm4 : (mR mL_cuePerformer).cells = 2 ∧ (mR mL_cuePerformer).slots = 12 := ⟨rfl, rfl⟩
  have rm5 : (mR mL_fines).cells = 1 ∧ (mR mL_fines).slots = 6 := ⟨rfl, rfl⟩
  have rm6 : (mR mL_pay).cells = 1 ∧ (mR mL_pay).slots = 6 := ⟨rfl, rfl⟩
  have rm7 : (mR mL_cueBeat).cells = 1 ∧ (mR mL_cueBeat).slots = 6 := ⟨rfl, rfl⟩
  have rm8 : (mR mL_cueSize).cells = 1 ∧ (mR mL_cueSize).slots = 6 := ⟨rfl, rfl⟩
  have rm9 : (mR mL_cancel).cells = 1 ∧ (mR mL_cancel).slots = 6 := ⟨rfl, rfl⟩
  have rm10 : (mR mL_isMouthing).cells = 1 ∧ (mR mL_isMouthing).slots = 6 := ⟨rfl, rfl⟩
  have rm11 : (mR mL_whisper).cells = 1 ∧ (mR mL_whisper).slots = 6 := ⟨rfl, rfl⟩
  have rm12 : (mR mL_atRank).cells = 1 ∧ (mR mL_atRank).slots = 6 := ⟨rfl, rfl⟩
  have rm13 : (mR mL_finesAfter).cells = 1 ∧ (mR mL_finesAfter).slots = 6 := ⟨rfl, rfl⟩
  have rm14 : (mR mL_finesByCues).cells = 1 ∧ (mR mL_finesByCues).slots = 6 := ⟨rfl, rfl⟩
  have rm15 : (mR mL_first).cells = 1 ∧ (mR mL_first).slots = 6 := ⟨rfl, rfl⟩
  have rm16 : (mR mL_firstByScan).cells = 1 ∧ (mR mL_firstByScan).slots = 6 := ⟨rfl, rfl⟩
  have rm17 : (mR mX7_performerCount).cells = 0 ∧ (mR mX7_performerCount).slots = 0 := ⟨rfl, rfl⟩
  obtain ⟨ln1, hV0⟩ := hQ
  refine V_iconst (v := 1) dL_thrown_603 (by decide) ?_
  refine V_goto (tgt := 608) dL_thrown_604 (by decide) ?_
  refine V_istore (lv' := [(5, .int 1), (0, .ref x), (1, .long (Asks S)), (3, .int (nI n)), (4, .int (z_beat S))]) dL_thrown_608 (by decide) rfl ?_
  refine V_aload_n dL_thrown_610 1 rfl ?_
  refine V_cVmi (As := []) (rest := []) dL_thrown_611 cvL_204 (c_X7_cueCount hxs hg hV0) hV0.obj rfl ⟨Nat.le_of_ble_eq_true rfl, Nat.le_of_ble_eq_true rfl, Nat.le_of_ble_eq_true rfl, Nat.le_of_ble_eq_true rfl⟩ (Nat.le_of_ble_eq_true rfl) rfl (fun g1 hV1 => ?_)
  rw [show T_X7_cueCount S = nI L.length from hTI.2.2.2.2.2.1]
  have hl16 : L.length ≤ 15 := by have := hTI.2.2.2.2.2.2.1; omega
  refine V_bipush (v := 16) dL_thrown_614 (by decide) ?_
  refine V_icmp_ne (tgt := 675) dL_thrown_616 (by decide) (fun _ => ?_) (fun c9 => by have := (nI_eq (a := L.length) (b := 16) (by omega) (by omega)).mp c9; omega)
  refine V_iconst (v := 0) dL_thrown_675 (by decide) ?_
  refine V_istore (lv' := [(6, .int 0), (5, .int 1), (0, .ref x), (1, .long (Asks S)), (3, .int (nI n)), (4, .int (z_beat S))]) dL_thrown_676 (by decide) rfl ?_
  refine V.loc [2, 3, 4, 5, 1, 0] rfl ?_
  refine V.wide (k' := 2200 + 3 * 0) (n' := 70000 + 18 * 0) (Nat.le_of_ble_eq_true rfl) (Nat.le_of_ble_eq_true rfl) ?_
  exact th_678 hxs hg hI hTI hK hB hT hn hn2 hn6 n 0 g1 (by omega) ⟨_, hV1⟩
set_option maxRecDepth 20000 in
set_option maxHeartbeats 8000000 in
theorem th_32 {X : KX} (hxs : X.1.stackTraces = false) (hg : GX X) {x : Nat} {S : SH} {past : List SH} {N : SH} {hs le lc lf : Int32} {B K T n : Nat} {L : List Int32} (hI : Inv B K T S) (hTI : TI K L S) (hK : K ≤ 15) (hB : B < 10000) (hT : T < 800) (hn : z_perf S = nI n) (hn2 : 2 ≤ n) (hn6 : n ≤ 6) {h0 : AH} (hQ : (∃ ln9, OpW X h0 x S past N hs le lc lf [] ln9)) : V X mL_thrown (zF X mL_thrown (zM (some (.int 1)) (fun h' => ∃ le1 lc1 lf1 ln1, OpW X h' x S past N hs le1 lc1 lf1 [] ln1))) 2060 65700 32 [(0, .ref x), (1, .long (Asks S)), (3, .int (nI n)), (4, .int (z_beat S))] [] h0 := by
  have rm0 : (mR mX7_cueCount).cells = 0 ∧ (mR mX7_cueCount).slots = 0 := ⟨rfl, rfl⟩
  have rm1 : (mR mL_cueAt).cells = 1 ∧ (mR mL_cueAt).slots = 6 := ⟨rfl, rfl⟩
  have rm2 : (mR mL_move).cells = 1 ∧ (mR mL_move).slots = 6 := ⟨rfl, rfl⟩
  have rm3 : (mR mL_cueKind).cells = 1 ∧ (mR mL_cueKind).slots = 6 := ⟨rfl, rfl⟩
  have rm4 : (mR mL_cuePerformer).cells = 2 ∧ (mR mL_cuePerformer).slots = 12 := ⟨rfl, rfl⟩
  have rm5 : (mR mL_fines).cells = 1 ∧ (mR mL_fines).slots = 6 := ⟨rfl, rfl⟩
  have rm6 : (mR mL_pay).cells = 1 ∧ (mR mL_pay).slots = 6 := ⟨rfl, rfl⟩
  have rm7 : (mR mL_cueBeat).cells = 1 ∧ (mR mL_cueBeat).slots = 6 := ⟨rfl, rfl⟩
  have rm8 : (mR mL_cueSize).cells = 1 ∧ (mR mL_cueSize).slots = 6 := ⟨rfl, rfl⟩
  have rm9 : (mR mL_cancel).cells = 1 ∧ (mR mL_cancel).slots = 6 := ⟨rfl, rfl⟩
  have rm10 : (mR mL_isMouthing).cells = 1 ∧ (mR mL_isMouthing).slots = 6 := ⟨rfl, rfl⟩
  have rm11 : (mR mL_whisper).cells = 1 ∧ (mR mL_whisper).slots = 6 := ⟨rfl, rfl⟩
  have rm12 : (mR mL_atRank).cells = 1 ∧ (mR mL_atRank).slots = 6 := ⟨rfl, rfl⟩
  have rm13 : (mR mL_finesAfter).cells = 1 ∧ (mR mL_finesAfter).slots = 6 := ⟨rfl, rfl⟩
  have rm14 : (mR mL_finesByCues).cells = 1 ∧ (mR mL_finesByCues).slots = 6 := ⟨rfl, rfl⟩
  have rm15 : (mR mL_first).cells = 1 ∧ (mR mL_first).slots = 6 := ⟨rfl, rfl⟩
  have rm16 : (mR mL_firstByScan).cells = 1 ∧ (mR mL_firstByScan).slots = 6 := ⟨rfl, rfl⟩
  have rm17 : (mR mX7_performerCount).cells = 0 ∧ (mR mX7_performerCount).slots = 0 := ⟨rfl, rfl⟩
  obtain ⟨ln1, hV0⟩ := hQ
  have has0 := has_0 hn hn6
  have has1 : U_hasPerformer S 0 = 1 := has_1 hn hn6 (p := 0) (by omega)
  refine V_aload_n dL_thrown_32 0 rfl ?_
  refine V_iload_n dL_thrown_33 2 rfl ?_
  refine V_callSH (As := [.ref x, .int (nI n)]) (rest := []) dL_thrown_34 cvL_285 (c_L_fines hxs hg hV0 (nI n)) ⟨Nat.le_of_ble_eq_true rfl, Nat.le_of_ble_eq_true rfl, Nat.le_of_ble_eq_true rfl, Nat.le_of_ble_eq_true rfl⟩ (Nat.le_of_ble_eq_true rfl) rfl (fun v9 g1 z9 => ?_) (fun E9 g9 z9 => by cases z9.1)
  obtain ⟨e9, hV1⟩ := z9
  rw [x_fines0 has0] at e9
  replace e9 : Sum.inl v9 = (Sum.inl (some (Value.int (-1001))) : Out) := e9
  cases e9
  replace hV1 : OpW X g1 x S past N hs le lc lf [] ln1 := hV1
  refine V_sipush (v := (-1001)) dL_thrown_37 (by decide) ?_
  refine V_icmp_ne (tgt := 607) dL_thrown_40 (by decide) (fun c9 => absurd c9 (fun q9 => q9 rfl)) (fun _ => ?_)
  refine V_aload_n dL_thrown_43 0 rfl ?_
  refine V_iload_n dL_thrown_44 2 rfl ?_
  refine V_iconst (v := 0) dL_thrown_45 (by decide) ?_
  refine V_callSH (As := [.ref x, .int (nI n), .int 0]) (rest := []) dL_thrown_46 cvL_245 (c_L_pay hxs hg hV1 (nI n) 0) ⟨Nat.le_of_ble_eq_true rfl, Nat.le_of_ble_eq_true rfl, Nat.le_of_ble_eq_true rfl, Nat.le_of_ble_eq_true rfl⟩ (Nat.le_of_ble_eq_true rfl) rfl (fun v9 g2 z9 => ?_) (fun E9 g9 z9 => by cases z9.1)
  obtain ⟨e9, hV2⟩ := z9
  rw [show _ = _ from (x_pay1 has0 : _ = ((.inr _ : Int32 ⊕ Nat), S, past))] at e9 hV2
  replace e9 : Sum.inl v9 = (Sum.inl (some (Value.int (-1001))) : Out) := e9
  cases e9
  replace hV2 : OpW X g2 x S past N hs le lc lf [] ln1 := hV2
  refine V_sipush (v := (-1001)) dL_thrown_49 (by decide) ?_
  refine V_icmp_ne (tgt := 607) dL_thrown_52 (by decide) (fun c9 => absurd c9 (fun q9 => q9 rfl)) (fun _ => ?_)
  refine V_aload_n dL_thrown_55 0 rfl ?_
  refine V_iconst (v := 0) dL_thrown_56 (by decide) ?_
  refine V_iconst (v := 0) dL_thrown_57 (by decide) ?_
  refine V_callSH (As := [.ref x, .int 0, .int 0]) (rest := []) dL_thrown_58 cvL_245 (c_L_pay hxs hg hV2 0 0) ⟨Nat.le_of_ble_eq_true rfl, Nat.le_of_ble_eq_true rfl, Nat.le_of_ble_eq_true rfl, Nat.le_of_ble_eq_true rfl⟩ (Nat.le_of_ble_eq_true rfl) rfl (fun v9 g3 z9 => ?_) (fun E9 g9 z9 => by cases z9.1)
  obtain ⟨e9, hV3⟩ := z9
  rw [show _ = _ from (x_pay2 has1 (Or.inl (by decide)) : _ = ((.inr _ : Int32 ⊕ Nat), S, past))] at e9 hV3
  replace e9 : Sum.inl v9 = (Sum.inl (some (Value.int (-1002))) : Out) := e9
  cases e9
  replace hV3 : OpW X g3 x S past N hs le lc lf [] ln1 := hV3
  refine V_sipush (v := (-1002)) dL_thrown_61 (by decide) ?_
  refine V_icmp_ne (tgt := 607) dL_thrown_64 (by decide) (fun c9 => absurd c9 (fun q9 => q9 rfl)) (fun _ => ?_)
  refine V_aload_n dL_thrown_67 0 rfl ?_
  refine V_iconst (v := 0) dL_thrown_68 (by decide) ?_
  refine V_bipush (v := 100) dL_thrown_69 (by decide) ?_
  refine V_callSH (As := [.ref x, .int 0, .int 100]) (rest := []) dL_thrown_71 cvL_245 (c_L_pay hxs hg hV3 0 100) ⟨Nat.le_of_ble_eq_true rfl, Nat.le_of_ble_eq_true rfl, Nat.le_of_ble_eq_true rfl, Nat.le_of_ble_eq_true rfl⟩ (Nat.le_of_ble_eq_true rfl) rfl (fun v9 g4 z9 => ?_) (fun E9 g9 z9 => by cases z9.1)
  obtain ⟨e9, hV4⟩ := z9
  rw [show _ = _ from (x_pay2 has1 (Or.inr (by decide)) : _ = ((.inr _ : Int32 ⊕ Nat), S, past))] at e9 hV4
  replace e9 : Sum.inl v9 = (Sum.inl (some (Value.int (-1002))) : Out) := e9
  cases e9
  replace hV4 : OpW X g4 x S past N hs le lc lf [] ln1 := hV4
  refine V_sipush (v := (-1002)) dL_thrown_74 (by decide) ?_
  refine V_icmp_ne (tgt := 607) dL_thrown_77 (by decide) (fun c9 => absurd c9 (fun q9 => q9 rfl)) (fun _ => ?_)
  refine V_aload_n dL_thrown_80 0 rfl ?_
  refine V_iconst (v := (-1)) dL_thrown_81 (by decide) ?_
  refine V_callSH (As := [.ref x, .int (-1)]) (rest := []) dL_thrown_82 cvL_287 (c_L_isMouthing0 hxs hg hV4 has_neg) ⟨Nat.le_of_ble_eq_true rfl, Nat.le_of_ble_eq_true rfl, Nat.le_of_ble_eq_true rfl, Nat.le_of_ble_eq_true rfl⟩ (Nat.le_of_ble_eq_true rfl) rfl (fun v9 g5 z9 => ?_) (fun E9 g9 z9 => by cases z9.1)
  obtain ⟨e9, hV5⟩ := z9
  replace e9 : Sum.inl v9 = (Sum.inl (some (Value.int (-1001))) : Out) := e9
  cases e9
  replace hV5 : OpW X g5 x S past N hs le lc lf [] ln1 := hV5
  refine V_sipush (v := (-1001)) dL_thrown_85 (by decide) ?_
  refine V_icmp_ne (tgt := 607) dL_thrown_88 (by decide) (fun c9 => absurd c9 (fun q9 => q9 rfl)) (fun _ => ?_)
  refine V_aload_n dL_thrown_91 0 rfl ?_
  refine V_iload_n dL_thrown_92 2 rfl ?_
  refine V_bipush (v := 9) dL_thrown_93 (by decide) ?_
  refine V_callSH (As := [.ref x, .int (nI n), .int 9]) (rest := []) dL_thrown_95 cvL_248 (c_L_whisper hxs hg hV5 (nI n) 9) ⟨Nat.le_of_ble_eq_true rfl, Nat.le_of_ble_eq_true rfl, Nat.le_of_ble_eq_true rfl, Nat.le_of_ble_eq_true rfl⟩ (Nat.le_of_ble_eq_true rfl) rfl (fun v9 g6 z9 => ?_) (fun E9 g9 z9 => by cases z9.1)
  obtain ⟨e9, hV6⟩ := z9
  rw [show _ = _ from (x_hiss1 has0 : _ = ((.inr _ : Int32 ⊕ Nat), S, past))] at e9 hV6
  replace e9 : Sum.inl v9 = (Sum.inl (some (Value.int (-1001))) : Out) := e9
  cases e9
  replace hV6 : OpW X g6 x S past N hs le lc lf [] ln1 := hV6
  refine V_sipush (v := (-1001)) dL_thrown_98 (by decide) ?_
  refine V_icmp_ne (tgt := 607) dL_thrown_101 (by decide) (fun c9 => absurd c9 (fun q9 => q9 rfl)) (fun _ => ?_)
  refine V_aload_n dL_thrown_104 0 rfl ?_
  refine V_iconst (v := 0) dL_thrown_105 (by decide) ?_
  refine V_iconst (v := 0) dL_thrown_106 (by decide) ?_
  refine V_callSH (As := [.ref x, .int 0, .int 0]) (rest := []) dL_thrown_107 cvL_248 (c_L_whisper hxs hg hV6 0 0) ⟨Nat.le_of_ble_eq_true rfl, Nat.le_of_ble_eq_true rfl, Nat.le_of_ble_eq_true rfl, Nat.le_of_ble_eq_true rfl⟩ (Nat.le_of_ble_eq_true rfl) rfl (fun v9 g7 z9 => ?_) (fun E9 g9 z9 => by cases z9.1)
  obtain ⟨e9, hV7⟩ := z9
  rw [show _ = _ from (x_hiss2 has1 (Or.inl (by decide)) : _ = ((.inr _ : Int32 ⊕ Nat), S, past))] at e9 hV7
  replace e9 : Sum.inl v9 = (Sum.inl (some (Value.int (-1002))) : Out) := e9
  cases e9
  replace hV7 : OpW X g7 x S past N hs le lc lf [] ln1 := hV7
  refine V_sipush (v := (-1002)) dL_thrown_110 (by decide) ?_
  refine V_icmp_ne (tgt := 607) dL_thrown_113 (by decide) (fun c9 => absurd c9 (fun q9 => q9 rfl)) (fun _ => ?_)
  refine V_aload_n dL_thrown_116 0 rfl ?_
  refine V_iconst (v := 0) dL_thrown_117 (by decide) ?_
  refine V_iconst (v := 4) dL_thrown_118 (by decide) ?_
  refine V_callSH (As := [.ref x, .int 0, .int 4]) (rest := []) dL_thrown_119 cvL_248 (c_L_whisper hxs hg hV7 0 4) ⟨Nat.le_of_ble_eq_true rfl, Nat.le_of_ble_eq_true rfl, Nat.le_of_ble_eq_true rfl, Nat.le_of_ble_eq_true rfl⟩ (Nat.le_of_ble_eq_true rfl) rfl (fun v9 g8 z9 => ?_) (fun E9 g9 z9 => by cases z9.1)
  obtain ⟨e9, hV8⟩ := z9
  rw [show _ = _ from (x_hiss2 has1 (Or.inr (by decide)) : _ = ((.inr _ : Int32 ⊕ Nat), S, past))] at e9 hV8
  replace e9 : Sum.inl v9 = (Sum.inl (some (Value.int (-1002))) : Out) := e9
  cases e9
  replace hV8 : OpW X g8 x S past N hs le lc lf [] ln1 := hV8
  refine V_sipush (v := (-1002)) dL_thrown_122 (by decide) ?_
  refine V_icmp_ne (tgt := 607) dL_thrown_125 (by decide) (fun c9 => absurd c9 (fun q9 => q9 rfl)) (fun _ => ?_)
  refine V_aload_n dL_thrown_128 0 rfl ?_
  refine V_iload_n dL_thrown_129 2 rfl ?_
  refine V_callSH (As := [.ref x, .int (nI n)]) (rest := []) dL_thrown_130 cvL_234 (c_L_atRank hxs hg hV8 (nI n)) ⟨Nat.le_of_ble_eq_true rfl, Nat.le_of_ble_eq_true rfl, Nat.le_of_ble_eq_true rfl, Nat.le_of_ble_eq_true rfl⟩ (Nat.le_of_ble_eq_true rfl) rfl (fun v9 g9 z9 => ?_) (fun E9 g9 z9 => by cases z9.1)
  obtain ⟨e9, hV9⟩ := z9
  rw [x_rank hn hn6 (fun c hc e => by have := (nI_eq (by omega) (by omega)).mp e; omega)] at e9
  replace e9 : Sum.inl v9 = (Sum.inl (some (Value.int (-1001))) : Out) := e9
  cases e9
  replace hV9 : OpW X g9 x S past N hs le lc lf [] ln1 := hV9
  refine V_sipush (v := (-1001)) dL_thrown_133 (by decide) ?_
  refine V_icmp_ne (tgt := 607) dL_thrown_136 (by decide) (fun c9 => absurd c9 (fun q9 => q9 rfl)) (fun _ => ?_)
  refine V_aload_n dL_thrown_139 0 rfl ?_
  refine V_iconst (v := (-1)) dL_thrown_140 (by decide) ?_
  refine V_callSH (As := [.ref x, .int (-1)]) (rest := []) dL_thrown_141 cvL_234 (c_L_atRank hxs hg hV9 (-1)) ⟨Nat.le_of_ble_eq_true rfl, Nat.le_of_ble_eq_true rfl, Nat.le_of_ble_eq_true rfl, Nat.le_of_ble_eq_true rfl⟩ (Nat.le_of_ble_eq_true rfl) rfl (fun v9 g10 z9 => ?_) (fun E9 g9 z9 => by cases z9.1)
  obtain ⟨e9, hV10⟩ := z9
  rw [x_rank hn hn6 (fun c hc e => nI_pos (n := c) (by omega) (by rw [e]; decide))] at e9
  replace e9 : Sum.inl v9 = (Sum.inl (some (Value.int (-1001))) : Out) := e9
  cases e9
  replace hV10 : OpW X g10 x S past N hs le lc lf [] ln1 := hV10
  refine V_sipush (v := (-1001)) dL_thrown_144 (by decide) ?_
  refine V_icmp_ne (tgt := 607) dL_thrown_147 (by decide) (fun c9 => absurd c9 (fun q9 => q9 rfl)) (fun _ => ?_)
  refine V_aload_n dL_thrown_150 0 rfl ?_
  refine V_iload_n dL_thrown_151 2 rfl ?_
  refine V_iconst (v := 0) dL_thrown_152 (by decide) ?_
  refine V_iconst (v := 0) dL_thrown_153 (by decide) ?_
  refine V_callSH (As := [.ref x, .int (nI n), .int 0, .int 0]) (rest := []) dL_thrown_154 cvL_171 (c_L_cueMouth hxs hg hV10 (nI n) 0 0) ⟨Nat.le_of_ble_eq_true rfl, Nat.le_of_ble_eq_true rfl, Nat.le_of_ble_eq_true rfl, Nat.le_of_ble_eq_true rfl⟩ (Nat.le_of_ble_eq_true rfl) rfl (fun v9 g11 z9 => ?_) (fun E9 g9 z9 => by cases z9.1)
  obtain ⟨e9, hV11⟩ := z9
  rw [show _ = _ from ((mouth_eq _ _ _ _ _).trans (x_play1 has0) : _ = ((.inr _ : Int32 ⊕ Nat), S, past))] at e9 hV11
  replace e9 : Sum.inl v9 = (Sum.inl (some (Value.int (-1001))) : Out) := e9
  cases e9
  replace hV11 : OpW X g11 x S past N hs le lc lf [] ln1 := hV11
  refine V_sipush (v := (-1001)) dL_thrown_157 (by decide) ?_
  refine V_icmp_ne (tgt := 607) dL_thrown_160 (by decide) (fun c9 => absurd c9 (fun q9 => q9 rfl)) (fun _ => ?_)
  refine V_aload_n dL_thrown_163 0 rfl ?_
  refine V_iconst (v := 0) dL_thrown_164 (by decide) ?_
  refine V_iload dL_thrown_165 3 rfl ?_
  refine V_iconst (v := 1) dL_thrown_167 (by decide) ?_
  refine V_callSH (As := [.ref x, .int 0, .int (z_beat S), .int 1]) (rest := []) dL_thrown_168 cvL_171 (c_L_cueMouth hxs hg hV11 0 (z_beat S) 1) ⟨Nat.le_of_ble_eq_true rfl, Nat.le_of_ble_eq_true rfl, Nat.le_of_ble_eq_true rfl, Nat.le_of_ble_eq_true rfl⟩ (Nat.le_of_ble_eq_true rfl) rfl (fun v9 g12 z9 => ?_) (fun E9 g9 z9 => by cases z9.1)
  obtain ⟨e9, hV12⟩ := z9
  rw [show _ = _ from ((mouth_eq _ _ _ _ _).trans (x_play2 has1 (Or.inl cb_now)) : _ = ((.inr _ : Int32 ⊕ Nat), S, past))] at e9 hV12
  replace e9 : Sum.inl v9 = (Sum.inl (some (Value.int (-1002))) : Out) := e9
  cases e9
  replace hV12 : OpW X g12 x S past N hs le lc lf [] ln1 := hV12
  refine V_sipush (v := (-1002)) dL_thrown_171 (by decide) ?_
  refine V_icmp_ne (tgt := 607) dL_thrown_174 (by decide) (fun c9 => absurd c9 (fun q9 => q9 rfl)) (fun _ => ?_)
  refine V_aload_n dL_thrown_177 0 rfl ?_
  refine V_iconst (v := 0) dL_thrown_178 (by decide) ?_
  refine V_sipush (v := 200) dL_thrown_179 (by decide) ?_
  refine V_iconst (v := 1) dL_thrown_182 (by decide) ?_
  refine V_callSH (As := [.ref x, .int 0, .int 200, .int 1]) (rest := []) dL_thrown_183 cvL_171 (c_L_cueMouth hxs hg hV12 0 200 1) ⟨Nat.le_of_ble_eq_true rfl, Nat.le_of_ble_eq_true rfl, Nat.le_of_ble_eq_true rfl, Nat.le_of_ble_eq_true rfl⟩ (Nat.le_of_ble_eq_true rfl) rfl (fun v9 g13 z9 => ?_) (fun E9 g9 z9 => by cases z9.1)
  obtain ⟨e9, hV13⟩ := z9
  rw [show _ = _ from ((mouth_eq _ _ _ _ _).trans (x_play2 has1 (Or.inl cb_200)) : _ = ((.inr _ : Int32 ⊕ Nat), S, past))] at e9 hV13
  replace e9 : Sum.inl v9 = (Sum.inl (some (Value.int (-1002))) : Out) := e9
  cases e9
  replace hV13 : OpW X g13 x S past N hs le lc lf [] ln1 := hV13
  refine V_sipush (v := (-1002)) dL_thrown_186 (by decide) ?_
  refine V_icmp_ne (tgt := 607) dL_thrown_189 (by decide) (fun c9 => absurd c9 (fun q9 => q9 rfl)) (fun _ => ?_)
  refine V_aload_n dL_thrown_192 0 rfl ?_
  refine V_iconst (v := 0) dL_thrown_193 (by decide) ?_
  refine V_sipush (v := 199) dL_thrown_194 (by decide) ?_
  refine V_iconst (v := 0) dL_thrown_197 (by decide) ?_
  refine V_callSH (As := [.ref x, .int 0, .int 199, .int 0]) (rest := []) dL_thrown_198 cvL_171 (c_L_cueMouth hxs hg hV13 0 199 0) ⟨Nat.le_of_ble_eq_true rfl, Nat.le_of_ble_eq_true rfl, Nat.le_of_ble_eq_true rfl, Nat.le_of_ble_eq_true rfl⟩ (Nat.le_of_ble_eq_true rfl) rfl (fun v9 g14 z9 => ?_) (fun E9 g9 z9 => by cases z9.1)
  obtain ⟨e9, hV14⟩ := z9
  rw [show _ = _ from ((mouth_eq _ _ _ _ _).trans (x_play2 has1 (Or.inr (by decide))) : _ = ((.inr _ : Int32 ⊕ Nat), S, past))] at e9 hV14
  replace e9 : Sum.inl v9 = (Sum.inl (some (Value.int (-1002))) : Out) := e9
  cases e9
  replace hV14 : OpW X g14 x S past N hs le lc lf [] ln1 := hV14
  refine V_sipush (v := (-1002)) dL_thrown_201 (by decide) ?_
  refine V_icmp_ne (tgt := 607) dL_thrown_204 (by decide) (fun c9 => absurd c9 (fun q9 => q9 rfl)) (fun _ => ?_)
  refine V_aload_n dL_thrown_207 0 rfl ?_
  refine V_iconst (v := 0) dL_thrown_208 (by decide) ?_
  refine V_sipush (v := 199) dL_thrown_209 (by decide) ?_
  refine V_bipush (v := 10) dL_thrown_212 (by decide) ?_
  refine V_callSH (As := [.ref x, .int 0, .int 199, .int 10]) (rest := []) dL_thrown_214 cvL_171 (c_L_cueMouth hxs hg hV14 0 199 10) ⟨Nat.le_of_ble_eq_true rfl, Nat.le_of_ble_eq_true rfl, Nat.le_of_ble_eq_true rfl, Nat.le_of_ble_eq_true rfl⟩ (Nat.le_of_ble_eq_true rfl) rfl (fun v9 g15 z9 => ?_) (fun E9 g9 z9 => by cases z9.1)
  obtain ⟨e9, hV15⟩ := z9
  rw [show _ = _ from ((mouth_eq _ _ _ _ _).trans (x_play2 has1 (Or.inr (by decide))) : _ = ((.inr _ : Int32 ⊕ Nat), S, past))] at e9 hV15
  replace e9 : Sum.inl v9 = (Sum.inl (some (Value.int (-1002))) : Out) := e9
  cases e9
  replace hV15 : OpW X g15 x S past N hs le lc lf [] ln1 := hV15
  refine V_sipush (v := (-1002)) dL_thrown_217 (by decide) ?_
  refine V_icmp_ne (tgt := 607) dL_thrown_220 (by decide) (fun c9 => absurd c9 (fun q9 => q9 rfl)) (fun _ => ?_)
  refine V_aload_n dL_thrown_223 0 rfl ?_
  refine V_iconst (v := (-1)) dL_thrown_224 (by decide) ?_
  refine V_iconst (v := 5) dL_thrown_225 (by decide) ?_
  refine V_iconst (v := 5) dL_thrown_226 (by decide) ?_
  refine V_callSH (As := [.ref x, .int (-1), .int 5, .int 5]) (rest := []) dL_thrown_227 cvL_174 (c_L_cueProp hxs hg hV15 (-1) 5 5) ⟨Nat.le_of_ble_eq_true rfl, Nat.le_of_ble_eq_true rfl, Nat.le_of_ble_eq_true rfl, Nat.le_of_ble_eq_true rfl⟩ (Nat.le_of_ble_eq_true rfl) rfl (fun v9 g16 z9 => ?_) (fun E9 g9 z9 => by cases z9.1)
  obtain ⟨e9, hV16⟩ := z9
  rw [show _ = _ from ((prop_eq _ _ _ _ _).trans (x_play1 has_neg) : _ = ((.inr _ : Int32 ⊕ Nat), S, past))] at e9 hV16
  replace e9 : Sum.inl v9 = (Sum.inl (some (Value.int (-1001))) : Out) := e9
  cases e9
  replace hV16 : OpW X g16 x S past N hs le lc lf [] ln1 := hV16
  refine V_sipush (v := (-1001)) dL_thrown_230 (by decide) ?_
  refine V_icmp_ne (tgt := 607) dL_thrown_233 (by decide) (fun c9 => absurd c9 (fun q9 => q9 rfl)) (fun _ => ?_)
  refine V_aload_n dL_thrown_236 0 rfl ?_
  refine V_iconst (v := 0) dL_thrown_237 (by decide) ?_
  refine V_iload dL_thrown_238 3 rfl ?_
  refine V_iconst (v := 1) dL_thrown_240 (by decide) ?_
  refine V_callSH (As := [.ref x, .int 0, .int (z_beat S), .int 1]) (rest := []) dL_thrown_241 cvL_174 (c_L_cueProp hxs hg hV16 0 (z_beat S) 1) ⟨Nat.le_of_ble_eq_true rfl, Nat.le_of_ble_eq_true rfl, Nat.le_of_ble_eq_true rfl, Nat.le_of_ble_eq_true rfl⟩ (Nat.le_of_ble_eq_true rfl) rfl (fun v9 g17 z9 => ?_) (fun E9 g9 z9 => by cases z9.1)
  obtain ⟨e9, hV17⟩ := z9
  rw [show _ = _ from ((prop_eq _ _ _ _ _).trans (x_play2 has1 (Or.inl cb_now)) : _ = ((.inr _ : Int32 ⊕ Nat), S, past))] at e9 hV17
  replace e9 : Sum.inl v9 = (Sum.inl (some (Value.int (-1002))) : Out) := e9
  cases e9
  replace hV17 : OpW X g17 x S past N hs le lc lf [] ln1 := hV17
  refine V_sipush (v := (-1002)) dL_thrown_244 (by decide) ?_
  refine V_icmp_ne (tgt := 607) dL_thrown_247 (by decide) (fun c9 => absurd c9 (fun q9 => q9 rfl)) (fun _ => ?_)
  refine V_aload_n dL_thrown_250 0 rfl ?_
  refine V_iconst (v := 0) dL_thrown_251 (by decide) ?_
  refine V_sipush (v := 199) dL_thrown_252 (by decide) ?_
  refine V_bipush (v := 10) dL_thrown_255 (by decide) ?_
  refine V_callSH (As := [.ref x, .int 0, .int 199, .int 10]) (rest := []) dL_thrown_257 cvL_174 (c_L_cueProp hxs hg hV17 0 199 10) ⟨Nat.le_of_ble_eq_true rfl, Nat.le_of_ble_eq_true rfl, Nat.le_of_ble_eq_true rfl, Nat.le_of_ble_eq_true rfl⟩ (Nat.le_of_ble_eq_true rfl) rfl (fun v9 g18 z9 => ?_) (fun E9 g9 z9 => by cases z9.1)
  obtain ⟨e9, hV18⟩ := z9
  rw [show _ = _ from ((prop_eq _ _ _ _ _).trans (x_play2 has1 (Or.inr (by decide))) : _ = ((.inr _ : Int32 ⊕ Nat), S, past))] at e9 hV18
  replace e9 : Sum.inl v9 = (Sum.inl (some (Value.int (-1002))) : Out) := e9
  cases e9
  replace hV18 : OpW X g18 x S past N hs le lc lf [] ln1 := hV18
  refine V_sipush (v := (-1002)) dL_thrown_260 (by decide) ?_
  refine V_icmp_ne (tgt := 607) dL_thrown_263 (by decide) (fun c9 => absurd c9 (fun q9 => q9 rfl)) (fun _ => ?_)
  refine V_aload_n dL_thrown_266 0 rfl ?_
  refine V_iload dL_thrown_267 3 rfl ?_
  refine V_iconst (v := 1) dL_thrown_269 (by decide) ?_
  refine V_callSH (As := [.ref x, .int (z_beat S), .int 1]) (rest := []) dL_thrown_270 cvL_176 (c_L_cueHush hxs hg hV18 (z_beat S) 1) ⟨Nat.le_of_ble_eq_true rfl, Nat.le_of_ble_eq_true rfl, Nat.le_of_ble_eq_true rfl, Nat.le_of_ble_eq_true rfl⟩ (Nat.le_of_ble_eq_true rfl) rfl (fun v9 g19 z9 => ?_) (fun E9 g9 z9 => by cases z9.1)
  obtain ⟨e9, hV19⟩ := z9
  rw [show _ = _ from (x_hush1 (Or.inl cb_now) : _ = ((.inr _ : Int32 ⊕ Nat), S, past))] at e9 hV19
  replace e9 : Sum.inl v9 = (Sum.inl (some (Value.int (-1001))) : Out) := e9
  cases e9
  replace hV19 : OpW X g19 x S past N hs le lc lf [] ln1 := hV19
  refine V_sipush (v := (-1001)) dL_thrown_273 (by decide) ?_
  refine V_icmp_ne (tgt := 607) dL_thrown_276 (by decide) (fun c9 => absurd c9 (fun q9 => q9 rfl)) (fun _ => ?_)
  refine V_aload_n dL_thrown_279 0 rfl ?_
  refine V_sipush (v := 200) dL_thrown_280 (by decide) ?_
  refine V_iconst (v := 1) dL_thrown_283 (by decide) ?_
  refine V_callSH (As := [.ref x, .int 200, .int 1]) (rest := []) dL_thrown_284 cvL_176 (c_L_cueHush hxs hg hV19 200 1) ⟨Nat.le_of_ble_eq_true rfl, Nat.le_of_ble_eq_true rfl, Nat.le_of_ble_eq_true rfl, Nat.le_of_ble_eq_true rfl⟩ (Nat.le_of_ble_eq_true rfl) rfl (fun v9 g20 z9 => ?_) (fun E9 g9 z9 => by cases z9.1)
  obtain ⟨e9, hV20⟩ := z9
  rw [show _ = _ from (x_hush1 (Or.inl cb_200) : _ = ((.inr _ : Int32 ⊕ Nat), S, past))] at e9 hV20
  replace e9 : Sum.inl v9 = (Sum.inl (some (Value.int (-1001))) : Out) := e9
  cases e9
  replace hV20 : OpW X g20 x S past N hs le lc lf [] ln1 := hV20
  refine V_sipush (v := (-1001)) dL_thrown_287 (by decide) ?_
  refine V_icmp_ne (tgt := 607) dL_thrown_290 (by decide) (fun c9 => absurd c9 (fun q9 => q9 rfl)) (fun _ => ?_)
  refine V_aload_n dL_thrown_293 0 rfl ?_
  refine V_sipush (v := 199) dL_thrown_294 (by decide) ?_
  refine V_iconst (v := 0) dL_thrown_297 (by decide) ?_
  refine V_callSH (As := [.ref x, .int 199, .int 0]) (rest := []) dL_thrown_298 cvL_176 (c_L_cueHush hxs hg hV20 199 0) ⟨Nat.le_of_ble_eq_true rfl, Nat.le_of_ble_eq_true rfl, Nat.le_of_ble_eq_true rfl, Nat.le_of_ble_eq_true rfl⟩ (Nat.le_of_ble_eq_true rfl) rfl (fun v9 g21 z9 => ?_) (fun E9 g9 z9 => by cases z9.1)
  obtain ⟨e9, hV21⟩ := z9
  rw [show _ = _ from (x_hush1 (Or.inr (by decide)) : _ = ((.inr _ : Int32 ⊕ Nat), S, past))] at e9 hV21
  replace e9 : Sum.inl v9 = (Sum.inl (some (Value.int (-1001))) : Out) := e9
  cases e9
  replace hV21 : OpW X g21 x S past N hs le lc lf [] ln1 := hV21
  refine V_sipush (v := (-1001)) dL_thrown_301 (by decide) ?_
  refine V_icmp_ne (tgt := 607) dL_thrown_304 (by decide) (fun c9 => absurd c9 (fun q9 => q9 rfl)) (fun _ => ?_)
  refine V_aload_n dL_thrown_307 0 rfl ?_
  refine V_bipush (v := 99) dL_thrown_308 (by decide) ?_
  refine V_callSH (As := [.ref x, .int 99]) (rest := []) dL_thrown_310 cvL_250 (c_L_cancel hxs hg hV21 99) ⟨Nat.le_of_ble_eq_true rfl, Nat.le_of_ble_eq_true rfl, Nat.le_of_ble_eq_true rfl, Nat.le_of_ble_eq_true rfl⟩ (Nat.le_of_ble_eq_true rfl) rfl (fun v9 g22 z9 => ?_) (fun E9 g9 z9 => by cases z9.1)
  obtain ⟨e9, hV22⟩ := z9
  rw [show _ = _ from (x_cancel (no_id hI (id := 99) (fun n9 hn9 c => by have := (nI_eq (a := n9) (b := 99) (by omega) (by omega)).mp c; omega)).2 : _ = ((.inr _ : Int32 ⊕ Nat), S, past))] at e9 hV22
  replace e9 : Sum.inl v9 = (Sum.inl (some (Value.int (-1001))) : Out) := e9
  cases e9
  replace hV22 : OpW X g22 x S past N hs le lc lf [] ln1 := hV22
  refine V_sipush (v := (-1001)) dL_thrown_313 (by decide) ?_
  refine V_icmp_ne (tgt := 607) dL_thrown_316 (by decide) (fun c9 => absurd c9 (fun q9 => q9 rfl)) (fun _ => ?_)
  refine V_aload_n dL_thrown_319 0 rfl ?_
  refine V_iconst (v := (-1)) dL_thrown_320 (by decide) ?_
  refine V_callSH (As := [.ref x, .int (-1)]) (rest := []) dL_thrown_321 cvL_250 (c_L_cancel hxs hg hV22 (-1)) ⟨Nat.le_of_ble_eq_true rfl, Nat.le_of_ble_eq_true rfl, Nat.le_of_ble_eq_true rfl, Nat.le_of_ble_eq_true rfl⟩ (Nat.le_of_ble_eq_true rfl) rfl (fun v9 g23 z9 => ?_) (fun E9 g9 z9 => by cases z9.1)
  obtain ⟨e9, hV23⟩ := z9
  rw [show _ = _ from (x_cancel (no_id hI (id := -1) (fun n9 hn9 c => nI_pos (n := n9) (by omega) (by rw [c]; decide))).2 : _ = ((.inr _ : Int32 ⊕ Nat), S, past))] at e9 hV23
  replace e9 : Sum.inl v9 = (Sum.inl (some (Value.int (-1001))) : Out) := e9
  cases e9
  replace hV23 : OpW X g23 x S past N hs le lc lf [] ln1 := hV23
  refine V_sipush (v := (-1001)) dL_thrown_324 (by decide) ?_
  refine V_icmp_ne (tgt := 607) dL_thrown_327 (by decide) (fun c9 => absurd c9 (fun q9 => q9 rfl)) (fun _ => ?_)
  refine V_aload_n dL_thrown_330 0 rfl ?_
  refine V_bipush (v := 99) dL_thrown_331 (by decide) ?_
  refine V_iconst (v := 0) dL_thrown_333 (by decide) ?_
  refine V_callSH (As := [.ref x, .int 99, .int 0]) (rest := []) dL_thrown_334 cvL_253 (c_L_move hxs hg hV23 99 0) ⟨Nat.le_of_ble_eq_true rfl, Nat.le_of_ble_eq_true rfl, Nat.le_of_ble_eq_true rfl, Nat.le_of_ble_eq_true rfl⟩ (Nat.le_of_ble_eq_true rfl) rfl (fun v9 g24 z9 => ?_) (fun E9 g9 z9 => by cases z9.1)
  obtain ⟨e9, hV24⟩ := z9
  rw [show _ = _ from (x_move1 (no_id hI (id := 99) (fun n9 hn9 c => by have := (nI_eq (a := n9) (b := 99) (by omega) (by omega)).mp c; omega)).2 : _ = ((.inr _ : Int32 ⊕ Nat), S, past))] at e9 hV24
  replace e9 : Sum.inl v9 = (Sum.inl (some (Value.int (-1001))) : Out) := e9
  cases e9
  replace hV24 : OpW X g24 x S past N hs le lc lf [] ln1 := hV24
  refine V_sipush (v := (-1001)) dL_thrown_337 (by decide) ?_
  refine V_icmp_ne (tgt := 607) dL_thrown_340 (by decide) (fun c9 => absurd c9 (fun q9 => q9 rfl)) (fun _ => ?_)
  refine V_aload_n dL_thrown_343 0 rfl ?_
  refine V_aload_n dL_thrown_344 0 rfl ?_
  refine V_cVmi (As := []) (rest := [.ref x]) dL_thrown_345 cvL_204 (c_X7_cueCount hxs hg hV24) hV24.obj rfl ⟨Nat.le_of_ble_eq_true rfl, Nat.le_of_ble_eq_true rfl, Nat.le_of_ble_eq_true rfl, Nat.le_of_ble_eq_true rfl⟩ (Nat.le_of_ble_eq_true rfl) rfl (fun g25 hV25 => ?_)
  rw [show T_X7_cueCount S = nI L.length from hTI.2.2.2.2.2.1]
  refine V_callSH (As := [.ref x, .int (nI L.length)]) (rest := []) dL_thrown_348 cvL_241 (c_L_cueAt hxs hg hV25 (nI L.length)) ⟨Nat.le_of_ble_eq_true rfl, Nat.le_of_ble_eq_true rfl, Nat.le_of_ble_eq_true rfl, Nat.le_of_ble_eq_true rfl⟩ (Nat.le_of_ble_eq_true rfl) rfl (fun v9 g26 z9 => ?_) (fun E9 g9 z9 => by cases z9.1)
  obtain ⟨e9, hV26⟩ := z9
  rw [x_atN (at_rank hTI hI (by omega)).2] at e9
  replace e9 : Sum.inl v9 = (Sum.inl (some (Value.int (-1001))) : Out) := e9
  cases e9
  replace hV26 : OpW X g26 x S past N hs le lc lf [] ln1 := hV26
  refine V_sipush (v := (-1001)) dL_thrown_351 (by decide) ?_
  refine V_icmp_ne (tgt := 607) dL_thrown_354 (by decide) (fun c9 => absurd c9 (fun q9 => q9 rfl)) (fun _ => ?_)
  refine V_aload_n dL_thrown_357 0 rfl ?_
  refine V_sipush (v := 200) dL_thrown_358 (by decide) ?_
  refine V_callSH (As := [.ref x, .int 200]) (rest := []) dL_thrown_361 cvL_289 (c_L_first hxs hg hV26 200) ⟨Nat.le_of_ble_eq_true rfl, Nat.le_of_ble_eq_true rfl, Nat.le_of_ble_eq_true rfl, Nat.le_of_ble_eq_true rfl⟩ (Nat.le_of_ble_eq_true rfl) rfl (fun v9 g27 z9 => ?_) (fun E9 g9 z9 => by cases z9.1)
  obtain ⟨e9, hV27⟩ := z9
  rw [x_first (first_200 hTI hI (by omega))] at e9
  replace e9 : Sum.inl v9 = (Sum.inl (some (Value.int (-1001))) : Out) := e9
  cases e9
  replace hV27 : OpW X g27 x S past N hs le lc lf [] ln1 := hV27
  refine V_sipush (v := (-1001)) dL_thrown_364 (by decide) ?_
  refine V_icmp_ne (tgt := 607) dL_thrown_367 (by decide) (fun c9 => absurd c9 (fun q9 => q9 rfl)) (fun _ => ?_)
  refine V_aload_n dL_thrown_370 0 rfl ?_
  refine V_sipush (v := 200) dL_thrown_371 (by decide) ?_
  refine V_callSH (As := [.ref x, .int 200]) (rest := []) dL_thrown_374 cvL_292 (c_L_firstByScan hxs hg hV27 200) ⟨Nat.le_of_ble_eq_true rfl, Nat.le_of_ble_eq_true rfl, Nat.le_of_ble_eq_true rfl, Nat.le_of_ble_eq_true rfl⟩ (Nat.le_of_ble_eq_true rfl) rfl (fun v9 g28 z9 => ?_) (fun E9 g9 z9 => by cases z9.1)
  obtain ⟨e9, hV28⟩ := z9
  rw [x_scan (scan_200 hI)] at e9
  replace e9 : Sum.inl v9 = (Sum.inl (some (Value.int (-1001))) : Out) := e9
  cases e9
  replace hV28 : OpW X g28 x S past N hs le lc lf [] ln1 := hV28
  refine V_sipush (v := (-1001)) dL_thrown_377 (by decide) ?_
  refine V_icmp_ne (tgt := 607) dL_thrown_380 (by decide) (fun c9 => absurd c9 (fun q9 => q9 rfl)) (fun _ => ?_)
  refine V_aload_n dL_thrown_383 0 rfl ?_
  refine V_bipush (v := 99) dL_thrown_384 (by decide) ?_
  refine V_callSH (As := [.ref x, .int 99]) (rest := []) dL_thrown_386 cvL_295 (c_L_cueBeat hxs hg hV28 99) ⟨Nat.le_of_ble_eq_true rfl, Nat.le_of_ble_eq_true rfl, Nat.le_of_ble_eq_true rfl, Nat.le_of_ble_eq_true rfl⟩ (Nat.le_of_ble_eq_true rfl) rfl (fun v9 g29 z9 => ?_) (fun E9 g9 z9 => by cases z9.1)
  obtain ⟨e9, hV29⟩ := z9
  rw [x_beat (no_id hI (id := 99) (fun n9 hn9 c => by have := (nI_eq (a := n9) (b := 99) (by omega) (by omega)).mp c; omega)).1] at e9
  replace e9 : Sum.inl v9 = (Sum.inl (some (Value.int (-1001))) : Out) := e9
  cases e9
  replace hV29 : OpW X g29 x S past N hs le lc lf [] ln1 := hV29
  refine V_sipush (v := (-1001)) dL_thrown_389 (by decide) ?_
  refine V_icmp_ne (tgt := 607) dL_thrown_392 (by decide) (fun c9 => absurd c9 (fun q9 => q9 rfl)) (fun _ => ?_)
  refine V_aload_n dL_thrown_395 0 rfl ?_
  refine V_iconst (v := (-1)) dL_thrown_396 (by decide) ?_
  refine V_callSH (As := [.ref x, .int (-1)]) (rest := []) dL_thrown_397 cvL_297 (c_L_cueKind hxs hg hV29 (-1)) ⟨Nat.le_of_ble_eq_true rfl, Nat.le_of_ble_eq_true rfl, Nat.le_of_ble_eq_true rfl, Nat.le_of_ble_eq_true rfl⟩ (Nat.le_of_ble_eq_true rfl) rfl (fun v9 g30 z9 => ?_) (fun E9 g9 z9 => by cases z9.1)
  obtain ⟨e9, hV30⟩ := z9
  rw [x_kind (no_id hI (id := -1) (fun n9 hn9 c => nI_pos (n := n9) (by omega) (by rw [c]; decide))).1] at e9
  replace e9 : Sum.inl v9 = (Sum.inl (some (Value.int (-1001))) : Out) := e9
  cases e9
  replace hV30 : OpW X g30 x S past N hs le lc lf [] ln1 := hV30
  refine V_sipush (v := (-1001)) dL_thrown_400 (by decide) ?_
  refine V_icmp_ne (tgt := 607) dL_thrown_403 (by decide) (fun c9 => absurd c9 (fun q9 => q9 rfl)) (fun _ => ?_)
  refine V_aload_n dL_thrown_406 0 rfl ?_
  refine V_bipush (v := 99) dL_thrown_407 (by decide) ?_
  refine V_callSH (As := [.ref x, .int 99]) (rest := []) dL_thrown_409 cvL_299 (c_L_cueSize hxs hg hV30 99) ⟨Nat.le_of_ble_eq_true rfl, Nat.le_of_ble_eq_true rfl, Nat.le_of_ble_eq_true rfl, Nat.le_of_ble_eq_true rfl⟩ (Nat.le_of_ble_eq_true rfl) rfl (fun v9 g31 z9 => ?_) (fun E9 g9 z9 => by cases z9.1)
  obtain ⟨e9, hV31⟩ := z9
  rw [x_size (no_id hI (id := 99) (fun n9 hn9 c => by have := (nI_eq (a := n9) (b := 99) (by omega) (by omega)).mp c; omega)).1] at e9
  replace e9 : Sum.inl v9 = (Sum.inl (some (Value.int (-1001))) : Out) := e9
  cases e9
  replace hV31 : OpW X g31 x S past N hs le lc lf [] ln1 := hV31
  refine V_sipush (v := (-1001)) dL_thrown_412 (by decide) ?_
  refine V_icmp_ne (tgt := 607) dL_thrown_415 (by decide) (fun c9 => absurd c9 (fun q9 => q9 rfl)) (fun _ => ?_)
  refine V_aload_n dL_thrown_418 0 rfl ?_
  refine V_bipush (v := 99) dL_thrown_419 (by decide) ?_
  refine V_callSH (As := [.ref x, .int 99]) (rest := []) dL_thrown_421 cvL_301 (c_L_cuePerformer hxs hg hV31 99) ⟨Nat.le_of_ble_eq_true rfl, Nat.le_of_ble_eq_true rfl, Nat.le_of_ble_eq_true rfl, Nat.le_of_ble_eq_true rfl⟩ (Nat.le_of_ble_eq_true rfl) rfl (fun v9 g32 z9 => ?_) (fun E9 g9 z9 => by cases z9.1)
  obtain ⟨e9, hV32⟩ := z9
  rw [x_perf (no_id hI (id := 99) (fun n9 hn9 c => by have := (nI_eq (a := n9) (b := 99) (by omega) (by omega)).mp c; omega)).1] at e9
  replace e9 : Sum.inl v9 = (Sum.inl (some (Value.int (-1001))) : Out) := e9
  cases e9
  replace hV32 : OpW X g32 x S past N hs le lc lf [] ln1 := hV32
  refine V_sipush (v := (-1001)) dL_thrown_424 (by decide) ?_
  refine V_icmp_ne (tgt := 607) dL_thrown_427 (by decide) (fun c9 => absurd c9 (fun q9 => q9 rfl)) (fun _ => ?_)
  refine V_aload_n dL_thrown_430 0 rfl ?_
  refine V_iconst (v := (-1)) dL_thrown_431 (by decide) ?_
  refine V_callSH (As := [.ref x, .int (-1)]) (rest := []) dL_thrown_432 cvL_169 (c_L_setLimit hxs hg hV32 (-1)) ⟨Nat.le_of_ble_eq_true rfl, Nat.le_of_ble_eq_true rfl, Nat.le_of_ble_eq_true rfl, Nat.le_of_ble_eq_true rfl⟩ (Nat.le_of_ble_eq_true rfl) rfl (fun v9 g33 z9 => ?_) (fun E9 g9 z9 => by cases z9.1)
  obtain ⟨e9, hV33⟩ := z9
  rw [show _ = _ from (x_lim (Or.inl (by decide)) : _ = ((.inr _ : Int32 ⊕ Nat), S, past))] at e9 hV33
  replace e9 : Sum.inl v9 = (Sum.inl (some (Value.int (-1001))) : Out) := e9
  cases e9
  replace hV33 : OpW X g33 x S past N hs le lc lf [] ln1 := hV33
  refine V_sipush (v := (-1001)) dL_thrown_435 (by decide) ?_
  refine V_icmp_ne (tgt := 607) dL_thrown_438 (by decide) (fun c9 => absurd c9 (fun q9 => q9 rfl)) (fun _ => ?_)
  refine V_aload_n dL_thrown_441 0 rfl ?_
  refine V_bipush (v := 31) dL_thrown_442 (by decide) ?_
  refine V_callSH (As := [.ref x, .int 31]) (rest := []) dL_thrown_444 cvL_169 (c_L_setLimit hxs hg hV33 31) ⟨Nat.le_of_ble_eq_true rfl, Nat.le_of_ble_eq_true rfl, Nat.le_of_ble_eq_true rfl, Nat.le_of_ble_eq_true rfl⟩ (Nat.le_of_ble_eq_true rfl) rfl (fun v9 g34 z9 => ?_) (fun E9 g9 z9 => by cases z9.1)
  obtain ⟨e9, hV34⟩ := z9
  rw [show _ = _ from (x_lim (Or.inr (by decide)) : _ = ((.inr _ : Int32 ⊕ Nat), S, past))] at e9 hV34
  replace e9 : Sum.inl v9 = (Sum.inl (some (Value.int (-1001))) : Out) := e9
  cases e9
  replace hV34 : OpW X g34 x S past N hs le lc lf [] ln1 := hV34
  refine V_sipush (v := (-1001)) dL_thrown_447 (by decide) ?_
  refine V_icmp_ne (tgt := 607) dL_thrown_450 (by decide) (fun c9 => absurd c9 (fun q9 => q9 rfl)) (fun _ => ?_)
  refine V_aload_n dL_thrown_453 0 rfl ?_
  refine V_iconst (v := 0) dL_thrown_454 (by decide) ?_
  refine V_callSH (As := [.ref x, .int 0]) (rest := []) dL_thrown_455 cvL_179 (c_L_advance hxs hg hV34 0) ⟨Nat.le_of_ble_eq_true rfl, Nat.le_of_ble_eq_true rfl, Nat.le_of_ble_eq_true rfl, Nat.le_of_ble_eq_true rfl⟩ (Nat.le_of_ble_eq_true rfl) rfl (fun v9 g35 z9 => ?_) (fun E9 g9 z9 => by cases z9.1)
  obtain ⟨e9, hV35⟩ := z9
  rw [show _ = _ from (x_adv (Or.inl (by decide)) : _ = ((.inr _ : Int32 ⊕ Nat), S, past))] at e9 hV35
  replace e9 : Sum.inl v9 = (Sum.inl (some (Value.int (-1001))) : Out) := e9
  cases e9
  replace hV35 : OpW X g35 x S past N hs le lc lf [] ln1 := hV35
  refine V_sipush (v := (-1001)) dL_thrown_458 (by decide) ?_
  refine V_icmp_ne (tgt := 607) dL_thrown_461 (by decide) (fun c9 => absurd c9 (fun q9 => q9 rfl)) (fun _ => ?_)
  refine V_aload_n dL_thrown_464 0 rfl ?_
  refine V_bipush (v := 41) dL_thrown_465 (by decide) ?_
  refine V_callSH (As := [.ref x, .int 41]) (rest := []) dL_thrown_467 cvL_179 (c_L_advance hxs hg hV35 41) ⟨Nat.le_of_ble_eq_true rfl, Nat.le_of_ble_eq_true rfl, Nat.le_of_ble_eq_true rfl, Nat.le_of_ble_eq_true rfl⟩ (Nat.le_of_ble_eq_true rfl) rfl (fun v9 g36 z9 => ?_) (fun E9 g9 z9 => by cases z9.1)
  obtain ⟨e9, hV36⟩ := z9
  rw [show _ = _ from (x_adv (Or.inr (by decide)) : _ = ((.inr _ : Int32 ⊕ Nat), S, past))] at e9 hV36
  replace e9 : Sum.inl v9 = (Sum.inl (some (Value.int (-1001))) : Out) := e9
  cases e9
  replace hV36 : OpW X g36 x S past N hs le lc lf [] ln1 := hV36
  refine V_sipush (v := (-1001)) dL_thrown_470 (by decide) ?_
  refine V_icmp_ne (tgt := 607) dL_thrown_473 (by decide) (fun c9 => absurd c9 (fun q9 => q9 rfl)) (fun _ => ?_)
  refine V_aload_n dL_thrown_476 0 rfl ?_
  refine V_iload_n dL_thrown_477 2 rfl ?_
  refine V_bipush (v := 99) dL_thrown_478 (by decide) ?_
  refine V_callSH (As := [.ref x, .int (nI n), .int 99]) (rest := []) dL_thrown_480 cvL_237 (c_L_finesAfter hxs hg hV36 (nI n) 99) ⟨Nat.le_of_ble_eq_true rfl, Nat.le_of_ble_eq_true rfl, Nat.le_of_ble_eq_true rfl, Nat.le_of_ble_eq_true rfl⟩ (Nat.le_of_ble_eq_true rfl) rfl (fun v9 g37 z9 => ?_) (fun E9 g9 z9 => by cases z9.1)
  obtain ⟨e9, hV37⟩ := z9
  rw [x_after0 has0] at e9
  replace e9 : Sum.inl v9 = (Sum.inl (some (Value.int (-1001))) : Out) := e9
  cases e9
  replace hV37 : OpW X g37 x S past N hs le lc lf [] ln1 := hV37
  refine V_sipush (v := (-1001)) dL_thrown_483 (by decide) ?_
  refine V_icmp_ne (tgt := 607) dL_thrown_486 (by decide) (fun c9 => absurd c9 (fun q9 => q9 rfl)) (fun _ => ?_)
  refine V_aload_n dL_thrown_489 0 rfl ?_
  refine V_iconst (v := 0) dL_thrown_490 (by decide) ?_
  refine V_iconst (v := (-1)) dL_thrown_491 (by decide) ?_
  refine V_callSH (As := [.ref x, .int 0, .int (-1)]) (rest := []) dL_thrown_492 cvL_237 (c_L_finesAfter hxs hg hV37 0 (-1)) ⟨Nat.le_of_ble_eq_true rfl, Nat.le_of_ble_eq_true rfl, Nat.le_of_ble_eq_true rfl, Nat.le_of_ble_eq_true rfl⟩ (Nat.le_of_ble_eq_true rfl) rfl (fun v9 g38 z9 => ?_) (fun E9 g9 z9 => by cases z9.1)
  obtain ⟨e9, hV38⟩ := z9
  rw [x_after1 has1 (Or.inl (by decide))] at e9
  replace e9 : Sum.inl v9 = (Sum.inl (some (Value.int (-1002))) : Out) := e9
  cases e9
  replace hV38 : OpW X g38 x S past N hs le lc lf [] ln1 := hV38
  refine V_sipush (v := (-1002)) dL_thrown_495 (by decide) ?_
  refine V_icmp_ne (tgt := 607) dL_thrown_498 (by decide) (fun c9 => absurd c9 (fun q9 => q9 rfl)) (fun _ => ?_)
  refine V_aload_n dL_thrown_501 0 rfl ?_
  refine V_iconst (v := 0) dL_thrown_502 (by decide) ?_
  refine V_bipush (v := 41) dL_thrown_503 (by decide) ?_
  refine V_callSH (As := [.ref x, .int 0, .int 41]) (rest := []) dL_thrown_505 cvL_303 (c_L_finesByCues hxs hg hV38 0 41) ⟨Nat.le_of_ble_eq_true rfl, Nat.le_of_ble_eq_true rfl, Nat.le_of_ble_eq_true rfl, Nat.le_of_ble_eq_true rfl⟩ (Nat.le_of_ble_eq_true rfl) rfl (fun v9 g39 z9 => ?_) (fun E9 g9 z9 => by cases z9.1)
  obtain ⟨e9, hV39⟩ := z9
  rw [x_by1 has1 (Or.inr (by decide))] at e9
  replace e9 : Sum.inl v9 = (Sum.inl (some (Value.int (-1002))) : Out) := e9
  cases e9
  replace hV39 : OpW X g39 x S past N hs le lc lf [] ln1 := hV39
  refine V_sipush (v := (-1002)) dL_thrown_508 (by decide) ?_
  refine V_icmp_ne (tgt := 607) dL_thrown_511 (by decide) (fun c9 => absurd c9 (fun q9 => q9 rfl)) (fun _ => ?_)
  refine V_aload_n dL_thrown_514 0 rfl ?_
  refine V_iconst (v := (-1)) dL_thrown_515 (by decide) ?_
  refine V_iconst (v := 0) dL_thrown_516 (by decide) ?_
  refine V_callSH (As := [.ref x, .int (-1), .int 0]) (rest := []) dL_thrown_517 cvL_303 (c_L_finesByCues hxs hg hV39 (-1) 0) ⟨Nat.le_of_ble_eq_true rfl, Nat.le_of_ble_eq_true rfl, Nat.le_of_ble_eq_true rfl, Nat.le_of_ble_eq_true rfl⟩ (Nat.le_of_ble_eq_true rfl) rfl (fun v9 g40 z9 => ?_) (fun E9 g9 z9 => by cases z9.1)
  obtain ⟨e9, hV40⟩ := z9
  rw [x_by0 has_neg] at e9
  replace e9 : Sum.inl v9 = (Sum.inl (some (Value.int (-1001))) : Out) := e9
  cases e9
  replace hV40 : OpW X g40 x S past N hs le lc lf [] ln1 := hV40
  refine V_sipush (v := (-1001)) dL_thrown_520 (by decide) ?_
  refine V_icmp_ne (tgt := 607) dL_thrown_523 (by decide) (fun c9 => absurd c9 (fun q9 => q9 rfl)) (fun _ => ?_)
  refine V_aload_n dL_thrown_526 0 rfl ?_
  refine V_bipush (v := 99) dL_thrown_527 (by decide) ?_
  refine V_callSH (As := [.ref x, .int 99]) (rest := []) dL_thrown_529 cvL_243 (c_L_describeCue hxs hg hV40 hI (by omega) 99) ⟨Nat.le_of_ble_eq_true rfl, Nat.le_of_ble_eq_true rfl, Nat.le_of_ble_eq_true rfl, Nat.le_of_ble_eq_true rfl⟩ (Nat.le_of_ble_eq_true rfl) rfl (fun v9 g41 z9 => ?_) (fun E9 g9 z9 => by cases z9.1)
  obtain ⟨e9, hV41⟩ := z9
  have d9 : dC S 99 = none := by unfold dC; rw [(no_id hI (id := 99) (fun n9 hn9 c => by have := (nI_eq (a := n9) (b := 99) (by omega) (by omega)).mp c; omega)).1]
  unfold dCl at e9
  rw [d9] at e9 hV41
  replace e9 : Sum.inl v9 = (Sum.inl (some (Value.int (-1001))) : Out) := e9
  cases e9
  replace hV41 : OpW X g41 x S past N hs le lc lf [] ln1 := hV41
  refine V_sipush (v := (-1001)) dL_thrown_532 (by decide) ?_
  refine V_icmp_ne (tgt := 607) dL_thrown_535 (by decide) (fun c9 => absurd c9 (fun q9 => q9 rfl)) (fun _ => ?_)
  refine V_aload_n dL_thrown_538 0 rfl ?_
  refine V_iload_n dL_thrown_539 2 rfl ?_
  refine V_callSH (As := [.ref x, .int (nI n)]) (rest := []) dL_thrown_540 cvL_239 (c_L_describePerformer0 hxs hg hV41 has0) ⟨Nat.le_of_ble_eq_true rfl, Nat.le_of_ble_eq_true rfl, Nat.le_of_ble_eq_true rfl, Nat.le_of_ble_eq_true rfl⟩ (Nat.le_of_ble_eq_true rfl) rfl (fun v9 g42 z9 => ?_) (fun E9 g9 z9 => by cases z9.1)
  obtain ⟨e9, hV42⟩ := z9
  replace e9 : Sum.inl v9 = (Sum.inl (some (Value.int (-1001))) : Out) := e9
  cases e9
  replace hV42 : OpW X g42 x S past N hs le lc lf [] ln1 := hV42
  refine V_sipush (v := (-1001)) dL_thrown_543 (by decide) ?_
  refine V_icmp_ne (tgt := 607) dL_thrown_546 (by decide) (fun c9 => absurd c9 (fun q9 => q9 rfl)) (fun _ => ?_)
  refine V_aload_n dL_thrown_549 0 rfl ?_
  refine V_iconst (v := (-1)) dL_thrown_550 (by decide) ?_
  refine V_callSH (As := [.ref x, .int (-1)]) (rest := []) dL_thrown_551 cvL_157 (c_L_lineAt hxs hg hV42 (-1)) ⟨Nat.le_of_ble_eq_true rfl, Nat.le_of_ble_eq_true rfl, Nat.le_of_ble_eq_true rfl, Nat.le_of_ble_eq_true rfl⟩ (Nat.le_of_ble_eq_true rfl) rfl (fun v9 g43 z9 => ?_) (fun E9 g9 z9 => by cases z9.1)
  obtain ⟨e9, hV43⟩ := z9
  rw [x_lineM] at e9
  replace e9 : Sum.inl v9 = (Sum.inl (some (Value.int (-1001))) : Out) := e9
  cases e9
  replace hV43 : OpW X g43 x S past N hs le lc lf [] ln1 := hV43
  refine V_sipush (v := (-1001)) dL_thrown_554 (by decide) ?_
  refine V_icmp_ne (tgt := 607) dL_thrown_557 (by decide) (fun c9 => absurd c9 (fun q9 => q9 rfl)) (fun _ => ?_)
  refine V_aload_n dL_thrown_560 0 rfl ?_
  refine V_bipush (v := 30) dL_thrown_561 (by decide) ?_
  refine V_callSH (As := [.ref x, .int 30]) (rest := []) dL_thrown_563 cvL_157 (c_L_lineAt hxs hg hV43 30) ⟨Nat.le_of_ble_eq_true rfl, Nat.le_of_ble_eq_true rfl, Nat.le_of_ble_eq_true rfl, Nat.le_of_ble_eq_true rfl⟩ (Nat.le_of_ble_eq_true rfl) rfl (fun v9 g44 z9 => ?_) (fun E9 g9 z9 => by cases z9.1)
  obtain ⟨e9, hV44⟩ := z9
  rw [x_line30 hV43.ln16] at e9
  replace e9 : Sum.inl v9 = (Sum.inl (some (Value.int (-1001))) : Out) := e9
  cases e9
  replace hV44 : OpW X g44 x S past N hs le lc lf [] ln1 := hV44
  refine V_sipush (v := (-1001)) dL_thrown_566 (by decide) ?_
  refine V_icmp_ne (tgt := 607) dL_thrown_569 (by decide) (fun c9 => absurd c9 (fun q9 => q9 rfl)) (fun _ => ?_)
  refine V_aload_n dL_thrown_572 0 rfl ?_
  refine V_sipush (v := 200) dL_thrown_573 (by decide) ?_
  refine V_callSH (As := [.ref x, .int 200]) (rest := []) dL_thrown_576 cvL_149 (c_L_append hxs hg hV44 (b := 200) (by decide)) ⟨Nat.le_of_ble_eq_true rfl, Nat.le_of_ble_eq_true rfl, Nat.le_of_ble_eq_true rfl, Nat.le_of_ble_eq_true rfl⟩ (Nat.le_of_ble_eq_true rfl) rfl (fun v9 g45 z9 => ?_) (fun E9 g9 z9 => by cases z9.1)
  obtain ⟨e9, hV45⟩ := z9
  rw [x_app.1] at e9
  rw [x_app.2] at hV45
  replace e9 : Sum.inl v9 = (Sum.inl (some (Value.int (-1001))) : Out) := e9
  cases e9
  replace hV45 : OpW X g45 x S past N hs le lc lf [] ln1 := hV45
  refine V_sipush (v := (-1001)) dL_thrown_579 (by decide) ?_
  refine V_icmp_ne (tgt := 607) dL_thrown_582 (by decide) (fun c9 => absurd c9 (fun q9 => q9 rfl)) (fun _ => ?_)
  refine V_aload_n dL_thrown_585 0 rfl ?_
  refine V_cVmi (As := []) (rest := []) dL_thrown_586 cvL_210 (c_X7_act hxs hg hV45) hV45.obj rfl ⟨Nat.le_of_ble_eq_true rfl, Nat.le_of_ble_eq_true rfl, Nat.le_of_ble_eq_true rfl, Nat.le_of_ble_eq_true rfl⟩ (Nat.le_of_ble_eq_true rfl) rfl (fun g46 hV46 => ?_)
  rw [show T_X7_act S = z_act S from rfl]
  refine V_iconst (v := 3) dL_thrown_589 (by decide) ?_
  by_cases d9 : z_act S < 3
  · refine V_icmp_lt (tgt := 603) dL_thrown_590 (by decide) (fun _ => ?_) (fun c9 => absurd d9 c9)
    refine V.wide (k' := 2180) (n' := 69000) (Nat.le_of_ble_eq_true rfl) (Nat.le_of_ble_eq_true rfl) ?_
    exact th_603 hxs hg hI hTI hK hB hT hn hn2 hn6 ⟨_, hV46⟩
  · refine V_icmp_lt (tgt := 603) dL_thrown_590 (by decide) (fun c9 => absurd c9 d9) (fun _ => ?_)
    refine V_aload_n dL_thrown_593 0 rfl ?_
    refine V_cSHi (As := [.ref x]) (rest := []) dL_thrown_594 cvL_256 (c_L_turnAct hxs hg hV46) ⟨Nat.le_of_ble_eq_true rfl, Nat.le_of_ble_eq_true rfl, Nat.le_of_ble_eq_true rfl, Nat.le_of_ble_eq_true rfl⟩ (Nat.le_of_ble_eq_true rfl) rfl (fun g47 hV47 => ?_)
    rw [x_turn d9] at hV47 ⊢
    replace hV47 : OpW X g47 x S past N hs le lc lf [] ln1 := hV47
    show V _ _ _ _ _ _ _ (.int (-1001) :: _) _
    refine V_sipush (v := (-1001)) dL_thrown_597 (by decide) ?_
    refine V_icmp_ne (tgt := 607) dL_thrown_600 (by decide) (fun c9 => absurd c9 (fun q9 => q9 rfl)) (fun _ => ?_)
    refine V.wide (k' := 2180) (n' := 69000) (Nat.le_of_ble_eq_true rfl) (Nat.le_of_ble_eq_true rfl) ?_
    exact th_603 hxs hg hI hTI hK hB hT hn hn2 hn6 ⟨_, hV47⟩
set_option maxRecDepth 20000 in
set_option maxHeartbeats 8000000 in
theorem c_L_thrown {X : KX} (hxs : X.1.stackTraces = false) (hg : GX X) {h : AH} {x : Nat} {S : SH} {past : List SH} {N : SH} {hs le lc lf : Int32} {ln : List Int32} (hW : OpW X h x S past N hs le lc lf [] ln) {B K T n : Nat} {L : List Int32} (hI : Inv B K T S) (hTI : TI K L S) (hK : K ≤ 15) (hB : B < 10000) (hT : T < 800) (hn : z_perf S = nI n) (hn2 : 2 ≤ n) (hn6 : n ≤ 6) : Ct X mL_thrown [.ref x] h (zM (some (.int 1)) (fun h' => ∃ le1 lc1 lf1 ln1, OpW X h' x S past N hs le1 lc1 lf1 [] ln1)) := by
  refine Ct.of (by decide) rfl (Nat.le_of_ble_eq_true rfl) rfl hxs ?_
  refine V_aload_n dL_thrown_0 0 rfl ?_
  refine V_callS (As := [.ref x]) (rest := []) dL_thrown_1 cvL_281 (c_L_asks hxs hg hW hI hB (by omega) hn hn6) ⟨Nat.le_of_ble_eq_true rfl, Nat.le_of_ble_eq_true rfl, Nat.le_of_ble_eq_true rfl, Nat.le_of_ble_eq_true rfl⟩ (Nat.le_of_ble_eq_true rfl) rfl (fun v9 g1 z9 => ?_) (fun E9 g9 z9 => by cases z9.1)
  obtain ⟨e9, ln1, hV1⟩ := z9
  cases e9
  refine V_lstore_n (lv' := [(1, .long (Asks S)), (0, .ref x)]) dL_thrown_4 rfl (by decide) rfl ?_
  refine V_aload_n dL_thrown_5 1 rfl ?_
  refine V_cVmi (As := []) (rest := []) dL_thrown_6 cvL_181 (c_X7_performerCount hxs hg hV1) hV1.obj rfl ⟨Nat.le_of_ble_eq_true rfl, Nat.le_of_ble_eq_true rfl, Nat.le_of_ble_eq_true rfl, Nat.le_of_ble_eq_true rfl⟩ (Nat.le_of_ble_eq_true rfl) rfl (fun g2 hV2 => ?_)
  rw [show T_X7_performerCount S = nI n from hn]
  refine V_istore_n (lv' := [(3, .int (nI n)), (1, .long (Asks S)), (0, .ref x)]) dL_thrown_9 rfl (by decide) rfl ?_
  refine V_aload_n dL_thrown_10 2 rfl ?_
  refine V_cVmi (As := []) (rest := []) dL_thrown_11 cvL_207 (c_X7_now hxs hg hV2) hV2.obj rfl ⟨Nat.le_of_ble_eq_true rfl, Nat.le_of_ble_eq_true rfl, Nat.le_of_ble_eq_true rfl, Nat.le_of_ble_eq_true rfl⟩ (Nat.le_of_ble_eq_true rfl) rfl (fun g3 hV3 => ?_)
  rw [show T_X7_now S = z_beat S from rfl]
  refine V_istore (lv' := [(4, .int (z_beat S)), (3, .int (nI n)), (1, .long (Asks S)), (0, .ref x)]) dL_thrown_14 (by decide) rfl ?_
  refine V_iload_n dL_thrown_16 1 rfl ?_
  refine V_bipush (v := 6) dL_thrown_17 (by decide) ?_
  by_cases d9 : n < 6
  · refine V_icmp_lt (tgt := 32) dL_thrown_19 (by decide) (fun _ => ?_) (fun c9 => absurd (nI_lt (a := n) (b := 6) d9 (by omega)) c9)
    refine V.loc [3, 2, 1, 0] rfl ?_
    refine V.wide (k' := 2060) (n' := 65700) (Nat.le_of_ble_eq_true rfl) (Nat.le_of_ble_eq_true rfl) ?_
    exact th_32 hxs hg hI hTI hK hB hT hn hn2 hn6 ⟨_, hV3⟩
  · refine V_icmp_lt (tgt := 32) dL_thrown_19 (by decide) (fun c9 => absurd c9 (nI_nlt (a := n) (b := 6) (by omega) (by omega))) (fun _ => ?_)
    refine V_aload_n dL_thrown_22 3 rfl ?_
    refine V_cSHi (As := [.ref x]) (rest := []) dL_thrown_23 cvL_167 (c_L_addPerformer hxs hg hV3) ⟨Nat.le_of_ble_eq_true rfl, Nat.le_of_ble_eq_true rfl, Nat.le_of_ble_eq_true rfl, Nat.le_of_ble_eq_true rfl⟩ (Nat.le_of_ble_eq_true rfl) rfl (fun g4 hV4 => ?_)
    rw [x_add (by rw [hn]; exact nI_nlt (a := n) (b := 6) (by omega) (by omega))] at hV4 ⊢
    replace hV4 : OpW X g4 x S past N hs le lc lf [] ln1 := hV4
    show V _ _ _ _ _ _ _ (.int (-1001) :: _) _
    refine V_sipush (v := (-1001)) dL_thrown_26 (by decide) ?_
    refine V_icmp_ne (tgt := 607) dL_thrown_29 (by decide) (fun c9 => absurd c9 (fun q9 => q9 rfl)) (fun _ => ?_)
    refine V.loc [3, 2, 1, 0] rfl ?_
    refine V.wide (k' := 2060) (n' := 65700) (Nat.le_of_ble_eq_true rfl) (Nat.le_of_ble_eq_true rfl) ?_
    exact th_32 hxs hg hI hTI hK hB hT hn hn2 hn6 ⟨_, hV4⟩
