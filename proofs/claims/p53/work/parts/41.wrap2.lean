/-! ===== the law: its small methods over the opera ===== -/
theorem t_X7_checkForecast_lt {S : SH} {p b : Int32} {j : Nat} (h : T_X7_checkForecast S p b = some j) : j < 2 := by
  unfold T_X7_checkForecast at h
  repeat' split at h
  all_goals first | (cases h; decide) | (cases h; done)
theorem t_X7_addPerformer_lt {S : SH} {past : List SH} {j : Nat} (h : (T_X7_addPerformer S past).1 = .inr j) : j < 1 := by
  unfold T_X7_addPerformer at h
  (try dsimp only at h)
  repeat' split at h
  all_goals first | (cases h; decide) | (cases h; done) | (simp_all; omega)
theorem c_L_addPerformer {X : KX} (hxs : X.1.stackTraces = false) (hg : GX X) {h : AH} {x : Nat} {S : SH} {past : List SH} {N : SH} {hs le lc lf : Int32} {txt ln : List Int32} (hW : OpW X h x S past N hs le lc lf txt ln) : Ct X mL_addPerformer [.ref x] h (zM (some (.int (wI ([-1001] : List Int32) (T_X7_addPerformer S past).1))) (fun h' => OpW X h' x (T_X7_addPerformer S past).2.1 (T_X7_addPerformer S past).2.2 N hs le lc lf txt ln)) := by
  obtain ⟨pr9, hO9⟩ := id hW
  exact (g_L_addPerformer hxs hg hO9.1 ((c_X7_addPerformer hxs hg hW ).weak (zT_G (fun j hj => t_X7_addPerformer_lt hj)))).weak zH_M
theorem t_X7_fines_lt {S : SH} {performer : Int32} {j : Nat} (h : (T_X7_fines S performer) = .inr j) : j < 1 := by
  unfold T_X7_fines at h
  (try dsimp only at h)
  repeat' split at h
  all_goals first | (cases h; decide) | (cases h; done) | (simp_all; omega)
theorem c_L_fines {X : KX} (hxs : X.1.stackTraces = false) (hg : GX X) {h : AH} {x : Nat} {S : SH} {past : List SH} {N : SH} {hs le lc lf : Int32} {txt ln : List Int32} (hW : OpW X h x S past N hs le lc lf txt ln) (performer : Int32) : Ct X mL_fines [.ref x, .int performer] h (zM (some (.int (wI ([-1001] : List Int32) (T_X7_fines S performer)))) (fun h' => OpW X h' x S past N hs le lc lf txt ln)) := by
  obtain ⟨pr9, hO9⟩ := id hW
  exact (g_L_fines hxs hg hO9.1 ((c_X7_fines hxs hg hW performer).weak (zT_G (fun j hj => t_X7_fines_lt hj)))).weak zH_M
theorem t_X7_payFine_lt {S : SH} {past : List SH} {performer : Int32} {coins : Int32} {j : Nat} (h : (T_X7_payFine S past performer coins).1 = .inr j) : j < 3 := by
  unfold T_X7_payFine at h
  (try dsimp only at h)
  repeat' split at h
  all_goals first | (cases h; decide) | (cases h; done) | (simp_all; omega)
theorem c_L_pay {X : KX} (hxs : X.1.stackTraces = false) (hg : GX X) {h : AH} {x : Nat} {S : SH} {past : List SH} {N : SH} {hs le lc lf : Int32} {txt ln : List Int32} (hW : OpW X h x S past N hs le lc lf txt ln) (performer : Int32) (coins : Int32) : Ct X mL_pay [.ref x, .int performer, .int coins] h (zM (some (.int (wI ([-1001, -1002, -1003] : List Int32) (T_X7_payFine S past performer coins).1))) (fun h' => OpW X h' x (T_X7_payFine S past performer coins).2.1 (T_X7_payFine S past performer coins).2.2 N hs le lc lf txt ln)) := by
  obtain ⟨pr9, hO9⟩ := id hW
  exact (g_L_pay hxs hg hO9.1 ((c_X7_payFine hxs hg hW performer coins).weak (zT_G (fun j hj => t_X7_payFine_lt hj)))).weak zH_M
theorem t_X7_whisper_lt {S : SH} {past : List SH} {performer : Int32} {loudness : Int32} {j : Nat} (h : (T_X7_whisper S past performer loudness).1 = .inr j) : j < 2 := by
  unfold T_X7_whisper at h
  (try dsimp only at h)
  repeat' split at h
  all_goals first | (cases h; decide) | (cases h; done) | (simp_all; omega)
theorem c_L_whisper {X : KX} (hxs : X.1.stackTraces = false) (hg : GX X) {h : AH} {x : Nat} {S : SH} {past : List SH} {N : SH} {hs le lc lf : Int32} {txt ln : List Int32} (hW : OpW X h x S past N hs le lc lf txt ln) (performer : Int32) (loudness : Int32) : Ct X mL_whisper [.ref x, .int performer, .int loudness] h (zM (some (.int (wI ([-1001, -1002] : List Int32) (T_X7_whisper S past performer loudness).1))) (fun h' => OpW X h' x (T_X7_whisper S past performer loudness).2.1 (T_X7_whisper S past performer loudness).2.2 N hs le lc lf txt ln)) := by
  obtain ⟨pr9, hO9⟩ := id hW
  exact (g_L_whisper hxs hg hO9.1 ((c_X7_whisper hxs hg hW performer loudness).weak (zT_G (fun j hj => t_X7_whisper_lt hj)))).weak zH_M
theorem t_X7_performerAtRank_lt {S : SH} {rank : Int32} {j : Nat} (h : (T_X7_performerAtRank S rank) = .inr j) : j < 1 := by
  unfold T_X7_performerAtRank at h
  (try dsimp only at h)
  repeat' split at h
  all_goals first | (cases h; decide) | (cases h; done) | (simp_all; omega)
theorem c_L_atRank {X : KX} (hxs : X.1.stackTraces = false) (hg : GX X) {h : AH} {x : Nat} {S : SH} {past : List SH} {N : SH} {hs le lc lf : Int32} {txt ln : List Int32} (hW : OpW X h x S past N hs le lc lf txt ln) (rank : Int32) : Ct X mL_atRank [.ref x, .int rank] h (zM (some (.int (wI ([-1001] : List Int32) (T_X7_performerAtRank S rank)))) (fun h' => OpW X h' x S past N hs le lc lf txt ln)) := by
  obtain ⟨pr9, hO9⟩ := id hW
  exact (g_L_atRank hxs hg hO9.1 ((c_X7_performerAtRank hxs hg hW rank).weak (zT_G (fun j hj => t_X7_performerAtRank_lt hj)))).weak zH_M
theorem t_X7_addPlayed_lt {S : SH} {past : List SH} {kind : Int32} {performer : Int32} {cueBeat : Int32} {size : Int32} {j : Nat} (h : (T_X7_addPlayed S past kind performer cueBeat size).1 = .inr j) : j < 3 := by
  unfold T_X7_addPlayed at h
  (try dsimp only at h)
  repeat' split at h
  all_goals first | (cases h; decide) | (cases h; done) | (simp_all; omega)
theorem t_X7_cueMouth_lt {S : SH} {past : List SH} {performer : Int32} {cueBeat : Int32} {size : Int32} {j : Nat} (h : (T_X7_cueMouth S past performer cueBeat size).1 = .inr j) : j < 3 := by
  unfold T_X7_cueMouth at h
  (try dsimp only at h)
  repeat' split at h
  all_goals first | (cases h; decide) | (cases h; done) | (cases h; have := t_X7_addPlayed_lt (by assumption); omega) | (have := t_X7_addPlayed_lt h; omega) | (simp_all; omega)
theorem c_L_cueMouth {X : KX} (hxs : X.1.stackTraces = false) (hg : GX X) {h : AH} {x : Nat} {S : SH} {past : List SH} {N : SH} {hs le lc lf : Int32} {txt ln : List Int32} (hW : OpW X h x S past N hs le lc lf txt ln) (performer : Int32) (cueBeat : Int32) (size : Int32) : Ct X mL_cueMouth [.ref x, .int performer, .int cueBeat, .int size] h (zM (some (.int (wI ([-1001, -1002, -1003] : List Int32) (T_X7_cueMouth S past performer cueBeat size).1))) (fun h' => OpW X h' x (T_X7_cueMouth S past performer cueBeat size).2.1 (T_X7_cueMouth S past performer cueBeat size).2.2 N hs le lc lf txt ln)) := by
  obtain ⟨pr9, hO9⟩ := id hW
  exact (g_L_cueMouth hxs hg hO9.1 ((c_X7_cueMouth hxs hg hW performer cueBeat size).weak (zT_G (fun j hj => t_X7_cueMouth_lt hj)))).weak zH_M
theorem t_X7_cueProp_lt {S : SH} {past : List SH} {performer : Int32} {cueBeat : Int32} {size : Int32} {j : Nat} (h : (T_X7_cueProp S past performer cueBeat size).1 = .inr j) : j < 3 := by
  unfold T_X7_cueProp at h
  (try dsimp only at h)
  repeat' split at h
  all_goals first | (cases h; decide) | (cases h; done) | (cases h; have := t_X7_addPlayed_lt (by assumption); omega) | (have := t_X7_addPlayed_lt h; omega) | (simp_all; omega)
theorem c_L_cueProp {X : KX} (hxs : X.1.stackTraces = false) (hg : GX X) {h : AH} {x : Nat} {S : SH} {past : List SH} {N : SH} {hs le lc lf : Int32} {txt ln : List Int32} (hW : OpW X h x S past N hs le lc lf txt ln) (performer : Int32) (cueBeat : Int32) (size : Int32) : Ct X mL_cueProp [.ref x, .int performer, .int cueBeat, .int size] h (zM (some (.int (wI ([-1001, -1002, -1003] : List Int32) (T_X7_cueProp S past performer cueBeat size).1))) (fun h' => OpW X h' x (T_X7_cueProp S past performer cueBeat size).2.1 (T_X7_cueProp S past performer cueBeat size).2.2 N hs le lc lf txt ln)) := by
  obtain ⟨pr9, hO9⟩ := id hW
  exact (g_L_cueProp hxs hg hO9.1 ((c_X7_cueProp hxs hg hW performer cueBeat size).weak (zT_G (fun j hj => t_X7_cueProp_lt hj)))).weak zH_M
theorem t_X7_cueHush_lt {S : SH} {past : List SH} {cueBeat : Int32} {length : Int32} {j : Nat} (h : (T_X7_cueHush S past cueBeat length).1 = .inr j) : j < 2 := by
  unfold T_X7_cueHush at h
  (try dsimp only at h)
  repeat' split at h
  all_goals first | (cases h; decide) | (cases h; done) | (simp_all; omega)
theorem c_L_cueHush {X : KX} (hxs : X.1.stackTraces = false) (hg : GX X) {h : AH} {x : Nat} {S : SH} {past : List SH} {N : SH} {hs le lc lf : Int32} {txt ln : List Int32} (hW : OpW X h x S past N hs le lc lf txt ln) (cueBeat : Int32) (length : Int32) : Ct X mL_cueHush [.ref x, .int cueBeat, .int length] h (zM (some (.int (wI ([-1001, -1002] : List Int32) (T_X7_cueHush S past cueBeat length).1))) (fun h' => OpW X h' x (T_X7_cueHush S past cueBeat length).2.1 (T_X7_cueHush S past cueBeat length).2.2 N hs le lc lf txt ln)) := by
  obtain ⟨pr9, hO9⟩ := id hW
  exact (g_L_cueHush hxs hg hO9.1 ((c_X7_cueHush hxs hg hW cueBeat length).weak (zT_G (fun j hj => t_X7_cueHush_lt hj)))).weak zH_M
theorem t_X7_cancelCue_lt {S : SH} {past : List SH} {cue : Int32} {j : Nat} (h : (T_X7_cancelCue S past cue).1 = .inr j) : j < 1 := by
  unfold T_X7_cancelCue at h
  (try dsimp only at h)
  repeat' split at h
  all_goals first | (cases h; decide) | (cases h; done) | (simp_all; omega)
theorem c_L_cancel {X : KX} (hxs : X.1.stackTraces = false) (hg : GX X) {h : AH} {x : Nat} {S : SH} {past : List SH} {N : SH} {hs le lc lf : Int32} {txt ln : List Int32} (hW : OpW X h x S past N hs le lc lf txt ln) (cue : Int32) : Ct X mL_cancel [.ref x, .int cue] h (zM (some (.int (wI ([-1001] : List Int32) (T_X7_cancelCue S past cue).1))) (fun h' => OpW X h' x (T_X7_cancelCue S past cue).2.1 (T_X7_cancelCue S past cue).2.2 N hs le lc lf txt ln)) := by
  obtain ⟨pr9, hO9⟩ := id hW
  exact (g_L_cancel hxs hg hO9.1 ((c_X7_cancelCue hxs hg hW cue).weak (zT_G (fun j hj => t_X7_cancelCue_lt hj)))).weak zH_M
theorem t_X7_moveCue_lt {S : SH} {past : List SH} {cue : Int32} {cueBeat : Int32} {j : Nat} (h : (T_X7_moveCue S past cue cueBeat).1 = .inr j) : j < 2 := by
  unfold T_X7_moveCue at h
  (try dsimp only at h)
  repeat' split at h
  all_goals first | (cases h; decide) | (cases h; done) | (simp_all; omega)
theorem c_L_move {X : KX} (hxs : X.1.stackTraces = false) (hg : GX X) {h : AH} {x : Nat} {S : SH} {past : List SH} {N : SH} {hs le lc lf : Int32} {txt ln : List Int32} (hW : OpW X h x S past N hs le lc lf txt ln) (cue : Int32) (cueBeat : Int32) : Ct X mL_move [.ref x, .int cue, .int cueBeat] h (zM (some (.int (wI ([-1001, -1002] : List Int32) (T_X7_moveCue S past cue cueBeat).1))) (fun h' => OpW X h' x (T_X7_moveCue S past cue cueBeat).2.1 (T_X7_moveCue S past cue cueBeat).2.2 N hs le lc lf txt ln)) := by
  obtain ⟨pr9, hO9⟩ := id hW
  exact (g_L_move hxs hg hO9.1 ((c_X7_moveCue hxs hg hW cue cueBeat).weak (zT_G (fun j hj => t_X7_moveCue_lt hj)))).weak zH_M
theorem t_X7_cueAt_lt {S : SH} {rank : Int32} {j : Nat} (h : (T_X7_cueAt S rank) = .inr j) : j < 1 := by
  unfold T_X7_cueAt at h
  (try dsimp only at h)
  repeat' split at h
  all_goals first | (cases h; decide) | (cases h; done) | (simp_all; omega)
theorem c_L_cueAt {X : KX} (hxs : X.1.stackTraces = false) (hg : GX X) {h : AH} {x : Nat} {S : SH} {past : List SH} {N : SH} {hs le lc lf : Int32} {txt ln : List Int32} (hW : OpW X h x S past N hs le lc lf txt ln) (rank : Int32) : Ct X mL_cueAt [.ref x, .int rank] h (zM (some (.int (wI ([-1001] : List Int32) (T_X7_cueAt S rank)))) (fun h' => OpW X h' x S past N hs le lc lf txt ln)) := by
  obtain ⟨pr9, hO9⟩ := id hW
  exact (g_L_cueAt hxs hg hO9.1 ((c_X7_cueAt hxs hg hW rank).weak (zT_G (fun j hj => t_X7_cueAt_lt hj)))).weak zH_M
theorem t_X7_idAt_lt {S : SH} {slot : Int32} {j : Nat} (h : (T_X7_idAt S slot) = .inr j) : j < 1 := by
  unfold T_X7_idAt at h
  (try dsimp only at h)
  repeat' split at h
  all_goals first | (cases h; decide) | (cases h; done) | (simp_all; omega)
theorem t_X7_firstCueFrom_lt {S : SH} {beat : Int32} {j : Nat} (h : (T_X7_firstCueFrom S beat) = .inr j) : j < 1 := by
  unfold T_X7_firstCueFrom at h
  (try dsimp only at h)
  repeat' split at h
  all_goals first | (cases h; decide) | (cases h; done) | (cases h; have := t_X7_idAt_lt (by assumption); omega) | (have := t_X7_idAt_lt h; omega) | (simp_all; omega)
theorem c_L_first {X : KX} (hxs : X.1.stackTraces = false) (hg : GX X) {h : AH} {x : Nat} {S : SH} {past : List SH} {N : SH} {hs le lc lf : Int32} {txt ln : List Int32} (hW : OpW X h x S past N hs le lc lf txt ln) (beat : Int32) : Ct X mL_first [.ref x, .int beat] h (zM (some (.int (wI ([-1001] : List Int32) (T_X7_firstCueFrom S beat)))) (fun h' => OpW X h' x S past N hs le lc lf txt ln)) := by
  obtain ⟨pr9, hO9⟩ := id hW
  exact (g_L_first hxs hg hO9.1 ((c_X7_firstCueFrom hxs hg hW beat).weak (zT_G (fun j hj => t_X7_firstCueFrom_lt hj)))).weak zH_M
theorem t_X7_firstCueFromByScan_lt {S : SH} {beat : Int32} {j : Nat} (h : (T_X7_firstCueFromByScan S beat) = .inr j) : j < 1 := by
  unfold T_X7_firstCueFromByScan at h
  (try dsimp only at h)
  repeat' split at h
  all_goals first | (cases h; decide) | (cases h; done) | (cases h; have := t_X7_idAt_lt (by assumption); omega) | (have := t_X7_idAt_lt h; omega) | (simp_all; omega)
theorem c_L_firstByScan {X : KX} (hxs : X.1.stackTraces = false) (hg : GX X) {h : AH} {x : Nat} {S : SH} {past : List SH} {N : SH} {hs le lc lf : Int32} {txt ln : List Int32} (hW : OpW X h x S past N hs le lc lf txt ln) (beat : Int32) : Ct X mL_firstByScan [.ref x, .int beat] h (zM (some (.int (wI ([-1001] : List Int32) (T_X7_firstCueFromByScan S beat)))) (fun h' => OpW X h' x S past N hs le lc lf txt ln)) := by
  obtain ⟨pr9, hO9⟩ := id hW
  exact (g_L_firstByScan hxs hg hO9.1 ((c_X7_firstCueFromByScan hxs hg hW beat).weak (zT_G (fun j hj => t_X7_firstCueFromByScan_lt hj)))).weak zH_M
theorem t_X7_cueBeat_lt {S : SH} {cue : Int32} {j : Nat} (h : (T_X7_cueBeat S cue) = .inr j) : j < 1 := by
  unfold T_X7_cueBeat at h
  (try dsimp only at h)
  repeat' split at h
  all_goals first | (cases h; decide) | (cases h; done) | (cases h; have := t_X7_pendingSlot_lt (by assumption); omega) | (have := t_X7_pendingSlot_lt h; omega) | (simp_all; omega)
theorem c_L_cueBeat {X : KX} (hxs : X.1.stackTraces = false) (hg : GX X) {h : AH} {x : Nat} {S : SH} {past : List SH} {N : SH} {hs le lc lf : Int32} {txt ln : List Int32} (hW : OpW X h x S past N hs le lc lf txt ln) (cue : Int32) : Ct X mL_cueBeat [.ref x, .int cue] h (zM (some (.int (wI ([-1001] : List Int32) (T_X7_cueBeat S cue)))) (fun h' => OpW X h' x S past N hs le lc lf txt ln)) := by
  obtain ⟨pr9, hO9⟩ := id hW
  exact (g_L_cueBeat hxs hg hO9.1 ((c_X7_cueBeat hxs hg hW cue).weak (zT_G (fun j hj => t_X7_cueBeat_lt hj)))).weak zH_M
theorem t_X7_cueKind_lt {S : SH} {cue : Int32} {j : Nat} (h : (T_X7_cueKind S cue) = .inr j) : j < 1 := by
  unfold T_X7_cueKind at h
  (try dsimp only at h)
  repeat' split at h
  all_goals first | (cases h; decide) | (cases h; done) | (cases h; have := t_X7_pendingSlot_lt (by assumption); omega) | (have := t_X7_pendingSlot_lt h; omega) | (simp_all; omega)
theorem c_L_cueKind {X : KX} (hxs : X.1.stackTraces = false) (hg : GX X) {h : AH} {x : Nat} {S : SH} {past : List SH} {N : SH} {hs le lc lf : Int32} {txt ln : List Int32} (hW : OpW X h x S past N hs le lc lf txt ln) (cue : Int32) : Ct X mL_cueKind [.ref x, .int cue] h (zM (some (.int (wI ([-1001] : List Int32) (T_X7_cueKind S cue)))) (fun h' => OpW X h' x S past N hs le lc lf txt ln)) := by
  obtain ⟨pr9, hO9⟩ := id hW
  exact (g_L_cueKind hxs hg hO9.1 ((c_X7_cueKind hxs hg hW cue).weak (zT_G (fun j hj => t_X7_cueKind_lt hj)))).weak zH_M
theorem t_X7_cueSize_lt {S : SH} {cue : Int32} {j : Nat} (h : (T_X7_cueSize S cue) = .inr j) : j < 1 := by
  unfold T_X7_cueSize at h
  (try dsimp only at h)
  repeat' split at h
  all_goals first | (cases h; decide) | (cases h; done) | (cases h; have := t_X7_pendingSlot_lt (by assumption); omega) | (have := t_X7_pendingSlot_lt h; omega) | (simp_all; omega)
theorem c_L_cueSize {X : KX} (hxs : X.1.stackTraces = false) (hg : GX X) {h : AH} {x : Nat} {S : SH} {past : List SH} {N : SH} {hs le lc lf : Int32} {txt ln : List Int32} (hW : OpW X h x S past N hs le lc lf txt ln) (cue : Int32) : Ct X mL_cueSize [.ref x, .int cue] h (zM (some (.int (wI ([-1001] : List Int32) (T_X7_cueSize S cue)))) (fun h' => OpW X h' x S past N hs le lc lf txt ln)) := by
  obtain ⟨pr9, hO9⟩ := id hW
  exact (g_L_cueSize hxs hg hO9.1 ((c_X7_cueSize hxs hg hW cue).weak (zT_G (fun j hj => t_X7_cueSize_lt hj)))).weak zH_M
theorem t_X7_cuePerformer_lt {S : SH} {cue : Int32} {j : Nat} (h : (T_X7_cuePerformer S cue) = .inr j) : j < 2 := by
  unfold T_X7_cuePerformer at h
  (try dsimp only at h)
  repeat' split at h
  all_goals first | (cases h; decide) | (cases h; done) | (cases h; have := t_X7_pendingSlot_lt (by assumption); omega) | (have := t_X7_pendingSlot_lt h; omega) | (simp_all; omega)
theorem c_L_cuePerformer {X : KX} (hxs : X.1.stackTraces = false) (hg : GX X) {h : AH} {x : Nat} {S : SH} {past : List SH} {N : SH} {hs le lc lf : Int32} {txt ln : List Int32} (hW : OpW X h x S past N hs le lc lf txt ln) (cue : Int32) : Ct X mL_cuePerformer [.ref x, .int cue] h (zM (some (.int (wI ([-1001, -1002] : List Int32) (T_X7_cuePerformer S cue)))) (fun h' => OpW X h' x S past N hs le lc lf txt ln)) := by
  obtain ⟨pr9, hO9⟩ := id hW
  exact (g_L_cuePerformer hxs hg hO9.1 ((c_X7_cuePerformer hxs hg hW cue).weak (zT_G (fun j hj => t_X7_cuePerformer_lt hj)))).weak zH_M
theorem t_X7_setLimit_lt {S : SH} {past : List SH} {newLimit : Int32} {j : Nat} (h : (T_X7_setLimit S past newLimit).1 = .inr j) : j < 1 := by
  unfold T_X7_setLimit at h
  (try dsimp only at h)
  repeat' split at h
  all_goals first | (cases h; decide) | (cases h; done) | (simp_all; omega)
theorem c_L_setLimit {X : KX} (hxs : X.1.stackTraces = false) (hg : GX X) {h : AH} {x : Nat} {S : SH} {past : List SH} {N : SH} {hs le lc lf : Int32} {txt ln : List Int32} (hW : OpW X h x S past N hs le lc lf txt ln) (newLimit : Int32) : Ct X mL_setLimit [.ref x, .int newLimit] h (zM (some (.int (wI ([-1001] : List Int32) (T_X7_setLimit S past newLimit).1))) (fun h' => OpW X h' x (T_X7_setLimit S past newLimit).2.1 (T_X7_setLimit S past newLimit).2.2 N hs le lc lf txt ln)) := by
  obtain ⟨pr9, hO9⟩ := id hW
  exact (g_L_setLimit hxs hg hO9.1 ((c_X7_setLimit hxs hg hW newLimit).weak (zT_G (fun j hj => t_X7_setLimit_lt hj)))).weak zH_M
theorem t_X7_loudestBeat_lt {S : SH} {j : Nat} (h : (T_X7_loudestBeat S) = .inr j) : j < 1 := by
  unfold T_X7_loudestBeat at h
  (try dsimp only at h)
  repeat' split at h
  all_goals first | (cases h; decide) | (cases h; done) | (simp_all; omega)
theorem c_L_loudest {X : KX} (hxs : X.1.stackTraces = false) (hg : GX X) {h : AH} {x : Nat} {S : SH} {past : List SH} {N : SH} {hs le lc lf : Int32} {txt ln : List Int32} (hW : OpW X h x S past N hs le lc lf txt ln) : Ct X mL_loudest [.ref x] h (zM (some (.int (wI ([-1001] : List Int32) (T_X7_loudestBeat S)))) (fun h' => OpW X h' x S past N hs le lc lf txt ln)) := by
  obtain ⟨pr9, hO9⟩ := id hW
  exact (g_L_loudest hxs hg hO9.1 ((c_X7_loudestBeat hxs hg hW ).weak (zT_G (fun j hj => t_X7_loudestBeat_lt hj)))).weak zH_M
theorem t_X7_advance_lt {S : SH} {past : List SH} {b : Int32} {j : Nat} (h : (T_X7_advance S past b).1 = .inr j) : j < 1 := by
  unfold T_X7_advance at h
  (try dsimp only at h)
  repeat' split at h
  all_goals first | (cases h; decide) | (cases h; done) | (simp_all; omega)
theorem c_L_advance {X : KX} (hxs : X.1.stackTraces = false) (hg : GX X) {h : AH} {x : Nat} {S : SH} {past : List SH} {N : SH} {hs le lc lf : Int32} {txt ln : List Int32} (hW : OpW X h x S past N hs le lc lf txt ln) (b : Int32) : Ct X mL_advance [.ref x, .int b] h (zM (some (.int (wI ([-1001] : List Int32) (T_X7_advance S past b).1))) (fun h' => OpW X h' x (T_X7_advance S past b).2.1 (T_X7_advance S past b).2.2 N hs le lc lf txt ln)) := by
  obtain ⟨pr9, hO9⟩ := id hW
  exact (g_L_advance hxs hg hO9.1 ((c_X7_advance hxs hg hW b).weak (zT_G (fun j hj => t_X7_advance_lt hj)))).weak zH_M
theorem t_X7_turnAct_lt {S : SH} {past : List SH} {j : Nat} (h : (T_X7_turnAct S past).1 = .inr j) : j < 1 := by
  unfold T_X7_turnAct at h
  (try dsimp only at h)
  repeat' split at h
  all_goals first | (cases h; decide) | (cases h; done) | (simp_all; omega)
theorem c_L_turnAct {X : KX} (hxs : X.1.stackTraces = false) (hg : GX X) {h : AH} {x : Nat} {S : SH} {past : List SH} {N : SH} {hs le lc lf : Int32} {txt ln : List Int32} (hW : OpW X h x S past N hs le lc lf txt ln) : Ct X mL_turnAct [.ref x] h (zM (some (.int (wI ([-1001] : List Int32) (T_X7_turnAct S past).1))) (fun h' => OpW X h' x (T_X7_turnAct S past).2.1 (T_X7_turnAct S past).2.2 N hs le lc lf txt ln)) := by
  obtain ⟨pr9, hO9⟩ := id hW
  exact (g_L_turnAct hxs hg hO9.1 ((c_X7_turnAct hxs hg hW ).weak (zT_G (fun j hj => t_X7_turnAct_lt hj)))).weak zH_M
theorem t_X7_finesAfter_lt {S : SH} {performer : Int32} {nb : Int32} {j : Nat} (h : (T_X7_finesAfter S performer nb) = .inr j) : j < 2 := by
  unfold T_X7_finesAfter at h
  (try dsimp only at h)
  repeat' split at h
  all_goals first | (cases h; decide) | (cases h; done) | (cases h; have := t_X7_checkForecast_lt (by assumption); omega) | (simp_all; omega)
theorem c_L_finesAfter {X : KX} (hxs : X.1.stackTraces = false) (hg : GX X) {h : AH} {x : Nat} {S : SH} {past : List SH} {N : SH} {hs le lc lf : Int32} {txt ln : List Int32} (hW : OpW X h x S past N hs le lc lf txt ln) (performer nb : Int32) : Ct X mL_finesAfter [.ref x, .int performer, .int nb] h (zM (some (.int (wI ([-1001, -1002] : List Int32) (T_X7_finesAfter S performer nb)))) (fun h' => OpW X h' x S past N hs le lc lf txt ln)) := by
  obtain ⟨pr9, hO9⟩ := id hW
  exact (g_L_finesAfter hxs hg hO9.1 ((c_X7_finesAfter hxs hg hW performer nb).weak (zT_G (fun j hj => t_X7_finesAfter_lt hj)))).weak zH_M
theorem t_X7_finesAfterByCues_lt {S : SH} {performer : Int32} {nb : Int32} {j : Nat} (h : (T_X7_finesAfterByCues S performer nb) = .inr j) : j < 2 := by
  unfold T_X7_finesAfterByCues at h
  (try dsimp only at h)
  repeat' split at h
  all_goals first | (cases h; decide) | (cases h; done) | (cases h; have := t_X7_checkForecast_lt (by assumption); omega) | (simp_all; omega)
theorem c_L_finesByCues {X : KX} (hxs : X.1.stackTraces = false) (hg : GX X) {h : AH} {x : Nat} {S : SH} {past : List SH} {N : SH} {hs le lc lf : Int32} {txt ln : List Int32} (hW : OpW X h x S past N hs le lc lf txt ln) (performer : Int32) (nb : Int32) : Ct X mL_finesByCues [.ref x, .int performer, .int nb] h (zM (some (.int (wI ([-1001, -1002] : List Int32) (T_X7_finesAfterByCues S performer nb)))) (fun h' => OpW X h' x S past N hs le lc lf txt ln)) := by
  obtain ⟨pr9, hO9⟩ := id hW
  exact (g_L_finesByCues hxs hg hO9.1 ((c_X7_finesAfterByCues hxs hg hW performer nb).weak (zT_G (fun j hj => t_X7_finesAfterByCues_lt hj)))).weak zH_M
theorem t_X7_lineAt_lt {ln : List Int32} {i : Int32} {j : Nat} (h : (T_X7_lineAt ln i) = .inr j) : j < 1 := by
  unfold T_X7_lineAt at h
  (try dsimp only at h)
  repeat' split at h
  all_goals first | (cases h; decide) | (cases h; done) | (simp_all; omega)
theorem c_L_lineAt {X : KX} (hxs : X.1.stackTraces = false) (hg : GX X) {ha : AH} {x : Nat} {S : SH} {past : List SH} {N : SH} {hs le lc lf : Int32} {txt ln : List Int32} (hW : OpW X ha x S past N hs le lc lf txt ln) (i : Int32) : Ct X mL_lineAt [.ref x, .int i] ha (zM (some (.int (wI ([-1001] : List Int32) (T_X7_lineAt ln i)))) (fun h' => OpW X h' x S past N hs le lc lf txt ln)) := by
  obtain ⟨pr9, hO9⟩ := id hW
  exact (g_L_lineAt hxs hg hO9.1 ((c_X7_lineAt hxs hg hW i).weak (zT_G (fun j hj => t_X7_lineAt_lt hj)))).weak zH_M
