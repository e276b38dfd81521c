/-! ===== the sheet as one value: 22 parts, the work row apart ===== -/
abbrev SH : Type := List Int32 × List Int32 × List Int32 × List Int32 × List Int32 × List Int32 × List Int32 × Int32 × Int32 × List Int32 × List Int32 × Int32 × Int32 × Int32 × Int32 × Int32 × Int32 × Int32 × Int32 × Int32 × Int32 × Int32
abbrev z_ids (S : SH) : List Int32 := S.1
abbrev z_kinds (S : SH) : List Int32 := S.2.1
abbrev z_players (S : SH) : List Int32 := S.2.2.1
abbrev z_beats (S : SH) : List Int32 := S.2.2.2.1
abbrev z_sizes (S : SH) : List Int32 := S.2.2.2.2.1
abbrev z_lower (S : SH) : List Int32 := S.2.2.2.2.2.1
abbrev z_higher (S : SH) : List Int32 := S.2.2.2.2.2.2.1
abbrev z_root (S : SH) : Int32 := S.2.2.2.2.2.2.2.1
abbrev z_count (S : SH) : Int32 := S.2.2.2.2.2.2.2.2.1
abbrev z_owed (S : SH) : List Int32 := S.2.2.2.2.2.2.2.2.2.1
abbrev z_mends (S : SH) : List Int32 := S.2.2.2.2.2.2.2.2.2.2.1
abbrev z_perf (S : SH) : Int32 := S.2.2.2.2.2.2.2.2.2.2.2.1
abbrev z_nid (S : SH) : Int32 := S.2.2.2.2.2.2.2.2.2.2.2.2.1
abbrev z_beat (S : SH) : Int32 := S.2.2.2.2.2.2.2.2.2.2.2.2.2.1
abbrev z_act (S : SH) : Int32 := S.2.2.2.2.2.2.2.2.2.2.2.2.2.2.1
abbrev z_lim (S : SH) : Int32 := S.2.2.2.2.2.2.2.2.2.2.2.2.2.2.2.1
abbrev z_hend (S : SH) : Int32 := S.2.2.2.2.2.2.2.2.2.2.2.2.2.2.2.2.1
abbrev z_hbt (S : SH) : Int32 := S.2.2.2.2.2.2.2.2.2.2.2.2.2.2.2.2.2.1
abbrev z_happ (S : SH) : Int32 := S.2.2.2.2.2.2.2.2.2.2.2.2.2.2.2.2.2.2.1
abbrev z_clash (S : SH) : Int32 := S.2.2.2.2.2.2.2.2.2.2.2.2.2.2.2.2.2.2.2.1
abbrev z_imp (S : SH) : Int32 := S.2.2.2.2.2.2.2.2.2.2.2.2.2.2.2.2.2.2.2.2.1
abbrev z_paid (S : SH) : Int32 := S.2.2.2.2.2.2.2.2.2.2.2.2.2.2.2.2.2.2.2.2.2
def IsSh (X : KX) (h : AH) (s : Nat) (S : SH) (od : List Int32) : Prop := IsSheet X h s (z_ids S) (z_kinds S) (z_players S) (z_beats S) (z_sizes S) (z_lower S) (z_higher S) od (z_root S) (z_count S) (z_owed S) (z_mends S) (z_perf S) (z_nid S) (z_beat S) (z_act S) (z_lim S) (z_hend S) (z_hbt S) (z_happ S) (z_clash S) (z_imp S) (z_paid S)
/-- what the machine needs of a sheet: kinds that are characters -/
def KCh (L : List Int32) : Prop := ∀ i, i < 16 → fits .char (.int (L.getD i 0)) = true
def SI (S : SH) : Prop := KCh (z_kinds S)
def od0 : List Int32 := List.replicate 16 0
def U_hasPerformer (S : SH) (performer : Int32) : Int32 := T_X6_hasPerformer (z_perf S) performer
theorem C_hasPerformer {X : KX} (hxs : X.1.stackTraces = false) {h : AH} {s : Nat} {S : SH} {od : List Int32} (hS : IsSh X h s S od) (performer : Int32) : Ct X mX6_hasPerformer [.ref s, .int performer] h (zR (some (.int (U_hasPerformer S performer))) h) := c_X6_hasPerformer hxs hS performer 
def U_isOpen (S : SH) (performer : Int32) : Int32 := T_X6_isOpen (z_mends S) (z_perf S) performer
theorem C_isOpen {X : KX} (hxs : X.1.stackTraces = false) {h : AH} {s : Nat} {S : SH} {od : List Int32} (hS : IsSh X h s S od) (performer : Int32) : Ct X mX6_isOpen [.ref s, .int performer] h (zR (some (.int (U_isOpen S performer))) h) := c_X6_isOpen hxs hS performer 
def U_owedTotal (S : SH) : Int32 := T_X6_owedTotal (z_owed S)
theorem C_owedTotal {X : KX} (hxs : X.1.stackTraces = false) {h : AH} {s : Nat} {S : SH} {od : List Int32} (hS : IsSh X h s S od) : Ct X mX6_owedTotal [.ref s] h (zR (some (.int (U_owedTotal S))) h) := c_X6_owedTotal hxs hS  
def U_ranked (S : SH) (rank : Int32) : Int32 := T_X6_ranked (z_kinds S) (z_players S) (z_owed S) (z_perf S) rank
theorem C_ranked {X : KX} (hxs : X.1.stackTraces = false) {h : AH} {s : Nat} {S : SH} {od : List Int32} (hS : IsSh X h s S od) (rank : Int32) : Ct X mX6_ranked [.ref s, .int rank] h (zR (some (.int (U_ranked S rank))) h) := c_X6_ranked hxs hS rank 
def U_join (S : SH) : Int32 × SH := (fun r => (r.1, (z_ids S, z_kinds S, z_players S, z_beats S, z_sizes S, z_lower S, z_higher S, z_root S, z_count S, z_owed S, z_mends S, r.2, z_nid S, z_beat S, z_act S, z_lim S, z_hend S, z_hbt S, z_happ S, z_clash S, z_imp S, z_paid S))) (T_X6_join (z_perf S))
theorem C_join {X : KX} (hxs : X.1.stackTraces = false) {h : AH} {s : Nat} {S : SH} {od : List Int32} (hS : IsSh X h s S od) : Ct X mX6_join [.ref s] h (zM (some (.int (U_join S).1)) (fun h' => IsSh X h' s (U_join S).2 od ∧ Outs h h' s 12)) := c_X6_join hxs hS  
def U_pay (S : SH) (performer : Int32) (coins : Int32) : Int32 × SH := (fun r => (r.1, (z_ids S, z_kinds S, z_players S, z_beats S, z_sizes S, z_lower S, z_higher S, z_root S, z_count S, r.2.1, z_mends S, z_perf S, z_nid S, z_beat S, z_act S, z_lim S, z_hend S, z_hbt S, z_happ S, z_clash S, z_imp S, r.2.2))) (T_X6_pay (z_owed S) (z_perf S) (z_paid S) performer coins)
theorem C_pay {X : KX} (hxs : X.1.stackTraces = false) {h : AH} {s : Nat} {S : SH} {od : List Int32} (hS : IsSh X h s S od) (performer : Int32) (coins : Int32) : Ct X mX6_pay [.ref s, .int performer, .int coins] h (zM (some (.int (U_pay S performer coins).1)) (fun h' => IsSh X h' s (U_pay S performer coins).2 od ∧ Outs h h' s 12)) := c_X6_pay hxs hS performer coins 
def U_isSilent (S : SH) (candidate : Int32) : Int32 := T_X6_isSilent (z_kinds S) (z_beats S) (z_sizes S) (z_beat S) (z_hend S) candidate
theorem C_isSilent {X : KX} (hxs : X.1.stackTraces = false) {h : AH} {s : Nat} {S : SH} {od : List Int32} (hS : IsSh X h s S od) (candidate : Int32) : Ct X mX6_isSilent [.ref s, .int candidate] h (zR (some (.int (U_isSilent S candidate))) h) := c_X6_isSilent hxs hS candidate 
def U_hiss (S : SH) (performer : Int32) (loudness : Int32) : Int32 × SH := (fun r => (r.1, (z_ids S, z_kinds S, z_players S, z_beats S, z_sizes S, z_lower S, z_higher S, z_root S, z_count S, r.2.1, z_mends S, z_perf S, z_nid S, z_beat S, z_act S, z_lim S, z_hend S, z_hbt S, z_happ S, z_clash S, r.2.2, z_paid S))) (T_X6_hiss (z_kinds S) (z_beats S) (z_sizes S) (z_owed S) (z_perf S) (z_beat S) (z_hend S) (z_imp S) performer loudness)
theorem C_hiss {X : KX} (hxs : X.1.stackTraces = false) {h : AH} {s : Nat} {S : SH} {od : List Int32} (hS : IsSh X h s S od) (performer : Int32) (loudness : Int32) : Ct X mX6_hiss [.ref s, .int performer, .int loudness] h (zM (some (.int (U_hiss S performer loudness).1)) (fun h' => IsSh X h' s (U_hiss S performer loudness).2 od ∧ Outs h h' s 12)) := c_X6_hiss hxs hS performer loudness 
def U_putPlayed (S : SH) (kind : Int32) (performer : Int32) (cueBeat : Int32) (size : Int32) : Int32 × SH := (fun r => (r.1, (r.2.1, r.2.2.1, r.2.2.2.1, r.2.2.2.2.1, r.2.2.2.2.2.1, r.2.2.2.2.2.2.1, r.2.2.2.2.2.2.2.1, r.2.2.2.2.2.2.2.2.1, r.2.2.2.2.2.2.2.2.2.1, z_owed S, z_mends S, z_perf S, r.2.2.2.2.2.2.2.2.2.2, z_beat S, z_act S, z_lim S, z_hend S, z_hbt S, z_happ S, z_clash S, z_imp S, z_paid S))) (T_X6_putPlayed (z_ids S) (z_kinds S) (z_players S) (z_beats S) (z_sizes S) (z_lower S) (z_higher S) (z_root S) (z_count S) (z_perf S) (z_nid S) (z_beat S) kind performer cueBeat size)
theorem C_putPlayed {X : KX} (hxs : X.1.stackTraces = false) {h : AH} {s : Nat} {S : SH} {od : List Int32} (hS : IsSh X h s S od) (kind : Int32) (performer : Int32) (cueBeat : Int32) (size : Int32) (hk : vp_nar .char kind = kind) : Ct X mX6_putPlayed [.ref s, .int kind, .int performer, .int cueBeat, .int size] h (zM (some (.int (U_putPlayed S kind performer cueBeat size).1)) (fun h' => IsSh X h' s (U_putPlayed S kind performer cueBeat size).2 od ∧ Outs h h' s 12)) := c_X6_putPlayed hxs hS kind performer cueBeat size hk
def U_putHush (S : SH) (cueBeat : Int32) (length : Int32) : Int32 × SH := (fun r => (r.1, (r.2.1, r.2.2.1, r.2.2.2.1, r.2.2.2.2.1, r.2.2.2.2.2.1, r.2.2.2.2.2.2.1, r.2.2.2.2.2.2.2.1, r.2.2.2.2.2.2.2.2.1, r.2.2.2.2.2.2.2.2.2.1, z_owed S, z_mends S, z_perf S, r.2.2.2.2.2.2.2.2.2.2, z_beat S, z_act S, z_lim S, z_hend S, z_hbt S, z_happ S, z_clash S, z_imp S, z_paid S))) (T_X6_putHush (z_ids S) (z_kinds S) (z_players S) (z_beats S) (z_sizes S) (z_lower S) (z_higher S) (z_root S) (z_count S) (z_nid S) (z_beat S) cueBeat length)
theorem C_putHush {X : KX} (hxs : X.1.stackTraces = false) {h : AH} {s : Nat} {S : SH} {od : List Int32} (hS : IsSh X h s S od) (cueBeat : Int32) (length : Int32) : Ct X mX6_putHush [.ref s, .int cueBeat, .int length] h (zM (some (.int (U_putHush S cueBeat length).1)) (fun h' => IsSh X h' s (U_putHush S cueBeat length).2 od ∧ Outs h h' s 12)) := c_X6_putHush hxs hS cueBeat length 
def U_cancel (S : SH) (cue : Int32) : Int32 × SH := (fun r => (r.1, (z_ids S, r.2.1, z_players S, z_beats S, z_sizes S, r.2.2.1, r.2.2.2.1, r.2.2.2.2.1, r.2.2.2.2.2, z_owed S, z_mends S, z_perf S, z_nid S, z_beat S, z_act S, z_lim S, z_hend S, z_hbt S, z_happ S, z_clash S, z_imp S, z_paid S))) (T_X6_cancel (z_ids S) (z_kinds S) (z_lower S) (z_higher S) (z_root S) (z_count S) cue)
theorem C_cancel {X : KX} (hxs : X.1.stackTraces = false) {h : AH} {s : Nat} {S : SH} {od : List Int32} (hS : IsSh X h s S od) (cue : Int32) : Ct X mX6_cancel [.ref s, .int cue] h (zM (some (.int (U_cancel S cue).1)) (fun h' => IsSh X h' s (U_cancel S cue).2 od ∧ Outs h h' s 12)) := c_X6_cancel hxs hS cue 
def U_move (S : SH) (cue : Int32) (cueBeat : Int32) : Int32 × SH := (fun r => (r.1, (z_ids S, z_kinds S, z_players S, r.2.1, z_sizes S, r.2.2.1, r.2.2.2.1, r.2.2.2.2, z_count S, z_owed S, z_mends S, z_perf S, z_nid S, z_beat S, z_act S, z_lim S, z_hend S, z_hbt S, z_happ S, z_clash S, z_imp S, z_paid S))) (T_X6_move (z_ids S) (z_kinds S) (z_beats S) (z_lower S) (z_higher S) (z_root S) (z_beat S) cue cueBeat)
theorem C_move {X : KX} (hxs : X.1.stackTraces = false) {h : AH} {s : Nat} {S : SH} {od : List Int32} (hS : IsSh X h s S od) (cue : Int32) (cueBeat : Int32) : Ct X mX6_move [.ref s, .int cue, .int cueBeat] h (zM (some (.int (U_move S cue cueBeat).1)) (fun h' => IsSh X h' s (U_move S cue cueBeat).2 od ∧ Outs h h' s 12)) := c_X6_move hxs hS cue cueBeat 
def U_limitNoise (S : SH) (newLimit : Int32) : Int32 × SH := (fun r => (r.1, (z_ids S, z_kinds S, z_players S, z_beats S, z_sizes S, z_lower S, z_higher S, z_root S, z_count S, z_owed S, z_mends S, z_perf S, z_nid S, z_beat S, z_act S, r.2, z_hend S, z_hbt S, z_happ S, z_clash S, z_imp S, z_paid S))) (T_X6_limitNoise (z_lim S) newLimit)
theorem C_limitNoise {X : KX} (hxs : X.1.stackTraces = false) {h : AH} {s : Nat} {S : SH} {od : List Int32} (hS : IsSh X h s S od) (newLimit : Int32) : Ct X mX6_limitNoise [.ref s, .int newLimit] h (zM (some (.int (U_limitNoise S newLimit).1)) (fun h' => IsSh X h' s (U_limitNoise S newLimit).2 od ∧ Outs h h' s 12)) := c_X6_limitNoise hxs hS newLimit 
def U_openAct (S : SH) : Int32 × SH := (fun r => (r.1, (z_ids S, z_kinds S, z_players S, z_beats S, z_sizes S, z_lower S, z_higher S, z_root S, z_count S, z_owed S, r.2.1, z_perf S, z_nid S, z_beat S, r.2.2.1, z_lim S, r.2.2.2, z_hbt S, z_happ S, z_clash S, z_imp S, z_paid S))) (T_X6_openAct (z_mends S) (z_act S) (z_hend S))
theorem C_openAct {X : KX} (hxs : X.1.stackTraces = false) {h : AH} {s : Nat} {S : SH} {od : List Int32} (hS : IsSh X h s S od) : Ct X mX6_openAct [.ref s] h (zM (some (.int (U_openAct S).1)) (fun h' => IsSh X h' s (U_openAct S).2 od ∧ Outs h h' s 12)) := c_X6_openAct hxs hS  
def U_closeMouths (S : SH) : SH := (fun r => (z_ids S, z_kinds S, z_players S, z_beats S, z_sizes S, z_lower S, z_higher S, z_root S, z_count S, z_owed S, r, z_perf S, z_nid S, z_beat S, z_act S, z_lim S, z_hend S, z_hbt S, z_happ S, z_clash S, z_imp S, z_paid S)) (T_X6_closeMouths (z_mends S) (z_beat S))
theorem C_closeMouths {X : KX} (hxs : X.1.stackTraces = false) {h : AH} {s : Nat} {S : SH} {od : List Int32} (hS : IsSh X h s S od) : Ct X mX6_closeMouths [.ref s] h (zM none (fun h' => IsSh X h' s (U_closeMouths S) od ∧ Outs h h' s 12)) := c_X6_closeMouths hxs hS  
def U_beginHushes (S : SH) (od : List Int32) (due : Int32) : SH := (fun r => (z_ids S, z_kinds S, z_players S, z_beats S, z_sizes S, z_lower S, z_higher S, z_root S, z_count S, z_owed S, z_mends S, z_perf S, z_nid S, z_beat S, z_act S, z_lim S, r, z_hbt S, z_happ S, z_clash S, z_imp S, z_paid S)) (T_X6_beginHushes (z_kinds S) (z_beats S) (z_sizes S) od (z_hend S) due)
theorem C_beginHushes {X : KX} (hxs : X.1.stackTraces = false) {h : AH} {s : Nat} {S : SH} {od : List Int32} (hS : IsSh X h s S od) (due : Int32) (hD : SmallN due 16) : Ct X mX6_beginHushes [.ref s, .int due] h (zM none (fun h' => IsSh X h' s (U_beginHushes S od due) od ∧ Outs h h' s 12)) := c_X6_beginHushes hxs hS due hD
def U_openMouths (S : SH) (od : List Int32) (due : Int32) : SH := (fun r => (z_ids S, z_kinds S, z_players S, z_beats S, z_sizes S, z_lower S, z_higher S, z_root S, z_count S, z_owed S, r.1, z_perf S, z_nid S, z_beat S, z_act S, z_lim S, z_hend S, z_hbt S, z_happ S, r.2, z_imp S, z_paid S)) (T_X6_openMouths (z_kinds S) (z_players S) (z_beats S) (z_sizes S) od (z_mends S) (z_perf S) (z_clash S) due)
theorem C_openMouths {X : KX} (hxs : X.1.stackTraces = false) {h : AH} {s : Nat} {S : SH} {od : List Int32} (hS : IsSh X h s S od) (due : Int32) (hD : SmallN due 16) : Ct X mX6_openMouths [.ref s, .int due] h (zM none (fun h' => IsSh X h' s (U_openMouths S od due) od ∧ Outs h h' s 12)) := c_X6_openMouths hxs hS due hD
def U_dropProps (S : SH) (od : List Int32) (due : Int32) : SH := (fun r => (z_ids S, z_kinds S, z_players S, z_beats S, z_sizes S, z_lower S, z_higher S, z_root S, z_count S, r.1, z_mends S, z_perf S, z_nid S, z_beat S, z_act S, z_lim S, z_hend S, z_hbt S, z_happ S, z_clash S, r.2, z_paid S)) (T_X6_dropProps (z_kinds S) (z_players S) (z_beats S) (z_sizes S) od (z_owed S) (z_perf S) (z_beat S) (z_lim S) (z_hend S) (z_imp S) due)
theorem C_dropProps {X : KX} (hxs : X.1.stackTraces = false) {h : AH} {s : Nat} {S : SH} {od : List Int32} (hS : IsSh X h s S od) (due : Int32) (hD : SmallN due 16) : Ct X mX6_dropProps [.ref s, .int due] h (zM none (fun h' => IsSh X h' s (U_dropProps S od due) od ∧ Outs h h' s 12)) := c_X6_dropProps hxs hS due hD
def U_foreseen (S : SH) (performer : Int32) (nb : Int32) : Int32 := T_X6_foreseen (z_kinds S) (z_players S) (z_beats S) (z_sizes S) (z_beat S) (z_lim S) (z_hend S) performer nb
theorem C_foreseen {X : KX} (hxs : X.1.stackTraces = false) {h : AH} {s : Nat} {S : SH} {od : List Int32} (hS : IsSh X h s S od) (performer : Int32) (nb : Int32) : Ct X mX6_foreseen [.ref s, .int performer, .int nb] h (zR (some (.int (U_foreseen S performer nb))) h) := c_X6_foreseen hxs hS performer nb 
/-! what keeps SI -/
theorem KCh_wr {L : List Int32} {i x : Int32} (h : KCh L) (hx : fits .char (.int x) = true) : KCh (wr L i x) := fun j hj => by
  by_cases e : i.toNatClampNeg = j
  · by_cases g : j < L.length
    · have : (wr L i x).getD j 0 = x := by subst e; simp [wr, List.getD_eq_getElem?_getD, g]
      rw [this]; exact hx
    · have : (wr L i x).getD j 0 = 0 := by simp [wr, List.getD_eq_getElem?_getD, List.getElem?_eq_none (show (L.set i.toNatClampNeg x).length ≤ j by rw [List.length_set]; omega)]
      rw [this]; rfl
  · have : (wr L i x).getD j 0 = L.getD j 0 := by simp [wr, List.getD_eq_getElem?_getD, List.getElem?_set_ne e]
    rw [this]; exact h j hj
theorem KCh.fits {L : List Int32} (h : KCh L) : ∀ i, i < 16 → fits .char (.int (L.getD i 0)) = true := h
theorem put_kc {ids kinds players beats sizes lower higher : List Int32} {root count id kind player beat size : Int32} (h : KCh kinds) (hk : fits .char (.int kind) = true) : KCh (T_X3_put ids kinds players beats sizes lower higher root count id kind player beat size).2.1 := by
  unfold T_X3_put
  split
  · exact h
  · exact KCh_wr h hk
theorem drop_kc {kinds lower higher : List Int32} {root count slot : Int32} (h : KCh kinds) : KCh (T_X3_drop kinds lower higher root count slot).1 := by
  unfold T_X3_drop
  split
  · exact h
  · split
    · exact h
    · exact KCh_wr h (by decide)
