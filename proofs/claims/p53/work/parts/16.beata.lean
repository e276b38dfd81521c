/-! ===== a beat that passes, and beats ===== -/
def zs_beat (S : SH) (v : Int32) : SH := (z_ids S, z_kinds S, z_players S, z_beats S, z_sizes S, z_lower S, z_higher S, z_root S, z_count S, z_owed S, z_mends S, z_perf S, z_nid S, v, z_act S, z_lim S, z_hend S, z_hbt S, z_happ S, z_clash S, z_imp S, z_paid S)
def zs_happ (S : SH) (v : Int32) : SH := (z_ids S, z_kinds S, z_players S, z_beats S, z_sizes S, z_lower S, z_higher S, z_root S, z_count S, z_owed S, z_mends S, z_perf S, z_nid S, z_beat S, z_act S, z_lim S, z_hend S, z_hbt S, v, z_clash S, z_imp S, z_paid S)
def zs_hbt (S : SH) (v : Int32) : SH := (z_ids S, z_kinds S, z_players S, z_beats S, z_sizes S, z_lower S, z_higher S, z_root S, z_count S, z_owed S, z_mends S, z_perf S, z_nid S, z_beat S, z_act S, z_lim S, z_hend S, v, z_happ S, z_clash S, z_imp S, z_paid S)
def U_dropS (S : SH) (slot : Int32) : SH := (fun r => (z_ids S, r.1, z_players S, z_beats S, z_sizes S, r.2.1, r.2.2.1, r.2.2.2.1, r.2.2.2.2, z_owed S, z_mends S, z_perf S, z_nid S, z_beat S, z_act S, z_lim S, z_hend S, z_hbt S, z_happ S, z_clash S, z_imp S, z_paid S)) (T_X3_drop (z_kinds S) (z_lower S) (z_higher S) (z_root S) (z_count S) slot)
def U_drops (o : List Int32) : Nat → Nat → SH → SH
  | 0, _, S => S
  | f + 1, i, S => U_drops o f (i + 1) (U_dropS S (rd o (nI i)))
/-- the cues through a beat: how many, and their slots (in a work row that was clear before) -/
def Lst (S : SH) (b : Int32) : Int32 × List Int32 := T_X3_listThrough (z_ids S) (z_beats S) (z_lower S) (z_higher S) od0 (z_root S) b
def U_due (S : SH) (d : Int32 × List Int32) : SH := U_drops d.2 d.1.toNatClampNeg 0 (U_dropProps (U_openMouths (U_beginHushes S d.2 d.1) d.2 d.1) d.2 d.1)
def U_last (S7 : SH) : SH := if z_hend S7 < z_beat S7 then S7 else zs_hbt S7 (z_hbt S7 + 1)
def U_tail (d : Int32) (S6 : SH) : SH := U_last (zs_happ S6 (z_happ S6 + d))
def U_cues (S2 : SH) : SH := U_tail (Lst S2 (z_beat S2)).1 (U_due S2 (Lst S2 (z_beat S2)))
def U_passBeat (S : SH) : SH := U_cues (U_closeMouths (zs_beat S (z_beat S + 1)))
def U_beats : Nat → SH → SH
  | 0, S => S
  | f + 1, S => U_beats f (U_passBeat S)
def U_pass (S : SH) (b : Int32) : Int32 × SH := if b < 1 then (-1, S) else if b ≤ 40 then (z_happ (U_beats b.toNatClampNeg S) - z_happ S, U_beats b.toNatClampNeg S) else (-1, S)
theorem SI_dropS {S : SH} {x : Int32} (h : SI S) : SI (U_dropS S x) := by
  dsimp only [SI, U_dropS, z_kinds]
  exact drop_kc h
theorem SI_drops {o : List Int32} : ∀ (f i : Nat) (S : SH), SI S → SI (U_drops o f i S) := by
  intro f
  induction f with
  | zero => intro i S h; exact h
  | succ f ih => intro i S h; exact ih _ _ (SI_dropS h)
theorem SI_closeMouths {S : SH} (h : SI S) : SI (U_closeMouths S) := by
  dsimp only [SI, U_closeMouths, z_kinds]
  exact h
theorem SI_beginHushes {S : SH} {o : List Int32} {d : Int32} (h : SI S) : SI (U_beginHushes S o d) := by
  dsimp only [SI, U_beginHushes, z_kinds]
  exact h
theorem SI_openMouths {S : SH} {o : List Int32} {d : Int32} (h : SI S) : SI (U_openMouths S o d) := by
  dsimp only [SI, U_openMouths, z_kinds]
  exact h
theorem SI_dropProps {S : SH} {o : List Int32} {d : Int32} (h : SI S) : SI (U_dropProps S o d) := by
  dsimp only [SI, U_dropProps, z_kinds]
  exact h
theorem SI_zbeat {S : SH} {v : Int32} (h : SI S) : SI (zs_beat S v) := by
  dsimp only [SI, zs_beat, z_kinds]
  exact h
theorem SI_zhapp {S : SH} {v : Int32} (h : SI S) : SI (zs_happ S v) := by
  dsimp only [SI, zs_happ, z_kinds]
  exact h
theorem SI_zhbt {S : SH} {v : Int32} (h : SI S) : SI (zs_hbt S v) := by
  dsimp only [SI, zs_hbt, z_kinds]
  exact h
theorem SI_due {S : SH} {d : Int32 × List Int32} (h : SI S) : SI (U_due S d) := by
  unfold U_due
  exact SI_drops _ _ _ (SI_dropProps (SI_openMouths (SI_beginHushes h)))
theorem SI_last {S : SH} (h : SI S) : SI (U_last S) := by
  unfold U_last
  split
  · exact h
  · exact SI_zhbt h
theorem SI_tail {S : SH} {d : Int32} (h : SI S) : SI (U_tail d S) := by
  unfold U_tail
  exact SI_last (SI_zhapp h)
theorem SI_cues {S : SH} (h : SI S) : SI (U_cues S) := by
  unfold U_cues
  exact SI_tail (SI_due h)
theorem SI_passBeat {S : SH} (h : SI S) : SI (U_passBeat S) := by
  unfold U_passBeat
  exact SI_cues (SI_closeMouths (SI_zbeat h))
theorem SI_beats : ∀ (f : Nat) (S : SH), SI S → SI (U_beats f S) := by
  intro f
  induction f with
  | zero => intro S h; exact h
  | succ f ih => intro S h; exact ih _ (SI_passBeat h)
theorem SI_pass {S : SH} {b : Int32} (h : SI S) : SI (U_pass S b).2 := by
  unfold U_pass
  split
  · exact h
  · split
    · exact SI_beats _ _ h
    · exact h
theorem SI_join {S : SH} (h : SI S) : SI (U_join S).2 := by
  dsimp only [SI, U_join, z_kinds]
  exact h
theorem SI_pay {S : SH} {p c : Int32} (h : SI S) : SI (U_pay S p c).2 := by
  dsimp only [SI, U_pay, z_kinds]
  exact h
theorem SI_hiss {S : SH} {p c : Int32} (h : SI S) : SI (U_hiss S p c).2 := by
  dsimp only [SI, U_hiss, z_kinds]
  exact h
theorem SI_limitNoise {S : SH} {c : Int32} (h : SI S) : SI (U_limitNoise S c).2 := by
  dsimp only [SI, U_limitNoise, z_kinds]
  exact h
theorem SI_openAct {S : SH} (h : SI S) : SI (U_openAct S).2 := by
  dsimp only [SI, U_openAct, z_kinds]
  exact h
theorem putCue_kc {ids kinds players beats sizes lower higher : List Int32} {root count nid kind performer cueBeat size : Int32} (h : KCh kinds) (hk : fits .char (.int kind) = true) : KCh (T_X6_putCue ids kinds players beats sizes lower higher root count nid kind performer cueBeat size).2.2.1 := by
  unfold T_X6_putCue
  dsimp only [tb]
  exact put_kc h hk
theorem kinds_putPlayed {S : SH} {k p b z : Int32} : z_kinds (U_putPlayed S k p b z).2 = (T_X6_putPlayed (z_ids S) (z_kinds S) (z_players S) (z_beats S) (z_sizes S) (z_lower S) (z_higher S) (z_root S) (z_count S) (z_perf S) (z_nid S) (z_beat S) k p b z).2.2.1 := by
  unfold U_putPlayed
  dsimp only [z_kinds]
theorem kinds_putHush {S : SH} {b z : Int32} : z_kinds (U_putHush S b z).2 = (T_X6_putHush (z_ids S) (z_kinds S) (z_players S) (z_beats S) (z_sizes S) (z_lower S) (z_higher S) (z_root S) (z_count S) (z_nid S) (z_beat S) b z).2.2.1 := by
  unfold U_putHush
  dsimp only [z_kinds]
theorem SI_putPlayed {S : SH} {k p b z : Int32} (h : SI S) (hk : fits .char (.int k) = true) : SI (U_putPlayed S k p b z).2 := by
  unfold SI
  rw [kinds_putPlayed]
  unfold T_X6_putPlayed tb
  split
  · exact h
  · split
    · exact h
    · split
      · exact h
      · split
        · exact putCue_kc h hk
        · exact h
theorem SI_putHush {S : SH} {b z : Int32} (h : SI S) : SI (U_putHush S b z).2 := by
  unfold SI
  rw [kinds_putHush]
  unfold T_X6_putHush tb
  split
  · exact h
  · split
    · exact h
    · split
      · exact putCue_kc h (by decide)
      · exact h
theorem SI_cancel {S : SH} {c : Int32} (h : SI S) : SI (U_cancel S c).2 := by
  dsimp only [SI, U_cancel, T_X6_cancel, tb, z_kinds]
  split
  · exact h
  · exact drop_kc h
theorem SI_move {S : SH} {c b : Int32} (h : SI S) : SI (U_move S c b).2 := by
  dsimp only [SI, U_move, z_kinds]
  exact h
/-! the work row: what it held before doesn't matter -/
theorem list_od {ids beats lower higher o o2 : List Int32} {root b : Int32} (ho : o.length = 16) (ho2 : o2.length = 16) : (T_X3_listThrough ids beats lower higher o root b).1 = (T_X3_listThrough ids beats lower higher o2 root b).1 ∧ ∀ j, j < (T_X3_listThrough ids beats lower higher o root b).1.toNatClampNeg → rd (T_X3_listThrough ids beats lower higher o root b).2 (nI j) = rd (T_X3_listThrough ids beats lower higher o2 root b).2 (nI j) := by
  have : ∀ (f i : Nat) (x3 : Int32) (p q : List Int32), i + f = 16 → p.length = 16 → q.length = 16 → (∀ j, j < i → rd p (nI j) = rd q (nI j)) → (T_X3_listThrough_L9 ids beats lower higher root b f i x3 p).1 = (T_X3_listThrough_L9 ids beats lower higher root b f i x3 q).1 ∧ ∀ j, j < (T_X3_listThrough_L9 ids beats lower higher root b f i x3 p).1.toNatClampNeg → rd (T_X3_listThrough_L9 ids beats lower higher root b f i x3 p).2 (nI j) = rd (T_X3_listThrough_L9 ids beats lower higher root b f i x3 q).2 (nI j) := by
    intro f
    induction f with
    | zero =>
      intro i x3 p q hi hp hq h
      obtain rfl : i = 16 := by omega
      exact ⟨rfl, fun j hj => h j (by rw [T_X3_listThrough_L9, nI_clamp (by decide)] at hj; exact hj)⟩
    | succ f ih =>
      intro i x3 p q hi hp hq h
      rw [T_X3_listThrough_L9, T_X3_listThrough_L9]
      split
      · exact ⟨rfl, fun j hj => h j (by rw [nI_clamp (by omega)] at hj; exact hj)⟩
      · split
        · exact ⟨rfl, fun j hj => h j (by rw [nI_clamp (by omega)] at hj; exact hj)⟩
        · refine ih _ _ _ _ (by omega) (by rw [wr_len]; exact hp) (by rw [wr_len]; exact hq) (fun j hj => ?_)
          by_cases e : j = i
          · subst e
            rw [rd_wr_same (by rw [nI_clamp (by omega), hp]; omega), rd_wr_same (by rw [nI_clamp (by omega), hq]; omega)]
          · rw [rd_wr_ne (by rw [nI_clamp (by omega), nI_clamp (by omega)]; omega), rd_wr_ne (by rw [nI_clamp (by omega), nI_clamp (by omega)]; omega)]
            exact h j (by omega)
  exact this 16 0 _ o o2 (by omega) ho ho2 (fun j hj => absurd hj (by omega))
theorem bh_od {S : SH} {o o2 : List Int32} {d : Int32} (h : ∀ j, j < d.toNatClampNeg → rd o (nI j) = rd o2 (nI j)) : U_beginHushes S o d = U_beginHushes S o2 d := by
  have : ∀ (f i : Nat) (x : Int32), i + f = d.toNatClampNeg → T_X6_beginHushes_L2 (z_kinds S) (z_beats S) (z_sizes S) o f i x = T_X6_beginHushes_L2 (z_kinds S) (z_beats S) (z_sizes S) o2 f i x := by
    intro f
    induction f with
    | zero => intro i x hi; rfl
    | succ f ih =>
      intro i x hi
      rw [T_X6_beginHushes_L2, T_X6_beginHushes_L2, h i (by omega), ih _ _ (by omega), ih _ _ (by omega)]
  unfold U_beginHushes T_X6_beginHushes
  rw [this _ _ _ (by omega)]
theorem om_od {S : SH} {o o2 : List Int32} {d : Int32} (h : ∀ j, j < d.toNatClampNeg → rd o (nI j) = rd o2 (nI j)) : U_openMouths S o d = U_openMouths S o2 d := by
  have : ∀ (f i : Nat) (x : List Int32) (y : Int32), i + f = d.toNatClampNeg → T_X6_openMouths_L2 (z_kinds S) (z_players S) (z_beats S) (z_sizes S) o (z_perf S) f i x y = T_X6_openMouths_L2 (z_kinds S) (z_players S) (z_beats S) (z_sizes S) o2 (z_perf S) f i x y := by
    intro f
    induction f with
    | zero => intro i x y hi; rfl
    | succ f ih =>
      intro i x y hi
      rw [T_X6_openMouths_L2, T_X6_openMouths_L2, h i (by omega), ih _ _ _ (by omega), ih _ _ _ (by omega)]
  unfold U_openMouths T_X6_openMouths
  rw [this _ _ _ _ (by omega)]
theorem dp_od {S : SH} {o o2 : List Int32} {d : Int32} (h : ∀ j, j < d.toNatClampNeg → rd o (nI j) = rd o2 (nI j)) : U_dropProps S o d = U_dropProps S o2 d := by
  have : ∀ (f i : Nat) (x : List Int32) (y : Int32), i + f = d.toNatClampNeg → T_X6_dropProps_L37 (z_kinds S) (z_players S) (z_sizes S) o (z_perf S) f i x y = T_X6_dropProps_L37 (z_kinds S) (z_players S) (z_sizes S) o2 (z_perf S) f i x y := by
    intro f
    induction f with
    | zero => intro i x y hi; rfl
    | succ f ih =>
      intro i x y hi
      rw [T_X6_dropProps_L37, T_X6_dropProps_L37, h i (by omega), ih _ _ _ (by omega), ih _ _ _ (by omega)]
  unfold U_dropProps T_X6_dropProps
  rw [this _ _ _ _ (by omega)]
theorem IsSh.lod {X : KX} {h : AH} {s : Nat} {S : SH} {od : List Int32} (p : IsSh X h s S od) : od.length = 16 := IsTree.lod p.2.1
theorem od0_len : od0.length = 16 := rfl
theorem Lst_ok (S : SH) (b : Int32) : SmallN (Lst S b).1 16 ∧ ∀ j, j < (Lst S b).1.toNatClampNeg → vp_in (rd (Lst S b).2 (nI j)) 16 := by
  have := list_ok (ids := z_ids S) (beats := z_beats S) (lower := z_lower S) (higher := z_higher S) (root := z_root S) (lastBeat := b) od0_len
  exact ⟨this.1, this.2.2⟩
theorem C_list {X : KX} (hxs : X.1.stackTraces = false) {h : AH} {s : Nat} {S : SH} {od : List Int32} (hS : IsSh X h s S od) (b : Int32) : Ct X mX3_listThrough [.ref (s + 1), .int b] h (zM (some (.int (Lst S b).1)) (fun h' => ∃ o, IsSh X h' s S o ∧ (∀ j, j < (Lst S b).1.toNatClampNeg → rd o (nI j) = rd (Lst S b).2 (nI j)) ∧ Outs h h' s 12)) := by
  have hE := list_od (ids := z_ids S) (beats := z_beats S) (lower := z_lower S) (higher := z_higher S) (root := z_root S) (b := b) hS.lod od0_len
  refine w_X3_listThrough hxs hS.2.1 b (K := fun r => r = T_X3_listThrough (z_ids S) (z_beats S) (z_lower S) (z_higher S) od (z_root S) b) (fun r h' hT hO e => ?_) rfl
  subst e
  refine ⟨by rw [hE.1]; rfl, _, IsSheet.tree hS hT hO, fun j hj => hE.2 j ?_, hO.up (by omega) (by omega)⟩
  rw [hE.1]
  exact hj
theorem C_dropS {X : KX} (hxs : X.1.stackTraces = false) {h : AH} {s : Nat} {S : SH} {od : List Int32} (hS : IsSh X h s S od) (slot : Int32) (hI : SI S) : Ct X mX3_drop [.ref (s + 1), .int slot] h (zM none (fun h' => IsSh X h' s (U_dropS S slot) od ∧ Outs h h' s 12)) := by
  refine w_X3_drop hxs hS.2.1 slot (K := fun r => r = T_X3_drop (z_kinds S) (z_lower S) (z_higher S) (z_root S) (z_count S) slot) (fun r h' hT hO e => ?_) rfl
  subst e
  refine ⟨rfl, ?_, hO.up (by omega) (by omega)⟩
  dsimp only [IsSh, U_dropS, z_ids, z_kinds, z_players, z_beats, z_sizes, z_lower, z_higher, z_root, z_count, z_owed, z_mends, z_perf, z_nid, z_beat, z_act, z_lim, z_hend, z_hbt, z_happ, z_clash, z_imp, z_paid]
  exact IsSheet.tree hS hT hO
